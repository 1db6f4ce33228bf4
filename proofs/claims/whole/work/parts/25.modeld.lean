theorem k_X9_rodOf : yX9_rodOf.cls ≠ "java/lang/invoke/MethodHandle" ∧ yX9_rodOf.cls ≠ "java/lang/invoke/VarHandle" ∧ (parseMethodDescriptor yX9_rodOf.desc).map (fun d => d.parameters.length) = some 2 := by decide +kernel
set_option maxHeartbeats 4000000 in
set_option maxRecDepth 100000 in
theorem c_X9_rod_ok (l : Launch) (D : va_G) (ct ad : Nat → Nat) (b : Nat → Nat) (M SP SV TX NB : Int → Int) (sc tl cd pl cm h : Int) (r w : Int) (hI : gInv M) (hB : bInv M) (h1 : -2147483648 ≤ r ∧ r ≤ 2147483647) (h2 : -2147483648 ≤ w ∧ w ≤ 2147483647) (hok : ck_rodq M r w = 0) : ZM l yX9_rod wsX9_rod ({ frames := 3, cells := 0, slots := 0, locals := 70 } : Room) D ct ad [.ref (b 0), .int (zI r), .int (zI w)] (moW b sc tl cd pl cm h ++ (jrW ct (b 1) 94 M ++ (jrW ct (b 2) 94 SP ++ (jrW ct (b 3) 376 SV ++ (irW ct (b 4) 150 TX ++ (irW ct (b 5) 2 NB)))))) (zD (some (.int (zI (sp_rodv M r w (M 6))))) (moW b sc tl (ck_rodq M r w) pl cm h ++ (jrW ct (b 1) 94 M ++ (jrW ct (b 2) 94 SP ++ (jrW ct (b 3) 376 SV ++ (irW ct (b 4) 150 TX ++ (irW ct (b 5) 2 NB))))))) := by
  refine ZM.of (cc := cX9_rod) (maxL := 3) (ret := (some .int)) (by decide +kernel) rfl (Nat.le_of_ble_eq_true rfl) ?_
  intro p e s m below meth c A ls hx hb hr hts hown hlocks hml hname hE hP hD hA hS hl
  have hK := hE.1
  have hf_0 := hts (.fieldLink RX9 42 "RodGridsModel" "code" "I") (by decide +kernel)
  have hin_X9 : ∀ z ∈ u_ws RX9 TX9 11, z ∈ wsX9_rod := by decide +kernel
  have hl : lv_has ls 3 [(0, .ref (b 0)), (1, .int (zI r)), (2, .int (zI w))] := hl
  have i3 := hI.1
  have i4 := hI.2.1
  have j0 := hB.1
  have j1 := hB.2.1
  have j2 := hB.2.2.1
  have j4 := hB.2.2.2.2
  have ckb : 0 ≤ ck_rodq M r w ∧ ck_rodq M r w ≤ 3 := by unfold ck_rodq; (repeat' split) <;> omega
  have okf : (0 ≤ r ∧ r < M 4) ∧ 0 ≤ w ∧ w ≤ 4 := by unfold ck_rodq at hok; (repeat' split at hok) <;> omega
  refine lv_aload_n hx hb dX9_rod_0 rfl (lv_at hl 0 rfl) ?_
  refine lv_aload_n hx hb dX9_rod_1 rfl (lv_at hl 0 rfl) ?_
  refine lv_iload_n hx hb dX9_rod_2 rfl (lv_at hl 1 rfl) ?_
  refine z_callV (C := RX9) (q0 := 0) (ci := 7) (As := [.int (zI r)]) (rest := [.ref (b 0)]) ([] : va_W) ([] : va_W) hx hb hml hown hts hl hE hS hA (zr0 ([] : va_W) hP) (zr0D ([] : va_W) hD) (c_X9_isRod l D ct ad b M SP SV TX NB sc tl cd pl cm h r (by assumption) (by omega)) gX9_rod_X9_isRod rfl rfl k_X9_isRod ⟨Nat.le_of_ble_eq_true rfl, Nat.le_of_ble_eq_true rfl⟩ rfl rfl rfl rfl (Nat.le_of_ble_eq_true rfl) ⟨Nat.le_of_ble_eq_true rfl, Nat.le_of_ble_eq_true rfl⟩ dX9_rod_3 rfl (fun v w1 H locs hpost hP hD hS => ?_)
  obtain ⟨rfl, rfl⟩ := hpost
  have hP := zr0' hP
  have hD := zr0D' hD
  have hP : va_P D vwCl (moW b sc tl cd pl cm h ++ (jrW ct (b 1) 94 M ++ (jrW ct (b 2) 94 SP ++ (jrW ct (b 3) 376 SV ++ (irW ct (b 4) 150 TX ++ (irW ct (b 5) 2 NB)))))) H := hP
  have hD : va_D A (moW b sc tl cd pl cm h ++ (jrW ct (b 1) 94 M ++ (jrW ct (b 2) 94 SP ++ (jrW ct (b 3) 376 SV ++ (irW ct (b 4) 150 TX ++ (irW ct (b 5) 2 NB)))))) := hD
  refine W.eq (g2 := F0 m 6 ls [.int (zI (zB (0 ≤ r ∧ r < M 4))), .ref (b 0)]) rfl ?_
  refine zb_if_ne (tgt := 13) hx hb dX9_rod_6 (by decide) (fun hc_6 => ?_) (fun hc_6 => ?_)
  · have hc_6 := hc_6
    refine lv_iload_n hx hb dX9_rod_13 rfl (lv_at hl 2 rfl) ?_
    refine z_iconst hx hb dX9_rod_14 ?_
    refine z_iconst hx hb dX9_rod_15 ?_
    refine z_callS (As := [.int (zI w), .int (zI 0), .int (zI 4)]) (rest := [.ref (b 0)]) ([] : va_W) (moW b sc tl cd pl cm h ++ (jrW ct (b 1) 94 M ++ (jrW ct (b 2) 94 SP ++ (jrW ct (b 3) 376 SV ++ (irW ct (b 4) 150 TX ++ (irW ct (b 5) 2 NB)))))) hx hb hml hown hts hl hE hS hA hP hD (c_X9_in l D ct ad w 0 4 (by omega) (by omega) (by omega)) gX9_rod_X9_in rfl k_X9_in ⟨Nat.le_of_ble_eq_true rfl, Nat.le_of_ble_eq_true rfl⟩ rfl (Nat.le_of_ble_eq_true rfl) ⟨Nat.le_of_ble_eq_true rfl, Nat.le_of_ble_eq_true rfl⟩ dX9_rod_16 rfl (fun v w1 H locs hpost hP hD hS => ?_)
    obtain ⟨rfl, rfl⟩ := hpost
    have hP : va_P D vwCl (moW b sc tl cd pl cm h ++ (jrW ct (b 1) 94 M ++ (jrW ct (b 2) 94 SP ++ (jrW ct (b 3) 376 SV ++ (irW ct (b 4) 150 TX ++ (irW ct (b 5) 2 NB)))))) H := hP
    have hD : va_D A (moW b sc tl cd pl cm h ++ (jrW ct (b 1) 94 M ++ (jrW ct (b 2) 94 SP ++ (jrW ct (b 3) 376 SV ++ (irW ct (b 4) 150 TX ++ (irW ct (b 5) 2 NB)))))) := hD
    refine W.eq (g2 := F0 m 19 ls [.int (zI (zB (0 ≤ w ∧ w ≤ 4))), .ref (b 0)]) rfl ?_
    refine zb_if_eq (tgt := 26) hx hb dX9_rod_19 (by decide) (fun hc_19 => ?_) (fun hc_19 => ?_)
    · have hc_19 := hc_19
      refine z_iconst hx hb dX9_rod_26 ?_
      exfalso
      have hck : 2 = ck_rodq M r w := by unfold ck_rodq; (repeat' split) <;> omega
      omega
    · have hc_19 := hc_19
      refine z_iconst hx hb dX9_rod_22 ?_
      refine lv_goto (tgt := 27) hx hb dX9_rod_23 (by decide) ?_
      refine z_canI (show 0 = ck_rodq M r w from (by unfold ck_rodq; (repeat' split) <;> omega)) ?_
      refine z_put (ct := ct) (ad := ad) (ci := 7) (v := .int (zI (ck_rodq M r w))) (ty := tyX9 6) (C := RX9) (T := TX9) (N := 11) (w2 := moW b sc tl (ck_rodq M r w) pl cm h ++ (jrW ct (b 1) 94 M ++ (jrW ct (b 2) 94 SP ++ (jrW ct (b 3) 376 SV ++ (irW ct (b 4) 150 TX ++ (irW ct (b 5) 2 NB)))))) hx hb hts hin_X9 tyX9 tyX9_ok nmX9 hown hE hP hD hS 0 rfl rfl 6 (by decide) hf_0 (fun _ h9 => h9) rfl (by decide +kernel) rfl rfl (Nat.le_of_ble_eq_true rfl) dX9_rod_27 (rfl) (fun H locs hP hD hS => ?_)
      refine lv_aload_n hx hb dX9_rod_30 rfl (lv_at hl 0 rfl) ?_
      refine va_get (D := D) (ci := 7) (v := .int (zI (ck_rodq M r w))) (C := RX9) (T := TX9) (N := 11) hx hb hts hin_X9 hown hK hP 0 rfl rfl 6 (by decide) hf_0 (fun _ h9 => h9) rfl dX9_rod_31 ?_
      refine z_if_eq (tgt := 41) hx hb dX9_rod_34 (by decide) (by omega) (fun hc_34 => ?_) (fun hc_34 => ?_)
      · have hc_34 := hc_34
        refine lv_aload_n hx hb dX9_rod_41 rfl (lv_at hl 0 rfl) ?_
        refine lv_iload_n hx hb dX9_rod_42 rfl (lv_at hl 1 rfl) ?_
        refine lv_iload_n hx hb dX9_rod_43 rfl (lv_at hl 2 rfl) ?_
        refine z_callV (C := RX9) (q0 := 0) (ci := 7) (As := [.int (zI r), .int (zI w)]) (rest := []) ([] : va_W) ([] : va_W) hx hb hml hown hts hl hE hS hA (zr0 ([] : va_W) hP) (zr0D ([] : va_W) hD) (c_X9_rodOf l D ct ad b M SP SV TX NB sc tl (ck_rodq M r w) pl cm h r w (by assumption) (by assumption) (by omega) (by omega)) gX9_rod_X9_rodOf rfl rfl k_X9_rodOf ⟨Nat.le_of_ble_eq_true rfl, Nat.le_of_ble_eq_true rfl⟩ rfl rfl rfl rfl (Nat.le_of_ble_eq_true rfl) ⟨Nat.le_of_ble_eq_true rfl, Nat.le_of_ble_eq_true rfl⟩ dX9_rod_44 rfl (fun v w1 H locs hpost hP hD hS => ?_)
        obtain ⟨rfl, rfl⟩ := hpost
        have hP := zr0' hP
        have hD := zr0D' hD
        have hP : va_P D vwCl (moW b sc tl (ck_rodq M r w) pl cm h ++ (jrW ct (b 1) 94 M ++ (jrW ct (b 2) 94 SP ++ (jrW ct (b 3) 376 SV ++ (irW ct (b 4) 150 TX ++ (irW ct (b 5) 2 NB)))))) H := hP
        have hD : va_D A (moW b sc tl (ck_rodq M r w) pl cm h ++ (jrW ct (b 1) 94 M ++ (jrW ct (b 2) 94 SP ++ (jrW ct (b 3) 376 SV ++ (irW ct (b 4) 150 TX ++ (irW ct (b 5) 2 NB)))))) := hD
        refine W.eq (g2 := F0 m 47 ls [.int (zI (sp_rodv M r w (M 6)))]) rfl ?_
        exact z_iret hx hb hr hlocks hP hD hS ⟨Nat.le_of_ble_eq_true rfl, Nat.le_of_ble_eq_true rfl⟩ dX9_rod_47 (⟨congrArg (fun z => some (Value.int (zI z))) (rfl), rfl⟩)
      · have hc_34 := hc_34
        exact absurd hok hc_34
  · have hc_6 := hc_6
    refine z_iconst hx hb dX9_rod_9 ?_
    refine lv_goto (tgt := 27) hx hb dX9_rod_10 (by decide) ?_
    exfalso
    have hck : 1 = ck_rodq M r w := by unfold ck_rodq; (repeat' split) <;> omega
    omega
set_option maxHeartbeats 4000000 in
set_option maxRecDepth 100000 in
theorem c_X9_rod_no (l : Launch) (D : va_G) (ct ad : Nat → Nat) (b : Nat → Nat) (M SP SV TX NB : Int → Int) (sc tl cd pl cm h : Int) (r w : Int) (hI : gInv M) (hB : bInv M) (h1 : -2147483648 ≤ r ∧ r ≤ 2147483647) (h2 : -2147483648 ≤ w ∧ w ≤ 2147483647) (hno : ck_rodq M r w ≠ 0) : ZM l yX9_rod wsX9_rod ({ frames := 2, cells := 0, slots := 0, locals := 43 } : Room) D ct ad [.ref (b 0), .int (zI r), .int (zI w)] (moW b sc tl cd pl cm h ++ (jrW ct (b 1) 94 M ++ (jrW ct (b 2) 94 SP ++ (jrW ct (b 3) 376 SV ++ (irW ct (b 4) 150 TX ++ (irW ct (b 5) 2 NB)))))) (zD (some (.int (zI 0))) (moW b sc tl (ck_rodq M r w) pl cm h ++ (jrW ct (b 1) 94 M ++ (jrW ct (b 2) 94 SP ++ (jrW ct (b 3) 376 SV ++ (irW ct (b 4) 150 TX ++ (irW ct (b 5) 2 NB))))))) := by
  refine ZM.of (cc := cX9_rod) (maxL := 3) (ret := (some .int)) (by decide +kernel) rfl (Nat.le_of_ble_eq_true rfl) ?_
  intro p e s m below meth c A ls hx hb hr hts hown hlocks hml hname hE hP hD hA hS hl
  have hK := hE.1
  have hf_0 := hts (.fieldLink RX9 42 "RodGridsModel" "code" "I") (by decide +kernel)
  have hin_X9 : ∀ z ∈ u_ws RX9 TX9 11, z ∈ wsX9_rod := by decide +kernel
  have hl : lv_has ls 3 [(0, .ref (b 0)), (1, .int (zI r)), (2, .int (zI w))] := hl
  have i3 := hI.1
  have i4 := hI.2.1
  have j0 := hB.1
  have j1 := hB.2.1
  have j2 := hB.2.2.1
  have j4 := hB.2.2.2.2
  have ckb : 0 ≤ ck_rodq M r w ∧ ck_rodq M r w ≤ 3 := by unfold ck_rodq; (repeat' split) <;> omega
  refine lv_aload_n hx hb dX9_rod_0 rfl (lv_at hl 0 rfl) ?_
  refine lv_aload_n hx hb dX9_rod_1 rfl (lv_at hl 0 rfl) ?_
  refine lv_iload_n hx hb dX9_rod_2 rfl (lv_at hl 1 rfl) ?_
  refine z_callV (C := RX9) (q0 := 0) (ci := 7) (As := [.int (zI r)]) (rest := [.ref (b 0)]) ([] : va_W) ([] : va_W) hx hb hml hown hts hl hE hS hA (zr0 ([] : va_W) hP) (zr0D ([] : va_W) hD) (c_X9_isRod l D ct ad b M SP SV TX NB sc tl cd pl cm h r (by assumption) (by omega)) gX9_rod_X9_isRod rfl rfl k_X9_isRod ⟨Nat.le_of_ble_eq_true rfl, Nat.le_of_ble_eq_true rfl⟩ rfl rfl rfl rfl (Nat.le_of_ble_eq_true rfl) ⟨Nat.le_of_ble_eq_true rfl, Nat.le_of_ble_eq_true rfl⟩ dX9_rod_3 rfl (fun v w1 H locs hpost hP hD hS => ?_)
  obtain ⟨rfl, rfl⟩ := hpost
  have hP := zr0' hP
  have hD := zr0D' hD
  have hP : va_P D vwCl (moW b sc tl cd pl cm h ++ (jrW ct (b 1) 94 M ++ (jrW ct (b 2) 94 SP ++ (jrW ct (b 3) 376 SV ++ (irW ct (b 4) 150 TX ++ (irW ct (b 5) 2 NB)))))) H := hP
  have hD : va_D A (moW b sc tl cd pl cm h ++ (jrW ct (b 1) 94 M ++ (jrW ct (b 2) 94 SP ++ (jrW ct (b 3) 376 SV ++ (irW ct (b 4) 150 TX ++ (irW ct (b 5) 2 NB)))))) := hD
  refine W.eq (g2 := F0 m 6 ls [.int (zI (zB (0 ≤ r ∧ r < M 4))), .ref (b 0)]) rfl ?_
  refine zb_if_ne (tgt := 13) hx hb dX9_rod_6 (by decide) (fun hc_6 => ?_) (fun hc_6 => ?_)
  · have hc_6 := hc_6
    refine lv_iload_n hx hb dX9_rod_13 rfl (lv_at hl 2 rfl) ?_
    refine z_iconst hx hb dX9_rod_14 ?_
    refine z_iconst hx hb dX9_rod_15 ?_
    refine z_callS (As := [.int (zI w), .int (zI 0), .int (zI 4)]) (rest := [.ref (b 0)]) ([] : va_W) (moW b sc tl cd pl cm h ++ (jrW ct (b 1) 94 M ++ (jrW ct (b 2) 94 SP ++ (jrW ct (b 3) 376 SV ++ (irW ct (b 4) 150 TX ++ (irW ct (b 5) 2 NB)))))) hx hb hml hown hts hl hE hS hA hP hD (c_X9_in l D ct ad w 0 4 (by omega) (by omega) (by omega)) gX9_rod_X9_in rfl k_X9_in ⟨Nat.le_of_ble_eq_true rfl, Nat.le_of_ble_eq_true rfl⟩ rfl (Nat.le_of_ble_eq_true rfl) ⟨Nat.le_of_ble_eq_true rfl, Nat.le_of_ble_eq_true rfl⟩ dX9_rod_16 rfl (fun v w1 H locs hpost hP hD hS => ?_)
    obtain ⟨rfl, rfl⟩ := hpost
    have hP : va_P D vwCl (moW b sc tl cd pl cm h ++ (jrW ct (b 1) 94 M ++ (jrW ct (b 2) 94 SP ++ (jrW ct (b 3) 376 SV ++ (irW ct (b 4) 150 TX ++ (irW ct (b 5) 2 NB)))))) H := hP
    have hD : va_D A (moW b sc tl cd pl cm h ++ (jrW ct (b 1) 94 M ++ (jrW ct (b 2) 94 SP ++ (jrW ct (b 3) 376 SV ++ (irW ct (b 4) 150 TX ++ (irW ct (b 5) 2 NB)))))) := hD
    refine W.eq (g2 := F0 m 19 ls [.int (zI (zB (0 ≤ w ∧ w ≤ 4))), .ref (b 0)]) rfl ?_
    refine zb_if_eq (tgt := 26) hx hb dX9_rod_19 (by decide) (fun hc_19 => ?_) (fun hc_19 => ?_)
    · have hc_19 := hc_19
      refine z_iconst hx hb dX9_rod_26 ?_
      refine z_canI (show 2 = ck_rodq M r w from (by unfold ck_rodq; (repeat' split) <;> omega)) ?_
      refine z_put (ct := ct) (ad := ad) (ci := 7) (v := .int (zI (ck_rodq M r w))) (ty := tyX9 6) (C := RX9) (T := TX9) (N := 11) (w2 := moW b sc tl (ck_rodq M r w) pl cm h ++ (jrW ct (b 1) 94 M ++ (jrW ct (b 2) 94 SP ++ (jrW ct (b 3) 376 SV ++ (irW ct (b 4) 150 TX ++ (irW ct (b 5) 2 NB)))))) hx hb hts hin_X9 tyX9 tyX9_ok nmX9 hown hE hP hD hS 0 rfl rfl 6 (by decide) hf_0 (fun _ h9 => h9) rfl (by decide +kernel) rfl rfl (Nat.le_of_ble_eq_true rfl) dX9_rod_27 (rfl) (fun H locs hP hD hS => ?_)
      refine lv_aload_n hx hb dX9_rod_30 rfl (lv_at hl 0 rfl) ?_
      refine va_get (D := D) (ci := 7) (v := .int (zI (ck_rodq M r w))) (C := RX9) (T := TX9) (N := 11) hx hb hts hin_X9 hown hK hP 0 rfl rfl 6 (by decide) hf_0 (fun _ h9 => h9) rfl dX9_rod_31 ?_
      refine z_if_eq (tgt := 41) hx hb dX9_rod_34 (by decide) (by omega) (fun hc_34 => ?_) (fun hc_34 => ?_)
      · have hc_34 := hc_34
        exact absurd hc_34 hno
      · have hc_34 := hc_34
        refine z_iconst hx hb dX9_rod_37 ?_
        refine lv_goto (tgt := 47) hx hb dX9_rod_38 (by decide) ?_
        exact z_iret hx hb hr hlocks hP hD hS ⟨Nat.le_of_ble_eq_true rfl, Nat.le_of_ble_eq_true rfl⟩ dX9_rod_47 (⟨congrArg (fun z => some (Value.int (zI z))) (rfl), rfl⟩)
    · have hc_19 := hc_19
      refine z_iconst hx hb dX9_rod_22 ?_
      refine lv_goto (tgt := 27) hx hb dX9_rod_23 (by decide) ?_
      exfalso
      have hck : 0 = ck_rodq M r w := by unfold ck_rodq; (repeat' split) <;> omega
      omega
  · have hc_6 := hc_6
    refine z_iconst hx hb dX9_rod_9 ?_
    refine lv_goto (tgt := 27) hx hb dX9_rod_10 (by decide) ?_
    refine z_canI (show 1 = ck_rodq M r w from (by unfold ck_rodq; (repeat' split) <;> omega)) ?_
    refine z_put (ct := ct) (ad := ad) (ci := 7) (v := .int (zI (ck_rodq M r w))) (ty := tyX9 6) (C := RX9) (T := TX9) (N := 11) (w2 := moW b sc tl (ck_rodq M r w) pl cm h ++ (jrW ct (b 1) 94 M ++ (jrW ct (b 2) 94 SP ++ (jrW ct (b 3) 376 SV ++ (irW ct (b 4) 150 TX ++ (irW ct (b 5) 2 NB)))))) hx hb hts hin_X9 tyX9 tyX9_ok nmX9 hown hE hP hD hS 0 rfl rfl 6 (by decide) hf_0 (fun _ h9 => h9) rfl (by decide +kernel) rfl rfl (Nat.le_of_ble_eq_true rfl) dX9_rod_27 (rfl) (fun H locs hP hD hS => ?_)
    refine lv_aload_n hx hb dX9_rod_30 rfl (lv_at hl 0 rfl) ?_
    refine va_get (D := D) (ci := 7) (v := .int (zI (ck_rodq M r w))) (C := RX9) (T := TX9) (N := 11) hx hb hts hin_X9 hown hK hP 0 rfl rfl 6 (by decide) hf_0 (fun _ h9 => h9) rfl dX9_rod_31 ?_
    refine z_if_eq (tgt := 41) hx hb dX9_rod_34 (by decide) (by omega) (fun hc_34 => ?_) (fun hc_34 => ?_)
    · have hc_34 := hc_34
      exact absurd hc_34 hno
    · have hc_34 := hc_34
      refine z_iconst hx hb dX9_rod_37 ?_
      refine lv_goto (tgt := 47) hx hb dX9_rod_38 (by decide) ?_
      exact z_iret hx hb hr hlocks hP hD hS ⟨Nat.le_of_ble_eq_true rfl, Nat.le_of_ble_eq_true rfl⟩ dX9_rod_47 (⟨congrArg (fun z => some (Value.int (zI z))) (rfl), rfl⟩)
set_option maxHeartbeats 4000000 in
set_option maxRecDepth 100000 in
theorem c_X9_stretch_ok (l : Launch) (D : va_G) (ct ad : Nat → Nat) (b : Nat → Nat) (M SP SV TX NB : Int → Int) (sc tl cd pl cm h : Int) (k : Int) (hI : gInv M) (h1 : -2147483648 ≤ k ∧ k ≤ 2147483647) (hok : ck_b (0 ≤ k ∧ k < M 3) = 0) : ZM l yX9_stretch wsX9_stretch ({ frames := 2, cells := 0, slots := 0, locals := 43 } : Room) D ct ad [.ref (b 0), .int (zI k)] (moW b sc tl cd pl cm h ++ (jrW ct (b 1) 94 M ++ (jrW ct (b 2) 94 SP ++ (jrW ct (b 3) 376 SV ++ (irW ct (b 4) 150 TX ++ (irW ct (b 5) 2 NB)))))) (zD (some (.int (zI (M (16 + k))))) (moW b sc tl (ck_b (0 ≤ k ∧ k < M 3)) pl cm h ++ (jrW ct (b 1) 94 M ++ (jrW ct (b 2) 94 SP ++ (jrW ct (b 3) 376 SV ++ (irW ct (b 4) 150 TX ++ (irW ct (b 5) 2 NB))))))) := by
  refine ZM.of (cc := cX9_stretch) (maxL := 2) (ret := (some .int)) (by decide +kernel) rfl (Nat.le_of_ble_eq_true rfl) ?_
  intro p e s m below meth c A ls hx hb hr hts hown hlocks hml hname hE hP hD hA hS hl
  have hK := hE.1
  have hf_0 := hts (.fieldLink RX9 42 "RodGridsModel" "code" "I") (by decide +kernel)
  have hin_X9 : ∀ z ∈ u_ws RX9 TX9 11, z ∈ wsX9_stretch := by decide +kernel
  have hl : lv_has ls 2 [(0, .ref (b 0)), (1, .int (zI k))] := hl
  have i3 := hI.1
  have i4 := hI.2.1
  have ckb : 0 ≤ ck_b (0 ≤ k ∧ k < M 3) ∧ ck_b (0 ≤ k ∧ k < M 3) ≤ 3 := by unfold ck_b; (repeat' split) <;> omega
  have okf : 0 ≤ k ∧ k < M 3 := by unfold ck_b at hok; (repeat' split at hok) <;> omega
  refine lv_aload_n hx hb dX9_stretch_0 rfl (lv_at hl 0 rfl) ?_
  refine lv_aload_n hx hb dX9_stretch_1 rfl (lv_at hl 0 rfl) ?_
  refine lv_iload_n hx hb dX9_stretch_2 rfl (lv_at hl 1 rfl) ?_
  refine z_callV (C := RX9) (q0 := 0) (ci := 7) (As := [.int (zI k)]) (rest := [.ref (b 0)]) ([] : va_W) ([] : va_W) hx hb hml hown hts hl hE hS hA (zr0 ([] : va_W) hP) (zr0D ([] : va_W) hD) (c_X9_isMetal l D ct ad b M SP SV TX NB sc tl cd pl cm h k (by assumption) (by omega)) gX9_stretch_X9_isMetal rfl rfl k_X9_isMetal ⟨Nat.le_of_ble_eq_true rfl, Nat.le_of_ble_eq_true rfl⟩ rfl rfl rfl rfl (Nat.le_of_ble_eq_true rfl) ⟨Nat.le_of_ble_eq_true rfl, Nat.le_of_ble_eq_true rfl⟩ dX9_stretch_3 rfl (fun v w1 H locs hpost hP hD hS => ?_)
  obtain ⟨rfl, rfl⟩ := hpost
  have hP := zr0' hP
  have hD := zr0D' hD
  have hP : va_P D vwCl (moW b sc tl cd pl cm h ++ (jrW ct (b 1) 94 M ++ (jrW ct (b 2) 94 SP ++ (jrW ct (b 3) 376 SV ++ (irW ct (b 4) 150 TX ++ (irW ct (b 5) 2 NB)))))) H := hP
  have hD : va_D A (moW b sc tl cd pl cm h ++ (jrW ct (b 1) 94 M ++ (jrW ct (b 2) 94 SP ++ (jrW ct (b 3) 376 SV ++ (irW ct (b 4) 150 TX ++ (irW ct (b 5) 2 NB)))))) := hD
  refine W.eq (g2 := F0 m 6 ls [.int (zI (zB (0 ≤ k ∧ k < M 3))), .ref (b 0)]) rfl ?_
  refine zb_if_eq (tgt := 13) hx hb dX9_stretch_6 (by decide) (fun hc_6 => ?_) (fun hc_6 => ?_)
  · have hc_6 := hc_6
    refine z_iconst hx hb dX9_stretch_13 ?_
    exfalso
    have hck : 1 = ck_b (0 ≤ k ∧ k < M 3) := by unfold ck_b; (repeat' split) <;> omega
    omega
  · have hc_6 := hc_6
    refine z_iconst hx hb dX9_stretch_9 ?_
    refine lv_goto (tgt := 14) hx hb dX9_stretch_10 (by decide) ?_
    refine z_canI (show 0 = ck_b (0 ≤ k ∧ k < M 3) from (by unfold ck_b; (repeat' split) <;> omega)) ?_
    refine z_put (ct := ct) (ad := ad) (ci := 7) (v := .int (zI (ck_b (0 ≤ k ∧ k < M 3)))) (ty := tyX9 6) (C := RX9) (T := TX9) (N := 11) (w2 := moW b sc tl (ck_b (0 ≤ k ∧ k < M 3)) pl cm h ++ (jrW ct (b 1) 94 M ++ (jrW ct (b 2) 94 SP ++ (jrW ct (b 3) 376 SV ++ (irW ct (b 4) 150 TX ++ (irW ct (b 5) 2 NB)))))) hx hb hts hin_X9 tyX9 tyX9_ok nmX9 hown hE hP hD hS 0 rfl rfl 6 (by decide) hf_0 (fun _ h9 => h9) rfl (by decide +kernel) rfl rfl (Nat.le_of_ble_eq_true rfl) dX9_stretch_14 (rfl) (fun H locs hP hD hS => ?_)
    refine lv_aload_n hx hb dX9_stretch_17 rfl (lv_at hl 0 rfl) ?_
    refine va_get (D := D) (ci := 7) (v := .int (zI (ck_b (0 ≤ k ∧ k < M 3)))) (C := RX9) (T := TX9) (N := 11) hx hb hts hin_X9 hown hK hP 0 rfl rfl 6 (by decide) hf_0 (fun _ h9 => h9) rfl dX9_stretch_18 ?_
    refine z_if_eq (tgt := 28) hx hb dX9_stretch_21 (by decide) (by omega) (fun hc_21 => ?_) (fun hc_21 => ?_)
    · have hc_21 := hc_21
      refine lv_aload_n hx hb dX9_stretch_28 rfl (lv_at hl 0 rfl) ?_
      refine z_bipush hx hb dX9_stretch_29 (by decide) ?_
      refine lv_iload_n hx hb dX9_stretch_31 rfl (lv_at hl 1 rfl) ?_
      refine z_iadd hx hb dX9_stretch_32 ?_
      refine z_callV (C := RX9) (q0 := 0) (ci := 7) (As := [.int (zI (16 + k))]) (rest := []) ([] : va_W) ([] : va_W) hx hb hml hown hts hl hE hS hA (zr0 ([] : va_W) hP) (zr0D ([] : va_W) hD) (c_X9_of l D ct ad b M SP SV TX NB sc tl (ck_b (0 ≤ k ∧ k < M 3)) pl cm h (16 + k) (by omega)) gX9_stretch_X9_of rfl rfl k_X9_of ⟨Nat.le_of_ble_eq_true rfl, Nat.le_of_ble_eq_true rfl⟩ rfl rfl rfl rfl (Nat.le_of_ble_eq_true rfl) ⟨Nat.le_of_ble_eq_true rfl, Nat.le_of_ble_eq_true rfl⟩ dX9_stretch_33 rfl (fun v w1 H locs hpost hP hD hS => ?_)
      obtain ⟨rfl, rfl⟩ := hpost
      have hP := zr0' hP
      have hD := zr0D' hD
      have hP : va_P D vwCl (moW b sc tl (ck_b (0 ≤ k ∧ k < M 3)) pl cm h ++ (jrW ct (b 1) 94 M ++ (jrW ct (b 2) 94 SP ++ (jrW ct (b 3) 376 SV ++ (irW ct (b 4) 150 TX ++ (irW ct (b 5) 2 NB)))))) H := hP
      have hD : va_D A (moW b sc tl (ck_b (0 ≤ k ∧ k < M 3)) pl cm h ++ (jrW ct (b 1) 94 M ++ (jrW ct (b 2) 94 SP ++ (jrW ct (b 3) 376 SV ++ (irW ct (b 4) 150 TX ++ (irW ct (b 5) 2 NB)))))) := hD
      refine W.eq (g2 := F0 m 36 ls [.int (zI (M (16 + k)))]) rfl ?_
      exact z_iret hx hb hr hlocks hP hD hS ⟨Nat.le_of_ble_eq_true rfl, Nat.le_of_ble_eq_true rfl⟩ dX9_stretch_36 (⟨congrArg (fun z => some (Value.int (zI z))) (rfl), rfl⟩)
    · have hc_21 := hc_21
      exact absurd hok hc_21
set_option maxHeartbeats 4000000 in
set_option maxRecDepth 100000 in
theorem c_X9_stretch_no (l : Launch) (D : va_G) (ct ad : Nat → Nat) (b : Nat → Nat) (M SP SV TX NB : Int → Int) (sc tl cd pl cm h : Int) (k : Int) (hI : gInv M) (h1 : -2147483648 ≤ k ∧ k ≤ 2147483647) (hno : ck_b (0 ≤ k ∧ k < M 3) ≠ 0) : ZM l yX9_stretch wsX9_stretch ({ frames := 2, cells := 0, slots := 0, locals := 43 } : Room) D ct ad [.ref (b 0), .int (zI k)] (moW b sc tl cd pl cm h ++ (jrW ct (b 1) 94 M ++ (jrW ct (b 2) 94 SP ++ (jrW ct (b 3) 376 SV ++ (irW ct (b 4) 150 TX ++ (irW ct (b 5) 2 NB)))))) (zD (some (.int (zI 0))) (moW b sc tl (ck_b (0 ≤ k ∧ k < M 3)) pl cm h ++ (jrW ct (b 1) 94 M ++ (jrW ct (b 2) 94 SP ++ (jrW ct (b 3) 376 SV ++ (irW ct (b 4) 150 TX ++ (irW ct (b 5) 2 NB))))))) := by
  refine ZM.of (cc := cX9_stretch) (maxL := 2) (ret := (some .int)) (by decide +kernel) rfl (Nat.le_of_ble_eq_true rfl) ?_
  intro p e s m below meth c A ls hx hb hr hts hown hlocks hml hname hE hP hD hA hS hl
  have hK := hE.1
  have hf_0 := hts (.fieldLink RX9 42 "RodGridsModel" "code" "I") (by decide +kernel)
  have hin_X9 : ∀ z ∈ u_ws RX9 TX9 11, z ∈ wsX9_stretch := by decide +kernel
  have hl : lv_has ls 2 [(0, .ref (b 0)), (1, .int (zI k))] := hl
  have i3 := hI.1
  have i4 := hI.2.1
  have ckb : 0 ≤ ck_b (0 ≤ k ∧ k < M 3) ∧ ck_b (0 ≤ k ∧ k < M 3) ≤ 3 := by unfold ck_b; (repeat' split) <;> omega
  refine lv_aload_n hx hb dX9_stretch_0 rfl (lv_at hl 0 rfl) ?_
  refine lv_aload_n hx hb dX9_stretch_1 rfl (lv_at hl 0 rfl) ?_
  refine lv_iload_n hx hb dX9_stretch_2 rfl (lv_at hl 1 rfl) ?_
  refine z_callV (C := RX9) (q0 := 0) (ci := 7) (As := [.int (zI k)]) (rest := [.ref (b 0)]) ([] : va_W) ([] : va_W) hx hb hml hown hts hl hE hS hA (zr0 ([] : va_W) hP) (zr0D ([] : va_W) hD) (c_X9_isMetal l D ct ad b M SP SV TX NB sc tl cd pl cm h k (by assumption) (by omega)) gX9_stretch_X9_isMetal rfl rfl k_X9_isMetal ⟨Nat.le_of_ble_eq_true rfl, Nat.le_of_ble_eq_true rfl⟩ rfl rfl rfl rfl (Nat.le_of_ble_eq_true rfl) ⟨Nat.le_of_ble_eq_true rfl, Nat.le_of_ble_eq_true rfl⟩ dX9_stretch_3 rfl (fun v w1 H locs hpost hP hD hS => ?_)
  obtain ⟨rfl, rfl⟩ := hpost
  have hP := zr0' hP
  have hD := zr0D' hD
  have hP : va_P D vwCl (moW b sc tl cd pl cm h ++ (jrW ct (b 1) 94 M ++ (jrW ct (b 2) 94 SP ++ (jrW ct (b 3) 376 SV ++ (irW ct (b 4) 150 TX ++ (irW ct (b 5) 2 NB)))))) H := hP
  have hD : va_D A (moW b sc tl cd pl cm h ++ (jrW ct (b 1) 94 M ++ (jrW ct (b 2) 94 SP ++ (jrW ct (b 3) 376 SV ++ (irW ct (b 4) 150 TX ++ (irW ct (b 5) 2 NB)))))) := hD
  refine W.eq (g2 := F0 m 6 ls [.int (zI (zB (0 ≤ k ∧ k < M 3))), .ref (b 0)]) rfl ?_
  refine zb_if_eq (tgt := 13) hx hb dX9_stretch_6 (by decide) (fun hc_6 => ?_) (fun hc_6 => ?_)
  · have hc_6 := hc_6
    refine z_iconst hx hb dX9_stretch_13 ?_
    refine z_canI (show 1 = ck_b (0 ≤ k ∧ k < M 3) from (by unfold ck_b; (repeat' split) <;> omega)) ?_
    refine z_put (ct := ct) (ad := ad) (ci := 7) (v := .int (zI (ck_b (0 ≤ k ∧ k < M 3)))) (ty := tyX9 6) (C := RX9) (T := TX9) (N := 11) (w2 := moW b sc tl (ck_b (0 ≤ k ∧ k < M 3)) pl cm h ++ (jrW ct (b 1) 94 M ++ (jrW ct (b 2) 94 SP ++ (jrW ct (b 3) 376 SV ++ (irW ct (b 4) 150 TX ++ (irW ct (b 5) 2 NB)))))) hx hb hts hin_X9 tyX9 tyX9_ok nmX9 hown hE hP hD hS 0 rfl rfl 6 (by decide) hf_0 (fun _ h9 => h9) rfl (by decide +kernel) rfl rfl (Nat.le_of_ble_eq_true rfl) dX9_stretch_14 (rfl) (fun H locs hP hD hS => ?_)
    refine lv_aload_n hx hb dX9_stretch_17 rfl (lv_at hl 0 rfl) ?_
    refine va_get (D := D) (ci := 7) (v := .int (zI (ck_b (0 ≤ k ∧ k < M 3)))) (C := RX9) (T := TX9) (N := 11) hx hb hts hin_X9 hown hK hP 0 rfl rfl 6 (by decide) hf_0 (fun _ h9 => h9) rfl dX9_stretch_18 ?_
    refine z_if_eq (tgt := 28) hx hb dX9_stretch_21 (by decide) (by omega) (fun hc_21 => ?_) (fun hc_21 => ?_)
    · have hc_21 := hc_21
      exact absurd hc_21 hno
    · have hc_21 := hc_21
      refine z_iconst hx hb dX9_stretch_24 ?_
      refine lv_goto (tgt := 36) hx hb dX9_stretch_25 (by decide) ?_
      exact z_iret hx hb hr hlocks hP hD hS ⟨Nat.le_of_ble_eq_true rfl, Nat.le_of_ble_eq_true rfl⟩ dX9_stretch_36 (⟨congrArg (fun z => some (Value.int (zI z))) (rfl), rfl⟩)
  · have hc_6 := hc_6
    refine z_iconst hx hb dX9_stretch_9 ?_
    refine lv_goto (tgt := 14) hx hb dX9_stretch_10 (by decide) ?_
    exfalso
    have hck : 0 = ck_b (0 ≤ k ∧ k < M 3) := by unfold ck_b; (repeat' split) <;> omega
    omega
set_option maxHeartbeats 4000000 in
set_option maxRecDepth 100000 in
theorem c_X9_shelf_ok (l : Launch) (D : va_G) (ct ad : Nat → Nat) (b : Nat → Nat) (M SP SV TX NB : Int → Int) (sc tl cd pl cm h : Int) (k : Int) (h1 : -2147483648 ≤ k ∧ k ≤ 2147483647) (hok : ck_shelf k = 0) : ZM l yX9_shelf wsX9_shelf ({ frames := 2, cells := 0, slots := 0, locals := 42 } : Room) D ct ad [.ref (b 0), .int (zI k)] (moW b sc tl cd pl cm h ++ (jrW ct (b 1) 94 M ++ (jrW ct (b 2) 94 SP ++ (jrW ct (b 3) 376 SV ++ (irW ct (b 4) 150 TX ++ (irW ct (b 5) 2 NB)))))) (zD (some (.int (zI (M (49 + k))))) (moW b sc tl (ck_shelf k) pl cm h ++ (jrW ct (b 1) 94 M ++ (jrW ct (b 2) 94 SP ++ (jrW ct (b 3) 376 SV ++ (irW ct (b 4) 150 TX ++ (irW ct (b 5) 2 NB))))))) := by
  refine ZM.of (cc := cX9_shelf) (maxL := 2) (ret := (some .int)) (by decide +kernel) rfl (Nat.le_of_ble_eq_true rfl) ?_
  intro p e s m below meth c A ls hx hb hr hts hown hlocks hml hname hE hP hD hA hS hl
  have hK := hE.1
  have hf_0 := hts (.fieldLink RX9 42 "RodGridsModel" "code" "I") (by decide +kernel)
  have hin_X9 : ∀ z ∈ u_ws RX9 TX9 11, z ∈ wsX9_shelf := by decide +kernel
  have hl : lv_has ls 2 [(0, .ref (b 0)), (1, .int (zI k))] := hl
  have ckb : 0 ≤ ck_shelf k ∧ ck_shelf k ≤ 3 := by unfold ck_shelf; (repeat' split) <;> omega
  have okf : 0 ≤ k ∧ k ≤ 4 := by unfold ck_shelf at hok; (repeat' split at hok) <;> omega
  refine lv_aload_n hx hb dX9_shelf_0 rfl (lv_at hl 0 rfl) ?_
  refine lv_iload_n hx hb dX9_shelf_1 rfl (lv_at hl 1 rfl) ?_
  refine z_callS (As := [.int (zI k)]) (rest := [.ref (b 0)]) ([] : va_W) (moW b sc tl cd pl cm h ++ (jrW ct (b 1) 94 M ++ (jrW ct (b 2) 94 SP ++ (jrW ct (b 3) 376 SV ++ (irW ct (b 4) 150 TX ++ (irW ct (b 5) 2 NB)))))) hx hb hml hown hts hl hE hS hA hP hD (c_X9_isShelf l D ct ad k (by omega)) gX9_shelf_X9_isShelf rfl k_X9_isShelf ⟨Nat.le_of_ble_eq_true rfl, Nat.le_of_ble_eq_true rfl⟩ rfl (Nat.le_of_ble_eq_true rfl) ⟨Nat.le_of_ble_eq_true rfl, Nat.le_of_ble_eq_true rfl⟩ dX9_shelf_2 rfl (fun v w1 H locs hpost hP hD hS => ?_)
  obtain ⟨rfl, rfl⟩ := hpost
  have hP : va_P D vwCl (moW b sc tl cd pl cm h ++ (jrW ct (b 1) 94 M ++ (jrW ct (b 2) 94 SP ++ (jrW ct (b 3) 376 SV ++ (irW ct (b 4) 150 TX ++ (irW ct (b 5) 2 NB)))))) H := hP
  have hD : va_D A (moW b sc tl cd pl cm h ++ (jrW ct (b 1) 94 M ++ (jrW ct (b 2) 94 SP ++ (jrW ct (b 3) 376 SV ++ (irW ct (b 4) 150 TX ++ (irW ct (b 5) 2 NB)))))) := hD
  refine W.eq (g2 := F0 m 5 ls [.int (zI (zB (0 ≤ k ∧ k ≤ 4))), .ref (b 0)]) rfl ?_
  refine zb_if_eq (tgt := 12) hx hb dX9_shelf_5 (by decide) (fun hc_5 => ?_) (fun hc_5 => ?_)
  · have hc_5 := hc_5
    refine z_iconst hx hb dX9_shelf_12 ?_
    exfalso
    have hck : 1 = ck_shelf k := by unfold ck_shelf; (repeat' split) <;> omega
    omega
  · have hc_5 := hc_5
    refine z_iconst hx hb dX9_shelf_8 ?_
    refine lv_goto (tgt := 13) hx hb dX9_shelf_9 (by decide) ?_
    refine z_canI (show 0 = ck_shelf k from (by unfold ck_shelf; (repeat' split) <;> omega)) ?_
    refine z_put (ct := ct) (ad := ad) (ci := 7) (v := .int (zI (ck_shelf k))) (ty := tyX9 6) (C := RX9) (T := TX9) (N := 11) (w2 := moW b sc tl (ck_shelf k) pl cm h ++ (jrW ct (b 1) 94 M ++ (jrW ct (b 2) 94 SP ++ (jrW ct (b 3) 376 SV ++ (irW ct (b 4) 150 TX ++ (irW ct (b 5) 2 NB)))))) hx hb hts hin_X9 tyX9 tyX9_ok nmX9 hown hE hP hD hS 0 rfl rfl 6 (by decide) hf_0 (fun _ h9 => h9) rfl (by decide +kernel) rfl rfl (Nat.le_of_ble_eq_true rfl) dX9_shelf_13 (rfl) (fun H locs hP hD hS => ?_)
    refine lv_aload_n hx hb dX9_shelf_16 rfl (lv_at hl 0 rfl) ?_
    refine va_get (D := D) (ci := 7) (v := .int (zI (ck_shelf k))) (C := RX9) (T := TX9) (N := 11) hx hb hts hin_X9 hown hK hP 0 rfl rfl 6 (by decide) hf_0 (fun _ h9 => h9) rfl dX9_shelf_17 ?_
    refine z_if_eq (tgt := 27) hx hb dX9_shelf_20 (by decide) (by omega) (fun hc_20 => ?_) (fun hc_20 => ?_)
    · have hc_20 := hc_20
      refine lv_aload_n hx hb dX9_shelf_27 rfl (lv_at hl 0 rfl) ?_
      refine z_bipush hx hb dX9_shelf_28 (by decide) ?_
      refine lv_iload_n hx hb dX9_shelf_30 rfl (lv_at hl 1 rfl) ?_
      refine z_iadd hx hb dX9_shelf_31 ?_
      refine z_callV (C := RX9) (q0 := 0) (ci := 7) (As := [.int (zI (49 + k))]) (rest := []) ([] : va_W) ([] : va_W) hx hb hml hown hts hl hE hS hA (zr0 ([] : va_W) hP) (zr0D ([] : va_W) hD) (c_X9_of l D ct ad b M SP SV TX NB sc tl (ck_shelf k) pl cm h (49 + k) (by omega)) gX9_shelf_X9_of rfl rfl k_X9_of ⟨Nat.le_of_ble_eq_true rfl, Nat.le_of_ble_eq_true rfl⟩ rfl rfl rfl rfl (Nat.le_of_ble_eq_true rfl) ⟨Nat.le_of_ble_eq_true rfl, Nat.le_of_ble_eq_true rfl⟩ dX9_shelf_32 rfl (fun v w1 H locs hpost hP hD hS => ?_)
      obtain ⟨rfl, rfl⟩ := hpost
      have hP := zr0' hP
      have hD := zr0D' hD
      have hP : va_P D vwCl (moW b sc tl (ck_shelf k) pl cm h ++ (jrW ct (b 1) 94 M ++ (jrW ct (b 2) 94 SP ++ (jrW ct (b 3) 376 SV ++ (irW ct (b 4) 150 TX ++ (irW ct (b 5) 2 NB)))))) H := hP
      have hD : va_D A (moW b sc tl (ck_shelf k) pl cm h ++ (jrW ct (b 1) 94 M ++ (jrW ct (b 2) 94 SP ++ (jrW ct (b 3) 376 SV ++ (irW ct (b 4) 150 TX ++ (irW ct (b 5) 2 NB)))))) := hD
      refine W.eq (g2 := F0 m 35 ls [.int (zI (M (49 + k)))]) rfl ?_
      exact z_iret hx hb hr hlocks hP hD hS ⟨Nat.le_of_ble_eq_true rfl, Nat.le_of_ble_eq_true rfl⟩ dX9_shelf_35 (⟨congrArg (fun z => some (Value.int (zI z))) (rfl), rfl⟩)
    · have hc_20 := hc_20
      exact absurd hok hc_20
set_option maxHeartbeats 4000000 in
set_option maxRecDepth 100000 in
theorem c_X9_shelf_no (l : Launch) (D : va_G) (ct ad : Nat → Nat) (b : Nat → Nat) (M SP SV TX NB : Int → Int) (sc tl cd pl cm h : Int) (k : Int) (h1 : -2147483648 ≤ k ∧ k ≤ 2147483647) (hno : ck_shelf k ≠ 0) : ZM l yX9_shelf wsX9_shelf ({ frames := 2, cells := 0, slots := 0, locals := 42 } : Room) D ct ad [.ref (b 0), .int (zI k)] (moW b sc tl cd pl cm h ++ (jrW ct (b 1) 94 M ++ (jrW ct (b 2) 94 SP ++ (jrW ct (b 3) 376 SV ++ (irW ct (b 4) 150 TX ++ (irW ct (b 5) 2 NB)))))) (zD (some (.int (zI 0))) (moW b sc tl (ck_shelf k) pl cm h ++ (jrW ct (b 1) 94 M ++ (jrW ct (b 2) 94 SP ++ (jrW ct (b 3) 376 SV ++ (irW ct (b 4) 150 TX ++ (irW ct (b 5) 2 NB))))))) := by
  refine ZM.of (cc := cX9_shelf) (maxL := 2) (ret := (some .int)) (by decide +kernel) rfl (Nat.le_of_ble_eq_true rfl) ?_
  intro p e s m below meth c A ls hx hb hr hts hown hlocks hml hname hE hP hD hA hS hl
  have hK := hE.1
  have hf_0 := hts (.fieldLink RX9 42 "RodGridsModel" "code" "I") (by decide +kernel)
  have hin_X9 : ∀ z ∈ u_ws RX9 TX9 11, z ∈ wsX9_shelf := by decide +kernel
  have hl : lv_has ls 2 [(0, .ref (b 0)), (1, .int (zI k))] := hl
  have ckb : 0 ≤ ck_shelf k ∧ ck_shelf k ≤ 3 := by unfold ck_shelf; (repeat' split) <;> omega
  refine lv_aload_n hx hb dX9_shelf_0 rfl (lv_at hl 0 rfl) ?_
  refine lv_iload_n hx hb dX9_shelf_1 rfl (lv_at hl 1 rfl) ?_
  refine z_callS (As := [.int (zI k)]) (rest := [.ref (b 0)]) ([] : va_W) (moW b sc tl cd pl cm h ++ (jrW ct (b 1) 94 M ++ (jrW ct (b 2) 94 SP ++ (jrW ct (b 3) 376 SV ++ (irW ct (b 4) 150 TX ++ (irW ct (b 5) 2 NB)))))) hx hb hml hown hts hl hE hS hA hP hD (c_X9_isShelf l D ct ad k (by omega)) gX9_shelf_X9_isShelf rfl k_X9_isShelf ⟨Nat.le_of_ble_eq_true rfl, Nat.le_of_ble_eq_true rfl⟩ rfl (Nat.le_of_ble_eq_true rfl) ⟨Nat.le_of_ble_eq_true rfl, Nat.le_of_ble_eq_true rfl⟩ dX9_shelf_2 rfl (fun v w1 H locs hpost hP hD hS => ?_)
  obtain ⟨rfl, rfl⟩ := hpost
  have hP : va_P D vwCl (moW b sc tl cd pl cm h ++ (jrW ct (b 1) 94 M ++ (jrW ct (b 2) 94 SP ++ (jrW ct (b 3) 376 SV ++ (irW ct (b 4) 150 TX ++ (irW ct (b 5) 2 NB)))))) H := hP
  have hD : va_D A (moW b sc tl cd pl cm h ++ (jrW ct (b 1) 94 M ++ (jrW ct (b 2) 94 SP ++ (jrW ct (b 3) 376 SV ++ (irW ct (b 4) 150 TX ++ (irW ct (b 5) 2 NB)))))) := hD
  refine W.eq (g2 := F0 m 5 ls [.int (zI (zB (0 ≤ k ∧ k ≤ 4))), .ref (b 0)]) rfl ?_
  refine zb_if_eq (tgt := 12) hx hb dX9_shelf_5 (by decide) (fun hc_5 => ?_) (fun hc_5 => ?_)
  · have hc_5 := hc_5
    refine z_iconst hx hb dX9_shelf_12 ?_
    refine z_canI (show 1 = ck_shelf k from (by unfold ck_shelf; (repeat' split) <;> omega)) ?_
    refine z_put (ct := ct) (ad := ad) (ci := 7) (v := .int (zI (ck_shelf k))) (ty := tyX9 6) (C := RX9) (T := TX9) (N := 11) (w2 := moW b sc tl (ck_shelf k) pl cm h ++ (jrW ct (b 1) 94 M ++ (jrW ct (b 2) 94 SP ++ (jrW ct (b 3) 376 SV ++ (irW ct (b 4) 150 TX ++ (irW ct (b 5) 2 NB)))))) hx hb hts hin_X9 tyX9 tyX9_ok nmX9 hown hE hP hD hS 0 rfl rfl 6 (by decide) hf_0 (fun _ h9 => h9) rfl (by decide +kernel) rfl rfl (Nat.le_of_ble_eq_true rfl) dX9_shelf_13 (rfl) (fun H locs hP hD hS => ?_)
    refine lv_aload_n hx hb dX9_shelf_16 rfl (lv_at hl 0 rfl) ?_
    refine va_get (D := D) (ci := 7) (v := .int (zI (ck_shelf k))) (C := RX9) (T := TX9) (N := 11) hx hb hts hin_X9 hown hK hP 0 rfl rfl 6 (by decide) hf_0 (fun _ h9 => h9) rfl dX9_shelf_17 ?_
    refine z_if_eq (tgt := 27) hx hb dX9_shelf_20 (by decide) (by omega) (fun hc_20 => ?_) (fun hc_20 => ?_)
    · have hc_20 := hc_20
      exact absurd hc_20 hno
    · have hc_20 := hc_20
      refine z_iconst hx hb dX9_shelf_23 ?_
      refine lv_goto (tgt := 35) hx hb dX9_shelf_24 (by decide) ?_
      exact z_iret hx hb hr hlocks hP hD hS ⟨Nat.le_of_ble_eq_true rfl, Nat.le_of_ble_eq_true rfl⟩ dX9_shelf_35 (⟨congrArg (fun z => some (Value.int (zI z))) (rfl), rfl⟩)
  · have hc_5 := hc_5
    refine z_iconst hx hb dX9_shelf_8 ?_
    refine lv_goto (tgt := 13) hx hb dX9_shelf_9 (by decide) ?_
    exfalso
    have hck : 0 = ck_shelf k := by unfold ck_shelf; (repeat' split) <;> omega
    omega
theorem k_X9_wholeOf : yX9_wholeOf.cls ≠ "java/lang/invoke/MethodHandle" ∧ yX9_wholeOf.cls ≠ "java/lang/invoke/VarHandle" ∧ (parseMethodDescriptor yX9_wholeOf.desc).map (fun d => d.parameters.length) = some 1 := by decide +kernel
set_option maxHeartbeats 4000000 in
set_option maxRecDepth 100000 in
theorem c_X9_whole_ok (l : Launch) (D : va_G) (ct ad : Nat → Nat) (b : Nat → Nat) (M SP SV TX NB : Int → Int) (sc tl cd pl cm h : Int) (w : Int) (hI : gInv M) (hB : bInv M) (h1 : -2147483648 ≤ w ∧ w ≤ 2147483647) (hok : ck_b (0 ≤ w ∧ w ≤ 17) = 0) : ZM l yX9_whole wsX9_whole ({ frames := 6, cells := 0, slots := 0, locals := 134 } : Room) D ct ad [.ref (b 0), .int (zI w)] (moW b sc tl cd pl cm h ++ (jrW ct (b 1) 94 M ++ (jrW ct (b 2) 94 SP ++ (jrW ct (b 3) 376 SV ++ (irW ct (b 4) 150 TX ++ (irW ct (b 5) 2 NB)))))) (zD (some (.int (zI (sp_wh M tl w)))) (moW b sc tl (ck_b (0 ≤ w ∧ w ≤ 17)) pl cm h ++ (jrW ct (b 1) 94 M ++ (jrW ct (b 2) 94 SP ++ (jrW ct (b 3) 376 SV ++ (irW ct (b 4) 150 TX ++ (irW ct (b 5) 2 NB))))))) := by
  refine ZM.of (cc := cX9_whole) (maxL := 2) (ret := (some .int)) (by decide +kernel) rfl (Nat.le_of_ble_eq_true rfl) ?_
  intro p e s m below meth c A ls hx hb hr hts hown hlocks hml hname hE hP hD hA hS hl
  have hK := hE.1
  have hf_0 := hts (.fieldLink RX9 42 "RodGridsModel" "code" "I") (by decide +kernel)
  have hin_X9 : ∀ z ∈ u_ws RX9 TX9 11, z ∈ wsX9_whole := by decide +kernel
  have hl : lv_has ls 2 [(0, .ref (b 0)), (1, .int (zI w))] := hl
  have i3 := hI.1
  have i4 := hI.2.1
  have j0 := hB.1
  have j1 := hB.2.1
  have j2 := hB.2.2.1
  have j4 := hB.2.2.2.2
  have ckb : 0 ≤ ck_b (0 ≤ w ∧ w ≤ 17) ∧ ck_b (0 ≤ w ∧ w ≤ 17) ≤ 3 := by unfold ck_b; (repeat' split) <;> omega
  have okf : 0 ≤ w ∧ w ≤ 17 := by unfold ck_b at hok; (repeat' split at hok) <;> omega
  refine lv_aload_n hx hb dX9_whole_0 rfl (lv_at hl 0 rfl) ?_
  refine lv_iload_n hx hb dX9_whole_1 rfl (lv_at hl 1 rfl) ?_
  refine z_iconst hx hb dX9_whole_2 ?_
  refine z_bipush hx hb dX9_whole_3 (by decide) ?_
  refine z_callS (As := [.int (zI w), .int (zI 0), .int (zI 17)]) (rest := [.ref (b 0)]) ([] : va_W) (moW b sc tl cd pl cm h ++ (jrW ct (b 1) 94 M ++ (jrW ct (b 2) 94 SP ++ (jrW ct (b 3) 376 SV ++ (irW ct (b 4) 150 TX ++ (irW ct (b 5) 2 NB)))))) hx hb hml hown hts hl hE hS hA hP hD (c_X9_in l D ct ad w 0 17 (by omega) (by omega) (by omega)) gX9_whole_X9_in rfl k_X9_in ⟨Nat.le_of_ble_eq_true rfl, Nat.le_of_ble_eq_true rfl⟩ rfl (Nat.le_of_ble_eq_true rfl) ⟨Nat.le_of_ble_eq_true rfl, Nat.le_of_ble_eq_true rfl⟩ dX9_whole_5 rfl (fun v w1 H locs hpost hP hD hS => ?_)
  obtain ⟨rfl, rfl⟩ := hpost
  have hP : va_P D vwCl (moW b sc tl cd pl cm h ++ (jrW ct (b 1) 94 M ++ (jrW ct (b 2) 94 SP ++ (jrW ct (b 3) 376 SV ++ (irW ct (b 4) 150 TX ++ (irW ct (b 5) 2 NB)))))) H := hP
  have hD : va_D A (moW b sc tl cd pl cm h ++ (jrW ct (b 1) 94 M ++ (jrW ct (b 2) 94 SP ++ (jrW ct (b 3) 376 SV ++ (irW ct (b 4) 150 TX ++ (irW ct (b 5) 2 NB)))))) := hD
  refine W.eq (g2 := F0 m 8 ls [.int (zI (zB (0 ≤ w ∧ w ≤ 17))), .ref (b 0)]) rfl ?_
  refine zb_if_eq (tgt := 15) hx hb dX9_whole_8 (by decide) (fun hc_8 => ?_) (fun hc_8 => ?_)
  · have hc_8 := hc_8
    refine z_iconst hx hb dX9_whole_15 ?_
    exfalso
    have hck : 1 = ck_b (0 ≤ w ∧ w ≤ 17) := by unfold ck_b; (repeat' split) <;> omega
    omega
  · have hc_8 := hc_8
    refine z_iconst hx hb dX9_whole_11 ?_
    refine lv_goto (tgt := 16) hx hb dX9_whole_12 (by decide) ?_
    refine z_canI (show 0 = ck_b (0 ≤ w ∧ w ≤ 17) from (by unfold ck_b; (repeat' split) <;> omega)) ?_
    refine z_put (ct := ct) (ad := ad) (ci := 7) (v := .int (zI (ck_b (0 ≤ w ∧ w ≤ 17)))) (ty := tyX9 6) (C := RX9) (T := TX9) (N := 11) (w2 := moW b sc tl (ck_b (0 ≤ w ∧ w ≤ 17)) pl cm h ++ (jrW ct (b 1) 94 M ++ (jrW ct (b 2) 94 SP ++ (jrW ct (b 3) 376 SV ++ (irW ct (b 4) 150 TX ++ (irW ct (b 5) 2 NB)))))) hx hb hts hin_X9 tyX9 tyX9_ok nmX9 hown hE hP hD hS 0 rfl rfl 6 (by decide) hf_0 (fun _ h9 => h9) rfl (by decide +kernel) rfl rfl (Nat.le_of_ble_eq_true rfl) dX9_whole_16 (rfl) (fun H locs hP hD hS => ?_)
    refine lv_aload_n hx hb dX9_whole_19 rfl (lv_at hl 0 rfl) ?_
    refine va_get (D := D) (ci := 7) (v := .int (zI (ck_b (0 ≤ w ∧ w ≤ 17)))) (C := RX9) (T := TX9) (N := 11) hx hb hts hin_X9 hown hK hP 0 rfl rfl 6 (by decide) hf_0 (fun _ h9 => h9) rfl dX9_whole_20 ?_
    refine z_if_eq (tgt := 30) hx hb dX9_whole_23 (by decide) (by omega) (fun hc_23 => ?_) (fun hc_23 => ?_)
    · have hc_23 := hc_23
      refine lv_aload_n hx hb dX9_whole_30 rfl (lv_at hl 0 rfl) ?_
      refine lv_iload_n hx hb dX9_whole_31 rfl (lv_at hl 1 rfl) ?_
      refine z_callV (C := RX9) (q0 := 0) (ci := 7) (As := [.int (zI w)]) (rest := []) ([] : va_W) ([] : va_W) hx hb hml hown hts hl hE hS hA (zr0 ([] : va_W) hP) (zr0D ([] : va_W) hD) (c_X9_wholeOf l D ct ad b M SP SV TX NB sc tl (ck_b (0 ≤ w ∧ w ≤ 17)) pl cm h w (by assumption) (by assumption) (by omega)) gX9_whole_X9_wholeOf rfl rfl k_X9_wholeOf ⟨Nat.le_of_ble_eq_true rfl, Nat.le_of_ble_eq_true rfl⟩ rfl rfl rfl rfl (Nat.le_of_ble_eq_true rfl) ⟨Nat.le_of_ble_eq_true rfl, Nat.le_of_ble_eq_true rfl⟩ dX9_whole_32 rfl (fun v w1 H locs hpost hP hD hS => ?_)
      obtain ⟨rfl, rfl⟩ := hpost
      have hP := zr0' hP
      have hD := zr0D' hD
      have hP : va_P D vwCl (moW b sc tl (ck_b (0 ≤ w ∧ w ≤ 17)) pl cm h ++ (jrW ct (b 1) 94 M ++ (jrW ct (b 2) 94 SP ++ (jrW ct (b 3) 376 SV ++ (irW ct (b 4) 150 TX ++ (irW ct (b 5) 2 NB)))))) H := hP
      have hD : va_D A (moW b sc tl (ck_b (0 ≤ w ∧ w ≤ 17)) pl cm h ++ (jrW ct (b 1) 94 M ++ (jrW ct (b 2) 94 SP ++ (jrW ct (b 3) 376 SV ++ (irW ct (b 4) 150 TX ++ (irW ct (b 5) 2 NB)))))) := hD
      refine W.eq (g2 := F0 m 35 ls [.int (zI (sp_wh M tl w))]) rfl ?_
      exact z_iret hx hb hr hlocks hP hD hS ⟨Nat.le_of_ble_eq_true rfl, Nat.le_of_ble_eq_true rfl⟩ dX9_whole_35 (⟨congrArg (fun z => some (Value.int (zI z))) (rfl), rfl⟩)
    · have hc_23 := hc_23
      exact absurd hok hc_23
set_option maxHeartbeats 4000000 in
set_option maxRecDepth 100000 in
theorem c_X9_whole_no (l : Launch) (D : va_G) (ct ad : Nat → Nat) (b : Nat → Nat) (M SP SV TX NB : Int → Int) (sc tl cd pl cm h : Int) (w : Int) (hI : gInv M) (hB : bInv M) (h1 : -2147483648 ≤ w ∧ w ≤ 2147483647) (hno : ck_b (0 ≤ w ∧ w ≤ 17) ≠ 0) : ZM l yX9_whole wsX9_whole ({ frames := 1, cells := 0, slots := 0, locals := 22 } : Room) D ct ad [.ref (b 0), .int (zI w)] (moW b sc tl cd pl cm h ++ (jrW ct (b 1) 94 M ++ (jrW ct (b 2) 94 SP ++ (jrW ct (b 3) 376 SV ++ (irW ct (b 4) 150 TX ++ (irW ct (b 5) 2 NB)))))) (zD (some (.int (zI 0))) (moW b sc tl (ck_b (0 ≤ w ∧ w ≤ 17)) pl cm h ++ (jrW ct (b 1) 94 M ++ (jrW ct (b 2) 94 SP ++ (jrW ct (b 3) 376 SV ++ (irW ct (b 4) 150 TX ++ (irW ct (b 5) 2 NB))))))) := by
  refine ZM.of (cc := cX9_whole) (maxL := 2) (ret := (some .int)) (by decide +kernel) rfl (Nat.le_of_ble_eq_true rfl) ?_
  intro p e s m below meth c A ls hx hb hr hts hown hlocks hml hname hE hP hD hA hS hl
  have hK := hE.1
  have hf_0 := hts (.fieldLink RX9 42 "RodGridsModel" "code" "I") (by decide +kernel)
  have hin_X9 : ∀ z ∈ u_ws RX9 TX9 11, z ∈ wsX9_whole := by decide +kernel
  have hl : lv_has ls 2 [(0, .ref (b 0)), (1, .int (zI w))] := hl
  have i3 := hI.1
  have i4 := hI.2.1
  have j0 := hB.1
  have j1 := hB.2.1
  have j2 := hB.2.2.1
  have j4 := hB.2.2.2.2
  have ckb : 0 ≤ ck_b (0 ≤ w ∧ w ≤ 17) ∧ ck_b (0 ≤ w ∧ w ≤ 17) ≤ 3 := by unfold ck_b; (repeat' split) <;> omega
  refine lv_aload_n hx hb dX9_whole_0 rfl (lv_at hl 0 rfl) ?_
  refine lv_iload_n hx hb dX9_whole_1 rfl (lv_at hl 1 rfl) ?_
  refine z_iconst hx hb dX9_whole_2 ?_
  refine z_bipush hx hb dX9_whole_3 (by decide) ?_
  refine z_callS (As := [.int (zI w), .int (zI 0), .int (zI 17)]) (rest := [.ref (b 0)]) ([] : va_W) (moW b sc tl cd pl cm h ++ (jrW ct (b 1) 94 M ++ (jrW ct (b 2) 94 SP ++ (jrW ct (b 3) 376 SV ++ (irW ct (b 4) 150 TX ++ (irW ct (b 5) 2 NB)))))) hx hb hml hown hts hl hE hS hA hP hD (c_X9_in l D ct ad w 0 17 (by omega) (by omega) (by omega)) gX9_whole_X9_in rfl k_X9_in ⟨Nat.le_of_ble_eq_true rfl, Nat.le_of_ble_eq_true rfl⟩ rfl (Nat.le_of_ble_eq_true rfl) ⟨Nat.le_of_ble_eq_true rfl, Nat.le_of_ble_eq_true rfl⟩ dX9_whole_5 rfl (fun v w1 H locs hpost hP hD hS => ?_)
  obtain ⟨rfl, rfl⟩ := hpost
  have hP : va_P D vwCl (moW b sc tl cd pl cm h ++ (jrW ct (b 1) 94 M ++ (jrW ct (b 2) 94 SP ++ (jrW ct (b 3) 376 SV ++ (irW ct (b 4) 150 TX ++ (irW ct (b 5) 2 NB)))))) H := hP
  have hD : va_D A (moW b sc tl cd pl cm h ++ (jrW ct (b 1) 94 M ++ (jrW ct (b 2) 94 SP ++ (jrW ct (b 3) 376 SV ++ (irW ct (b 4) 150 TX ++ (irW ct (b 5) 2 NB)))))) := hD
  refine W.eq (g2 := F0 m 8 ls [.int (zI (zB (0 ≤ w ∧ w ≤ 17))), .ref (b 0)]) rfl ?_
  refine zb_if_eq (tgt := 15) hx hb dX9_whole_8 (by decide) (fun hc_8 => ?_) (fun hc_8 => ?_)
  · have hc_8 := hc_8
    refine z_iconst hx hb dX9_whole_15 ?_
    refine z_canI (show 1 = ck_b (0 ≤ w ∧ w ≤ 17) from (by unfold ck_b; (repeat' split) <;> omega)) ?_
    refine z_put (ct := ct) (ad := ad) (ci := 7) (v := .int (zI (ck_b (0 ≤ w ∧ w ≤ 17)))) (ty := tyX9 6) (C := RX9) (T := TX9) (N := 11) (w2 := moW b sc tl (ck_b (0 ≤ w ∧ w ≤ 17)) pl cm h ++ (jrW ct (b 1) 94 M ++ (jrW ct (b 2) 94 SP ++ (jrW ct (b 3) 376 SV ++ (irW ct (b 4) 150 TX ++ (irW ct (b 5) 2 NB)))))) hx hb hts hin_X9 tyX9 tyX9_ok nmX9 hown hE hP hD hS 0 rfl rfl 6 (by decide) hf_0 (fun _ h9 => h9) rfl (by decide +kernel) rfl rfl (Nat.le_of_ble_eq_true rfl) dX9_whole_16 (rfl) (fun H locs hP hD hS => ?_)
    refine lv_aload_n hx hb dX9_whole_19 rfl (lv_at hl 0 rfl) ?_
    refine va_get (D := D) (ci := 7) (v := .int (zI (ck_b (0 ≤ w ∧ w ≤ 17)))) (C := RX9) (T := TX9) (N := 11) hx hb hts hin_X9 hown hK hP 0 rfl rfl 6 (by decide) hf_0 (fun _ h9 => h9) rfl dX9_whole_20 ?_
    refine z_if_eq (tgt := 30) hx hb dX9_whole_23 (by decide) (by omega) (fun hc_23 => ?_) (fun hc_23 => ?_)
    · have hc_23 := hc_23
      exact absurd hc_23 hno
    · have hc_23 := hc_23
      refine z_iconst hx hb dX9_whole_26 ?_
      refine lv_goto (tgt := 35) hx hb dX9_whole_27 (by decide) ?_
      exact z_iret hx hb hr hlocks hP hD hS ⟨Nat.le_of_ble_eq_true rfl, Nat.le_of_ble_eq_true rfl⟩ dX9_whole_35 (⟨congrArg (fun z => some (Value.int (zI z))) (rfl), rfl⟩)
  · have hc_8 := hc_8
    refine z_iconst hx hb dX9_whole_11 ?_
    refine lv_goto (tgt := 16) hx hb dX9_whole_12 (by decide) ?_
    exfalso
    have hck : 0 = ck_b (0 ≤ w ∧ w ≤ 17) := by unfold ck_b; (repeat' split) <;> omega
    omega
set_option maxHeartbeats 4000000 in
set_option maxRecDepth 100000 in
theorem c_X9_day_ok (l : Launch) (D : va_G) (ct ad : Nat → Nat) (b : Nat → Nat) (M SP SV TX NB : Int → Int) (sc tl cd pl cm h : Int) (k w : Int) (hI : gInv M) (hB : bInv M) (h1 : -2147483648 ≤ k ∧ k ≤ 2147483647) (h2 : -2147483648 ≤ w ∧ w ≤ 2147483647) (hok : ck_b (0 ≤ k ∧ 0 ≤ w ∧ w ≤ 3) = 0) : ZM l yX9_day wsX9_day ({ frames := 1, cells := 0, slots := 0, locals := 22 } : Room) D ct ad [.ref (b 0), .int (zI k), .int (zI w)] (moW b sc tl cd pl cm h ++ (jrW ct (b 1) 94 M ++ (jrW ct (b 2) 94 SP ++ (jrW ct (b 3) 376 SV ++ (irW ct (b 4) 150 TX ++ (irW ct (b 5) 2 NB)))))) (zD (some (.long (zJ (sp_dayv M k w)))) (moW b sc tl (ck_b (0 ≤ k ∧ 0 ≤ w ∧ w ≤ 3)) pl cm h ++ (jrW ct (b 1) 94 M ++ (jrW ct (b 2) 94 SP ++ (jrW ct (b 3) 376 SV ++ (irW ct (b 4) 150 TX ++ (irW ct (b 5) 2 NB))))))) := by
  refine ZM.of (cc := cX9_day) (maxL := 3) (ret := (some .long)) (by decide +kernel) rfl (Nat.le_of_ble_eq_true rfl) ?_
  intro p e s m below meth c A ls hx hb hr hts hown hlocks hml hname hE hP hD hA hS hl
  have hK := hE.1
  have hf_0 := hts (.fieldLink RX9 42 "RodGridsModel" "code" "I") (by decide +kernel)
  have hf_1 := hts (.constantLong RX9 220 (-2000000000)) (by decide +kernel)
  have hf_2 := hts (.fieldLink RX9 7 "RodGridsModel" "m" "[J") (by decide +kernel)
  have hin_X9 : ∀ z ∈ u_ws RX9 TX9 11, z ∈ wsX9_day := by decide +kernel
  have hl : lv_has ls 3 [(0, .ref (b 0)), (1, .int (zI k)), (2, .int (zI w))] := hl
  have i3 := hI.1
  have i4 := hI.2.1
  have j0 := hB.1
  have j1 := hB.2.1
  have j2 := hB.2.2.1
  have j4 := hB.2.2.2.2
  have ckb : 0 ≤ ck_b (0 ≤ k ∧ 0 ≤ w ∧ w ≤ 3) ∧ ck_b (0 ≤ k ∧ 0 ≤ w ∧ w ≤ 3) ≤ 3 := by unfold ck_b; (repeat' split) <;> omega
  have okf : 0 ≤ k ∧ 0 ≤ w ∧ w ≤ 3 := by unfold ck_b at hok; (repeat' split at hok) <;> omega
  have j15 := hB.2.2.2.2
  refine lv_aload_n hx hb dX9_day_0 rfl (lv_at hl 0 rfl) ?_
  refine lv_iload_n hx hb dX9_day_1 rfl (lv_at hl 1 rfl) ?_
  refine z_if_lt (tgt := 18) hx hb dX9_day_2 (by decide) (by omega) (fun hc_2 => ?_) (fun hc_2 => ?_)
  · have hc_2 := hc_2
    refine z_iconst hx hb dX9_day_18 ?_
    exfalso
    have hck : 1 = ck_b (0 ≤ k ∧ 0 ≤ w ∧ w ≤ 3) := by unfold ck_b; (repeat' split) <;> omega
    omega
  · have hc_2 := hc_2
    refine lv_iload_n hx hb dX9_day_5 rfl (lv_at hl 2 rfl) ?_
    refine z_iconst hx hb dX9_day_6 ?_
    refine z_iconst hx hb dX9_day_7 ?_
    refine z_callS (As := [.int (zI w), .int (zI 0), .int (zI 3)]) (rest := [.ref (b 0)]) ([] : va_W) (moW b sc tl cd pl cm h ++ (jrW ct (b 1) 94 M ++ (jrW ct (b 2) 94 SP ++ (jrW ct (b 3) 376 SV ++ (irW ct (b 4) 150 TX ++ (irW ct (b 5) 2 NB)))))) hx hb hml hown hts hl hE hS hA hP hD (c_X9_in l D ct ad w 0 3 (by omega) (by omega) (by omega)) gX9_day_X9_in rfl k_X9_in ⟨Nat.le_of_ble_eq_true rfl, Nat.le_of_ble_eq_true rfl⟩ rfl (Nat.le_of_ble_eq_true rfl) ⟨Nat.le_of_ble_eq_true rfl, Nat.le_of_ble_eq_true rfl⟩ dX9_day_8 rfl (fun v w1 H locs hpost hP hD hS => ?_)
    obtain ⟨rfl, rfl⟩ := hpost
    have hP : va_P D vwCl (moW b sc tl cd pl cm h ++ (jrW ct (b 1) 94 M ++ (jrW ct (b 2) 94 SP ++ (jrW ct (b 3) 376 SV ++ (irW ct (b 4) 150 TX ++ (irW ct (b 5) 2 NB)))))) H := hP
    have hD : va_D A (moW b sc tl cd pl cm h ++ (jrW ct (b 1) 94 M ++ (jrW ct (b 2) 94 SP ++ (jrW ct (b 3) 376 SV ++ (irW ct (b 4) 150 TX ++ (irW ct (b 5) 2 NB)))))) := hD
    refine W.eq (g2 := F0 m 11 ls [.int (zI (zB (0 ≤ w ∧ w ≤ 3))), .ref (b 0)]) rfl ?_
    refine zb_if_eq (tgt := 18) hx hb dX9_day_11 (by decide) (fun hc_11 => ?_) (fun hc_11 => ?_)
    · have hc_11 := hc_11
      refine z_iconst hx hb dX9_day_18 ?_
      exfalso
      have hck : 1 = ck_b (0 ≤ k ∧ 0 ≤ w ∧ w ≤ 3) := by unfold ck_b; (repeat' split) <;> omega
      omega
    · have hc_11 := hc_11
      refine z_iconst hx hb dX9_day_14 ?_
      refine lv_goto (tgt := 19) hx hb dX9_day_15 (by decide) ?_
      refine z_canI (show 0 = ck_b (0 ≤ k ∧ 0 ≤ w ∧ w ≤ 3) from (by unfold ck_b; (repeat' split) <;> omega)) ?_
      refine z_put (ct := ct) (ad := ad) (ci := 7) (v := .int (zI (ck_b (0 ≤ k ∧ 0 ≤ w ∧ w ≤ 3)))) (ty := tyX9 6) (C := RX9) (T := TX9) (N := 11) (w2 := moW b sc tl (ck_b (0 ≤ k ∧ 0 ≤ w ∧ w ≤ 3)) pl cm h ++ (jrW ct (b 1) 94 M ++ (jrW ct (b 2) 94 SP ++ (jrW ct (b 3) 376 SV ++ (irW ct (b 4) 150 TX ++ (irW ct (b 5) 2 NB)))))) hx hb hts hin_X9 tyX9 tyX9_ok nmX9 hown hE hP hD hS 0 rfl rfl 6 (by decide) hf_0 (fun _ h9 => h9) rfl (by decide +kernel) rfl rfl (Nat.le_of_ble_eq_true rfl) dX9_day_19 (rfl) (fun H locs hP hD hS => ?_)
      refine lv_aload_n hx hb dX9_day_22 rfl (lv_at hl 0 rfl) ?_
      refine va_get (D := D) (ci := 7) (v := .int (zI (ck_b (0 ≤ k ∧ 0 ≤ w ∧ w ≤ 3)))) (C := RX9) (T := TX9) (N := 11) hx hb hts hin_X9 hown hK hP 0 rfl rfl 6 (by decide) hf_0 (fun _ h9 => h9) rfl dX9_day_23 ?_
      refine z_if_eq (tgt := 31) hx hb dX9_day_26 (by decide) (by omega) (fun hc_26 => ?_) (fun hc_26 => ?_)
      · have hc_26 := hc_26
        refine lv_iload_n hx hb dX9_day_31 rfl (lv_at hl 1 rfl) ?_
        refine lv_aload_n hx hb dX9_day_32 rfl (lv_at hl 0 rfl) ?_
        refine z_bipush hx hb dX9_day_33 (by decide) ?_
        refine z_callV (C := RX9) (q0 := 0) (ci := 7) (As := [.int (zI 15)]) (rest := [.int (zI k)]) ([] : va_W) ([] : va_W) hx hb hml hown hts hl hE hS hA (zr0 ([] : va_W) hP) (zr0D ([] : va_W) hD) (c_X9_of l D ct ad b M SP SV TX NB sc tl (ck_b (0 ≤ k ∧ 0 ≤ w ∧ w ≤ 3)) pl cm h 15 (by omega)) gX9_day_X9_of rfl rfl k_X9_of ⟨Nat.le_of_ble_eq_true rfl, Nat.le_of_ble_eq_true rfl⟩ rfl rfl rfl rfl (Nat.le_of_ble_eq_true rfl) ⟨Nat.le_of_ble_eq_true rfl, Nat.le_of_ble_eq_true rfl⟩ dX9_day_35 rfl (fun v w1 H locs hpost hP hD hS => ?_)
        obtain ⟨rfl, rfl⟩ := hpost
        have hP := zr0' hP
        have hD := zr0D' hD
        have hP : va_P D vwCl (moW b sc tl (ck_b (0 ≤ k ∧ 0 ≤ w ∧ w ≤ 3)) pl cm h ++ (jrW ct (b 1) 94 M ++ (jrW ct (b 2) 94 SP ++ (jrW ct (b 3) 376 SV ++ (irW ct (b 4) 150 TX ++ (irW ct (b 5) 2 NB)))))) H := hP
        have hD : va_D A (moW b sc tl (ck_b (0 ≤ k ∧ 0 ≤ w ∧ w ≤ 3)) pl cm h ++ (jrW ct (b 1) 94 M ++ (jrW ct (b 2) 94 SP ++ (jrW ct (b 3) 376 SV ++ (irW ct (b 4) 150 TX ++ (irW ct (b 5) 2 NB)))))) := hD
        refine W.eq (g2 := F0 m 38 ls [.int (zI (M 15)), .int (zI k)]) rfl ?_
        refine z_icmp_ge (tgt := 57) hx hb dX9_day_38 (by decide) (by omega) (by omega) (fun hc_38 => ?_) (fun hc_38 => ?_)
        · have hc_38 := hc_38
          refine z_ldc2 hx hb (-2000000000) hown hf_1 (by decide) dX9_day_57 ?_
          exact z_lret hx hb hr hlocks hP hD hS ⟨Nat.le_of_ble_eq_true rfl, Nat.le_of_ble_eq_true rfl⟩ dX9_day_60 (⟨congrArg (fun z => some (Value.long (zJ z))) (by unfold sp_dayv; first | rw [if_pos (by omega)] | rw [if_neg (by omega)]), rfl⟩)
        · have hc_38 := hc_38
          refine lv_aload_n hx hb dX9_day_41 rfl (lv_at hl 0 rfl) ?_
          refine va_get (D := D) (ci := 7) (v := .ref (b 1)) (C := RX9) (T := TX9) (N := 11) hx hb hts hin_X9 hown hK hP 0 rfl rfl 0 (by decide) hf_2 (fun _ h9 => h9) rfl dX9_day_42 ?_
          refine z_bipush hx hb dX9_day_45 (by decide) ?_
          refine z_iconst hx hb dX9_day_47 ?_
          refine lv_iload_n hx hb dX9_day_48 rfl (lv_at hl 1 rfl) ?_
          refine z_imul hx hb dX9_day_49 ?_
          refine z_iadd hx hb dX9_day_50 ?_
          refine lv_iload_n hx hb dX9_day_51 rfl (lv_at hl 2 rfl) ?_
          refine z_iadd hx hb dX9_day_52 ?_
          refine z_lald (g := M) (v := M ((54 + (4 * k)) + w)) hx hb hK hP 1 rfl (by decide) (by omega) rfl dX9_day_53 ?_
          refine lv_goto (tgt := 60) hx hb dX9_day_54 (by decide) ?_
          exact z_lret hx hb hr hlocks hP hD hS ⟨Nat.le_of_ble_eq_true rfl, Nat.le_of_ble_eq_true rfl⟩ dX9_day_60 (⟨congrArg (fun z => some (Value.long (zJ z))) (by unfold sp_dayv; first | rw [if_pos (by omega)] | rw [if_neg (by omega)]), rfl⟩)
      · have hc_26 := hc_26
        exact absurd hok hc_26
set_option maxHeartbeats 4000000 in
set_option maxRecDepth 100000 in
theorem c_X9_day_no (l : Launch) (D : va_G) (ct ad : Nat → Nat) (b : Nat → Nat) (M SP SV TX NB : Int → Int) (sc tl cd pl cm h : Int) (k w : Int) (hI : gInv M) (hB : bInv M) (h1 : -2147483648 ≤ k ∧ k ≤ 2147483647) (h2 : -2147483648 ≤ w ∧ w ≤ 2147483647) (hno : ck_b (0 ≤ k ∧ 0 ≤ w ∧ w ≤ 3) ≠ 0) : ZM l yX9_day wsX9_day ({ frames := 1, cells := 0, slots := 0, locals := 22 } : Room) D ct ad [.ref (b 0), .int (zI k), .int (zI w)] (moW b sc tl cd pl cm h ++ (jrW ct (b 1) 94 M ++ (jrW ct (b 2) 94 SP ++ (jrW ct (b 3) 376 SV ++ (irW ct (b 4) 150 TX ++ (irW ct (b 5) 2 NB)))))) (zD (some (.long (zJ 0))) (moW b sc tl (ck_b (0 ≤ k ∧ 0 ≤ w ∧ w ≤ 3)) pl cm h ++ (jrW ct (b 1) 94 M ++ (jrW ct (b 2) 94 SP ++ (jrW ct (b 3) 376 SV ++ (irW ct (b 4) 150 TX ++ (irW ct (b 5) 2 NB))))))) := by
  refine ZM.of (cc := cX9_day) (maxL := 3) (ret := (some .long)) (by decide +kernel) rfl (Nat.le_of_ble_eq_true rfl) ?_
  intro p e s m below meth c A ls hx hb hr hts hown hlocks hml hname hE hP hD hA hS hl
  have hK := hE.1
  have hf_0 := hts (.fieldLink RX9 42 "RodGridsModel" "code" "I") (by decide +kernel)
  have hin_X9 : ∀ z ∈ u_ws RX9 TX9 11, z ∈ wsX9_day := by decide +kernel
  have hl : lv_has ls 3 [(0, .ref (b 0)), (1, .int (zI k)), (2, .int (zI w))] := hl
  have i3 := hI.1
  have i4 := hI.2.1
  have j0 := hB.1
  have j1 := hB.2.1
  have j2 := hB.2.2.1
  have j4 := hB.2.2.2.2
  have ckb : 0 ≤ ck_b (0 ≤ k ∧ 0 ≤ w ∧ w ≤ 3) ∧ ck_b (0 ≤ k ∧ 0 ≤ w ∧ w ≤ 3) ≤ 3 := by unfold ck_b; (repeat' split) <;> omega
  refine lv_aload_n hx hb dX9_day_0 rfl (lv_at hl 0 rfl) ?_
  refine lv_iload_n hx hb dX9_day_1 rfl (lv_at hl 1 rfl) ?_
  refine z_if_lt (tgt := 18) hx hb dX9_day_2 (by decide) (by omega) (fun hc_2 => ?_) (fun hc_2 => ?_)
  · have hc_2 := hc_2
    refine z_iconst hx hb dX9_day_18 ?_
    refine z_canI (show 1 = ck_b (0 ≤ k ∧ 0 ≤ w ∧ w ≤ 3) from (by unfold ck_b; (repeat' split) <;> omega)) ?_
    refine z_put (ct := ct) (ad := ad) (ci := 7) (v := .int (zI (ck_b (0 ≤ k ∧ 0 ≤ w ∧ w ≤ 3)))) (ty := tyX9 6) (C := RX9) (T := TX9) (N := 11) (w2 := moW b sc tl (ck_b (0 ≤ k ∧ 0 ≤ w ∧ w ≤ 3)) pl cm h ++ (jrW ct (b 1) 94 M ++ (jrW ct (b 2) 94 SP ++ (jrW ct (b 3) 376 SV ++ (irW ct (b 4) 150 TX ++ (irW ct (b 5) 2 NB)))))) hx hb hts hin_X9 tyX9 tyX9_ok nmX9 hown hE hP hD hS 0 rfl rfl 6 (by decide) hf_0 (fun _ h9 => h9) rfl (by decide +kernel) rfl rfl (Nat.le_of_ble_eq_true rfl) dX9_day_19 (rfl) (fun H locs hP hD hS => ?_)
    refine lv_aload_n hx hb dX9_day_22 rfl (lv_at hl 0 rfl) ?_
    refine va_get (D := D) (ci := 7) (v := .int (zI (ck_b (0 ≤ k ∧ 0 ≤ w ∧ w ≤ 3)))) (C := RX9) (T := TX9) (N := 11) hx hb hts hin_X9 hown hK hP 0 rfl rfl 6 (by decide) hf_0 (fun _ h9 => h9) rfl dX9_day_23 ?_
    refine z_if_eq (tgt := 31) hx hb dX9_day_26 (by decide) (by omega) (fun hc_26 => ?_) (fun hc_26 => ?_)
    · have hc_26 := hc_26
      exact absurd hc_26 hno
    · have hc_26 := hc_26
      refine z_lconst (z := 0) hx hb dX9_day_29 rfl ?_
      exact z_lret hx hb hr hlocks hP hD hS ⟨Nat.le_of_ble_eq_true rfl, Nat.le_of_ble_eq_true rfl⟩ dX9_day_30 (⟨congrArg (fun z => some (Value.long (zJ z))) (rfl), rfl⟩)
  · have hc_2 := hc_2
    refine lv_iload_n hx hb dX9_day_5 rfl (lv_at hl 2 rfl) ?_
    refine z_iconst hx hb dX9_day_6 ?_
    refine z_iconst hx hb dX9_day_7 ?_
    refine z_callS (As := [.int (zI w), .int (zI 0), .int (zI 3)]) (rest := [.ref (b 0)]) ([] : va_W) (moW b sc tl cd pl cm h ++ (jrW ct (b 1) 94 M ++ (jrW ct (b 2) 94 SP ++ (jrW ct (b 3) 376 SV ++ (irW ct (b 4) 150 TX ++ (irW ct (b 5) 2 NB)))))) hx hb hml hown hts hl hE hS hA hP hD (c_X9_in l D ct ad w 0 3 (by omega) (by omega) (by omega)) gX9_day_X9_in rfl k_X9_in ⟨Nat.le_of_ble_eq_true rfl, Nat.le_of_ble_eq_true rfl⟩ rfl (Nat.le_of_ble_eq_true rfl) ⟨Nat.le_of_ble_eq_true rfl, Nat.le_of_ble_eq_true rfl⟩ dX9_day_8 rfl (fun v w1 H locs hpost hP hD hS => ?_)
    obtain ⟨rfl, rfl⟩ := hpost
    have hP : va_P D vwCl (moW b sc tl cd pl cm h ++ (jrW ct (b 1) 94 M ++ (jrW ct (b 2) 94 SP ++ (jrW ct (b 3) 376 SV ++ (irW ct (b 4) 150 TX ++ (irW ct (b 5) 2 NB)))))) H := hP
    have hD : va_D A (moW b sc tl cd pl cm h ++ (jrW ct (b 1) 94 M ++ (jrW ct (b 2) 94 SP ++ (jrW ct (b 3) 376 SV ++ (irW ct (b 4) 150 TX ++ (irW ct (b 5) 2 NB)))))) := hD
    refine W.eq (g2 := F0 m 11 ls [.int (zI (zB (0 ≤ w ∧ w ≤ 3))), .ref (b 0)]) rfl ?_
    refine zb_if_eq (tgt := 18) hx hb dX9_day_11 (by decide) (fun hc_11 => ?_) (fun hc_11 => ?_)
    · have hc_11 := hc_11
      refine z_iconst hx hb dX9_day_18 ?_
      refine z_canI (show 1 = ck_b (0 ≤ k ∧ 0 ≤ w ∧ w ≤ 3) from (by unfold ck_b; (repeat' split) <;> omega)) ?_
      refine z_put (ct := ct) (ad := ad) (ci := 7) (v := .int (zI (ck_b (0 ≤ k ∧ 0 ≤ w ∧ w ≤ 3)))) (ty := tyX9 6) (C := RX9) (T := TX9) (N := 11) (w2 := moW b sc tl (ck_b (0 ≤ k ∧ 0 ≤ w ∧ w ≤ 3)) pl cm h ++ (jrW ct (b 1) 94 M ++ (jrW ct (b 2) 94 SP ++ (jrW ct (b 3) 376 SV ++ (irW ct (b 4) 150 TX ++ (irW ct (b 5) 2 NB)))))) hx hb hts hin_X9 tyX9 tyX9_ok nmX9 hown hE hP hD hS 0 rfl rfl 6 (by decide) hf_0 (fun _ h9 => h9) rfl (by decide +kernel) rfl rfl (Nat.le_of_ble_eq_true rfl) dX9_day_19 (rfl) (fun H locs hP hD hS => ?_)
      refine lv_aload_n hx hb dX9_day_22 rfl (lv_at hl 0 rfl) ?_
      refine va_get (D := D) (ci := 7) (v := .int (zI (ck_b (0 ≤ k ∧ 0 ≤ w ∧ w ≤ 3)))) (C := RX9) (T := TX9) (N := 11) hx hb hts hin_X9 hown hK hP 0 rfl rfl 6 (by decide) hf_0 (fun _ h9 => h9) rfl dX9_day_23 ?_
      refine z_if_eq (tgt := 31) hx hb dX9_day_26 (by decide) (by omega) (fun hc_26 => ?_) (fun hc_26 => ?_)
      · have hc_26 := hc_26
        exact absurd hc_26 hno
      · have hc_26 := hc_26
        refine z_lconst (z := 0) hx hb dX9_day_29 rfl ?_
        exact z_lret hx hb hr hlocks hP hD hS ⟨Nat.le_of_ble_eq_true rfl, Nat.le_of_ble_eq_true rfl⟩ dX9_day_30 (⟨congrArg (fun z => some (Value.long (zJ z))) (rfl), rfl⟩)
    · have hc_11 := hc_11
      refine z_iconst hx hb dX9_day_14 ?_
      refine lv_goto (tgt := 19) hx hb dX9_day_15 (by decide) ?_
      exfalso
      have hck : 0 = ck_b (0 ≤ k ∧ 0 ≤ w ∧ w ≤ 3) := by unfold ck_b; (repeat' split) <;> omega
      omega
set_option maxHeartbeats 4000000 in
set_option maxRecDepth 100000 in
theorem c_X9_rateAt_ok (l : Launch) (D : va_G) (ct ad : Nat → Nat) (b : Nat → Nat) (M SP SV TX NB : Int → Int) (sc tl cd pl cm h : Int) (t : Int) (hI : gInv M) (hB : bInv M) (h1 : -2147483648 ≤ t ∧ t ≤ 2147483647) (hok : ck_b (-300 ≤ t ∧ t ≤ 600) = 0) : ZM l yX9_rateAt wsX9_rateAt ({ frames := 4, cells := 0, slots := 0, locals := 93 } : Room) D ct ad [.ref (b 0), .int (zI t)] (moW b sc tl cd pl cm h ++ (jrW ct (b 1) 94 M ++ (jrW ct (b 2) 94 SP ++ (jrW ct (b 3) 376 SV ++ (irW ct (b 4) 150 TX ++ (irW ct (b 5) 2 NB)))))) (zD (some (.int (zI (sp_rt M t)))) (moW b sc tl (ck_b (-300 ≤ t ∧ t ≤ 600)) pl cm h ++ (jrW ct (b 1) 94 M ++ (jrW ct (b 2) 94 SP ++ (jrW ct (b 3) 376 SV ++ (irW ct (b 4) 150 TX ++ (irW ct (b 5) 2 NB))))))) := by
  refine ZM.of (cc := cX9_rateAt) (maxL := 2) (ret := (some .int)) (by decide +kernel) rfl (Nat.le_of_ble_eq_true rfl) ?_
  intro p e s m below meth c A ls hx hb hr hts hown hlocks hml hname hE hP hD hA hS hl
  have hK := hE.1
  have hf_0 := hts (.fieldLink RX9 42 "RodGridsModel" "code" "I") (by decide +kernel)
  have hin_X9 : ∀ z ∈ u_ws RX9 TX9 11, z ∈ wsX9_rateAt := by decide +kernel
  have hl : lv_has ls 2 [(0, .ref (b 0)), (1, .int (zI t))] := hl
  have i3 := hI.1
  have i4 := hI.2.1
  have j0 := hB.1
  have j1 := hB.2.1
  have j2 := hB.2.2.1
  have j4 := hB.2.2.2.2
  have ckb : 0 ≤ ck_b (-300 ≤ t ∧ t ≤ 600) ∧ ck_b (-300 ≤ t ∧ t ≤ 600) ≤ 3 := by unfold ck_b; (repeat' split) <;> omega
  have okf : -300 ≤ t ∧ t ≤ 600 := by unfold ck_b at hok; (repeat' split at hok) <;> omega
  have ql := sp_lenB hI hB okf
  refine lv_aload_n hx hb dX9_rateAt_0 rfl (lv_at hl 0 rfl) ?_
  refine lv_iload_n hx hb dX9_rateAt_1 rfl (lv_at hl 1 rfl) ?_
  refine z_callS (As := [.int (zI t)]) (rest := [.ref (b 0)]) ([] : va_W) (moW b sc tl cd pl cm h ++ (jrW ct (b 1) 94 M ++ (jrW ct (b 2) 94 SP ++ (jrW ct (b 3) 376 SV ++ (irW ct (b 4) 150 TX ++ (irW ct (b 5) 2 NB)))))) hx hb hml hown hts hl hE hS hA hP hD (c_X9_isWarmth l D ct ad t (by omega)) gX9_rateAt_X9_isWarmth rfl k_X9_isWarmth ⟨Nat.le_of_ble_eq_true rfl, Nat.le_of_ble_eq_true rfl⟩ rfl (Nat.le_of_ble_eq_true rfl) ⟨Nat.le_of_ble_eq_true rfl, Nat.le_of_ble_eq_true rfl⟩ dX9_rateAt_2 rfl (fun v w1 H locs hpost hP hD hS => ?_)
  obtain ⟨rfl, rfl⟩ := hpost
  have hP : va_P D vwCl (moW b sc tl cd pl cm h ++ (jrW ct (b 1) 94 M ++ (jrW ct (b 2) 94 SP ++ (jrW ct (b 3) 376 SV ++ (irW ct (b 4) 150 TX ++ (irW ct (b 5) 2 NB)))))) H := hP
  have hD : va_D A (moW b sc tl cd pl cm h ++ (jrW ct (b 1) 94 M ++ (jrW ct (b 2) 94 SP ++ (jrW ct (b 3) 376 SV ++ (irW ct (b 4) 150 TX ++ (irW ct (b 5) 2 NB)))))) := hD
  refine W.eq (g2 := F0 m 5 ls [.int (zI (zB (-300 ≤ t ∧ t ≤ 600))), .ref (b 0)]) rfl ?_
  refine zb_if_eq (tgt := 12) hx hb dX9_rateAt_5 (by decide) (fun hc_5 => ?_) (fun hc_5 => ?_)
  · have hc_5 := hc_5
    refine z_iconst hx hb dX9_rateAt_12 ?_
    exfalso
    have hck : 1 = ck_b (-300 ≤ t ∧ t ≤ 600) := by unfold ck_b; (repeat' split) <;> omega
    omega
  · have hc_5 := hc_5
    refine z_iconst hx hb dX9_rateAt_8 ?_
    refine lv_goto (tgt := 13) hx hb dX9_rateAt_9 (by decide) ?_
    refine z_canI (show 0 = ck_b (-300 ≤ t ∧ t ≤ 600) from (by unfold ck_b; (repeat' split) <;> omega)) ?_
    refine z_put (ct := ct) (ad := ad) (ci := 7) (v := .int (zI (ck_b (-300 ≤ t ∧ t ≤ 600)))) (ty := tyX9 6) (C := RX9) (T := TX9) (N := 11) (w2 := moW b sc tl (ck_b (-300 ≤ t ∧ t ≤ 600)) pl cm h ++ (jrW ct (b 1) 94 M ++ (jrW ct (b 2) 94 SP ++ (jrW ct (b 3) 376 SV ++ (irW ct (b 4) 150 TX ++ (irW ct (b 5) 2 NB)))))) hx hb hts hin_X9 tyX9 tyX9_ok nmX9 hown hE hP hD hS 0 rfl rfl 6 (by decide) hf_0 (fun _ h9 => h9) rfl (by decide +kernel) rfl rfl (Nat.le_of_ble_eq_true rfl) dX9_rateAt_13 (rfl) (fun H locs hP hD hS => ?_)
    refine lv_aload_n hx hb dX9_rateAt_16 rfl (lv_at hl 0 rfl) ?_
    refine va_get (D := D) (ci := 7) (v := .int (zI (ck_b (-300 ≤ t ∧ t ≤ 600)))) (C := RX9) (T := TX9) (N := 11) hx hb hts hin_X9 hown hK hP 0 rfl rfl 6 (by decide) hf_0 (fun _ h9 => h9) rfl dX9_rateAt_17 ?_
    refine z_if_eq (tgt := 27) hx hb dX9_rateAt_20 (by decide) (by omega) (fun hc_20 => ?_) (fun hc_20 => ?_)
    · have hc_20 := hc_20
      refine lv_aload_n hx hb dX9_rateAt_27 rfl (lv_at hl 0 rfl) ?_
      refine lv_aload_n hx hb dX9_rateAt_28 rfl (lv_at hl 0 rfl) ?_
      refine lv_iload_n hx hb dX9_rateAt_29 rfl (lv_at hl 1 rfl) ?_
      refine z_i2l hx hb dX9_rateAt_30 (by omega) ?_
      refine z_callV (C := RX9) (q0 := 0) (ci := 7) (As := [.long (zJ t)]) (rest := [.ref (b 0)]) ([] : va_W) ([] : va_W) hx hb hml hown hts hl hE hS hA (zr0 ([] : va_W) hP) (zr0D ([] : va_W) hD) (c_X9_lengthAt l D ct ad b M SP SV TX NB sc tl (ck_b (-300 ≤ t ∧ t ≤ 600)) pl cm h t (by assumption) (by assumption) (by omega)) gX9_rateAt_X9_lengthAt rfl rfl k_X9_lengthAt ⟨Nat.le_of_ble_eq_true rfl, Nat.le_of_ble_eq_true rfl⟩ rfl rfl rfl rfl (Nat.le_of_ble_eq_true rfl) ⟨Nat.le_of_ble_eq_true rfl, Nat.le_of_ble_eq_true rfl⟩ dX9_rateAt_31 rfl (fun v w1 H locs hpost hP hD hS => ?_)
      obtain ⟨rfl, rfl⟩ := hpost
      have hP := zr0' hP
      have hD := zr0D' hD
      have hP : va_P D vwCl (moW b sc tl (ck_b (-300 ≤ t ∧ t ≤ 600)) pl cm h ++ (jrW ct (b 1) 94 M ++ (jrW ct (b 2) 94 SP ++ (jrW ct (b 3) 376 SV ++ (irW ct (b 4) 150 TX ++ (irW ct (b 5) 2 NB)))))) H := hP
      have hD : va_D A (moW b sc tl (ck_b (-300 ≤ t ∧ t ≤ 600)) pl cm h ++ (jrW ct (b 1) 94 M ++ (jrW ct (b 2) 94 SP ++ (jrW ct (b 3) 376 SV ++ (irW ct (b 4) 150 TX ++ (irW ct (b 5) 2 NB)))))) := hD
      refine W.eq (g2 := F0 m 34 ls [.long (zJ (sp_len M t)), .ref (b 0)]) rfl ?_
      refine z_callV (C := RX9) (q0 := 0) (ci := 7) (As := [.long (zJ (sp_len M t))]) (rest := []) ([] : va_W) ([] : va_W) hx hb hml hown hts hl hE hS hA (zr0 ([] : va_W) hP) (zr0D ([] : va_W) hD) (c_X9_rateBy l D ct ad b M SP SV TX NB sc tl (ck_b (-300 ≤ t ∧ t ≤ 600)) pl cm h (sp_len M t) (by assumption) (by assumption) (by omega)) gX9_rateAt_X9_rateBy rfl rfl k_X9_rateBy ⟨Nat.le_of_ble_eq_true rfl, Nat.le_of_ble_eq_true rfl⟩ rfl rfl rfl rfl (Nat.le_of_ble_eq_true rfl) ⟨Nat.le_of_ble_eq_true rfl, Nat.le_of_ble_eq_true rfl⟩ dX9_rateAt_34 rfl (fun v w1 H locs hpost hP hD hS => ?_)
      obtain ⟨rfl, rfl⟩ := hpost
      have hP := zr0' hP
      have hD := zr0D' hD
      have hP : va_P D vwCl (moW b sc tl (ck_b (-300 ≤ t ∧ t ≤ 600)) pl cm h ++ (jrW ct (b 1) 94 M ++ (jrW ct (b 2) 94 SP ++ (jrW ct (b 3) 376 SV ++ (irW ct (b 4) 150 TX ++ (irW ct (b 5) 2 NB)))))) H := hP
      have hD : va_D A (moW b sc tl (ck_b (-300 ≤ t ∧ t ≤ 600)) pl cm h ++ (jrW ct (b 1) 94 M ++ (jrW ct (b 2) 94 SP ++ (jrW ct (b 3) 376 SV ++ (irW ct (b 4) 150 TX ++ (irW ct (b 5) 2 NB)))))) := hD
      refine W.eq (g2 := F0 m 37 ls [.long (zJ (sp_rate M (sp_len M t) (M 8)))]) rfl ?_
      refine z_l2i hx hb dX9_rateAt_37 ?_
      exact z_iret hx hb hr hlocks hP hD hS ⟨Nat.le_of_ble_eq_true rfl, Nat.le_of_ble_eq_true rfl⟩ dX9_rateAt_38 (⟨congrArg (fun z => some (Value.int (zI z))) (rfl), rfl⟩)
    · have hc_20 := hc_20
      exact absurd hok hc_20
set_option maxHeartbeats 4000000 in
set_option maxRecDepth 100000 in
theorem c_X9_rateAt_no (l : Launch) (D : va_G) (ct ad : Nat → Nat) (b : Nat → Nat) (M SP SV TX NB : Int → Int) (sc tl cd pl cm h : Int) (t : Int) (hI : gInv M) (hB : bInv M) (h1 : -2147483648 ≤ t ∧ t ≤ 2147483647) (hno : ck_b (-300 ≤ t ∧ t ≤ 600) ≠ 0) : ZM l yX9_rateAt wsX9_rateAt ({ frames := 2, cells := 0, slots := 0, locals := 42 } : Room) D ct ad [.ref (b 0), .int (zI t)] (moW b sc tl cd pl cm h ++ (jrW ct (b 1) 94 M ++ (jrW ct (b 2) 94 SP ++ (jrW ct (b 3) 376 SV ++ (irW ct (b 4) 150 TX ++ (irW ct (b 5) 2 NB)))))) (zD (some (.int (zI 0))) (moW b sc tl (ck_b (-300 ≤ t ∧ t ≤ 600)) pl cm h ++ (jrW ct (b 1) 94 M ++ (jrW ct (b 2) 94 SP ++ (jrW ct (b 3) 376 SV ++ (irW ct (b 4) 150 TX ++ (irW ct (b 5) 2 NB))))))) := by
  refine ZM.of (cc := cX9_rateAt) (maxL := 2) (ret := (some .int)) (by decide +kernel) rfl (Nat.le_of_ble_eq_true rfl) ?_
  intro p e s m below meth c A ls hx hb hr hts hown hlocks hml hname hE hP hD hA hS hl
  have hK := hE.1
  have hf_0 := hts (.fieldLink RX9 42 "RodGridsModel" "code" "I") (by decide +kernel)
  have hin_X9 : ∀ z ∈ u_ws RX9 TX9 11, z ∈ wsX9_rateAt := by decide +kernel
  have hl : lv_has ls 2 [(0, .ref (b 0)), (1, .int (zI t))] := hl
  have i3 := hI.1
  have i4 := hI.2.1
  have j0 := hB.1
  have j1 := hB.2.1
  have j2 := hB.2.2.1
  have j4 := hB.2.2.2.2
  have ckb : 0 ≤ ck_b (-300 ≤ t ∧ t ≤ 600) ∧ ck_b (-300 ≤ t ∧ t ≤ 600) ≤ 3 := by unfold ck_b; (repeat' split) <;> omega
  refine lv_aload_n hx hb dX9_rateAt_0 rfl (lv_at hl 0 rfl) ?_
  refine lv_iload_n hx hb dX9_rateAt_1 rfl (lv_at hl 1 rfl) ?_
  refine z_callS (As := [.int (zI t)]) (rest := [.ref (b 0)]) ([] : va_W) (moW b sc tl cd pl cm h ++ (jrW ct (b 1) 94 M ++ (jrW ct (b 2) 94 SP ++ (jrW ct (b 3) 376 SV ++ (irW ct (b 4) 150 TX ++ (irW ct (b 5) 2 NB)))))) hx hb hml hown hts hl hE hS hA hP hD (c_X9_isWarmth l D ct ad t (by omega)) gX9_rateAt_X9_isWarmth rfl k_X9_isWarmth ⟨Nat.le_of_ble_eq_true rfl, Nat.le_of_ble_eq_true rfl⟩ rfl (Nat.le_of_ble_eq_true rfl) ⟨Nat.le_of_ble_eq_true rfl, Nat.le_of_ble_eq_true rfl⟩ dX9_rateAt_2 rfl (fun v w1 H locs hpost hP hD hS => ?_)
  obtain ⟨rfl, rfl⟩ := hpost
  have hP : va_P D vwCl (moW b sc tl cd pl cm h ++ (jrW ct (b 1) 94 M ++ (jrW ct (b 2) 94 SP ++ (jrW ct (b 3) 376 SV ++ (irW ct (b 4) 150 TX ++ (irW ct (b 5) 2 NB)))))) H := hP
  have hD : va_D A (moW b sc tl cd pl cm h ++ (jrW ct (b 1) 94 M ++ (jrW ct (b 2) 94 SP ++ (jrW ct (b 3) 376 SV ++ (irW ct (b 4) 150 TX ++ (irW ct (b 5) 2 NB)))))) := hD
  refine W.eq (g2 := F0 m 5 ls [.int (zI (zB (-300 ≤ t ∧ t ≤ 600))), .ref (b 0)]) rfl ?_
  refine zb_if_eq (tgt := 12) hx hb dX9_rateAt_5 (by decide) (fun hc_5 => ?_) (fun hc_5 => ?_)
  · have hc_5 := hc_5
    refine z_iconst hx hb dX9_rateAt_12 ?_
    refine z_canI (show 1 = ck_b (-300 ≤ t ∧ t ≤ 600) from (by unfold ck_b; (repeat' split) <;> omega)) ?_
    refine z_put (ct := ct) (ad := ad) (ci := 7) (v := .int (zI (ck_b (-300 ≤ t ∧ t ≤ 600)))) (ty := tyX9 6) (C := RX9) (T := TX9) (N := 11) (w2 := moW b sc tl (ck_b (-300 ≤ t ∧ t ≤ 600)) pl cm h ++ (jrW ct (b 1) 94 M ++ (jrW ct (b 2) 94 SP ++ (jrW ct (b 3) 376 SV ++ (irW ct (b 4) 150 TX ++ (irW ct (b 5) 2 NB)))))) hx hb hts hin_X9 tyX9 tyX9_ok nmX9 hown hE hP hD hS 0 rfl rfl 6 (by decide) hf_0 (fun _ h9 => h9) rfl (by decide +kernel) rfl rfl (Nat.le_of_ble_eq_true rfl) dX9_rateAt_13 (rfl) (fun H locs hP hD hS => ?_)
    refine lv_aload_n hx hb dX9_rateAt_16 rfl (lv_at hl 0 rfl) ?_
    refine va_get (D := D) (ci := 7) (v := .int (zI (ck_b (-300 ≤ t ∧ t ≤ 600)))) (C := RX9) (T := TX9) (N := 11) hx hb hts hin_X9 hown hK hP 0 rfl rfl 6 (by decide) hf_0 (fun _ h9 => h9) rfl dX9_rateAt_17 ?_
    refine z_if_eq (tgt := 27) hx hb dX9_rateAt_20 (by decide) (by omega) (fun hc_20 => ?_) (fun hc_20 => ?_)
    · have hc_20 := hc_20
      exact absurd hc_20 hno
    · have hc_20 := hc_20
      refine z_iconst hx hb dX9_rateAt_23 ?_
      refine lv_goto (tgt := 38) hx hb dX9_rateAt_24 (by decide) ?_
      exact z_iret hx hb hr hlocks hP hD hS ⟨Nat.le_of_ble_eq_true rfl, Nat.le_of_ble_eq_true rfl⟩ dX9_rateAt_38 (⟨congrArg (fun z => some (Value.int (zI z))) (rfl), rfl⟩)
  · have hc_5 := hc_5
    refine z_iconst hx hb dX9_rateAt_8 ?_
    refine lv_goto (tgt := 13) hx hb dX9_rateAt_9 (by decide) ?_
    exfalso
    have hck : 0 = ck_b (-300 ≤ t ∧ t ≤ 600) := by unfold ck_b; (repeat' split) <;> omega
    omega
theorem k_X9_balanceNow : yX9_balanceNow.cls ≠ "java/lang/invoke/MethodHandle" ∧ yX9_balanceNow.cls ≠ "java/lang/invoke/VarHandle" ∧ (parseMethodDescriptor yX9_balanceNow.desc).map (fun d => d.parameters.length) = some 0 := by decide +kernel
set_option maxHeartbeats 4000000 in
set_option maxRecDepth 100000 in
theorem c_X9_matchLength_ok (l : Launch) (D : va_G) (ct ad : Nat → Nat) (b : Nat → Nat) (M SP SV TX NB : Int → Int) (sc tl cd pl cm h : Int) (r : Int) (hI : gInv M) (h1 : -2147483648 ≤ r ∧ r ≤ 2147483647) (hok : ck_b (0 ≤ r ∧ r < M 4) = 0) : ZM l yX9_matchLength wsX9_matchLength ({ frames := 3, cells := 0, slots := 0, locals := 65 } : Room) D ct ad [.ref (b 0), .int (zI r)] (moW b sc tl cd pl cm h ++ (jrW ct (b 1) 94 M ++ (jrW ct (b 2) 94 SP ++ (jrW ct (b 3) 376 SV ++ (irW ct (b 4) 150 TX ++ (irW ct (b 5) 2 NB)))))) (zD (some (.int (zI (sp_match M r)))) (moW b sc tl (ck_b (0 ≤ r ∧ r < M 4)) pl cm h ++ (jrW ct (b 1) 94 M ++ (jrW ct (b 2) 94 SP ++ (jrW ct (b 3) 376 SV ++ (irW ct (b 4) 150 TX ++ (irW ct (b 5) 2 NB))))))) := by
  refine ZM.of (cc := cX9_matchLength) (maxL := 10) (ret := (some .int)) (by decide +kernel) rfl (Nat.le_of_ble_eq_true rfl) ?_
  intro p e s m below meth c A ls hx hb hr hts hown hlocks hml hname hE hP hD hA hS hl
  have hK := hE.1
  have hf_0 := hts (.fieldLink RX9 42 "RodGridsModel" "code" "I") (by decide +kernel)
  have hf_1 := hts (.fieldLink RX9 7 "RodGridsModel" "m" "[J") (by decide +kernel)
  have hf_2 := hts (.constantLong RX9 222 (1000000)) (by decide +kernel)
  have hin_X9 : ∀ z ∈ u_ws RX9 TX9 11, z ∈ wsX9_matchLength := by decide +kernel
  have hl : lv_has ls 10 [(0, .ref (b 0)), (1, .int (zI r))] := hl
  have i3 := hI.1
  have i4 := hI.2.1
  have ckb : 0 ≤ ck_b (0 ≤ r ∧ r < M 4) ∧ ck_b (0 ≤ r ∧ r < M 4) ≤ 3 := by unfold ck_b; (repeat' split) <;> omega
  have okf : 0 ≤ r ∧ r < M 4 := by unfold ck_b at hok; (repeat' split at hok) <;> omega
  have qr := hI.2.2.2.1 r (by omega) (by omega)
  have q2 := hI.2.2.1 (M (22 + 3 * r)) (by omega) (by omega)
  have bB := sp_balB hI (M 4).toNat (by omega)
  have bB : -5000000000 ≤ sp_bal M ∧ sp_bal M ≤ 5000000000 := by unfold sp_bal; omega
  have b1B := sp_bal1B (r := r) hI (by omega)
  have aB := mulB (a := M (23 + 3 * r)) (b := M (16 + M (22 + 3 * r))) (A := 1) (B := 500) (by omega) (by omega)
  have mz : ∀ c : Int, 1 ≤ c ∧ c ≤ 1000000 → -(500 * 1000000) ≤ (M (23 + 3 * r) * M (16 + M (22 + 3 * r))) * c ∧ (M (23 + 3 * r) * M (16 + M (22 + 3 * r))) * c ≤ 500 * 1000000 := fun c hc => mulB (by omega) (by omega)
  refine lv_aload_n hx hb dX9_matchLength_0 rfl (lv_at hl 0 rfl) ?_
  refine lv_aload_n hx hb dX9_matchLength_1 rfl (lv_at hl 0 rfl) ?_
  refine lv_iload_n hx hb dX9_matchLength_2 rfl (lv_at hl 1 rfl) ?_
  refine z_callV (C := RX9) (q0 := 0) (ci := 7) (As := [.int (zI r)]) (rest := [.ref (b 0)]) ([] : va_W) ([] : va_W) hx hb hml hown hts hl hE hS hA (zr0 ([] : va_W) hP) (zr0D ([] : va_W) hD) (c_X9_isRod l D ct ad b M SP SV TX NB sc tl cd pl cm h r (by assumption) (by omega)) gX9_matchLength_X9_isRod rfl rfl k_X9_isRod ⟨Nat.le_of_ble_eq_true rfl, Nat.le_of_ble_eq_true rfl⟩ rfl rfl rfl rfl (Nat.le_of_ble_eq_true rfl) ⟨Nat.le_of_ble_eq_true rfl, Nat.le_of_ble_eq_true rfl⟩ dX9_matchLength_3 rfl (fun v w1 H locs hpost hP hD hS => ?_)
  obtain ⟨rfl, rfl⟩ := hpost
  have hP := zr0' hP
  have hD := zr0D' hD
  have hP : va_P D vwCl (moW b sc tl cd pl cm h ++ (jrW ct (b 1) 94 M ++ (jrW ct (b 2) 94 SP ++ (jrW ct (b 3) 376 SV ++ (irW ct (b 4) 150 TX ++ (irW ct (b 5) 2 NB)))))) H := hP
  have hD : va_D A (moW b sc tl cd pl cm h ++ (jrW ct (b 1) 94 M ++ (jrW ct (b 2) 94 SP ++ (jrW ct (b 3) 376 SV ++ (irW ct (b 4) 150 TX ++ (irW ct (b 5) 2 NB)))))) := hD
  refine W.eq (g2 := F0 m 6 ls [.int (zI (zB (0 ≤ r ∧ r < M 4))), .ref (b 0)]) rfl ?_
  refine zb_if_eq (tgt := 13) hx hb dX9_matchLength_6 (by decide) (fun hc_6 => ?_) (fun hc_6 => ?_)
  · have hc_6 := hc_6
    refine z_iconst hx hb dX9_matchLength_13 ?_
    exfalso
    have hck : 1 = ck_b (0 ≤ r ∧ r < M 4) := by unfold ck_b; (repeat' split) <;> omega
    omega
  · have hc_6 := hc_6
    refine z_iconst hx hb dX9_matchLength_9 ?_
    refine lv_goto (tgt := 14) hx hb dX9_matchLength_10 (by decide) ?_
    refine z_canI (show 0 = ck_b (0 ≤ r ∧ r < M 4) from (by unfold ck_b; (repeat' split) <;> omega)) ?_
    refine z_put (ct := ct) (ad := ad) (ci := 7) (v := .int (zI (ck_b (0 ≤ r ∧ r < M 4)))) (ty := tyX9 6) (C := RX9) (T := TX9) (N := 11) (w2 := moW b sc tl (ck_b (0 ≤ r ∧ r < M 4)) pl cm h ++ (jrW ct (b 1) 94 M ++ (jrW ct (b 2) 94 SP ++ (jrW ct (b 3) 376 SV ++ (irW ct (b 4) 150 TX ++ (irW ct (b 5) 2 NB)))))) hx hb hts hin_X9 tyX9 tyX9_ok nmX9 hown hE hP hD hS 0 rfl rfl 6 (by decide) hf_0 (fun _ h9 => h9) rfl (by decide +kernel) rfl rfl (Nat.le_of_ble_eq_true rfl) dX9_matchLength_14 (rfl) (fun H locs hP hD hS => ?_)
    refine lv_aload_n hx hb dX9_matchLength_17 rfl (lv_at hl 0 rfl) ?_
    refine va_get (D := D) (ci := 7) (v := .int (zI (ck_b (0 ≤ r ∧ r < M 4)))) (C := RX9) (T := TX9) (N := 11) hx hb hts hin_X9 hown hK hP 0 rfl rfl 6 (by decide) hf_0 (fun _ h9 => h9) rfl dX9_matchLength_18 ?_
    refine z_if_eq (tgt := 26) hx hb dX9_matchLength_21 (by decide) (by omega) (fun hc_21 => ?_) (fun hc_21 => ?_)
    · have hc_21 := hc_21
      refine lv_aload_n hx hb dX9_matchLength_26 rfl (lv_at hl 0 rfl) ?_
      refine z_callV (C := RX9) (q0 := 0) (ci := 7) (As := []) (rest := []) ([] : va_W) ([] : va_W) hx hb hml hown hts hl hE hS hA (zr0 ([] : va_W) hP) (zr0D ([] : va_W) hD) (c_X9_balanceNow l D ct ad b M SP SV TX NB sc tl (ck_b (0 ≤ r ∧ r < M 4)) pl cm h (by assumption)) gX9_matchLength_X9_balanceNow rfl rfl k_X9_balanceNow ⟨Nat.le_of_ble_eq_true rfl, Nat.le_of_ble_eq_true rfl⟩ rfl rfl rfl rfl (Nat.le_of_ble_eq_true rfl) ⟨Nat.le_of_ble_eq_true rfl, Nat.le_of_ble_eq_true rfl⟩ dX9_matchLength_27 rfl (fun v w1 H locs hpost hP hD hS => ?_)
      obtain ⟨rfl, rfl⟩ := hpost
      have hP := zr0' hP
      have hD := zr0D' hD
      have hP : va_P D vwCl (moW b sc tl (ck_b (0 ≤ r ∧ r < M 4)) pl cm h ++ (jrW ct (b 1) 94 M ++ (jrW ct (b 2) 94 SP ++ (jrW ct (b 3) 376 SV ++ (irW ct (b 4) 150 TX ++ (irW ct (b 5) 2 NB)))))) H := hP
      have hD : va_D A (moW b sc tl (ck_b (0 ≤ r ∧ r < M 4)) pl cm h ++ (jrW ct (b 1) 94 M ++ (jrW ct (b 2) 94 SP ++ (jrW ct (b 3) 376 SV ++ (irW ct (b 4) 150 TX ++ (irW ct (b 5) 2 NB)))))) := hD
      refine W.eq (g2 := F0 m 30 ls [.long (zJ (sp_bal M))]) rfl ?_
      refine lv_aload_n hx hb dX9_matchLength_30 rfl (lv_at hl 0 rfl) ?_
      refine lv_iload_n hx hb dX9_matchLength_31 rfl (lv_at hl 1 rfl) ?_
      refine z_callV (C := RX9) (q0 := 0) (ci := 7) (As := [.int (zI r)]) (rest := [.long (zJ (sp_bal M))]) ([] : va_W) ([] : va_W) hx hb hml hown hts hl hE hS hA (zr0 ([] : va_W) hP) (zr0D ([] : va_W) hD) (c_X9_weight l D ct ad b M SP SV TX NB sc tl (ck_b (0 ≤ r ∧ r < M 4)) pl cm h r (by assumption) (by omega)) gX9_matchLength_X9_weight rfl rfl k_X9_weight ⟨Nat.le_of_ble_eq_true rfl, Nat.le_of_ble_eq_true rfl⟩ rfl rfl rfl rfl (Nat.le_of_ble_eq_true rfl) ⟨Nat.le_of_ble_eq_true rfl, Nat.le_of_ble_eq_true rfl⟩ dX9_matchLength_32 rfl (fun v w1 H locs hpost hP hD hS => ?_)
      obtain ⟨rfl, rfl⟩ := hpost
      have hP := zr0' hP
      have hD := zr0D' hD
      have hP : va_P D vwCl (moW b sc tl (ck_b (0 ≤ r ∧ r < M 4)) pl cm h ++ (jrW ct (b 1) 94 M ++ (jrW ct (b 2) 94 SP ++ (jrW ct (b 3) 376 SV ++ (irW ct (b 4) 150 TX ++ (irW ct (b 5) 2 NB)))))) H := hP
      have hD : va_D A (moW b sc tl (ck_b (0 ≤ r ∧ r < M 4)) pl cm h ++ (jrW ct (b 1) 94 M ++ (jrW ct (b 2) 94 SP ++ (jrW ct (b 3) 376 SV ++ (irW ct (b 4) 150 TX ++ (irW ct (b 5) 2 NB)))))) := hD
      refine W.eq (g2 := F0 m 35 ls [.long (zJ (sp_bal1 M r)), .long (zJ (sp_bal M))]) rfl ?_
      refine z_lsub hx hb dX9_matchLength_35 ?_
      refine lv_lstore_n (lv' := [(2, .long (zJ ((sp_bal M) - (sp_bal1 M r)))), (0, .ref (b 0)), (1, .int (zI r))]) hx hb dX9_matchLength_36 rfl hl (by decide) rfl (fun ls hl => ?_)
      refine lv_aload_n hx hb dX9_matchLength_37 rfl (lv_at hl 1 rfl) ?_
      refine va_get (D := D) (ci := 7) (v := .ref (b 1)) (C := RX9) (T := TX9) (N := 11) hx hb hts hin_X9 hown hK hP 0 rfl rfl 0 (by decide) hf_1 (fun _ h9 => h9) rfl dX9_matchLength_38 ?_
      refine z_bipush hx hb dX9_matchLength_41 (by decide) ?_
      refine z_iconst hx hb dX9_matchLength_43 ?_
      refine lv_iload_n hx hb dX9_matchLength_44 rfl (lv_at hl 2 rfl) ?_
      refine z_imul hx hb dX9_matchLength_45 ?_
      refine z_iadd hx hb dX9_matchLength_46 ?_
      refine z_iconst hx hb dX9_matchLength_47 ?_
      refine z_iadd hx hb dX9_matchLength_48 ?_
      refine z_canI (show (22 + (3 * r)) + 1 = 23 + 3 * r from (by omega)) ?_
      refine z_lald (g := M) (v := M (23 + 3 * r)) hx hb hK hP 1 rfl (by decide) (by omega) rfl dX9_matchLength_49 ?_
      refine lv_aload_n hx hb dX9_matchLength_50 rfl (lv_at hl 1 rfl) ?_
      refine va_get (D := D) (ci := 7) (v := .ref (b 1)) (C := RX9) (T := TX9) (N := 11) hx hb hts hin_X9 hown hK hP 0 rfl rfl 0 (by decide) hf_1 (fun _ h9 => h9) rfl dX9_matchLength_51 ?_
      refine z_bipush hx hb dX9_matchLength_54 (by decide) ?_
      refine lv_aload_n hx hb dX9_matchLength_56 rfl (lv_at hl 1 rfl) ?_
      refine z_bipush hx hb dX9_matchLength_57 (by decide) ?_
      refine z_iconst hx hb dX9_matchLength_59 ?_
      refine lv_iload_n hx hb dX9_matchLength_60 rfl (lv_at hl 2 rfl) ?_
      refine z_imul hx hb dX9_matchLength_61 ?_
      refine z_iadd hx hb dX9_matchLength_62 ?_
      refine z_callV (C := RX9) (q0 := 0) (ci := 7) (As := [.int (zI (22 + (3 * r)))]) (rest := [.int (zI 16), .ref (b 1), .long (zJ (M (23 + 3 * r)))]) ([] : va_W) ([] : va_W) hx hb hml hown hts hl hE hS hA (zr0 ([] : va_W) hP) (zr0D ([] : va_W) hD) (c_X9_of l D ct ad b M SP SV TX NB sc tl (ck_b (0 ≤ r ∧ r < M 4)) pl cm h (22 + (3 * r)) (by omega)) gX9_matchLength_X9_of rfl rfl k_X9_of ⟨Nat.le_of_ble_eq_true rfl, Nat.le_of_ble_eq_true rfl⟩ rfl rfl rfl rfl (Nat.le_of_ble_eq_true rfl) ⟨Nat.le_of_ble_eq_true rfl, Nat.le_of_ble_eq_true rfl⟩ dX9_matchLength_63 rfl (fun v w1 H locs hpost hP hD hS => ?_)
      obtain ⟨rfl, rfl⟩ := hpost
      have hP := zr0' hP
      have hD := zr0D' hD
      have hP : va_P D vwCl (moW b sc tl (ck_b (0 ≤ r ∧ r < M 4)) pl cm h ++ (jrW ct (b 1) 94 M ++ (jrW ct (b 2) 94 SP ++ (jrW ct (b 3) 376 SV ++ (irW ct (b 4) 150 TX ++ (irW ct (b 5) 2 NB)))))) H := hP
      have hD : va_D A (moW b sc tl (ck_b (0 ≤ r ∧ r < M 4)) pl cm h ++ (jrW ct (b 1) 94 M ++ (jrW ct (b 2) 94 SP ++ (jrW ct (b 3) 376 SV ++ (irW ct (b 4) 150 TX ++ (irW ct (b 5) 2 NB)))))) := hD
      refine W.eq (g2 := F0 m 66 ls [.int (zI (M (22 + (3 * r)))), .int (zI 16), .ref (b 1), .long (zJ (M (23 + 3 * r)))]) rfl ?_
      refine z_iadd hx hb dX9_matchLength_66 ?_
      refine z_lald (g := M) (v := M (16 + (M (22 + (3 * r))))) hx hb hK hP 1 rfl (by decide) (by omega) rfl dX9_matchLength_67 ?_
      refine z_lmul hx hb dX9_matchLength_68 ?_
      refine lv_lstore (lv' := [(4, .long (zJ ((M (23 + 3 * r)) * (M (16 + (M (22 + (3 * r)))))))), (2, .long (zJ ((sp_bal M) - (sp_bal1 M r)))), (0, .ref (b 0)), (1, .int (zI r))]) hx hb dX9_matchLength_69 hl (by decide) rfl (fun ls hl => ?_)
      refine lv_lload hx hb dX9_matchLength_71 (lv_at hl 0 rfl) ?_
      refine z_lconst (z := 0) hx hb dX9_matchLength_73 rfl ?_
      refine z_lcmp_ne (tgt := 80) hx hb dX9_matchLength_74 dX9_matchLength_75 (by decide) (by omega) (by omega) (fun hc_74 => ?_) (fun hc_74 => ?_)
      · have hc_74 := hc_74
        refine lv_lload hx hb dX9_matchLength_80 (lv_at hl 0 rfl) ?_
        refine z_lconst (z := 0) hx hb dX9_matchLength_82 rfl ?_
        refine z_lcmp_le (tgt := 97) hx hb dX9_matchLength_83 dX9_matchLength_84 (by decide) (by omega) (by omega) (fun hc_83 => ?_) (fun hc_83 => ?_)
        · have hc_83 := hc_83
          refine lv_lload_n hx hb dX9_matchLength_97 rfl (lv_at hl 1 rfl) ?_
          refine lv_lload hx hb dX9_matchLength_98 (lv_at hl 0 rfl) ?_
          refine z_lneg hx hb dX9_matchLength_100 ?_
          have dv := divC (a := (sp_bal M - sp_bal1 M r)) (b := -(M (23 + 3 * r) * M (16 + M (22 + 3 * r)))) (by omega) (by omega)
          refine z_callS (As := [.long (zJ ((sp_bal M) - (sp_bal1 M r))), .long (zJ (-((M (23 + 3 * r)) * (M (16 + (M (22 + (3 * r))))))))]) (rest := []) ([] : va_W) (moW b sc tl (ck_b (0 ≤ r ∧ r < M 4)) pl cm h ++ (jrW ct (b 1) 94 M ++ (jrW ct (b 2) 94 SP ++ (jrW ct (b 3) 376 SV ++ (irW ct (b 4) 150 TX ++ (irW ct (b 5) 2 NB)))))) hx hb hml hown hts hl hE hS hA hP hD (c_X9_floor l D ct ad ((sp_bal M) - (sp_bal1 M r)) (-((M (23 + 3 * r)) * (M (16 + (M (22 + (3 * r))))))) (by omega) (by omega)) gX9_matchLength_X9_floor rfl k_X9_floor ⟨Nat.le_of_ble_eq_true rfl, Nat.le_of_ble_eq_true rfl⟩ rfl (Nat.le_of_ble_eq_true rfl) ⟨Nat.le_of_ble_eq_true rfl, Nat.le_of_ble_eq_true rfl⟩ dX9_matchLength_101 rfl (fun v w1 H locs hpost hP hD hS => ?_)
          obtain ⟨rfl, rfl⟩ := hpost
          have hP : va_P D vwCl (moW b sc tl (ck_b (0 ≤ r ∧ r < M 4)) pl cm h ++ (jrW ct (b 1) 94 M ++ (jrW ct (b 2) 94 SP ++ (jrW ct (b 3) 376 SV ++ (irW ct (b 4) 150 TX ++ (irW ct (b 5) 2 NB)))))) H := hP
          have hD : va_D A (moW b sc tl (ck_b (0 ≤ r ∧ r < M 4)) pl cm h ++ (jrW ct (b 1) 94 M ++ (jrW ct (b 2) 94 SP ++ (jrW ct (b 3) 376 SV ++ (irW ct (b 4) 150 TX ++ (irW ct (b 5) 2 NB)))))) := hD
          refine W.eq (g2 := F0 m 104 ls [.long (zJ (((sp_bal M) - (sp_bal1 M r)) / (-((M (23 + 3 * r)) * (M (16 + (M (22 + (3 * r)))))))))]) rfl ?_
          refine z_lconst (z := 1) hx hb dX9_matchLength_104 rfl ?_
          refine z_ldc2 hx hb 1000000 hown hf_2 (by decide) dX9_matchLength_105 ?_
          refine z_callS (As := [.long (zJ (((sp_bal M) - (sp_bal1 M r)) / (-((M (23 + 3 * r)) * (M (16 + (M (22 + (3 * r))))))))), .long (zJ 1), .long (zJ 1000000)]) (rest := []) ([] : va_W) (moW b sc tl (ck_b (0 ≤ r ∧ r < M 4)) pl cm h ++ (jrW ct (b 1) 94 M ++ (jrW ct (b 2) 94 SP ++ (jrW ct (b 3) 376 SV ++ (irW ct (b 4) 150 TX ++ (irW ct (b 5) 2 NB)))))) hx hb hml hown hts hl hE hS hA hP hD (c_X9_within l D ct ad (((sp_bal M) - (sp_bal1 M r)) / (-((M (23 + 3 * r)) * (M (16 + (M (22 + (3 * r)))))))) 1 1000000 (by omega) (by omega) (by omega) (by omega)) gX9_matchLength_X9_within rfl k_X9_within ⟨Nat.le_of_ble_eq_true rfl, Nat.le_of_ble_eq_true rfl⟩ rfl (Nat.le_of_ble_eq_true rfl) ⟨Nat.le_of_ble_eq_true rfl, Nat.le_of_ble_eq_true rfl⟩ dX9_matchLength_108 rfl (fun v w1 H locs hpost hP hD hS => ?_)
          obtain ⟨rfl, rfl⟩ := hpost
          have hP : va_P D vwCl (moW b sc tl (ck_b (0 ≤ r ∧ r < M 4)) pl cm h ++ (jrW ct (b 1) 94 M ++ (jrW ct (b 2) 94 SP ++ (jrW ct (b 3) 376 SV ++ (irW ct (b 4) 150 TX ++ (irW ct (b 5) 2 NB)))))) H := hP
          have hD : va_D A (moW b sc tl (ck_b (0 ≤ r ∧ r < M 4)) pl cm h ++ (jrW ct (b 1) 94 M ++ (jrW ct (b 2) 94 SP ++ (jrW ct (b 3) 376 SV ++ (irW ct (b 4) 150 TX ++ (irW ct (b 5) 2 NB)))))) := hD
          refine W.eq (g2 := F0 m 111 ls [.long (zJ (max 1 (min 1000000 (((sp_bal M) - (sp_bal1 M r)) / (-((M (23 + 3 * r)) * (M (16 + (M (22 + (3 * r)))))))))))]) rfl ?_
          refine lv_lstore (lv' := [(6, .long (zJ (max 1 (min 1000000 (((sp_bal M) - (sp_bal1 M r)) / (-((M (23 + 3 * r)) * (M (16 + (M (22 + (3 * r)))))))))))), (4, .long (zJ ((M (23 + 3 * r)) * (M (16 + (M (22 + (3 * r)))))))), (2, .long (zJ ((sp_bal M) - (sp_bal1 M r)))), (0, .ref (b 0)), (1, .int (zI r))]) hx hb dX9_matchLength_111 hl (by decide) rfl (fun ls hl => ?_)
          refine lv_lload hx hb dX9_matchLength_113 (lv_at hl 0 rfl) ?_
          refine z_lconst (z := 1) hx hb dX9_matchLength_115 rfl ?_
          refine z_ladd hx hb dX9_matchLength_116 ?_
          refine z_lconst (z := 1) hx hb dX9_matchLength_117 rfl ?_
          refine z_ldc2 hx hb 1000000 hown hf_2 (by decide) dX9_matchLength_118 ?_
          refine z_callS (As := [.long (zJ ((max 1 (min 1000000 (((sp_bal M) - (sp_bal1 M r)) / (-((M (23 + 3 * r)) * (M (16 + (M (22 + (3 * r)))))))))) + 1)), .long (zJ 1), .long (zJ 1000000)]) (rest := []) ([] : va_W) (moW b sc tl (ck_b (0 ≤ r ∧ r < M 4)) pl cm h ++ (jrW ct (b 1) 94 M ++ (jrW ct (b 2) 94 SP ++ (jrW ct (b 3) 376 SV ++ (irW ct (b 4) 150 TX ++ (irW ct (b 5) 2 NB)))))) hx hb hml hown hts hl hE hS hA hP hD (c_X9_within l D ct ad ((max 1 (min 1000000 (((sp_bal M) - (sp_bal1 M r)) / (-((M (23 + 3 * r)) * (M (16 + (M (22 + (3 * r)))))))))) + 1) 1 1000000 (by omega) (by omega) (by omega) (by omega)) gX9_matchLength_X9_within rfl k_X9_within ⟨Nat.le_of_ble_eq_true rfl, Nat.le_of_ble_eq_true rfl⟩ rfl (Nat.le_of_ble_eq_true rfl) ⟨Nat.le_of_ble_eq_true rfl, Nat.le_of_ble_eq_true rfl⟩ dX9_matchLength_121 rfl (fun v w1 H locs hpost hP hD hS => ?_)
          obtain ⟨rfl, rfl⟩ := hpost
          have hP : va_P D vwCl (moW b sc tl (ck_b (0 ≤ r ∧ r < M 4)) pl cm h ++ (jrW ct (b 1) 94 M ++ (jrW ct (b 2) 94 SP ++ (jrW ct (b 3) 376 SV ++ (irW ct (b 4) 150 TX ++ (irW ct (b 5) 2 NB)))))) H := hP
          have hD : va_D A (moW b sc tl (ck_b (0 ≤ r ∧ r < M 4)) pl cm h ++ (jrW ct (b 1) 94 M ++ (jrW ct (b 2) 94 SP ++ (jrW ct (b 3) 376 SV ++ (irW ct (b 4) 150 TX ++ (irW ct (b 5) 2 NB)))))) := hD
          refine W.eq (g2 := F0 m 124 ls [.long (zJ (max 1 (min 1000000 ((max 1 (min 1000000 (((sp_bal M) - (sp_bal1 M r)) / (-((M (23 + 3 * r)) * (M (16 + (M (22 + (3 * r)))))))))) + 1))))]) rfl ?_
          refine lv_lstore (lv' := [(8, .long (zJ (max 1 (min 1000000 ((max 1 (min 1000000 (((sp_bal M) - (sp_bal1 M r)) / (-((M (23 + 3 * r)) * (M (16 + (M (22 + (3 * r)))))))))) + 1))))), (6, .long (zJ (max 1 (min 1000000 (((sp_bal M) - (sp_bal1 M r)) / (-((M (23 + 3 * r)) * (M (16 + (M (22 + (3 * r)))))))))))), (4, .long (zJ ((M (23 + 3 * r)) * (M (16 + (M (22 + (3 * r)))))))), (2, .long (zJ ((sp_bal M) - (sp_bal1 M r)))), (0, .ref (b 0)), (1, .int (zI r))]) hx hb dX9_matchLength_124 hl (by decide) rfl (fun ls hl => ?_)
          have mz_6 := mz (max 1 (min 1000000 (((sp_bal M) - (sp_bal1 M r)) / (-((M (23 + 3 * r)) * (M (16 + (M (22 + (3 * r)))))))))) (by omega)
          have mz_8 := mz (max 1 (min 1000000 ((max 1 (min 1000000 (((sp_bal M) - (sp_bal1 M r)) / (-((M (23 + 3 * r)) * (M (16 + (M (22 + (3 * r)))))))))) + 1))) (by omega)
          refine lv_lload_n hx hb dX9_matchLength_126 rfl (lv_at hl 3 rfl) ?_
          refine lv_lload hx hb dX9_matchLength_127 (lv_at hl 2 rfl) ?_
          refine lv_lload hx hb dX9_matchLength_129 (lv_at hl 0 rfl) ?_
          refine z_lmul hx hb dX9_matchLength_131 ?_
          refine z_ladd hx hb dX9_matchLength_132 ?_
          refine z_callS (As := [.long (zJ (((sp_bal M) - (sp_bal1 M r)) + (((M (23 + 3 * r)) * (M (16 + (M (22 + (3 * r)))))) * (max 1 (min 1000000 ((max 1 (min 1000000 (((sp_bal M) - (sp_bal1 M r)) / (-((M (23 + 3 * r)) * (M (16 + (M (22 + (3 * r)))))))))) + 1))))))]) (rest := []) ([] : va_W) (moW b sc tl (ck_b (0 ≤ r ∧ r < M 4)) pl cm h ++ (jrW ct (b 1) 94 M ++ (jrW ct (b 2) 94 SP ++ (jrW ct (b 3) 376 SV ++ (irW ct (b 4) 150 TX ++ (irW ct (b 5) 2 NB)))))) hx hb hml hown hts hl hE hS hA hP hD (c_X9_size l D ct ad (((sp_bal M) - (sp_bal1 M r)) + (((M (23 + 3 * r)) * (M (16 + (M (22 + (3 * r)))))) * (max 1 (min 1000000 ((max 1 (min 1000000 (((sp_bal M) - (sp_bal1 M r)) / (-((M (23 + 3 * r)) * (M (16 + (M (22 + (3 * r)))))))))) + 1))))) (by omega)) gX9_matchLength_X9_size rfl k_X9_size ⟨Nat.le_of_ble_eq_true rfl, Nat.le_of_ble_eq_true rfl⟩ rfl (Nat.le_of_ble_eq_true rfl) ⟨Nat.le_of_ble_eq_true rfl, Nat.le_of_ble_eq_true rfl⟩ dX9_matchLength_133 rfl (fun v w1 H locs hpost hP hD hS => ?_)
          obtain ⟨rfl, rfl⟩ := hpost
          have hP : va_P D vwCl (moW b sc tl (ck_b (0 ≤ r ∧ r < M 4)) pl cm h ++ (jrW ct (b 1) 94 M ++ (jrW ct (b 2) 94 SP ++ (jrW ct (b 3) 376 SV ++ (irW ct (b 4) 150 TX ++ (irW ct (b 5) 2 NB)))))) H := hP
          have hD : va_D A (moW b sc tl (ck_b (0 ≤ r ∧ r < M 4)) pl cm h ++ (jrW ct (b 1) 94 M ++ (jrW ct (b 2) 94 SP ++ (jrW ct (b 3) 376 SV ++ (irW ct (b 4) 150 TX ++ (irW ct (b 5) 2 NB)))))) := hD
          refine W.eq (g2 := F0 m 136 ls [.long (zJ (sp_abs (((sp_bal M) - (sp_bal1 M r)) + (((M (23 + 3 * r)) * (M (16 + (M (22 + (3 * r)))))) * (max 1 (min 1000000 ((max 1 (min 1000000 (((sp_bal M) - (sp_bal1 M r)) / (-((M (23 + 3 * r)) * (M (16 + (M (22 + (3 * r)))))))))) + 1)))))))]) rfl ?_
          refine lv_lload_n hx hb dX9_matchLength_136 rfl (lv_at hl 3 rfl) ?_
          refine lv_lload hx hb dX9_matchLength_137 (lv_at hl 2 rfl) ?_
          refine lv_lload hx hb dX9_matchLength_139 (lv_at hl 1 rfl) ?_
          refine z_lmul hx hb dX9_matchLength_141 ?_
          refine z_ladd hx hb dX9_matchLength_142 ?_
          refine z_callS (As := [.long (zJ (((sp_bal M) - (sp_bal1 M r)) + (((M (23 + 3 * r)) * (M (16 + (M (22 + (3 * r)))))) * (max 1 (min 1000000 (((sp_bal M) - (sp_bal1 M r)) / (-((M (23 + 3 * r)) * (M (16 + (M (22 + (3 * r)))))))))))))]) (rest := [.long (zJ (sp_abs (((sp_bal M) - (sp_bal1 M r)) + (((M (23 + 3 * r)) * (M (16 + (M (22 + (3 * r)))))) * (max 1 (min 1000000 ((max 1 (min 1000000 (((sp_bal M) - (sp_bal1 M r)) / (-((M (23 + 3 * r)) * (M (16 + (M (22 + (3 * r)))))))))) + 1)))))))]) ([] : va_W) (moW b sc tl (ck_b (0 ≤ r ∧ r < M 4)) pl cm h ++ (jrW ct (b 1) 94 M ++ (jrW ct (b 2) 94 SP ++ (jrW ct (b 3) 376 SV ++ (irW ct (b 4) 150 TX ++ (irW ct (b 5) 2 NB)))))) hx hb hml hown hts hl hE hS hA hP hD (c_X9_size l D ct ad (((sp_bal M) - (sp_bal1 M r)) + (((M (23 + 3 * r)) * (M (16 + (M (22 + (3 * r)))))) * (max 1 (min 1000000 (((sp_bal M) - (sp_bal1 M r)) / (-((M (23 + 3 * r)) * (M (16 + (M (22 + (3 * r)))))))))))) (by omega)) gX9_matchLength_X9_size rfl k_X9_size ⟨Nat.le_of_ble_eq_true rfl, Nat.le_of_ble_eq_true rfl⟩ rfl (Nat.le_of_ble_eq_true rfl) ⟨Nat.le_of_ble_eq_true rfl, Nat.le_of_ble_eq_true rfl⟩ dX9_matchLength_143 rfl (fun v w1 H locs hpost hP hD hS => ?_)
          obtain ⟨rfl, rfl⟩ := hpost
          have hP : va_P D vwCl (moW b sc tl (ck_b (0 ≤ r ∧ r < M 4)) pl cm h ++ (jrW ct (b 1) 94 M ++ (jrW ct (b 2) 94 SP ++ (jrW ct (b 3) 376 SV ++ (irW ct (b 4) 150 TX ++ (irW ct (b 5) 2 NB)))))) H := hP
          have hD : va_D A (moW b sc tl (ck_b (0 ≤ r ∧ r < M 4)) pl cm h ++ (jrW ct (b 1) 94 M ++ (jrW ct (b 2) 94 SP ++ (jrW ct (b 3) 376 SV ++ (irW ct (b 4) 150 TX ++ (irW ct (b 5) 2 NB)))))) := hD
          refine W.eq (g2 := F0 m 146 ls [.long (zJ (sp_abs (((sp_bal M) - (sp_bal1 M r)) + (((M (23 + 3 * r)) * (M (16 + (M (22 + (3 * r)))))) * (max 1 (min 1000000 (((sp_bal M) - (sp_bal1 M r)) / (-((M (23 + 3 * r)) * (M (16 + (M (22 + (3 * r)))))))))))))), .long (zJ (sp_abs (((sp_bal M) - (sp_bal1 M r)) + (((M (23 + 3 * r)) * (M (16 + (M (22 + (3 * r)))))) * (max 1 (min 1000000 ((max 1 (min 1000000 (((sp_bal M) - (sp_bal1 M r)) / (-((M (23 + 3 * r)) * (M (16 + (M (22 + (3 * r)))))))))) + 1)))))))]) rfl ?_
          refine z_lcmp_ge (tgt := 155) hx hb dX9_matchLength_146 dX9_matchLength_147 (by decide) (by unfold sp_abs; omega) (by unfold sp_abs; omega) (fun hc_146 => ?_) (fun hc_146 => ?_)
          · have hc_146 := hc_146
            refine lv_lload hx hb dX9_matchLength_155 (lv_at hl 1 rfl) ?_
            refine z_l2i hx hb dX9_matchLength_157 ?_
            exact z_iret hx hb hr hlocks hP hD hS ⟨Nat.le_of_ble_eq_true rfl, Nat.le_of_ble_eq_true rfl⟩ dX9_matchLength_158 (⟨congrArg (fun z => some (Value.int (zI z))) (by first | exact (match_z hI okf (by omega)).symm | exact ((match_p hI okf (by omega)).1 (by omega)).symm | exact ((match_p hI okf (by omega)).2 (by omega)).symm | exact ((match_n hI okf (by omega)).1 (by omega)).symm | exact ((match_n hI okf (by omega)).2 (by omega)).symm), rfl⟩)
          · have hc_146 := hc_146
            refine lv_lload hx hb dX9_matchLength_150 (lv_at hl 0 rfl) ?_
            refine lv_goto (tgt := 157) hx hb dX9_matchLength_152 (by decide) ?_
            refine z_l2i hx hb dX9_matchLength_157 ?_
            exact z_iret hx hb hr hlocks hP hD hS ⟨Nat.le_of_ble_eq_true rfl, Nat.le_of_ble_eq_true rfl⟩ dX9_matchLength_158 (⟨congrArg (fun z => some (Value.int (zI z))) (by first | exact (match_z hI okf (by omega)).symm | exact ((match_p hI okf (by omega)).1 (by omega)).symm | exact ((match_p hI okf (by omega)).2 (by omega)).symm | exact ((match_n hI okf (by omega)).1 (by omega)).symm | exact ((match_n hI okf (by omega)).2 (by omega)).symm), rfl⟩)
        · have hc_83 := hc_83
          refine lv_lload_n hx hb dX9_matchLength_87 rfl (lv_at hl 1 rfl) ?_
          refine z_lneg hx hb dX9_matchLength_88 ?_
          refine lv_lload hx hb dX9_matchLength_89 (lv_at hl 0 rfl) ?_
          have dv := divC (a := -(sp_bal M - sp_bal1 M r)) (b := (M (23 + 3 * r) * M (16 + M (22 + 3 * r)))) (by omega) (by omega)
          refine z_callS (As := [.long (zJ (-((sp_bal M) - (sp_bal1 M r)))), .long (zJ ((M (23 + 3 * r)) * (M (16 + (M (22 + (3 * r)))))))]) (rest := []) ([] : va_W) (moW b sc tl (ck_b (0 ≤ r ∧ r < M 4)) pl cm h ++ (jrW ct (b 1) 94 M ++ (jrW ct (b 2) 94 SP ++ (jrW ct (b 3) 376 SV ++ (irW ct (b 4) 150 TX ++ (irW ct (b 5) 2 NB)))))) hx hb hml hown hts hl hE hS hA hP hD (c_X9_floor l D ct ad (-((sp_bal M) - (sp_bal1 M r))) ((M (23 + 3 * r)) * (M (16 + (M (22 + (3 * r)))))) (by omega) (by omega)) gX9_matchLength_X9_floor rfl k_X9_floor ⟨Nat.le_of_ble_eq_true rfl, Nat.le_of_ble_eq_true rfl⟩ rfl (Nat.le_of_ble_eq_true rfl) ⟨Nat.le_of_ble_eq_true rfl, Nat.le_of_ble_eq_true rfl⟩ dX9_matchLength_91 rfl (fun v w1 H locs hpost hP hD hS => ?_)
          obtain ⟨rfl, rfl⟩ := hpost
          have hP : va_P D vwCl (moW b sc tl (ck_b (0 ≤ r ∧ r < M 4)) pl cm h ++ (jrW ct (b 1) 94 M ++ (jrW ct (b 2) 94 SP ++ (jrW ct (b 3) 376 SV ++ (irW ct (b 4) 150 TX ++ (irW ct (b 5) 2 NB)))))) H := hP
          have hD : va_D A (moW b sc tl (ck_b (0 ≤ r ∧ r < M 4)) pl cm h ++ (jrW ct (b 1) 94 M ++ (jrW ct (b 2) 94 SP ++ (jrW ct (b 3) 376 SV ++ (irW ct (b 4) 150 TX ++ (irW ct (b 5) 2 NB)))))) := hD
          refine W.eq (g2 := F0 m 94 ls [.long (zJ ((-((sp_bal M) - (sp_bal1 M r))) / ((M (23 + 3 * r)) * (M (16 + (M (22 + (3 * r))))))))]) rfl ?_
          refine lv_goto (tgt := 104) hx hb dX9_matchLength_94 (by decide) ?_
          refine z_lconst (z := 1) hx hb dX9_matchLength_104 rfl ?_
          refine z_ldc2 hx hb 1000000 hown hf_2 (by decide) dX9_matchLength_105 ?_
          refine z_callS (As := [.long (zJ ((-((sp_bal M) - (sp_bal1 M r))) / ((M (23 + 3 * r)) * (M (16 + (M (22 + (3 * r)))))))), .long (zJ 1), .long (zJ 1000000)]) (rest := []) ([] : va_W) (moW b sc tl (ck_b (0 ≤ r ∧ r < M 4)) pl cm h ++ (jrW ct (b 1) 94 M ++ (jrW ct (b 2) 94 SP ++ (jrW ct (b 3) 376 SV ++ (irW ct (b 4) 150 TX ++ (irW ct (b 5) 2 NB)))))) hx hb hml hown hts hl hE hS hA hP hD (c_X9_within l D ct ad ((-((sp_bal M) - (sp_bal1 M r))) / ((M (23 + 3 * r)) * (M (16 + (M (22 + (3 * r))))))) 1 1000000 (by omega) (by omega) (by omega) (by omega)) gX9_matchLength_X9_within rfl k_X9_within ⟨Nat.le_of_ble_eq_true rfl, Nat.le_of_ble_eq_true rfl⟩ rfl (Nat.le_of_ble_eq_true rfl) ⟨Nat.le_of_ble_eq_true rfl, Nat.le_of_ble_eq_true rfl⟩ dX9_matchLength_108 rfl (fun v w1 H locs hpost hP hD hS => ?_)
          obtain ⟨rfl, rfl⟩ := hpost
          have hP : va_P D vwCl (moW b sc tl (ck_b (0 ≤ r ∧ r < M 4)) pl cm h ++ (jrW ct (b 1) 94 M ++ (jrW ct (b 2) 94 SP ++ (jrW ct (b 3) 376 SV ++ (irW ct (b 4) 150 TX ++ (irW ct (b 5) 2 NB)))))) H := hP
          have hD : va_D A (moW b sc tl (ck_b (0 ≤ r ∧ r < M 4)) pl cm h ++ (jrW ct (b 1) 94 M ++ (jrW ct (b 2) 94 SP ++ (jrW ct (b 3) 376 SV ++ (irW ct (b 4) 150 TX ++ (irW ct (b 5) 2 NB)))))) := hD
          refine W.eq (g2 := F0 m 111 ls [.long (zJ (max 1 (min 1000000 ((-((sp_bal M) - (sp_bal1 M r))) / ((M (23 + 3 * r)) * (M (16 + (M (22 + (3 * r))))))))))]) rfl ?_
          refine lv_lstore (lv' := [(6, .long (zJ (max 1 (min 1000000 ((-((sp_bal M) - (sp_bal1 M r))) / ((M (23 + 3 * r)) * (M (16 + (M (22 + (3 * r))))))))))), (4, .long (zJ ((M (23 + 3 * r)) * (M (16 + (M (22 + (3 * r)))))))), (2, .long (zJ ((sp_bal M) - (sp_bal1 M r)))), (0, .ref (b 0)), (1, .int (zI r))]) hx hb dX9_matchLength_111 hl (by decide) rfl (fun ls hl => ?_)
          refine lv_lload hx hb dX9_matchLength_113 (lv_at hl 0 rfl) ?_
          refine z_lconst (z := 1) hx hb dX9_matchLength_115 rfl ?_
          refine z_ladd hx hb dX9_matchLength_116 ?_
          refine z_lconst (z := 1) hx hb dX9_matchLength_117 rfl ?_
          refine z_ldc2 hx hb 1000000 hown hf_2 (by decide) dX9_matchLength_118 ?_
          refine z_callS (As := [.long (zJ ((max 1 (min 1000000 ((-((sp_bal M) - (sp_bal1 M r))) / ((M (23 + 3 * r)) * (M (16 + (M (22 + (3 * r))))))))) + 1)), .long (zJ 1), .long (zJ 1000000)]) (rest := []) ([] : va_W) (moW b sc tl (ck_b (0 ≤ r ∧ r < M 4)) pl cm h ++ (jrW ct (b 1) 94 M ++ (jrW ct (b 2) 94 SP ++ (jrW ct (b 3) 376 SV ++ (irW ct (b 4) 150 TX ++ (irW ct (b 5) 2 NB)))))) hx hb hml hown hts hl hE hS hA hP hD (c_X9_within l D ct ad ((max 1 (min 1000000 ((-((sp_bal M) - (sp_bal1 M r))) / ((M (23 + 3 * r)) * (M (16 + (M (22 + (3 * r))))))))) + 1) 1 1000000 (by omega) (by omega) (by omega) (by omega)) gX9_matchLength_X9_within rfl k_X9_within ⟨Nat.le_of_ble_eq_true rfl, Nat.le_of_ble_eq_true rfl⟩ rfl (Nat.le_of_ble_eq_true rfl) ⟨Nat.le_of_ble_eq_true rfl, Nat.le_of_ble_eq_true rfl⟩ dX9_matchLength_121 rfl (fun v w1 H locs hpost hP hD hS => ?_)
          obtain ⟨rfl, rfl⟩ := hpost
          have hP : va_P D vwCl (moW b sc tl (ck_b (0 ≤ r ∧ r < M 4)) pl cm h ++ (jrW ct (b 1) 94 M ++ (jrW ct (b 2) 94 SP ++ (jrW ct (b 3) 376 SV ++ (irW ct (b 4) 150 TX ++ (irW ct (b 5) 2 NB)))))) H := hP
          have hD : va_D A (moW b sc tl (ck_b (0 ≤ r ∧ r < M 4)) pl cm h ++ (jrW ct (b 1) 94 M ++ (jrW ct (b 2) 94 SP ++ (jrW ct (b 3) 376 SV ++ (irW ct (b 4) 150 TX ++ (irW ct (b 5) 2 NB)))))) := hD
          refine W.eq (g2 := F0 m 124 ls [.long (zJ (max 1 (min 1000000 ((max 1 (min 1000000 ((-((sp_bal M) - (sp_bal1 M r))) / ((M (23 + 3 * r)) * (M (16 + (M (22 + (3 * r))))))))) + 1))))]) rfl ?_
          refine lv_lstore (lv' := [(8, .long (zJ (max 1 (min 1000000 ((max 1 (min 1000000 ((-((sp_bal M) - (sp_bal1 M r))) / ((M (23 + 3 * r)) * (M (16 + (M (22 + (3 * r))))))))) + 1))))), (6, .long (zJ (max 1 (min 1000000 ((-((sp_bal M) - (sp_bal1 M r))) / ((M (23 + 3 * r)) * (M (16 + (M (22 + (3 * r))))))))))), (4, .long (zJ ((M (23 + 3 * r)) * (M (16 + (M (22 + (3 * r)))))))), (2, .long (zJ ((sp_bal M) - (sp_bal1 M r)))), (0, .ref (b 0)), (1, .int (zI r))]) hx hb dX9_matchLength_124 hl (by decide) rfl (fun ls hl => ?_)
          have mz_6 := mz (max 1 (min 1000000 ((-((sp_bal M) - (sp_bal1 M r))) / ((M (23 + 3 * r)) * (M (16 + (M (22 + (3 * r))))))))) (by omega)
          have mz_8 := mz (max 1 (min 1000000 ((max 1 (min 1000000 ((-((sp_bal M) - (sp_bal1 M r))) / ((M (23 + 3 * r)) * (M (16 + (M (22 + (3 * r))))))))) + 1))) (by omega)
          refine lv_lload_n hx hb dX9_matchLength_126 rfl (lv_at hl 3 rfl) ?_
          refine lv_lload hx hb dX9_matchLength_127 (lv_at hl 2 rfl) ?_
          refine lv_lload hx hb dX9_matchLength_129 (lv_at hl 0 rfl) ?_
          refine z_lmul hx hb dX9_matchLength_131 ?_
          refine z_ladd hx hb dX9_matchLength_132 ?_
          refine z_callS (As := [.long (zJ (((sp_bal M) - (sp_bal1 M r)) + (((M (23 + 3 * r)) * (M (16 + (M (22 + (3 * r)))))) * (max 1 (min 1000000 ((max 1 (min 1000000 ((-((sp_bal M) - (sp_bal1 M r))) / ((M (23 + 3 * r)) * (M (16 + (M (22 + (3 * r))))))))) + 1))))))]) (rest := []) ([] : va_W) (moW b sc tl (ck_b (0 ≤ r ∧ r < M 4)) pl cm h ++ (jrW ct (b 1) 94 M ++ (jrW ct (b 2) 94 SP ++ (jrW ct (b 3) 376 SV ++ (irW ct (b 4) 150 TX ++ (irW ct (b 5) 2 NB)))))) hx hb hml hown hts hl hE hS hA hP hD (c_X9_size l D ct ad (((sp_bal M) - (sp_bal1 M r)) + (((M (23 + 3 * r)) * (M (16 + (M (22 + (3 * r)))))) * (max 1 (min 1000000 ((max 1 (min 1000000 ((-((sp_bal M) - (sp_bal1 M r))) / ((M (23 + 3 * r)) * (M (16 + (M (22 + (3 * r))))))))) + 1))))) (by omega)) gX9_matchLength_X9_size rfl k_X9_size ⟨Nat.le_of_ble_eq_true rfl, Nat.le_of_ble_eq_true rfl⟩ rfl (Nat.le_of_ble_eq_true rfl) ⟨Nat.le_of_ble_eq_true rfl, Nat.le_of_ble_eq_true rfl⟩ dX9_matchLength_133 rfl (fun v w1 H locs hpost hP hD hS => ?_)
          obtain ⟨rfl, rfl⟩ := hpost
          have hP : va_P D vwCl (moW b sc tl (ck_b (0 ≤ r ∧ r < M 4)) pl cm h ++ (jrW ct (b 1) 94 M ++ (jrW ct (b 2) 94 SP ++ (jrW ct (b 3) 376 SV ++ (irW ct (b 4) 150 TX ++ (irW ct (b 5) 2 NB)))))) H := hP
          have hD : va_D A (moW b sc tl (ck_b (0 ≤ r ∧ r < M 4)) pl cm h ++ (jrW ct (b 1) 94 M ++ (jrW ct (b 2) 94 SP ++ (jrW ct (b 3) 376 SV ++ (irW ct (b 4) 150 TX ++ (irW ct (b 5) 2 NB)))))) := hD
          refine W.eq (g2 := F0 m 136 ls [.long (zJ (sp_abs (((sp_bal M) - (sp_bal1 M r)) + (((M (23 + 3 * r)) * (M (16 + (M (22 + (3 * r)))))) * (max 1 (min 1000000 ((max 1 (min 1000000 ((-((sp_bal M) - (sp_bal1 M r))) / ((M (23 + 3 * r)) * (M (16 + (M (22 + (3 * r))))))))) + 1)))))))]) rfl ?_
          refine lv_lload_n hx hb dX9_matchLength_136 rfl (lv_at hl 3 rfl) ?_
          refine lv_lload hx hb dX9_matchLength_137 (lv_at hl 2 rfl) ?_
          refine lv_lload hx hb dX9_matchLength_139 (lv_at hl 1 rfl) ?_
          refine z_lmul hx hb dX9_matchLength_141 ?_
          refine z_ladd hx hb dX9_matchLength_142 ?_
          refine z_callS (As := [.long (zJ (((sp_bal M) - (sp_bal1 M r)) + (((M (23 + 3 * r)) * (M (16 + (M (22 + (3 * r)))))) * (max 1 (min 1000000 ((-((sp_bal M) - (sp_bal1 M r))) / ((M (23 + 3 * r)) * (M (16 + (M (22 + (3 * r))))))))))))]) (rest := [.long (zJ (sp_abs (((sp_bal M) - (sp_bal1 M r)) + (((M (23 + 3 * r)) * (M (16 + (M (22 + (3 * r)))))) * (max 1 (min 1000000 ((max 1 (min 1000000 ((-((sp_bal M) - (sp_bal1 M r))) / ((M (23 + 3 * r)) * (M (16 + (M (22 + (3 * r))))))))) + 1)))))))]) ([] : va_W) (moW b sc tl (ck_b (0 ≤ r ∧ r < M 4)) pl cm h ++ (jrW ct (b 1) 94 M ++ (jrW ct (b 2) 94 SP ++ (jrW ct (b 3) 376 SV ++ (irW ct (b 4) 150 TX ++ (irW ct (b 5) 2 NB)))))) hx hb hml hown hts hl hE hS hA hP hD (c_X9_size l D ct ad (((sp_bal M) - (sp_bal1 M r)) + (((M (23 + 3 * r)) * (M (16 + (M (22 + (3 * r)))))) * (max 1 (min 1000000 ((-((sp_bal M) - (sp_bal1 M r))) / ((M (23 + 3 * r)) * (M (16 + (M (22 + (3 * r))))))))))) (by omega)) gX9_matchLength_X9_size rfl k_X9_size ⟨Nat.le_of_ble_eq_true rfl, Nat.le_of_ble_eq_true rfl⟩ rfl (Nat.le_of_ble_eq_true rfl) ⟨Nat.le_of_ble_eq_true rfl, Nat.le_of_ble_eq_true rfl⟩ dX9_matchLength_143 rfl (fun v w1 H locs hpost hP hD hS => ?_)
          obtain ⟨rfl, rfl⟩ := hpost
          have hP : va_P D vwCl (moW b sc tl (ck_b (0 ≤ r ∧ r < M 4)) pl cm h ++ (jrW ct (b 1) 94 M ++ (jrW ct (b 2) 94 SP ++ (jrW ct (b 3) 376 SV ++ (irW ct (b 4) 150 TX ++ (irW ct (b 5) 2 NB)))))) H := hP
          have hD : va_D A (moW b sc tl (ck_b (0 ≤ r ∧ r < M 4)) pl cm h ++ (jrW ct (b 1) 94 M ++ (jrW ct (b 2) 94 SP ++ (jrW ct (b 3) 376 SV ++ (irW ct (b 4) 150 TX ++ (irW ct (b 5) 2 NB)))))) := hD
          refine W.eq (g2 := F0 m 146 ls [.long (zJ (sp_abs (((sp_bal M) - (sp_bal1 M r)) + (((M (23 + 3 * r)) * (M (16 + (M (22 + (3 * r)))))) * (max 1 (min 1000000 ((-((sp_bal M) - (sp_bal1 M r))) / ((M (23 + 3 * r)) * (M (16 + (M (22 + (3 * r))))))))))))), .long (zJ (sp_abs (((sp_bal M) - (sp_bal1 M r)) + (((M (23 + 3 * r)) * (M (16 + (M (22 + (3 * r)))))) * (max 1 (min 1000000 ((max 1 (min 1000000 ((-((sp_bal M) - (sp_bal1 M r))) / ((M (23 + 3 * r)) * (M (16 + (M (22 + (3 * r))))))))) + 1)))))))]) rfl ?_
          refine z_lcmp_ge (tgt := 155) hx hb dX9_matchLength_146 dX9_matchLength_147 (by decide) (by unfold sp_abs; omega) (by unfold sp_abs; omega) (fun hc_146 => ?_) (fun hc_146 => ?_)
          · have hc_146 := hc_146
            refine lv_lload hx hb dX9_matchLength_155 (lv_at hl 1 rfl) ?_
            refine z_l2i hx hb dX9_matchLength_157 ?_
            exact z_iret hx hb hr hlocks hP hD hS ⟨Nat.le_of_ble_eq_true rfl, Nat.le_of_ble_eq_true rfl⟩ dX9_matchLength_158 (⟨congrArg (fun z => some (Value.int (zI z))) (by first | exact (match_z hI okf (by omega)).symm | exact ((match_p hI okf (by omega)).1 (by omega)).symm | exact ((match_p hI okf (by omega)).2 (by omega)).symm | exact ((match_n hI okf (by omega)).1 (by omega)).symm | exact ((match_n hI okf (by omega)).2 (by omega)).symm), rfl⟩)
          · have hc_146 := hc_146
            refine lv_lload hx hb dX9_matchLength_150 (lv_at hl 0 rfl) ?_
            refine lv_goto (tgt := 157) hx hb dX9_matchLength_152 (by decide) ?_
            refine z_l2i hx hb dX9_matchLength_157 ?_
            exact z_iret hx hb hr hlocks hP hD hS ⟨Nat.le_of_ble_eq_true rfl, Nat.le_of_ble_eq_true rfl⟩ dX9_matchLength_158 (⟨congrArg (fun z => some (Value.int (zI z))) (by first | exact (match_z hI okf (by omega)).symm | exact ((match_p hI okf (by omega)).1 (by omega)).symm | exact ((match_p hI okf (by omega)).2 (by omega)).symm | exact ((match_n hI okf (by omega)).1 (by omega)).symm | exact ((match_n hI okf (by omega)).2 (by omega)).symm), rfl⟩)
      · have hc_74 := hc_74
        refine z_iconst hx hb dX9_matchLength_78 ?_
        exact z_iret hx hb hr hlocks hP hD hS ⟨Nat.le_of_ble_eq_true rfl, Nat.le_of_ble_eq_true rfl⟩ dX9_matchLength_79 (⟨congrArg (fun z => some (Value.int (zI z))) (by first | exact (match_z hI okf (by omega)).symm | exact ((match_p hI okf (by omega)).1 (by omega)).symm | exact ((match_p hI okf (by omega)).2 (by omega)).symm | exact ((match_n hI okf (by omega)).1 (by omega)).symm | exact ((match_n hI okf (by omega)).2 (by omega)).symm), rfl⟩)
    · have hc_21 := hc_21
      exact absurd hok hc_21
set_option maxHeartbeats 4000000 in
set_option maxRecDepth 100000 in
theorem c_X9_matchLength_no (l : Launch) (D : va_G) (ct ad : Nat → Nat) (b : Nat → Nat) (M SP SV TX NB : Int → Int) (sc tl cd pl cm h : Int) (r : Int) (hI : gInv M) (h1 : -2147483648 ≤ r ∧ r ≤ 2147483647) (hno : ck_b (0 ≤ r ∧ r < M 4) ≠ 0) : ZM l yX9_matchLength wsX9_matchLength ({ frames := 2, cells := 0, slots := 0, locals := 43 } : Room) D ct ad [.ref (b 0), .int (zI r)] (moW b sc tl cd pl cm h ++ (jrW ct (b 1) 94 M ++ (jrW ct (b 2) 94 SP ++ (jrW ct (b 3) 376 SV ++ (irW ct (b 4) 150 TX ++ (irW ct (b 5) 2 NB)))))) (zD (some (.int (zI 0))) (moW b sc tl (ck_b (0 ≤ r ∧ r < M 4)) pl cm h ++ (jrW ct (b 1) 94 M ++ (jrW ct (b 2) 94 SP ++ (jrW ct (b 3) 376 SV ++ (irW ct (b 4) 150 TX ++ (irW ct (b 5) 2 NB))))))) := by
  refine ZM.of (cc := cX9_matchLength) (maxL := 10) (ret := (some .int)) (by decide +kernel) rfl (Nat.le_of_ble_eq_true rfl) ?_
  intro p e s m below meth c A ls hx hb hr hts hown hlocks hml hname hE hP hD hA hS hl
  have hK := hE.1
  have hf_0 := hts (.fieldLink RX9 42 "RodGridsModel" "code" "I") (by decide +kernel)
  have hin_X9 : ∀ z ∈ u_ws RX9 TX9 11, z ∈ wsX9_matchLength := by decide +kernel
  have hl : lv_has ls 10 [(0, .ref (b 0)), (1, .int (zI r))] := hl
  have i3 := hI.1
  have i4 := hI.2.1
  have ckb : 0 ≤ ck_b (0 ≤ r ∧ r < M 4) ∧ ck_b (0 ≤ r ∧ r < M 4) ≤ 3 := by unfold ck_b; (repeat' split) <;> omega
  refine lv_aload_n hx hb dX9_matchLength_0 rfl (lv_at hl 0 rfl) ?_
  refine lv_aload_n hx hb dX9_matchLength_1 rfl (lv_at hl 0 rfl) ?_
  refine lv_iload_n hx hb dX9_matchLength_2 rfl (lv_at hl 1 rfl) ?_
  refine z_callV (C := RX9) (q0 := 0) (ci := 7) (As := [.int (zI r)]) (rest := [.ref (b 0)]) ([] : va_W) ([] : va_W) hx hb hml hown hts hl hE hS hA (zr0 ([] : va_W) hP) (zr0D ([] : va_W) hD) (c_X9_isRod l D ct ad b M SP SV TX NB sc tl cd pl cm h r (by assumption) (by omega)) gX9_matchLength_X9_isRod rfl rfl k_X9_isRod ⟨Nat.le_of_ble_eq_true rfl, Nat.le_of_ble_eq_true rfl⟩ rfl rfl rfl rfl (Nat.le_of_ble_eq_true rfl) ⟨Nat.le_of_ble_eq_true rfl, Nat.le_of_ble_eq_true rfl⟩ dX9_matchLength_3 rfl (fun v w1 H locs hpost hP hD hS => ?_)
  obtain ⟨rfl, rfl⟩ := hpost
  have hP := zr0' hP
  have hD := zr0D' hD
  have hP : va_P D vwCl (moW b sc tl cd pl cm h ++ (jrW ct (b 1) 94 M ++ (jrW ct (b 2) 94 SP ++ (jrW ct (b 3) 376 SV ++ (irW ct (b 4) 150 TX ++ (irW ct (b 5) 2 NB)))))) H := hP
  have hD : va_D A (moW b sc tl cd pl cm h ++ (jrW ct (b 1) 94 M ++ (jrW ct (b 2) 94 SP ++ (jrW ct (b 3) 376 SV ++ (irW ct (b 4) 150 TX ++ (irW ct (b 5) 2 NB)))))) := hD
  refine W.eq (g2 := F0 m 6 ls [.int (zI (zB (0 ≤ r ∧ r < M 4))), .ref (b 0)]) rfl ?_
  refine zb_if_eq (tgt := 13) hx hb dX9_matchLength_6 (by decide) (fun hc_6 => ?_) (fun hc_6 => ?_)
  · have hc_6 := hc_6
    refine z_iconst hx hb dX9_matchLength_13 ?_
    refine z_canI (show 1 = ck_b (0 ≤ r ∧ r < M 4) from (by unfold ck_b; (repeat' split) <;> omega)) ?_
    refine z_put (ct := ct) (ad := ad) (ci := 7) (v := .int (zI (ck_b (0 ≤ r ∧ r < M 4)))) (ty := tyX9 6) (C := RX9) (T := TX9) (N := 11) (w2 := moW b sc tl (ck_b (0 ≤ r ∧ r < M 4)) pl cm h ++ (jrW ct (b 1) 94 M ++ (jrW ct (b 2) 94 SP ++ (jrW ct (b 3) 376 SV ++ (irW ct (b 4) 150 TX ++ (irW ct (b 5) 2 NB)))))) hx hb hts hin_X9 tyX9 tyX9_ok nmX9 hown hE hP hD hS 0 rfl rfl 6 (by decide) hf_0 (fun _ h9 => h9) rfl (by decide +kernel) rfl rfl (Nat.le_of_ble_eq_true rfl) dX9_matchLength_14 (rfl) (fun H locs hP hD hS => ?_)
    refine lv_aload_n hx hb dX9_matchLength_17 rfl (lv_at hl 0 rfl) ?_
    refine va_get (D := D) (ci := 7) (v := .int (zI (ck_b (0 ≤ r ∧ r < M 4)))) (C := RX9) (T := TX9) (N := 11) hx hb hts hin_X9 hown hK hP 0 rfl rfl 6 (by decide) hf_0 (fun _ h9 => h9) rfl dX9_matchLength_18 ?_
    refine z_if_eq (tgt := 26) hx hb dX9_matchLength_21 (by decide) (by omega) (fun hc_21 => ?_) (fun hc_21 => ?_)
    · have hc_21 := hc_21
      exact absurd hc_21 hno
    · have hc_21 := hc_21
      refine z_iconst hx hb dX9_matchLength_24 ?_
      exact z_iret hx hb hr hlocks hP hD hS ⟨Nat.le_of_ble_eq_true rfl, Nat.le_of_ble_eq_true rfl⟩ dX9_matchLength_25 (⟨congrArg (fun z => some (Value.int (zI z))) (rfl), rfl⟩)
  · have hc_6 := hc_6
    refine z_iconst hx hb dX9_matchLength_9 ?_
    refine lv_goto (tgt := 14) hx hb dX9_matchLength_10 (by decide) ?_
    exfalso
    have hck : 0 = ck_b (0 ≤ r ∧ r < M 4) := by unfold ck_b; (repeat' split) <;> omega
    omega
set_option maxHeartbeats 4000000 in
set_option maxRecDepth 100000 in
theorem c_X9_rangeOfRates_ok (l : Launch) (D : va_G) (ct ad : Nat → Nat) (b : Nat → Nat) (M SP SV TX NB : Int → Int) (sc tl cd pl cm h : Int) (lo hi : Int) (hI : gInv M) (hB : bInv M) (h1 : -2147483648 ≤ lo ∧ lo ≤ 2147483647) (h2 : -2147483648 ≤ hi ∧ hi ≤ 2147483647) (hok : ck_b (-300 ≤ lo ∧ lo ≤ hi ∧ hi ≤ 600) = 0) : ZM l yX9_rangeOfRates wsX9_rangeOfRates ({ frames := 4, cells := 0, slots := 0, locals := 93 } : Room) D ct ad [.ref (b 0), .int (zI lo), .int (zI hi)] (moW b sc tl cd pl cm h ++ (jrW ct (b 1) 94 M ++ (jrW ct (b 2) 94 SP ++ (jrW ct (b 3) 376 SV ++ (irW ct (b 4) 150 TX ++ (irW ct (b 5) 2 NB)))))) (zD (some (.int (zI (sp_range M lo hi)))) (moW b sc tl (ck_b (-300 ≤ lo ∧ lo ≤ hi ∧ hi ≤ 600)) pl cm h ++ (jrW ct (b 1) 94 M ++ (jrW ct (b 2) 94 SP ++ (jrW ct (b 3) 376 SV ++ (irW ct (b 4) 150 TX ++ (irW ct (b 5) 2 NB))))))) := by
  refine ZM.of (cc := cX9_rangeOfRates) (maxL := 10) (ret := (some .int)) (by decide +kernel) rfl (Nat.le_of_ble_eq_true rfl) ?_
  intro p e s m below meth c A ls hx hb hr hts hown hlocks hml hname hE hP hD hA hS hl
  have hK := hE.1
  have hf_0 := hts (.fieldLink RX9 42 "RodGridsModel" "code" "I") (by decide +kernel)
  have hin_X9 : ∀ z ∈ u_ws RX9 TX9 11, z ∈ wsX9_rangeOfRates := by decide +kernel
  have hl : lv_has ls 10 [(0, .ref (b 0)), (1, .int (zI lo)), (2, .int (zI hi))] := hl
  have i3 := hI.1
  have i4 := hI.2.1
  have j0 := hB.1
  have j1 := hB.2.1
  have j2 := hB.2.2.1
  have j4 := hB.2.2.2.2
  have ckb : 0 ≤ ck_b (-300 ≤ lo ∧ lo ≤ hi ∧ hi ≤ 600) ∧ ck_b (-300 ≤ lo ∧ lo ≤ hi ∧ hi ≤ 600) ≤ 3 := by unfold ck_b; (repeat' split) <;> omega
  have okf : -300 ≤ lo ∧ lo ≤ hi ∧ hi ≤ 600 := by unfold ck_b at hok; (repeat' split at hok) <;> omega
  have rb : ∀ t : Int, -300 ≤ t ∧ t ≤ 600 → (-1000030000 ≤ sp_rate M (sp_len M t) (M 8) ∧ sp_rate M (sp_len M t) (M 8) ≤ 1000000000) ∧ -9027500 ≤ sp_len M t ∧ sp_len M t ≤ 9027500 := fun t ht => ⟨sp_rateB hB j1.2.2.2, (sp_lenB hI hB ht).2⟩
  have rlo := rb lo (by omega)
  refine lv_aload_n hx hb dX9_rangeOfRates_0 rfl (lv_at hl 0 rfl) ?_
  refine lv_iload_n hx hb dX9_rangeOfRates_1 rfl (lv_at hl 1 rfl) ?_
  refine z_callS (As := [.int (zI lo)]) (rest := [.ref (b 0)]) ([] : va_W) (moW b sc tl cd pl cm h ++ (jrW ct (b 1) 94 M ++ (jrW ct (b 2) 94 SP ++ (jrW ct (b 3) 376 SV ++ (irW ct (b 4) 150 TX ++ (irW ct (b 5) 2 NB)))))) hx hb hml hown hts hl hE hS hA hP hD (c_X9_isWarmth l D ct ad lo (by omega)) gX9_rangeOfRates_X9_isWarmth rfl k_X9_isWarmth ⟨Nat.le_of_ble_eq_true rfl, Nat.le_of_ble_eq_true rfl⟩ rfl (Nat.le_of_ble_eq_true rfl) ⟨Nat.le_of_ble_eq_true rfl, Nat.le_of_ble_eq_true rfl⟩ dX9_rangeOfRates_2 rfl (fun v w1 H locs hpost hP hD hS => ?_)
  obtain ⟨rfl, rfl⟩ := hpost
  have hP : va_P D vwCl (moW b sc tl cd pl cm h ++ (jrW ct (b 1) 94 M ++ (jrW ct (b 2) 94 SP ++ (jrW ct (b 3) 376 SV ++ (irW ct (b 4) 150 TX ++ (irW ct (b 5) 2 NB)))))) H := hP
  have hD : va_D A (moW b sc tl cd pl cm h ++ (jrW ct (b 1) 94 M ++ (jrW ct (b 2) 94 SP ++ (jrW ct (b 3) 376 SV ++ (irW ct (b 4) 150 TX ++ (irW ct (b 5) 2 NB)))))) := hD
  refine W.eq (g2 := F0 m 5 ls [.int (zI (zB (-300 ≤ lo ∧ lo ≤ 600))), .ref (b 0)]) rfl ?_
  refine zb_if_eq (tgt := 23) hx hb dX9_rangeOfRates_5 (by decide) (fun hc_5 => ?_) (fun hc_5 => ?_)
  · have hc_5 := hc_5
    refine z_iconst hx hb dX9_rangeOfRates_23 ?_
    exfalso
    have hck : 1 = ck_b (-300 ≤ lo ∧ lo ≤ hi ∧ hi ≤ 600) := by unfold ck_b; (repeat' split) <;> omega
    omega
  · have hc_5 := hc_5
    refine lv_iload_n hx hb dX9_rangeOfRates_8 rfl (lv_at hl 2 rfl) ?_
    refine lv_iload_n hx hb dX9_rangeOfRates_9 rfl (lv_at hl 1 rfl) ?_
    refine z_sipush hx hb dX9_rangeOfRates_10 (by decide) ?_
    refine z_callS (As := [.int (zI hi), .int (zI lo), .int (zI 600)]) (rest := [.ref (b 0)]) ([] : va_W) (moW b sc tl cd pl cm h ++ (jrW ct (b 1) 94 M ++ (jrW ct (b 2) 94 SP ++ (jrW ct (b 3) 376 SV ++ (irW ct (b 4) 150 TX ++ (irW ct (b 5) 2 NB)))))) hx hb hml hown hts hl hE hS hA hP hD (c_X9_in l D ct ad hi lo 600 (by omega) (by omega) (by omega)) gX9_rangeOfRates_X9_in rfl k_X9_in ⟨Nat.le_of_ble_eq_true rfl, Nat.le_of_ble_eq_true rfl⟩ rfl (Nat.le_of_ble_eq_true rfl) ⟨Nat.le_of_ble_eq_true rfl, Nat.le_of_ble_eq_true rfl⟩ dX9_rangeOfRates_13 rfl (fun v w1 H locs hpost hP hD hS => ?_)
    obtain ⟨rfl, rfl⟩ := hpost
    have hP : va_P D vwCl (moW b sc tl cd pl cm h ++ (jrW ct (b 1) 94 M ++ (jrW ct (b 2) 94 SP ++ (jrW ct (b 3) 376 SV ++ (irW ct (b 4) 150 TX ++ (irW ct (b 5) 2 NB)))))) H := hP
    have hD : va_D A (moW b sc tl cd pl cm h ++ (jrW ct (b 1) 94 M ++ (jrW ct (b 2) 94 SP ++ (jrW ct (b 3) 376 SV ++ (irW ct (b 4) 150 TX ++ (irW ct (b 5) 2 NB)))))) := hD
    refine W.eq (g2 := F0 m 16 ls [.int (zI (zB (lo ≤ hi ∧ hi ≤ 600))), .ref (b 0)]) rfl ?_
    refine zb_if_eq (tgt := 23) hx hb dX9_rangeOfRates_16 (by decide) (fun hc_16 => ?_) (fun hc_16 => ?_)
    · have hc_16 := hc_16
      refine z_iconst hx hb dX9_rangeOfRates_23 ?_
      exfalso
      have hck : 1 = ck_b (-300 ≤ lo ∧ lo ≤ hi ∧ hi ≤ 600) := by unfold ck_b; (repeat' split) <;> omega
      omega
    · have hc_16 := hc_16
      refine z_iconst hx hb dX9_rangeOfRates_19 ?_
      refine lv_goto (tgt := 24) hx hb dX9_rangeOfRates_20 (by decide) ?_
      refine z_canI (show 0 = ck_b (-300 ≤ lo ∧ lo ≤ hi ∧ hi ≤ 600) from (by unfold ck_b; (repeat' split) <;> omega)) ?_
      refine z_put (ct := ct) (ad := ad) (ci := 7) (v := .int (zI (ck_b (-300 ≤ lo ∧ lo ≤ hi ∧ hi ≤ 600)))) (ty := tyX9 6) (C := RX9) (T := TX9) (N := 11) (w2 := moW b sc tl (ck_b (-300 ≤ lo ∧ lo ≤ hi ∧ hi ≤ 600)) pl cm h ++ (jrW ct (b 1) 94 M ++ (jrW ct (b 2) 94 SP ++ (jrW ct (b 3) 376 SV ++ (irW ct (b 4) 150 TX ++ (irW ct (b 5) 2 NB)))))) hx hb hts hin_X9 tyX9 tyX9_ok nmX9 hown hE hP hD hS 0 rfl rfl 6 (by decide) hf_0 (fun _ h9 => h9) rfl (by decide +kernel) rfl rfl (Nat.le_of_ble_eq_true rfl) dX9_rangeOfRates_24 (rfl) (fun H locs hP hD hS => ?_)
      refine lv_aload_n hx hb dX9_rangeOfRates_27 rfl (lv_at hl 0 rfl) ?_
      refine va_get (D := D) (ci := 7) (v := .int (zI (ck_b (-300 ≤ lo ∧ lo ≤ hi ∧ hi ≤ 600)))) (C := RX9) (T := TX9) (N := 11) hx hb hts hin_X9 hown hK hP 0 rfl rfl 6 (by decide) hf_0 (fun _ h9 => h9) rfl dX9_rangeOfRates_28 ?_
      refine z_if_eq (tgt := 36) hx hb dX9_rangeOfRates_31 (by decide) (by omega) (fun hc_31 => ?_) (fun hc_31 => ?_)
      · have hc_31 := hc_31
        refine lv_aload_n hx hb dX9_rangeOfRates_36 rfl (lv_at hl 0 rfl) ?_
        refine lv_aload_n hx hb dX9_rangeOfRates_37 rfl (lv_at hl 0 rfl) ?_
        refine lv_iload_n hx hb dX9_rangeOfRates_38 rfl (lv_at hl 1 rfl) ?_
        refine z_i2l hx hb dX9_rangeOfRates_39 (by omega) ?_
        refine z_callV (C := RX9) (q0 := 0) (ci := 7) (As := [.long (zJ lo)]) (rest := [.ref (b 0)]) ([] : va_W) ([] : va_W) hx hb hml hown hts hl hE hS hA (zr0 ([] : va_W) hP) (zr0D ([] : va_W) hD) (c_X9_lengthAt l D ct ad b M SP SV TX NB sc tl (ck_b (-300 ≤ lo ∧ lo ≤ hi ∧ hi ≤ 600)) pl cm h lo (by assumption) (by assumption) (by omega)) gX9_rangeOfRates_X9_lengthAt rfl rfl k_X9_lengthAt ⟨Nat.le_of_ble_eq_true rfl, Nat.le_of_ble_eq_true rfl⟩ rfl rfl rfl rfl (Nat.le_of_ble_eq_true rfl) ⟨Nat.le_of_ble_eq_true rfl, Nat.le_of_ble_eq_true rfl⟩ dX9_rangeOfRates_40 rfl (fun v w1 H locs hpost hP hD hS => ?_)
        obtain ⟨rfl, rfl⟩ := hpost
        have hP := zr0' hP
        have hD := zr0D' hD
        have hP : va_P D vwCl (moW b sc tl (ck_b (-300 ≤ lo ∧ lo ≤ hi ∧ hi ≤ 600)) pl cm h ++ (jrW ct (b 1) 94 M ++ (jrW ct (b 2) 94 SP ++ (jrW ct (b 3) 376 SV ++ (irW ct (b 4) 150 TX ++ (irW ct (b 5) 2 NB)))))) H := hP
        have hD : va_D A (moW b sc tl (ck_b (-300 ≤ lo ∧ lo ≤ hi ∧ hi ≤ 600)) pl cm h ++ (jrW ct (b 1) 94 M ++ (jrW ct (b 2) 94 SP ++ (jrW ct (b 3) 376 SV ++ (irW ct (b 4) 150 TX ++ (irW ct (b 5) 2 NB)))))) := hD
        refine W.eq (g2 := F0 m 43 ls [.long (zJ (sp_len M lo)), .ref (b 0)]) rfl ?_
        refine z_callV (C := RX9) (q0 := 0) (ci := 7) (As := [.long (zJ (sp_len M lo))]) (rest := []) ([] : va_W) ([] : va_W) hx hb hml hown hts hl hE hS hA (zr0 ([] : va_W) hP) (zr0D ([] : va_W) hD) (c_X9_rateBy l D ct ad b M SP SV TX NB sc tl (ck_b (-300 ≤ lo ∧ lo ≤ hi ∧ hi ≤ 600)) pl cm h (sp_len M lo) (by assumption) (by assumption) (by omega)) gX9_rangeOfRates_X9_rateBy rfl rfl k_X9_rateBy ⟨Nat.le_of_ble_eq_true rfl, Nat.le_of_ble_eq_true rfl⟩ rfl rfl rfl rfl (Nat.le_of_ble_eq_true rfl) ⟨Nat.le_of_ble_eq_true rfl, Nat.le_of_ble_eq_true rfl⟩ dX9_rangeOfRates_43 rfl (fun v w1 H locs hpost hP hD hS => ?_)
        obtain ⟨rfl, rfl⟩ := hpost
        have hP := zr0' hP
        have hD := zr0D' hD
        have hP : va_P D vwCl (moW b sc tl (ck_b (-300 ≤ lo ∧ lo ≤ hi ∧ hi ≤ 600)) pl cm h ++ (jrW ct (b 1) 94 M ++ (jrW ct (b 2) 94 SP ++ (jrW ct (b 3) 376 SV ++ (irW ct (b 4) 150 TX ++ (irW ct (b 5) 2 NB)))))) H := hP
        have hD : va_D A (moW b sc tl (ck_b (-300 ≤ lo ∧ lo ≤ hi ∧ hi ≤ 600)) pl cm h ++ (jrW ct (b 1) 94 M ++ (jrW ct (b 2) 94 SP ++ (jrW ct (b 3) 376 SV ++ (irW ct (b 4) 150 TX ++ (irW ct (b 5) 2 NB)))))) := hD
        refine W.eq (g2 := F0 m 46 ls [.long (zJ (sp_rate M (sp_len M lo) (M 8)))]) rfl ?_
        refine lv_lstore_n (lv' := [(3, .long (zJ (sp_rate M (sp_len M lo) (M 8)))), (0, .ref (b 0)), (1, .int (zI lo)), (2, .int (zI hi))]) hx hb dX9_rangeOfRates_46 rfl hl (by decide) rfl (fun ls hl => ?_)
        refine lv_lload_n hx hb dX9_rangeOfRates_47 rfl (lv_at hl 0 rfl) ?_
        refine lv_lstore (lv' := [(5, .long (zJ (sp_rate M (sp_len M lo) (M 8)))), (3, .long (zJ (sp_rate M (sp_len M lo) (M 8)))), (0, .ref (b 0)), (1, .int (zI lo)), (2, .int (zI hi))]) hx hb dX9_rangeOfRates_48 hl (by decide) rfl (fun ls hl => ?_)
        refine lv_iload_n hx hb dX9_rangeOfRates_50 rfl (lv_at hl 3 rfl) ?_
        refine lv_istore (lv' := [(7, .int (zI lo)), (5, .long (zJ (sp_rate M (sp_len M lo) (M 8)))), (3, .long (zJ (sp_rate M (sp_len M lo) (M 8)))), (0, .ref (b 0)), (1, .int (zI lo)), (2, .int (zI hi))]) hx hb dX9_rangeOfRates_51 hl (by decide) rfl (fun ls hl => ?_)
        refine z_loop (σ := Int × Int × Int × Int) (fun q9 => (hi + 10 - lo - 10 * q9.1).toNat) (fun q9 => (0 ≤ q9.1 ∧ lo + 10 * q9.1 ≤ hi + 10) ∧ (q9.2.2.2 = lo + 10 * q9.1) ∧ (q9.2.1 = sp_mn M lo (q9.1 - 1 : Int).toNat) ∧ (q9.2.2.1 = sp_mx M lo (q9.1 - 1 : Int).toNat)) (fun q9 => moW b sc tl (ck_b (-300 ≤ lo ∧ lo ≤ hi ∧ hi ≤ 600)) pl cm h ++ (jrW ct (b 1) 94 M ++ (jrW ct (b 2) 94 SP ++ (jrW ct (b 3) 376 SV ++ (irW ct (b 4) 150 TX ++ (irW ct (b 5) 2 NB)))))) (fun q9 => [(0, .ref (b 0)), (1, .int (zI lo)), (2, .int (zI hi)), (3, .long (zJ q9.2.1)), (5, .long (zJ q9.2.2.1)), (7, .int (zI q9.2.2.2))]) (fun q9 => []) (0, sp_rate M (sp_len M lo) (M 8), sp_rate M (sp_len M lo) (M 8), lo) ⟨(show 0 ≤ 0 ∧ lo + 10 * 0 ≤ hi + 10 from (by omega)), (show lo = lo + 10 * 0 from (by omega)), (show (sp_rate M (sp_len M lo) (M 8)) = sp_mn M lo (0 - 1 : Int).toNat from (by rfl)), (show (sp_rate M (sp_len M lo) (M 8)) = sp_mx M lo (0 - 1 : Int).toNat from (by rfl))⟩ hP hD hS (lv_sub hl [3, 4, 5, 2, 1, 0] rfl) rfl ?_
        rintro ⟨i, l_, g_, w_⟩ hI_53 ih_53 H locs ls hP hD hS hl
        obtain ⟨hi_, hw, hl_, hg_⟩ := hI_53
        have hi_ : 0 ≤ i ∧ lo + 10 * i ≤ hi + 10 := hi_
        have hw : w_ = lo + 10 * i := hw
        have hl_ : l_ = sp_mn M lo (i - 1 : Int).toNat := hl_
        have hg_ : g_ = sp_mx M lo (i - 1 : Int).toNat := hg_
        have hP : va_P D vwCl (moW b sc tl (ck_b (-300 ≤ lo ∧ lo ≤ hi ∧ hi ≤ 600)) pl cm h ++ (jrW ct (b 1) 94 M ++ (jrW ct (b 2) 94 SP ++ (jrW ct (b 3) 376 SV ++ (irW ct (b 4) 150 TX ++ (irW ct (b 5) 2 NB)))))) H := hP
        have hD : va_D A (moW b sc tl (ck_b (-300 ≤ lo ∧ lo ≤ hi ∧ hi ≤ 600)) pl cm h ++ (jrW ct (b 1) 94 M ++ (jrW ct (b 2) 94 SP ++ (jrW ct (b 3) 376 SV ++ (irW ct (b 4) 150 TX ++ (irW ct (b 5) 2 NB)))))) := hD
        have hl : lv_has ls 10 [(0, .ref (b 0)), (1, .int (zI lo)), (2, .int (zI hi)), (3, .long (zJ l_)), (5, .long (zJ g_)), (7, .int (zI w_))] := hl
        have mB := sp_mxB (lo := lo) hB (i - 1).toNat
        rw [← hl_, ← hg_] at mB
        refine lv_iload hx hb dX9_rangeOfRates_53 (lv_at hl 5 rfl) ?_
        refine lv_iload_n hx hb dX9_rangeOfRates_55 rfl (lv_at hl 2 rfl) ?_
        refine z_icmp_gt (tgt := 109) hx hb dX9_rangeOfRates_56 (by decide) (by omega) (by omega) (fun hc_56 => ?_) (fun hc_56 => ?_)
        · have hc_56 := hc_56
          refine lv_lload hx hb dX9_rangeOfRates_109 (lv_at hl 4 rfl) ?_
          refine lv_lload_n hx hb dX9_rangeOfRates_111 rfl (lv_at hl 3 rfl) ?_
          refine z_lsub hx hb dX9_rangeOfRates_112 ?_
          refine z_l2i hx hb dX9_rangeOfRates_113 ?_
          exact z_iret hx hb hr hlocks hP hD hS ⟨Nat.le_of_ble_eq_true rfl, Nat.le_of_ble_eq_true rfl⟩ dX9_rangeOfRates_114 (⟨congrArg (fun z => some (Value.int (zI z))) (by unfold sp_range; rw [show (hi - lo) / 10 = i - 1 by omega, ← hl_, ← hg_]), rfl⟩)
        · have hc_56 := hc_56
          have rw_ := rb w_ (by omega)
          refine lv_aload_n hx hb dX9_rangeOfRates_59 rfl (lv_at hl 0 rfl) ?_
          refine lv_aload_n hx hb dX9_rangeOfRates_60 rfl (lv_at hl 0 rfl) ?_
          refine lv_iload hx hb dX9_rangeOfRates_61 (lv_at hl 5 rfl) ?_
          refine z_i2l hx hb dX9_rangeOfRates_63 (by omega) ?_
          refine z_callV (C := RX9) (q0 := 0) (ci := 7) (As := [.long (zJ w_)]) (rest := [.ref (b 0)]) ([] : va_W) ([] : va_W) hx hb hml hown hts hl hE hS hA (zr0 ([] : va_W) hP) (zr0D ([] : va_W) hD) (c_X9_lengthAt l D ct ad b M SP SV TX NB sc tl (ck_b (-300 ≤ lo ∧ lo ≤ hi ∧ hi ≤ 600)) pl cm h w_ (by assumption) (by assumption) (by omega)) gX9_rangeOfRates_X9_lengthAt rfl rfl k_X9_lengthAt ⟨Nat.le_of_ble_eq_true rfl, Nat.le_of_ble_eq_true rfl⟩ rfl rfl rfl rfl (Nat.le_of_ble_eq_true rfl) ⟨Nat.le_of_ble_eq_true rfl, Nat.le_of_ble_eq_true rfl⟩ dX9_rangeOfRates_64 rfl (fun v w1 H locs hpost hP hD hS => ?_)
          obtain ⟨rfl, rfl⟩ := hpost
          have hP := zr0' hP
          have hD := zr0D' hD
          have hP : va_P D vwCl (moW b sc tl (ck_b (-300 ≤ lo ∧ lo ≤ hi ∧ hi ≤ 600)) pl cm h ++ (jrW ct (b 1) 94 M ++ (jrW ct (b 2) 94 SP ++ (jrW ct (b 3) 376 SV ++ (irW ct (b 4) 150 TX ++ (irW ct (b 5) 2 NB)))))) H := hP
          have hD : va_D A (moW b sc tl (ck_b (-300 ≤ lo ∧ lo ≤ hi ∧ hi ≤ 600)) pl cm h ++ (jrW ct (b 1) 94 M ++ (jrW ct (b 2) 94 SP ++ (jrW ct (b 3) 376 SV ++ (irW ct (b 4) 150 TX ++ (irW ct (b 5) 2 NB)))))) := hD
          refine W.eq (g2 := F0 m 67 ls [.long (zJ (sp_len M w_)), .ref (b 0)]) rfl ?_
          refine z_callV (C := RX9) (q0 := 0) (ci := 7) (As := [.long (zJ (sp_len M w_))]) (rest := []) ([] : va_W) ([] : va_W) hx hb hml hown hts hl hE hS hA (zr0 ([] : va_W) hP) (zr0D ([] : va_W) hD) (c_X9_rateBy l D ct ad b M SP SV TX NB sc tl (ck_b (-300 ≤ lo ∧ lo ≤ hi ∧ hi ≤ 600)) pl cm h (sp_len M w_) (by assumption) (by assumption) (by omega)) gX9_rangeOfRates_X9_rateBy rfl rfl k_X9_rateBy ⟨Nat.le_of_ble_eq_true rfl, Nat.le_of_ble_eq_true rfl⟩ rfl rfl rfl rfl (Nat.le_of_ble_eq_true rfl) ⟨Nat.le_of_ble_eq_true rfl, Nat.le_of_ble_eq_true rfl⟩ dX9_rangeOfRates_67 rfl (fun v w1 H locs hpost hP hD hS => ?_)
          obtain ⟨rfl, rfl⟩ := hpost
          have hP := zr0' hP
          have hD := zr0D' hD
          have hP : va_P D vwCl (moW b sc tl (ck_b (-300 ≤ lo ∧ lo ≤ hi ∧ hi ≤ 600)) pl cm h ++ (jrW ct (b 1) 94 M ++ (jrW ct (b 2) 94 SP ++ (jrW ct (b 3) 376 SV ++ (irW ct (b 4) 150 TX ++ (irW ct (b 5) 2 NB)))))) H := hP
          have hD : va_D A (moW b sc tl (ck_b (-300 ≤ lo ∧ lo ≤ hi ∧ hi ≤ 600)) pl cm h ++ (jrW ct (b 1) 94 M ++ (jrW ct (b 2) 94 SP ++ (jrW ct (b 3) 376 SV ++ (irW ct (b 4) 150 TX ++ (irW ct (b 5) 2 NB)))))) := hD
          refine W.eq (g2 := F0 m 70 ls [.long (zJ (sp_rate M (sp_len M w_) (M 8)))]) rfl ?_
          refine lv_lstore (lv' := [(8, .long (zJ (sp_rate M (sp_len M w_) (M 8)))), (0, .ref (b 0)), (1, .int (zI lo)), (2, .int (zI hi)), (3, .long (zJ l_)), (5, .long (zJ g_)), (7, .int (zI w_))]) hx hb dX9_rangeOfRates_70 hl (by decide) rfl (fun ls hl => ?_)
          refine lv_lload hx hb dX9_rangeOfRates_72 (lv_at hl 0 rfl) ?_
          refine lv_lload_n hx hb dX9_rangeOfRates_74 rfl (lv_at hl 4 rfl) ?_
          refine z_lcmp_ge (tgt := 84) hx hb dX9_rangeOfRates_75 dX9_rangeOfRates_76 (by decide) (by omega) (by omega) (fun hc_75 => ?_) (fun hc_75 => ?_)
          · have hc_75 := hc_75
            refine lv_lload_n hx hb dX9_rangeOfRates_84 rfl (lv_at hl 4 rfl) ?_
            refine lv_lstore_n (lv' := [(3, .long (zJ l_)), (8, .long (zJ (sp_rate M (sp_len M w_) (M 8)))), (0, .ref (b 0)), (1, .int (zI lo)), (2, .int (zI hi)), (5, .long (zJ g_)), (7, .int (zI w_))]) hx hb dX9_rangeOfRates_85 rfl hl (by decide) rfl (fun ls hl => ?_)
            refine lv_lload hx hb dX9_rangeOfRates_86 (lv_at hl 1 rfl) ?_
            refine lv_lload hx hb dX9_rangeOfRates_88 (lv_at hl 5 rfl) ?_
            refine z_lcmp_le (tgt := 99) hx hb dX9_rangeOfRates_90 dX9_rangeOfRates_91 (by decide) (by omega) (by omega) (fun hc_90 => ?_) (fun hc_90 => ?_)
            · have hc_90 := hc_90
              refine lv_lload hx hb dX9_rangeOfRates_99 (lv_at hl 5 rfl) ?_
              refine lv_lstore (lv' := [(5, .long (zJ g_)), (3, .long (zJ l_)), (8, .long (zJ (sp_rate M (sp_len M w_) (M 8)))), (0, .ref (b 0)), (1, .int (zI lo)), (2, .int (zI hi)), (7, .int (zI w_))]) hx hb dX9_rangeOfRates_101 hl (by decide) rfl (fun ls hl => ?_)
              refine z_iinc (k := 6) (lv' := [(7, .int (zI (w_ + 10))), (5, .long (zJ g_)), (3, .long (zJ l_)), (8, .long (zJ (sp_rate M (sp_len M w_) (M 8)))), (0, .ref (b 0)), (1, .int (zI lo)), (2, .int (zI hi))]) hx hb dX9_rangeOfRates_103 hl rfl (by decide) rfl (fun ls hl => ?_)
              refine lv_goto (tgt := 53) hx hb dX9_rangeOfRates_106 (by decide) ?_
              exact ih_53 (i + 1, l_, g_, w_ + 10) ⟨(show 0 ≤ (i + 1) ∧ lo + 10 * (i + 1) ≤ hi + 10 from (by omega)), (show (w_ + 10) = lo + 10 * (i + 1) from (by omega)), (show l_ = sp_mn M lo ((i + 1) - 1 : Int).toNat from (by exact mnq hi_.1 hl_ hw (by omega))), (show g_ = sp_mx M lo ((i + 1) - 1 : Int).toNat from (by exact mxq hi_.1 hg_ hw (by omega)))⟩ (show (hi + 10 - lo - 10 * (i + 1)).toNat < (hi + 10 - lo - 10 * i).toNat from (by omega)) _ _ _ hP hD hS (lv_sub hl [4, 5, 6, 2, 1, 0] rfl)
            · have hc_90 := hc_90
              refine lv_lload hx hb dX9_rangeOfRates_94 (lv_at hl 1 rfl) ?_
              refine lv_goto (tgt := 101) hx hb dX9_rangeOfRates_96 (by decide) ?_
              refine lv_lstore (lv' := [(5, .long (zJ (sp_rate M (sp_len M w_) (M 8)))), (3, .long (zJ l_)), (8, .long (zJ (sp_rate M (sp_len M w_) (M 8)))), (0, .ref (b 0)), (1, .int (zI lo)), (2, .int (zI hi)), (7, .int (zI w_))]) hx hb dX9_rangeOfRates_101 hl (by decide) rfl (fun ls hl => ?_)
              refine z_iinc (k := 6) (lv' := [(7, .int (zI (w_ + 10))), (5, .long (zJ (sp_rate M (sp_len M w_) (M 8)))), (3, .long (zJ l_)), (8, .long (zJ (sp_rate M (sp_len M w_) (M 8)))), (0, .ref (b 0)), (1, .int (zI lo)), (2, .int (zI hi))]) hx hb dX9_rangeOfRates_103 hl rfl (by decide) rfl (fun ls hl => ?_)
              refine lv_goto (tgt := 53) hx hb dX9_rangeOfRates_106 (by decide) ?_
              exact ih_53 (i + 1, l_, sp_rate M (sp_len M w_) (M 8), w_ + 10) ⟨(show 0 ≤ (i + 1) ∧ lo + 10 * (i + 1) ≤ hi + 10 from (by omega)), (show (w_ + 10) = lo + 10 * (i + 1) from (by omega)), (show l_ = sp_mn M lo ((i + 1) - 1 : Int).toNat from (by exact mnq hi_.1 hl_ hw (by omega))), (show (sp_rate M (sp_len M w_) (M 8)) = sp_mx M lo ((i + 1) - 1 : Int).toNat from (by exact mxq hi_.1 hg_ hw (by omega)))⟩ (show (hi + 10 - lo - 10 * (i + 1)).toNat < (hi + 10 - lo - 10 * i).toNat from (by omega)) _ _ _ hP hD hS (lv_sub hl [4, 5, 6, 2, 1, 0] rfl)
          · have hc_75 := hc_75
            refine lv_lload hx hb dX9_rangeOfRates_79 (lv_at hl 0 rfl) ?_
            refine lv_goto (tgt := 85) hx hb dX9_rangeOfRates_81 (by decide) ?_
            refine lv_lstore_n (lv' := [(3, .long (zJ (sp_rate M (sp_len M w_) (M 8)))), (8, .long (zJ (sp_rate M (sp_len M w_) (M 8)))), (0, .ref (b 0)), (1, .int (zI lo)), (2, .int (zI hi)), (5, .long (zJ g_)), (7, .int (zI w_))]) hx hb dX9_rangeOfRates_85 rfl hl (by decide) rfl (fun ls hl => ?_)
            refine lv_lload hx hb dX9_rangeOfRates_86 (lv_at hl 1 rfl) ?_
            refine lv_lload hx hb dX9_rangeOfRates_88 (lv_at hl 5 rfl) ?_
            refine z_lcmp_le (tgt := 99) hx hb dX9_rangeOfRates_90 dX9_rangeOfRates_91 (by decide) (by omega) (by omega) (fun hc_90 => ?_) (fun hc_90 => ?_)
            · have hc_90 := hc_90
              refine lv_lload hx hb dX9_rangeOfRates_99 (lv_at hl 5 rfl) ?_
              refine lv_lstore (lv' := [(5, .long (zJ g_)), (3, .long (zJ (sp_rate M (sp_len M w_) (M 8)))), (8, .long (zJ (sp_rate M (sp_len M w_) (M 8)))), (0, .ref (b 0)), (1, .int (zI lo)), (2, .int (zI hi)), (7, .int (zI w_))]) hx hb dX9_rangeOfRates_101 hl (by decide) rfl (fun ls hl => ?_)
              refine z_iinc (k := 6) (lv' := [(7, .int (zI (w_ + 10))), (5, .long (zJ g_)), (3, .long (zJ (sp_rate M (sp_len M w_) (M 8)))), (8, .long (zJ (sp_rate M (sp_len M w_) (M 8)))), (0, .ref (b 0)), (1, .int (zI lo)), (2, .int (zI hi))]) hx hb dX9_rangeOfRates_103 hl rfl (by decide) rfl (fun ls hl => ?_)
              refine lv_goto (tgt := 53) hx hb dX9_rangeOfRates_106 (by decide) ?_
              exact ih_53 (i + 1, sp_rate M (sp_len M w_) (M 8), g_, w_ + 10) ⟨(show 0 ≤ (i + 1) ∧ lo + 10 * (i + 1) ≤ hi + 10 from (by omega)), (show (w_ + 10) = lo + 10 * (i + 1) from (by omega)), (show (sp_rate M (sp_len M w_) (M 8)) = sp_mn M lo ((i + 1) - 1 : Int).toNat from (by exact mnq hi_.1 hl_ hw (by omega))), (show g_ = sp_mx M lo ((i + 1) - 1 : Int).toNat from (by exact mxq hi_.1 hg_ hw (by omega)))⟩ (show (hi + 10 - lo - 10 * (i + 1)).toNat < (hi + 10 - lo - 10 * i).toNat from (by omega)) _ _ _ hP hD hS (lv_sub hl [4, 5, 6, 2, 1, 0] rfl)
            · have hc_90 := hc_90
              refine lv_lload hx hb dX9_rangeOfRates_94 (lv_at hl 1 rfl) ?_
              refine lv_goto (tgt := 101) hx hb dX9_rangeOfRates_96 (by decide) ?_
              refine lv_lstore (lv' := [(5, .long (zJ (sp_rate M (sp_len M w_) (M 8)))), (3, .long (zJ (sp_rate M (sp_len M w_) (M 8)))), (8, .long (zJ (sp_rate M (sp_len M w_) (M 8)))), (0, .ref (b 0)), (1, .int (zI lo)), (2, .int (zI hi)), (7, .int (zI w_))]) hx hb dX9_rangeOfRates_101 hl (by decide) rfl (fun ls hl => ?_)
              refine z_iinc (k := 6) (lv' := [(7, .int (zI (w_ + 10))), (5, .long (zJ (sp_rate M (sp_len M w_) (M 8)))), (3, .long (zJ (sp_rate M (sp_len M w_) (M 8)))), (8, .long (zJ (sp_rate M (sp_len M w_) (M 8)))), (0, .ref (b 0)), (1, .int (zI lo)), (2, .int (zI hi))]) hx hb dX9_rangeOfRates_103 hl rfl (by decide) rfl (fun ls hl => ?_)
              refine lv_goto (tgt := 53) hx hb dX9_rangeOfRates_106 (by decide) ?_
              exact ih_53 (i + 1, sp_rate M (sp_len M w_) (M 8), sp_rate M (sp_len M w_) (M 8), w_ + 10) ⟨(show 0 ≤ (i + 1) ∧ lo + 10 * (i + 1) ≤ hi + 10 from (by omega)), (show (w_ + 10) = lo + 10 * (i + 1) from (by omega)), (show (sp_rate M (sp_len M w_) (M 8)) = sp_mn M lo ((i + 1) - 1 : Int).toNat from (by exact mnq hi_.1 hl_ hw (by omega))), (show (sp_rate M (sp_len M w_) (M 8)) = sp_mx M lo ((i + 1) - 1 : Int).toNat from (by exact mxq hi_.1 hg_ hw (by omega)))⟩ (show (hi + 10 - lo - 10 * (i + 1)).toNat < (hi + 10 - lo - 10 * i).toNat from (by omega)) _ _ _ hP hD hS (lv_sub hl [4, 5, 6, 2, 1, 0] rfl)
      · have hc_31 := hc_31
        exact absurd hok hc_31
set_option maxHeartbeats 4000000 in
set_option maxRecDepth 100000 in
theorem c_X9_rangeOfRates_no (l : Launch) (D : va_G) (ct ad : Nat → Nat) (b : Nat → Nat) (M SP SV TX NB : Int → Int) (sc tl cd pl cm h : Int) (lo hi : Int) (hI : gInv M) (hB : bInv M) (h1 : -2147483648 ≤ lo ∧ lo ≤ 2147483647) (h2 : -2147483648 ≤ hi ∧ hi ≤ 2147483647) (hno : ck_b (-300 ≤ lo ∧ lo ≤ hi ∧ hi ≤ 600) ≠ 0) : ZM l yX9_rangeOfRates wsX9_rangeOfRates ({ frames := 2, cells := 0, slots := 0, locals := 42 } : Room) D ct ad [.ref (b 0), .int (zI lo), .int (zI hi)] (moW b sc tl cd pl cm h ++ (jrW ct (b 1) 94 M ++ (jrW ct (b 2) 94 SP ++ (jrW ct (b 3) 376 SV ++ (irW ct (b 4) 150 TX ++ (irW ct (b 5) 2 NB)))))) (zD (some (.int (zI 0))) (moW b sc tl (ck_b (-300 ≤ lo ∧ lo ≤ hi ∧ hi ≤ 600)) pl cm h ++ (jrW ct (b 1) 94 M ++ (jrW ct (b 2) 94 SP ++ (jrW ct (b 3) 376 SV ++ (irW ct (b 4) 150 TX ++ (irW ct (b 5) 2 NB))))))) := by
  refine ZM.of (cc := cX9_rangeOfRates) (maxL := 10) (ret := (some .int)) (by decide +kernel) rfl (Nat.le_of_ble_eq_true rfl) ?_
  intro p e s m below meth c A ls hx hb hr hts hown hlocks hml hname hE hP hD hA hS hl
  have hK := hE.1
  have hf_0 := hts (.fieldLink RX9 42 "RodGridsModel" "code" "I") (by decide +kernel)
  have hin_X9 : ∀ z ∈ u_ws RX9 TX9 11, z ∈ wsX9_rangeOfRates := by decide +kernel
  have hl : lv_has ls 10 [(0, .ref (b 0)), (1, .int (zI lo)), (2, .int (zI hi))] := hl
  have i3 := hI.1
  have i4 := hI.2.1
  have j0 := hB.1
  have j1 := hB.2.1
  have j2 := hB.2.2.1
  have j4 := hB.2.2.2.2
  have ckb : 0 ≤ ck_b (-300 ≤ lo ∧ lo ≤ hi ∧ hi ≤ 600) ∧ ck_b (-300 ≤ lo ∧ lo ≤ hi ∧ hi ≤ 600) ≤ 3 := by unfold ck_b; (repeat' split) <;> omega
  refine lv_aload_n hx hb dX9_rangeOfRates_0 rfl (lv_at hl 0 rfl) ?_
  refine lv_iload_n hx hb dX9_rangeOfRates_1 rfl (lv_at hl 1 rfl) ?_
  refine z_callS (As := [.int (zI lo)]) (rest := [.ref (b 0)]) ([] : va_W) (moW b sc tl cd pl cm h ++ (jrW ct (b 1) 94 M ++ (jrW ct (b 2) 94 SP ++ (jrW ct (b 3) 376 SV ++ (irW ct (b 4) 150 TX ++ (irW ct (b 5) 2 NB)))))) hx hb hml hown hts hl hE hS hA hP hD (c_X9_isWarmth l D ct ad lo (by omega)) gX9_rangeOfRates_X9_isWarmth rfl k_X9_isWarmth ⟨Nat.le_of_ble_eq_true rfl, Nat.le_of_ble_eq_true rfl⟩ rfl (Nat.le_of_ble_eq_true rfl) ⟨Nat.le_of_ble_eq_true rfl, Nat.le_of_ble_eq_true rfl⟩ dX9_rangeOfRates_2 rfl (fun v w1 H locs hpost hP hD hS => ?_)
  obtain ⟨rfl, rfl⟩ := hpost
  have hP : va_P D vwCl (moW b sc tl cd pl cm h ++ (jrW ct (b 1) 94 M ++ (jrW ct (b 2) 94 SP ++ (jrW ct (b 3) 376 SV ++ (irW ct (b 4) 150 TX ++ (irW ct (b 5) 2 NB)))))) H := hP
  have hD : va_D A (moW b sc tl cd pl cm h ++ (jrW ct (b 1) 94 M ++ (jrW ct (b 2) 94 SP ++ (jrW ct (b 3) 376 SV ++ (irW ct (b 4) 150 TX ++ (irW ct (b 5) 2 NB)))))) := hD
  refine W.eq (g2 := F0 m 5 ls [.int (zI (zB (-300 ≤ lo ∧ lo ≤ 600))), .ref (b 0)]) rfl ?_
  refine zb_if_eq (tgt := 23) hx hb dX9_rangeOfRates_5 (by decide) (fun hc_5 => ?_) (fun hc_5 => ?_)
  · have hc_5 := hc_5
    refine z_iconst hx hb dX9_rangeOfRates_23 ?_
    refine z_canI (show 1 = ck_b (-300 ≤ lo ∧ lo ≤ hi ∧ hi ≤ 600) from (by unfold ck_b; (repeat' split) <;> omega)) ?_
    refine z_put (ct := ct) (ad := ad) (ci := 7) (v := .int (zI (ck_b (-300 ≤ lo ∧ lo ≤ hi ∧ hi ≤ 600)))) (ty := tyX9 6) (C := RX9) (T := TX9) (N := 11) (w2 := moW b sc tl (ck_b (-300 ≤ lo ∧ lo ≤ hi ∧ hi ≤ 600)) pl cm h ++ (jrW ct (b 1) 94 M ++ (jrW ct (b 2) 94 SP ++ (jrW ct (b 3) 376 SV ++ (irW ct (b 4) 150 TX ++ (irW ct (b 5) 2 NB)))))) hx hb hts hin_X9 tyX9 tyX9_ok nmX9 hown hE hP hD hS 0 rfl rfl 6 (by decide) hf_0 (fun _ h9 => h9) rfl (by decide +kernel) rfl rfl (Nat.le_of_ble_eq_true rfl) dX9_rangeOfRates_24 (rfl) (fun H locs hP hD hS => ?_)
    refine lv_aload_n hx hb dX9_rangeOfRates_27 rfl (lv_at hl 0 rfl) ?_
    refine va_get (D := D) (ci := 7) (v := .int (zI (ck_b (-300 ≤ lo ∧ lo ≤ hi ∧ hi ≤ 600)))) (C := RX9) (T := TX9) (N := 11) hx hb hts hin_X9 hown hK hP 0 rfl rfl 6 (by decide) hf_0 (fun _ h9 => h9) rfl dX9_rangeOfRates_28 ?_
    refine z_if_eq (tgt := 36) hx hb dX9_rangeOfRates_31 (by decide) (by omega) (fun hc_31 => ?_) (fun hc_31 => ?_)
    · have hc_31 := hc_31
      exact absurd hc_31 hno
    · have hc_31 := hc_31
      refine z_iconst hx hb dX9_rangeOfRates_34 ?_
      exact z_iret hx hb hr hlocks hP hD hS ⟨Nat.le_of_ble_eq_true rfl, Nat.le_of_ble_eq_true rfl⟩ dX9_rangeOfRates_35 (⟨congrArg (fun z => some (Value.int (zI z))) (rfl), rfl⟩)
  · have hc_5 := hc_5
    refine lv_iload_n hx hb dX9_rangeOfRates_8 rfl (lv_at hl 2 rfl) ?_
    refine lv_iload_n hx hb dX9_rangeOfRates_9 rfl (lv_at hl 1 rfl) ?_
    refine z_sipush hx hb dX9_rangeOfRates_10 (by decide) ?_
    refine z_callS (As := [.int (zI hi), .int (zI lo), .int (zI 600)]) (rest := [.ref (b 0)]) ([] : va_W) (moW b sc tl cd pl cm h ++ (jrW ct (b 1) 94 M ++ (jrW ct (b 2) 94 SP ++ (jrW ct (b 3) 376 SV ++ (irW ct (b 4) 150 TX ++ (irW ct (b 5) 2 NB)))))) hx hb hml hown hts hl hE hS hA hP hD (c_X9_in l D ct ad hi lo 600 (by omega) (by omega) (by omega)) gX9_rangeOfRates_X9_in rfl k_X9_in ⟨Nat.le_of_ble_eq_true rfl, Nat.le_of_ble_eq_true rfl⟩ rfl (Nat.le_of_ble_eq_true rfl) ⟨Nat.le_of_ble_eq_true rfl, Nat.le_of_ble_eq_true rfl⟩ dX9_rangeOfRates_13 rfl (fun v w1 H locs hpost hP hD hS => ?_)
    obtain ⟨rfl, rfl⟩ := hpost
    have hP : va_P D vwCl (moW b sc tl cd pl cm h ++ (jrW ct (b 1) 94 M ++ (jrW ct (b 2) 94 SP ++ (jrW ct (b 3) 376 SV ++ (irW ct (b 4) 150 TX ++ (irW ct (b 5) 2 NB)))))) H := hP
    have hD : va_D A (moW b sc tl cd pl cm h ++ (jrW ct (b 1) 94 M ++ (jrW ct (b 2) 94 SP ++ (jrW ct (b 3) 376 SV ++ (irW ct (b 4) 150 TX ++ (irW ct (b 5) 2 NB)))))) := hD
    refine W.eq (g2 := F0 m 16 ls [.int (zI (zB (lo ≤ hi ∧ hi ≤ 600))), .ref (b 0)]) rfl ?_
    refine zb_if_eq (tgt := 23) hx hb dX9_rangeOfRates_16 (by decide) (fun hc_16 => ?_) (fun hc_16 => ?_)
    · have hc_16 := hc_16
      refine z_iconst hx hb dX9_rangeOfRates_23 ?_
      refine z_canI (show 1 = ck_b (-300 ≤ lo ∧ lo ≤ hi ∧ hi ≤ 600) from (by unfold ck_b; (repeat' split) <;> omega)) ?_
      refine z_put (ct := ct) (ad := ad) (ci := 7) (v := .int (zI (ck_b (-300 ≤ lo ∧ lo ≤ hi ∧ hi ≤ 600)))) (ty := tyX9 6) (C := RX9) (T := TX9) (N := 11) (w2 := moW b sc tl (ck_b (-300 ≤ lo ∧ lo ≤ hi ∧ hi ≤ 600)) pl cm h ++ (jrW ct (b 1) 94 M ++ (jrW ct (b 2) 94 SP ++ (jrW ct (b 3) 376 SV ++ (irW ct (b 4) 150 TX ++ (irW ct (b 5) 2 NB)))))) hx hb hts hin_X9 tyX9 tyX9_ok nmX9 hown hE hP hD hS 0 rfl rfl 6 (by decide) hf_0 (fun _ h9 => h9) rfl (by decide +kernel) rfl rfl (Nat.le_of_ble_eq_true rfl) dX9_rangeOfRates_24 (rfl) (fun H locs hP hD hS => ?_)
      refine lv_aload_n hx hb dX9_rangeOfRates_27 rfl (lv_at hl 0 rfl) ?_
      refine va_get (D := D) (ci := 7) (v := .int (zI (ck_b (-300 ≤ lo ∧ lo ≤ hi ∧ hi ≤ 600)))) (C := RX9) (T := TX9) (N := 11) hx hb hts hin_X9 hown hK hP 0 rfl rfl 6 (by decide) hf_0 (fun _ h9 => h9) rfl dX9_rangeOfRates_28 ?_
      refine z_if_eq (tgt := 36) hx hb dX9_rangeOfRates_31 (by decide) (by omega) (fun hc_31 => ?_) (fun hc_31 => ?_)
      · have hc_31 := hc_31
        exact absurd hc_31 hno
      · have hc_31 := hc_31
        refine z_iconst hx hb dX9_rangeOfRates_34 ?_
        exact z_iret hx hb hr hlocks hP hD hS ⟨Nat.le_of_ble_eq_true rfl, Nat.le_of_ble_eq_true rfl⟩ dX9_rangeOfRates_35 (⟨congrArg (fun z => some (Value.int (zI z))) (rfl), rfl⟩)
    · have hc_16 := hc_16
      refine z_iconst hx hb dX9_rangeOfRates_19 ?_
      refine lv_goto (tgt := 24) hx hb dX9_rangeOfRates_20 (by decide) ?_
      exfalso
      have hck : 0 = ck_b (-300 ≤ lo ∧ lo ≤ hi ∧ hi ≤ 600) := by unfold ck_b; (repeat' split) <;> omega
      omega
set_option maxHeartbeats 4000000 in
set_option maxRecDepth 100000 in
theorem c_X9_changeWithin_ok (l : Launch) (D : va_G) (ct ad : Nat → Nat) (b : Nat → Nat) (M SP SV TX NB : Int → Int) (sc tl cd pl cm h : Int) (n : Int) (hI : gInv M) (hB : bInv M) (h1 : -2147483648 ≤ n ∧ n ≤ 2147483647) (h9 : M 9 ≤ 100000) (hok : ck_b (0 ≤ n ∧ n ≤ 500) = 0) : ZM l yX9_changeWithin wsX9_changeWithin ({ frames := 8, cells := 0, slots := 0, locals := 176 } : Room) D ct ad [.ref (b 0), .int (zI n)] (moW b sc tl cd pl cm h ++ (jrW ct (b 1) 94 M ++ (jrW ct (b 2) 94 SP ++ (jrW ct (b 3) 376 SV ++ (irW ct (b 4) 150 TX ++ (irW ct (b 5) 2 NB)))))) (zD (some (.long (zJ (sp_cs M (min n (M 8)).toNat)))) (moW b sc tl (ck_b (0 ≤ n ∧ n ≤ 500)) pl cm h ++ (jrW ct (b 1) 94 M ++ (jrW ct (b 2) 94 (brN M SP 0 0 94) ++ (jrW ct (b 3) 376 SV ++ (irW ct (b 4) 150 TX ++ (irW ct (b 5) 2 NB))))))) := by
  refine ZM.of (cc := cX9_changeWithin) (maxL := 5) (ret := (some .long)) (by decide +kernel) rfl (Nat.le_of_ble_eq_true rfl) ?_
  intro p e s m below meth c A ls hx hb hr hts hown hlocks hml hname hE hP hD hA hS hl
  have hK := hE.1
  have hf_0 := hts (.fieldLink RX9 42 "RodGridsModel" "code" "I") (by decide +kernel)
  have hf_1 := hts (.fieldLink RX9 7 "RodGridsModel" "m" "[J") (by decide +kernel)
  have hf_2 := hts (.fieldLink RX9 13 "RodGridsModel" "spare" "[J") (by decide +kernel)
  have hin_X9 : ∀ z ∈ u_ws RX9 TX9 11, z ∈ wsX9_changeWithin := by decide +kernel
  have hl : lv_has ls 5 [(0, .ref (b 0)), (1, .int (zI n))] := hl
  have i3 := hI.1
  have i4 := hI.2.1
  have j0 := hB.1
  have j1 := hB.2.1
  have j2 := hB.2.2.1
  have j4 := hB.2.2.2.2
  have ckb : 0 ≤ ck_b (0 ≤ n ∧ n ≤ 500) ∧ ck_b (0 ≤ n ∧ n ≤ 500) ≤ 3 := by unfold ck_b; (repeat' split) <;> omega
  have okf : 0 ≤ n ∧ n ≤ 500 := by unfold ck_b at hok; (repeat' split at hok) <;> omega
  refine lv_aload_n hx hb dX9_changeWithin_0 rfl (lv_at hl 0 rfl) ?_
  refine lv_iload_n hx hb dX9_changeWithin_1 rfl (lv_at hl 1 rfl) ?_
  refine z_iconst hx hb dX9_changeWithin_2 ?_
  refine z_sipush hx hb dX9_changeWithin_3 (by decide) ?_
  refine z_callS (As := [.int (zI n), .int (zI 0), .int (zI 500)]) (rest := [.ref (b 0)]) ([] : va_W) (moW b sc tl cd pl cm h ++ (jrW ct (b 1) 94 M ++ (jrW ct (b 2) 94 SP ++ (jrW ct (b 3) 376 SV ++ (irW ct (b 4) 150 TX ++ (irW ct (b 5) 2 NB)))))) hx hb hml hown hts hl hE hS hA hP hD (c_X9_in l D ct ad n 0 500 (by omega) (by omega) (by omega)) gX9_changeWithin_X9_in rfl k_X9_in ⟨Nat.le_of_ble_eq_true rfl, Nat.le_of_ble_eq_true rfl⟩ rfl (Nat.le_of_ble_eq_true rfl) ⟨Nat.le_of_ble_eq_true rfl, Nat.le_of_ble_eq_true rfl⟩ dX9_changeWithin_6 rfl (fun v w1 H locs hpost hP hD hS => ?_)
  obtain ⟨rfl, rfl⟩ := hpost
  have hP : va_P D vwCl (moW b sc tl cd pl cm h ++ (jrW ct (b 1) 94 M ++ (jrW ct (b 2) 94 SP ++ (jrW ct (b 3) 376 SV ++ (irW ct (b 4) 150 TX ++ (irW ct (b 5) 2 NB)))))) H := hP
  have hD : va_D A (moW b sc tl cd pl cm h ++ (jrW ct (b 1) 94 M ++ (jrW ct (b 2) 94 SP ++ (jrW ct (b 3) 376 SV ++ (irW ct (b 4) 150 TX ++ (irW ct (b 5) 2 NB)))))) := hD
  refine W.eq (g2 := F0 m 9 ls [.int (zI (zB (0 ≤ n ∧ n ≤ 500))), .ref (b 0)]) rfl ?_
  refine zb_if_eq (tgt := 16) hx hb dX9_changeWithin_9 (by decide) (fun hc_9 => ?_) (fun hc_9 => ?_)
  · have hc_9 := hc_9
    refine z_iconst hx hb dX9_changeWithin_16 ?_
    exfalso
    have hck : 1 = ck_b (0 ≤ n ∧ n ≤ 500) := by unfold ck_b; (repeat' split) <;> omega
    omega
  · have hc_9 := hc_9
    refine z_iconst hx hb dX9_changeWithin_12 ?_
    refine lv_goto (tgt := 17) hx hb dX9_changeWithin_13 (by decide) ?_
    refine z_canI (show 0 = ck_b (0 ≤ n ∧ n ≤ 500) from (by unfold ck_b; (repeat' split) <;> omega)) ?_
    refine z_put (ct := ct) (ad := ad) (ci := 7) (v := .int (zI (ck_b (0 ≤ n ∧ n ≤ 500)))) (ty := tyX9 6) (C := RX9) (T := TX9) (N := 11) (w2 := moW b sc tl (ck_b (0 ≤ n ∧ n ≤ 500)) pl cm h ++ (jrW ct (b 1) 94 M ++ (jrW ct (b 2) 94 SP ++ (jrW ct (b 3) 376 SV ++ (irW ct (b 4) 150 TX ++ (irW ct (b 5) 2 NB)))))) hx hb hts hin_X9 tyX9 tyX9_ok nmX9 hown hE hP hD hS 0 rfl rfl 6 (by decide) hf_0 (fun _ h9 => h9) rfl (by decide +kernel) rfl rfl (Nat.le_of_ble_eq_true rfl) dX9_changeWithin_17 (rfl) (fun H locs hP hD hS => ?_)
    refine lv_aload_n hx hb dX9_changeWithin_20 rfl (lv_at hl 0 rfl) ?_
    refine va_get (D := D) (ci := 7) (v := .int (zI (ck_b (0 ≤ n ∧ n ≤ 500)))) (C := RX9) (T := TX9) (N := 11) hx hb hts hin_X9 hown hK hP 0 rfl rfl 6 (by decide) hf_0 (fun _ h9 => h9) rfl dX9_changeWithin_21 ?_
    refine z_if_eq (tgt := 29) hx hb dX9_changeWithin_24 (by decide) (by omega) (fun hc_24 => ?_) (fun hc_24 => ?_)
    · have hc_24 := hc_24
      refine lv_aload_n hx hb dX9_changeWithin_29 rfl (lv_at hl 0 rfl) ?_
      refine va_get (D := D) (ci := 7) (v := .ref (b 1)) (C := RX9) (T := TX9) (N := 11) hx hb hts hin_X9 hown hK hP 0 rfl rfl 0 (by decide) hf_1 (fun _ h9 => h9) rfl dX9_changeWithin_30 ?_
      refine z_iconst hx hb dX9_changeWithin_33 ?_
      refine lv_aload_n hx hb dX9_changeWithin_34 rfl (lv_at hl 0 rfl) ?_
      refine va_get (D := D) (ci := 7) (v := .ref (b 2)) (C := RX9) (T := TX9) (N := 11) hx hb hts hin_X9 hown hK hP 0 rfl rfl 1 (by decide) hf_2 (fun _ h9 => h9) rfl dX9_changeWithin_35 ?_
      refine z_iconst hx hb dX9_changeWithin_38 ?_
      refine z_callS (As := [.ref (b 1), .int (zI 0), .ref (b 2), .int (zI 0)]) (rest := []) (moW b sc tl (ck_b (0 ≤ n ∧ n ≤ 500)) pl cm h) (jrW ct (b 3) 376 SV ++ (irW ct (b 4) 150 TX ++ (irW ct (b 5) 2 NB))) hx hb hml hown hts hl hE hS hA hP hD (c_X9_bring l D ct ad (b 1) (b 2) 94 94 M SP 0 0 (by omega) (by omega) (by omega)) gX9_changeWithin_X9_bring rfl k_X9_bring ⟨Nat.le_of_ble_eq_true rfl, Nat.le_of_ble_eq_true rfl⟩ rfl (Nat.le_of_ble_eq_true rfl) ⟨Nat.le_of_ble_eq_true rfl, Nat.le_of_ble_eq_true rfl⟩ dX9_changeWithin_39 rfl (fun v w1 H locs hpost hP hD hS => ?_)
      obtain ⟨rfl, rfl⟩ := hpost
      have hP : va_P D vwCl (moW b sc tl (ck_b (0 ≤ n ∧ n ≤ 500)) pl cm h ++ (jrW ct (b 1) 94 M ++ (jrW ct (b 2) 94 (brN M SP 0 0 94) ++ (jrW ct (b 3) 376 SV ++ (irW ct (b 4) 150 TX ++ (irW ct (b 5) 2 NB)))))) H := hP
      have hD : va_D A (moW b sc tl (ck_b (0 ≤ n ∧ n ≤ 500)) pl cm h ++ (jrW ct (b 1) 94 M ++ (jrW ct (b 2) 94 (brN M SP 0 0 94) ++ (jrW ct (b 3) 376 SV ++ (irW ct (b 4) 150 TX ++ (irW ct (b 5) 2 NB)))))) := hD
      refine W.eq (g2 := F0 m 42 ls []) rfl ?_
      refine lv_aload_n hx hb dX9_changeWithin_42 rfl (lv_at hl 0 rfl) ?_
      refine lv_iload_n hx hb dX9_changeWithin_43 rfl (lv_at hl 1 rfl) ?_
      refine z_callV (C := RX9) (q0 := 0) (ci := 7) (As := [.int (zI n)]) (rest := []) ([] : va_W) ([] : va_W) hx hb hml hown hts hl hE hS hA (zr0 ([] : va_W) hP) (zr0D ([] : va_W) hD) (c_X9_passes l D ct ad b M (brN M SP 0 0 94) SV TX NB sc tl (ck_b (0 ≤ n ∧ n ≤ 500)) pl cm h n (by assumption) (by assumption) (by omega) (by omega)) gX9_changeWithin_X9_passes rfl rfl k_X9_passes ⟨Nat.le_of_ble_eq_true rfl, Nat.le_of_ble_eq_true rfl⟩ rfl rfl rfl rfl (Nat.le_of_ble_eq_true rfl) ⟨Nat.le_of_ble_eq_true rfl, Nat.le_of_ble_eq_true rfl⟩ dX9_changeWithin_44 rfl (fun v w1 H locs hpost hP hD hS => ?_)
      obtain ⟨rfl, rfl⟩ := hpost
      have hP := zr0' hP
      have hD := zr0D' hD
      have hP : va_P D vwCl (moW b sc tl (ck_b (0 ≤ n ∧ n ≤ 500)) pl cm h ++ (jrW ct (b 1) 94 (sp_pass M n.toNat) ++ (jrW ct (b 2) 94 (brN M SP 0 0 94) ++ (jrW ct (b 3) 376 SV ++ (irW ct (b 4) 150 TX ++ (irW ct (b 5) 2 NB)))))) H := hP
      have hD : va_D A (moW b sc tl (ck_b (0 ≤ n ∧ n ≤ 500)) pl cm h ++ (jrW ct (b 1) 94 (sp_pass M n.toNat) ++ (jrW ct (b 2) 94 (brN M SP 0 0 94) ++ (jrW ct (b 3) 376 SV ++ (irW ct (b 4) 150 TX ++ (irW ct (b 5) 2 NB)))))) := hD
      refine W.eq (g2 := F0 m 47 ls [.int (zI (sp_err (sp_pass M n.toNat)))]) rfl ?_
      refine lv_istore_n (lv' := [(2, .int (zI (sp_err (sp_pass M n.toNat)))), (0, .ref (b 0)), (1, .int (zI n))]) hx hb dX9_changeWithin_47 rfl hl (by decide) rfl (fun ls hl => ?_)
      refine lv_aload_n hx hb dX9_changeWithin_48 rfl (lv_at hl 1 rfl) ?_
      refine va_get (D := D) (ci := 7) (v := .ref (b 1)) (C := RX9) (T := TX9) (N := 11) hx hb hts hin_X9 hown hK hP 0 rfl rfl 0 (by decide) hf_1 (fun _ h9 => h9) rfl dX9_changeWithin_49 ?_
      refine z_bipush hx hb dX9_changeWithin_52 (by decide) ?_
      refine z_lald (g := (sp_pass M n.toNat)) (v := (sp_pass M n.toNat) 12) hx hb hK hP 1 rfl (by decide) (by omega) rfl dX9_changeWithin_54 ?_
      refine lv_aload_n hx hb dX9_changeWithin_55 rfl (lv_at hl 1 rfl) ?_
      refine va_get (D := D) (ci := 7) (v := .ref (b 2)) (C := RX9) (T := TX9) (N := 11) hx hb hts hin_X9 hown hK hP 0 rfl rfl 1 (by decide) hf_2 (fun _ h9 => h9) rfl dX9_changeWithin_56 ?_
      refine z_bipush hx hb dX9_changeWithin_59 (by decide) ?_
      refine z_lald (g := (brN M SP 0 0 94)) (v := (brN M SP 0 0 94) 12) hx hb hK hP 2 rfl (by decide) (by omega) rfl dX9_changeWithin_61 ?_
      refine z_lsub hx hb dX9_changeWithin_62 ?_
      refine lv_lstore_n (lv' := [(3, .long (zJ (((sp_pass M n.toNat) 12) - ((brN M SP 0 0 94) 12)))), (2, .int (zI (sp_err (sp_pass M n.toNat)))), (0, .ref (b 0)), (1, .int (zI n))]) hx hb dX9_changeWithin_63 rfl hl (by decide) rfl (fun ls hl => ?_)
      have hperm := zperm (fun k : Nat => match k with | 0 => moW b sc tl (ck_b (0 ≤ n ∧ n ≤ 500)) pl cm h | 1 => jrW ct (b 1) 94 (sp_pass M n.toNat) | 2 => jrW ct (b 2) 94 (brN M SP 0 0 94) | 3 => jrW ct (b 3) 376 SV | 4 => irW ct (b 4) 150 TX | _ => irW ct (b 5) 2 NB) [0, 1, 2, 3, 4, 5] [0, 2, 1, 3, 4, 5] (by decide)
      have hP : va_P D vwCl (moW b sc tl (ck_b (0 ≤ n ∧ n ≤ 500)) pl cm h ++ (jrW ct (b 2) 94 (brN M SP 0 0 94) ++ (jrW ct (b 1) 94 (sp_pass M n.toNat) ++ (jrW ct (b 3) 376 SV ++ (irW ct (b 4) 150 TX ++ (irW ct (b 5) 2 NB)))))) H := va_P.perm hperm hP
      have hD : va_D A (moW b sc tl (ck_b (0 ≤ n ∧ n ≤ 500)) pl cm h ++ (jrW ct (b 2) 94 (brN M SP 0 0 94) ++ (jrW ct (b 1) 94 (sp_pass M n.toNat) ++ (jrW ct (b 3) 376 SV ++ (irW ct (b 4) 150 TX ++ (irW ct (b 5) 2 NB)))))) := va_D.perm hperm hD
      refine lv_aload_n hx hb dX9_changeWithin_64 rfl (lv_at hl 2 rfl) ?_
      refine va_get (D := D) (ci := 7) (v := .ref (b 2)) (C := RX9) (T := TX9) (N := 11) hx hb hts hin_X9 hown hK hP 0 rfl rfl 1 (by decide) hf_2 (fun _ h9 => h9) rfl dX9_changeWithin_65 ?_
      refine z_iconst hx hb dX9_changeWithin_68 ?_
      refine lv_aload_n hx hb dX9_changeWithin_69 rfl (lv_at hl 2 rfl) ?_
      refine va_get (D := D) (ci := 7) (v := .ref (b 1)) (C := RX9) (T := TX9) (N := 11) hx hb hts hin_X9 hown hK hP 0 rfl rfl 0 (by decide) hf_1 (fun _ h9 => h9) rfl dX9_changeWithin_70 ?_
      refine z_iconst hx hb dX9_changeWithin_73 ?_
      refine z_callS (As := [.ref (b 2), .int (zI 0), .ref (b 1), .int (zI 0)]) (rest := []) (moW b sc tl (ck_b (0 ≤ n ∧ n ≤ 500)) pl cm h) (jrW ct (b 3) 376 SV ++ (irW ct (b 4) 150 TX ++ (irW ct (b 5) 2 NB))) hx hb hml hown hts hl hE hS hA hP hD (c_X9_bring l D ct ad (b 2) (b 1) 94 94 (brN M SP 0 0 94) (sp_pass M n.toNat) 0 0 (by omega) (by omega) (by omega)) gX9_changeWithin_X9_bring rfl k_X9_bring ⟨Nat.le_of_ble_eq_true rfl, Nat.le_of_ble_eq_true rfl⟩ rfl (Nat.le_of_ble_eq_true rfl) ⟨Nat.le_of_ble_eq_true rfl, Nat.le_of_ble_eq_true rfl⟩ dX9_changeWithin_74 rfl (fun v w1 H locs hpost hP hD hS => ?_)
      obtain ⟨rfl, rfl⟩ := hpost
      have hP : va_P D vwCl (moW b sc tl (ck_b (0 ≤ n ∧ n ≤ 500)) pl cm h ++ (jrW ct (b 2) 94 (brN M SP 0 0 94) ++ (jrW ct (b 1) 94 (brN (brN M SP 0 0 94) (sp_pass M n.toNat) 0 0 94) ++ (jrW ct (b 3) 376 SV ++ (irW ct (b 4) 150 TX ++ (irW ct (b 5) 2 NB)))))) H := hP
      have hD : va_D A (moW b sc tl (ck_b (0 ≤ n ∧ n ≤ 500)) pl cm h ++ (jrW ct (b 2) 94 (brN M SP 0 0 94) ++ (jrW ct (b 1) 94 (brN (brN M SP 0 0 94) (sp_pass M n.toNat) 0 0 94) ++ (jrW ct (b 3) 376 SV ++ (irW ct (b 4) 150 TX ++ (irW ct (b 5) 2 NB)))))) := hD
      refine W.eq (g2 := F0 m 77 ls []) rfl ?_
      have hperm := zperm (fun k : Nat => match k with | 0 => moW b sc tl (ck_b (0 ≤ n ∧ n ≤ 500)) pl cm h | 1 => jrW ct (b 2) 94 (brN M SP 0 0 94) | 2 => jrW ct (b 1) 94 (brN (brN M SP 0 0 94) (sp_pass M n.toNat) 0 0 94) | 3 => jrW ct (b 3) 376 SV | 4 => irW ct (b 4) 150 TX | _ => irW ct (b 5) 2 NB) [0, 1, 2, 3, 4, 5] [0, 2, 1, 3, 4, 5] (by decide)
      have hP : va_P D vwCl (moW b sc tl (ck_b (0 ≤ n ∧ n ≤ 500)) pl cm h ++ (jrW ct (b 1) 94 (brN (brN M SP 0 0 94) (sp_pass M n.toNat) 0 0 94) ++ (jrW ct (b 2) 94 (brN M SP 0 0 94) ++ (jrW ct (b 3) 376 SV ++ (irW ct (b 4) 150 TX ++ (irW ct (b 5) 2 NB)))))) H := va_P.perm hperm hP
      have hD : va_D A (moW b sc tl (ck_b (0 ≤ n ∧ n ≤ 500)) pl cm h ++ (jrW ct (b 1) 94 (brN (brN M SP 0 0 94) (sp_pass M n.toNat) 0 0 94) ++ (jrW ct (b 2) 94 (brN M SP 0 0 94) ++ (jrW ct (b 3) 376 SV ++ (irW ct (b 4) 150 TX ++ (irW ct (b 5) 2 NB)))))) := va_D.perm hperm hD
      refine lv_lload_n hx hb dX9_changeWithin_77 rfl (lv_at hl 0 rfl) ?_
      exact z_lret hx hb hr hlocks hP hD hS ⟨Nat.le_of_ble_eq_true rfl, Nat.le_of_ble_eq_true rfl⟩ dX9_changeWithin_78 (⟨congrArg (fun z => some (Value.long (zJ z))) (by rw [(pass_cs hI hB h9 n.toNat (by omega)).2.2.2, show brN M SP 0 0 94 12 = M 12 from rfl, show (min ((n.toNat : Nat) : Int) (M 8)).toNat = (min n (M 8)).toNat by omega]; omega), by rw [jr_back]⟩)
    · have hc_24 := hc_24
      exact absurd hok hc_24
set_option maxHeartbeats 4000000 in
set_option maxRecDepth 100000 in
theorem c_X9_changeWithin_no (l : Launch) (D : va_G) (ct ad : Nat → Nat) (b : Nat → Nat) (M SP SV TX NB : Int → Int) (sc tl cd pl cm h : Int) (n : Int) (hI : gInv M) (hB : bInv M) (h1 : -2147483648 ≤ n ∧ n ≤ 2147483647) (h9 : M 9 ≤ 100000) (hno : ck_b (0 ≤ n ∧ n ≤ 500) ≠ 0) : ZM l yX9_changeWithin wsX9_changeWithin ({ frames := 1, cells := 0, slots := 0, locals := 22 } : Room) D ct ad [.ref (b 0), .int (zI n)] (moW b sc tl cd pl cm h ++ (jrW ct (b 1) 94 M ++ (jrW ct (b 2) 94 SP ++ (jrW ct (b 3) 376 SV ++ (irW ct (b 4) 150 TX ++ (irW ct (b 5) 2 NB)))))) (zD (some (.long (zJ 0))) (moW b sc tl (ck_b (0 ≤ n ∧ n ≤ 500)) pl cm h ++ (jrW ct (b 1) 94 M ++ (jrW ct (b 2) 94 SP ++ (jrW ct (b 3) 376 SV ++ (irW ct (b 4) 150 TX ++ (irW ct (b 5) 2 NB))))))) := by
  refine ZM.of (cc := cX9_changeWithin) (maxL := 5) (ret := (some .long)) (by decide +kernel) rfl (Nat.le_of_ble_eq_true rfl) ?_
  intro p e s m below meth c A ls hx hb hr hts hown hlocks hml hname hE hP hD hA hS hl
  have hK := hE.1
  have hf_0 := hts (.fieldLink RX9 42 "RodGridsModel" "code" "I") (by decide +kernel)
  have hin_X9 : ∀ z ∈ u_ws RX9 TX9 11, z ∈ wsX9_changeWithin := by decide +kernel
  have hl : lv_has ls 5 [(0, .ref (b 0)), (1, .int (zI n))] := hl
  have i3 := hI.1
  have i4 := hI.2.1
  have j0 := hB.1
  have j1 := hB.2.1
  have j2 := hB.2.2.1
  have j4 := hB.2.2.2.2
  have ckb : 0 ≤ ck_b (0 ≤ n ∧ n ≤ 500) ∧ ck_b (0 ≤ n ∧ n ≤ 500) ≤ 3 := by unfold ck_b; (repeat' split) <;> omega
  refine lv_aload_n hx hb dX9_changeWithin_0 rfl (lv_at hl 0 rfl) ?_
  refine lv_iload_n hx hb dX9_changeWithin_1 rfl (lv_at hl 1 rfl) ?_
  refine z_iconst hx hb dX9_changeWithin_2 ?_
  refine z_sipush hx hb dX9_changeWithin_3 (by decide) ?_
  refine z_callS (As := [.int (zI n), .int (zI 0), .int (zI 500)]) (rest := [.ref (b 0)]) ([] : va_W) (moW b sc tl cd pl cm h ++ (jrW ct (b 1) 94 M ++ (jrW ct (b 2) 94 SP ++ (jrW ct (b 3) 376 SV ++ (irW ct (b 4) 150 TX ++ (irW ct (b 5) 2 NB)))))) hx hb hml hown hts hl hE hS hA hP hD (c_X9_in l D ct ad n 0 500 (by omega) (by omega) (by omega)) gX9_changeWithin_X9_in rfl k_X9_in ⟨Nat.le_of_ble_eq_true rfl, Nat.le_of_ble_eq_true rfl⟩ rfl (Nat.le_of_ble_eq_true rfl) ⟨Nat.le_of_ble_eq_true rfl, Nat.le_of_ble_eq_true rfl⟩ dX9_changeWithin_6 rfl (fun v w1 H locs hpost hP hD hS => ?_)
  obtain ⟨rfl, rfl⟩ := hpost
  have hP : va_P D vwCl (moW b sc tl cd pl cm h ++ (jrW ct (b 1) 94 M ++ (jrW ct (b 2) 94 SP ++ (jrW ct (b 3) 376 SV ++ (irW ct (b 4) 150 TX ++ (irW ct (b 5) 2 NB)))))) H := hP
  have hD : va_D A (moW b sc tl cd pl cm h ++ (jrW ct (b 1) 94 M ++ (jrW ct (b 2) 94 SP ++ (jrW ct (b 3) 376 SV ++ (irW ct (b 4) 150 TX ++ (irW ct (b 5) 2 NB)))))) := hD
  refine W.eq (g2 := F0 m 9 ls [.int (zI (zB (0 ≤ n ∧ n ≤ 500))), .ref (b 0)]) rfl ?_
  refine zb_if_eq (tgt := 16) hx hb dX9_changeWithin_9 (by decide) (fun hc_9 => ?_) (fun hc_9 => ?_)
  · have hc_9 := hc_9
    refine z_iconst hx hb dX9_changeWithin_16 ?_
    refine z_canI (show 1 = ck_b (0 ≤ n ∧ n ≤ 500) from (by unfold ck_b; (repeat' split) <;> omega)) ?_
    refine z_put (ct := ct) (ad := ad) (ci := 7) (v := .int (zI (ck_b (0 ≤ n ∧ n ≤ 500)))) (ty := tyX9 6) (C := RX9) (T := TX9) (N := 11) (w2 := moW b sc tl (ck_b (0 ≤ n ∧ n ≤ 500)) pl cm h ++ (jrW ct (b 1) 94 M ++ (jrW ct (b 2) 94 SP ++ (jrW ct (b 3) 376 SV ++ (irW ct (b 4) 150 TX ++ (irW ct (b 5) 2 NB)))))) hx hb hts hin_X9 tyX9 tyX9_ok nmX9 hown hE hP hD hS 0 rfl rfl 6 (by decide) hf_0 (fun _ h9 => h9) rfl (by decide +kernel) rfl rfl (Nat.le_of_ble_eq_true rfl) dX9_changeWithin_17 (rfl) (fun H locs hP hD hS => ?_)
    refine lv_aload_n hx hb dX9_changeWithin_20 rfl (lv_at hl 0 rfl) ?_
    refine va_get (D := D) (ci := 7) (v := .int (zI (ck_b (0 ≤ n ∧ n ≤ 500)))) (C := RX9) (T := TX9) (N := 11) hx hb hts hin_X9 hown hK hP 0 rfl rfl 6 (by decide) hf_0 (fun _ h9 => h9) rfl dX9_changeWithin_21 ?_
    refine z_if_eq (tgt := 29) hx hb dX9_changeWithin_24 (by decide) (by omega) (fun hc_24 => ?_) (fun hc_24 => ?_)
    · have hc_24 := hc_24
      exact absurd hc_24 hno
    · have hc_24 := hc_24
      refine z_lconst (z := 0) hx hb dX9_changeWithin_27 rfl ?_
      exact z_lret hx hb hr hlocks hP hD hS ⟨Nat.le_of_ble_eq_true rfl, Nat.le_of_ble_eq_true rfl⟩ dX9_changeWithin_28 (⟨congrArg (fun z => some (Value.long (zJ z))) (rfl), rfl⟩)
  · have hc_9 := hc_9
    refine z_iconst hx hb dX9_changeWithin_12 ?_
    refine lv_goto (tgt := 17) hx hb dX9_changeWithin_13 (by decide) ?_
    exfalso
    have hck : 0 = ck_b (0 ≤ n ∧ n ≤ 500) := by unfold ck_b; (repeat' split) <;> omega
    omega
set_option maxHeartbeats 4000000 in
set_option maxRecDepth 100000 in
theorem c_X9_balance (l : Launch) (D : va_G) (ct ad : Nat → Nat) (b : Nat → Nat) (M SP SV TX NB : Int → Int) (sc tl cd pl cm h : Int) (hI : gInv M) : ZM l yX9_balance wsX9_balance ({ frames := 3, cells := 0, slots := 0, locals := 65 } : Room) D ct ad [.ref (b 0)] (moW b sc tl cd pl cm h ++ (jrW ct (b 1) 94 M ++ (jrW ct (b 2) 94 SP ++ (jrW ct (b 3) 376 SV ++ (irW ct (b 4) 150 TX ++ (irW ct (b 5) 2 NB)))))) (zD (some (.long (zJ (sp_bal M)))) (moW b sc tl 0 pl cm h ++ (jrW ct (b 1) 94 M ++ (jrW ct (b 2) 94 SP ++ (jrW ct (b 3) 376 SV ++ (irW ct (b 4) 150 TX ++ (irW ct (b 5) 2 NB))))))) := by
  refine ZM.of (cc := cX9_balance) (maxL := 1) (ret := (some .long)) (by decide +kernel) rfl (Nat.le_of_ble_eq_true rfl) ?_
  intro p e s m below meth c A ls hx hb hr hts hown hlocks hml hname hE hP hD hA hS hl
  have hK := hE.1
  have hf_0 := hts (.fieldLink RX9 42 "RodGridsModel" "code" "I") (by decide +kernel)
  have hin_X9 : ∀ z ∈ u_ws RX9 TX9 11, z ∈ wsX9_balance := by decide +kernel
  have hl : lv_has ls 1 [(0, .ref (b 0))] := hl
  have i3 := hI.1
  have i4 := hI.2.1
  refine lv_aload_n hx hb dX9_balance_0 rfl (lv_at hl 0 rfl) ?_
  refine z_iconst hx hb dX9_balance_1 ?_
  refine z_put (ct := ct) (ad := ad) (ci := 7) (v := .int (zI 0)) (ty := tyX9 6) (C := RX9) (T := TX9) (N := 11) (w2 := moW b sc tl 0 pl cm h ++ (jrW ct (b 1) 94 M ++ (jrW ct (b 2) 94 SP ++ (jrW ct (b 3) 376 SV ++ (irW ct (b 4) 150 TX ++ (irW ct (b 5) 2 NB)))))) hx hb hts hin_X9 tyX9 tyX9_ok nmX9 hown hE hP hD hS 0 rfl rfl 6 (by decide) hf_0 (fun _ h9 => h9) rfl (by decide +kernel) rfl rfl (Nat.le_of_ble_eq_true rfl) dX9_balance_2 (rfl) (fun H locs hP hD hS => ?_)
  refine lv_aload_n hx hb dX9_balance_5 rfl (lv_at hl 0 rfl) ?_
  refine z_callV (C := RX9) (q0 := 0) (ci := 7) (As := []) (rest := []) ([] : va_W) ([] : va_W) hx hb hml hown hts hl hE hS hA (zr0 ([] : va_W) hP) (zr0D ([] : va_W) hD) (c_X9_balanceNow l D ct ad b M SP SV TX NB sc tl 0 pl cm h (by assumption)) gX9_balance_X9_balanceNow rfl rfl k_X9_balanceNow ⟨Nat.le_of_ble_eq_true rfl, Nat.le_of_ble_eq_true rfl⟩ rfl rfl rfl rfl (Nat.le_of_ble_eq_true rfl) ⟨Nat.le_of_ble_eq_true rfl, Nat.le_of_ble_eq_true rfl⟩ dX9_balance_6 rfl (fun v w1 H locs hpost hP hD hS => ?_)
  obtain ⟨rfl, rfl⟩ := hpost
  have hP := zr0' hP
  have hD := zr0D' hD
  have hP : va_P D vwCl (moW b sc tl 0 pl cm h ++ (jrW ct (b 1) 94 M ++ (jrW ct (b 2) 94 SP ++ (jrW ct (b 3) 376 SV ++ (irW ct (b 4) 150 TX ++ (irW ct (b 5) 2 NB)))))) H := hP
  have hD : va_D A (moW b sc tl 0 pl cm h ++ (jrW ct (b 1) 94 M ++ (jrW ct (b 2) 94 SP ++ (jrW ct (b 3) 376 SV ++ (irW ct (b 4) 150 TX ++ (irW ct (b 5) 2 NB)))))) := hD
  refine W.eq (g2 := F0 m 9 ls [.long (zJ (sp_bal M))]) rfl ?_
  exact z_lret hx hb hr hlocks hP hD hS ⟨Nat.le_of_ble_eq_true rfl, Nat.le_of_ble_eq_true rfl⟩ dX9_balance_9 (⟨congrArg (fun z => some (Value.long (zJ z))) (rfl), rfl⟩)
set_option maxHeartbeats 4000000 in
set_option maxRecDepth 100000 in
theorem c_X9_rates (l : Launch) (D : va_G) (ct ad : Nat → Nat) (b : Nat → Nat) (M SP SV TX NB : Int → Int) (sc tl cd pl cm h : Int)  : ZM l yX9_rates wsX9_rates ({ frames := 0, cells := 0, slots := 0, locals := 0 } : Room) D ct ad [.ref (b 0)] (moW b sc tl cd pl cm h ++ (jrW ct (b 1) 94 M ++ (jrW ct (b 2) 94 SP ++ (jrW ct (b 3) 376 SV ++ (irW ct (b 4) 150 TX ++ (irW ct (b 5) 2 NB)))))) (zD (some (.long (zJ (M 12)))) (moW b sc tl 0 pl cm h ++ (jrW ct (b 1) 94 M ++ (jrW ct (b 2) 94 SP ++ (jrW ct (b 3) 376 SV ++ (irW ct (b 4) 150 TX ++ (irW ct (b 5) 2 NB))))))) := by
  refine ZM.of (cc := cX9_rates) (maxL := 1) (ret := (some .long)) (by decide +kernel) rfl (Nat.le_of_ble_eq_true rfl) ?_
  intro p e s m below meth c A ls hx hb hr hts hown hlocks hml hname hE hP hD hA hS hl
  have hK := hE.1
  have hf_0 := hts (.fieldLink RX9 42 "RodGridsModel" "code" "I") (by decide +kernel)
  have hf_1 := hts (.fieldLink RX9 7 "RodGridsModel" "m" "[J") (by decide +kernel)
  have hin_X9 : ∀ z ∈ u_ws RX9 TX9 11, z ∈ wsX9_rates := by decide +kernel
  have hl : lv_has ls 1 [(0, .ref (b 0))] := hl
  refine lv_aload_n hx hb dX9_rates_0 rfl (lv_at hl 0 rfl) ?_
  refine z_iconst hx hb dX9_rates_1 ?_
  refine z_put (ct := ct) (ad := ad) (ci := 7) (v := .int (zI 0)) (ty := tyX9 6) (C := RX9) (T := TX9) (N := 11) (w2 := moW b sc tl 0 pl cm h ++ (jrW ct (b 1) 94 M ++ (jrW ct (b 2) 94 SP ++ (jrW ct (b 3) 376 SV ++ (irW ct (b 4) 150 TX ++ (irW ct (b 5) 2 NB)))))) hx hb hts hin_X9 tyX9 tyX9_ok nmX9 hown hE hP hD hS 0 rfl rfl 6 (by decide) hf_0 (fun _ h9 => h9) rfl (by decide +kernel) rfl rfl (Nat.le_of_ble_eq_true rfl) dX9_rates_2 (rfl) (fun H locs hP hD hS => ?_)
  refine lv_aload_n hx hb dX9_rates_5 rfl (lv_at hl 0 rfl) ?_
  refine va_get (D := D) (ci := 7) (v := .ref (b 1)) (C := RX9) (T := TX9) (N := 11) hx hb hts hin_X9 hown hK hP 0 rfl rfl 0 (by decide) hf_1 (fun _ h9 => h9) rfl dX9_rates_6 ?_
  refine z_bipush hx hb dX9_rates_9 (by decide) ?_
  refine z_lald (g := M) (v := M 12) hx hb hK hP 1 rfl (by decide) (by omega) rfl dX9_rates_11 ?_
  exact z_lret hx hb hr hlocks hP hD hS ⟨Nat.le_of_ble_eq_true rfl, Nat.le_of_ble_eq_true rfl⟩ dX9_rates_12 (⟨congrArg (fun z => some (Value.long (zJ z))) (rfl), rfl⟩)
theorem k_X9_bestNutNow : yX9_bestNutNow.cls ≠ "java/lang/invoke/MethodHandle" ∧ yX9_bestNutNow.cls ≠ "java/lang/invoke/VarHandle" ∧ (parseMethodDescriptor yX9_bestNutNow.desc).map (fun d => d.parameters.length) = some 0 := by decide +kernel
set_option maxHeartbeats 4000000 in
set_option maxRecDepth 100000 in
theorem c_X9_bestNut (l : Launch) (D : va_G) (ct ad : Nat → Nat) (b : Nat → Nat) (M SP SV TX NB : Int → Int) (sc tl cd pl cm h : Int) (hI : gInv M) (hB : bInv M) : ZM l yX9_bestNut wsX9_bestNut ({ frames := 4, cells := 0, slots := 0, locals := 95 } : Room) D ct ad [.ref (b 0)] (moW b sc tl cd pl cm h ++ (jrW ct (b 1) 94 M ++ (jrW ct (b 2) 94 SP ++ (jrW ct (b 3) 376 SV ++ (irW ct (b 4) 150 TX ++ (irW ct (b 5) 2 NB)))))) (zD (some (.int (zI (sp_best M)))) (moW b sc tl 0 pl cm h ++ (jrW ct (b 1) 94 M ++ (jrW ct (b 2) 94 SP ++ (jrW ct (b 3) 376 SV ++ (irW ct (b 4) 150 TX ++ (irW ct (b 5) 2 NB))))))) := by
  refine ZM.of (cc := cX9_bestNut) (maxL := 1) (ret := (some .int)) (by decide +kernel) rfl (Nat.le_of_ble_eq_true rfl) ?_
  intro p e s m below meth c A ls hx hb hr hts hown hlocks hml hname hE hP hD hA hS hl
  have hK := hE.1
  have hf_0 := hts (.fieldLink RX9 42 "RodGridsModel" "code" "I") (by decide +kernel)
  have hin_X9 : ∀ z ∈ u_ws RX9 TX9 11, z ∈ wsX9_bestNut := by decide +kernel
  have hl : lv_has ls 1 [(0, .ref (b 0))] := hl
  have i3 := hI.1
  have i4 := hI.2.1
  have j0 := hB.1
  have j1 := hB.2.1
  have j2 := hB.2.2.1
  have j4 := hB.2.2.2.2
  refine lv_aload_n hx hb dX9_bestNut_0 rfl (lv_at hl 0 rfl) ?_
  refine z_iconst hx hb dX9_bestNut_1 ?_
  refine z_put (ct := ct) (ad := ad) (ci := 7) (v := .int (zI 0)) (ty := tyX9 6) (C := RX9) (T := TX9) (N := 11) (w2 := moW b sc tl 0 pl cm h ++ (jrW ct (b 1) 94 M ++ (jrW ct (b 2) 94 SP ++ (jrW ct (b 3) 376 SV ++ (irW ct (b 4) 150 TX ++ (irW ct (b 5) 2 NB)))))) hx hb hts hin_X9 tyX9 tyX9_ok nmX9 hown hE hP hD hS 0 rfl rfl 6 (by decide) hf_0 (fun _ h9 => h9) rfl (by decide +kernel) rfl rfl (Nat.le_of_ble_eq_true rfl) dX9_bestNut_2 (rfl) (fun H locs hP hD hS => ?_)
  refine lv_aload_n hx hb dX9_bestNut_5 rfl (lv_at hl 0 rfl) ?_
  refine z_callV (C := RX9) (q0 := 0) (ci := 7) (As := []) (rest := []) ([] : va_W) ([] : va_W) hx hb hml hown hts hl hE hS hA (zr0 ([] : va_W) hP) (zr0D ([] : va_W) hD) (c_X9_bestNutNow l D ct ad b M SP SV TX NB sc tl 0 pl cm h (by assumption) (by assumption)) gX9_bestNut_X9_bestNutNow rfl rfl k_X9_bestNutNow ⟨Nat.le_of_ble_eq_true rfl, Nat.le_of_ble_eq_true rfl⟩ rfl rfl rfl rfl (Nat.le_of_ble_eq_true rfl) ⟨Nat.le_of_ble_eq_true rfl, Nat.le_of_ble_eq_true rfl⟩ dX9_bestNut_6 rfl (fun v w1 H locs hpost hP hD hS => ?_)
  obtain ⟨rfl, rfl⟩ := hpost
  have hP := zr0' hP
  have hD := zr0D' hD
  have hP : va_P D vwCl (moW b sc tl 0 pl cm h ++ (jrW ct (b 1) 94 M ++ (jrW ct (b 2) 94 SP ++ (jrW ct (b 3) 376 SV ++ (irW ct (b 4) 150 TX ++ (irW ct (b 5) 2 NB)))))) H := hP
  have hD : va_D A (moW b sc tl 0 pl cm h ++ (jrW ct (b 1) 94 M ++ (jrW ct (b 2) 94 SP ++ (jrW ct (b 3) 376 SV ++ (irW ct (b 4) 150 TX ++ (irW ct (b 5) 2 NB)))))) := hD
  refine W.eq (g2 := F0 m 9 ls [.int (zI (sp_best M))]) rfl ?_
  exact z_iret hx hb hr hlocks hP hD hS ⟨Nat.le_of_ble_eq_true rfl, Nat.le_of_ble_eq_true rfl⟩ dX9_bestNut_9 (⟨congrArg (fun z => some (Value.int (zI z))) (rfl), rfl⟩)
