set_option maxHeartbeats 4000000 in
set_option maxRecDepth 100000 in
theorem law_c15 (p : Program) (l : Launch) (e : Env) (s : State) (m : MethodId) (below : List Frame) (meth : Method) (c : Code) (D : va_G) (ct ad : Nat → Nat) (b L : Nat) (xs : Nat → Int32) (u : Nat) (a r q : Nat → Nat) (b2 : Nat → Nat → Nat) (o0 : Nat) (mb : Nat → Nat) (hC : lwC p l s m meth c D ct ad b L xs) (i : Int) (hi : 0 ≤ i ∧ i + 4 ≤ (L : Int)) (cells slots : Nat) (hcap : cells + 1 ≤ 601024 ∧ slots + 6 ≤ 7293034) (ih : ∀ (H : Heap) (locs : List Loc) (ls : Array Slot), lwI s D ct b u a r q b2 o0 mb i H locs ls → W p l e room_1 s m #[Value.ref b] below meth c H locs (cells + 1) (slots + 6) (lw_Z below #[Value.ref b] s) (F0 m 1590 ls [])) (H : Heap) (locs : List Loc) (ls : Array Slot) (hI0 : lwI s D ct b u a r q b2 o0 mb i H locs ls) : W p l e room_1 s m #[Value.ref b] below meth c H locs cells slots (lw_Z below #[Value.ref b] s) (F0 m 1053 ls []) := by
  obtain ⟨hx, hb, hr, hml, hown, hts, hX, hbl, hlocks, hE, hst, hL⟩ := hC
  obtain ⟨nx, sz, S, M, TX, tl, pl, ft, n1, n2, wd, O, SP, SV, NB, cd, plm, cm, h, hR, hP, hD, hS, hl⟩ := hI0
  have hA : ∀ q : Nat, s.heap.size ≤ q → (fun q : Nat => s.heap.size ≤ q) q := fun _ h => h
  have hbA : ¬ (fun q : Nat => s.heap.size ≤ q) b := Nat.not_le.mpr hbl
  have hK := hE.1
  have hc0 : cells ≤ room_1.cells ∧ slots ≤ room_1.slots := by show cells ≤ 601024 ∧ slots ≤ 7293034; omega
  have hc1 : cells + 1 ≤ room_1.cells ∧ slots + 6 ≤ room_1.slots := hcap
  have hP : va_P D vwCl (x8W u a r q ++ (svW ct r b2 nx sz S ++ (sobjW a ++ (gridW ct a M ++ (benchW ct a M ++ (logW ct a M ++ (txtW ct q TX tl pl ft wd n1 n2 ++ (jrW ct o0 1 O ++ (moW mb sz tl cd plm cm h ++ (jrW ct (mb 1) 94 M ++ (jrW ct (mb 2) 94 SP ++ (jrW ct (mb 3) 376 SV ++ (irW ct (mb 4) 150 TX ++ (irW ct (mb 5) 2 NB)))))))))))))) H := hP
  have hD : va_D (fun q : Nat => s.heap.size ≤ q) (x8W u a r q ++ (svW ct r b2 nx sz S ++ (sobjW a ++ (gridW ct a M ++ (benchW ct a M ++ (logW ct a M ++ (txtW ct q TX tl pl ft wd n1 n2 ++ (jrW ct o0 1 O ++ (moW mb sz tl cd plm cm h ++ (jrW ct (mb 1) 94 M ++ (jrW ct (mb 2) 94 SP ++ (jrW ct (mb 3) 376 SV ++ (irW ct (mb 4) 150 TX ++ (irW ct (mb 5) 2 NB)))))))))))))) := hD
  have hs := hR.1
  have ht := hR.2.1
  have hI := hs.1
  have hB := hs.2.1
  have ha := hs.2.2
  have i3 := hI.1
  have i4 := hI.2.1
  have j0 := hB.1
  have j1 := hB.2.1
  have j2 := hB.2.2.1
  have j4 := hB.2.2.2.2
  have t1 := ht.1
  have hn := hR.2.2.1
  have hsz := hR.2.2.2.1
  have hsc := hR.2.2.2.1
  refine lv_aload_n hx hb dL_law_1053 rfl (lv_at hl 1 rfl) ?_
  refine z_callV (C := RX8) (q0 := 0) (ci := 6) (As := []) (rest := []) ([] : va_W) (jrW ct o0 1 O ++ (moW mb sz tl cd plm cm h ++ (jrW ct (mb 1) 94 M ++ (jrW ct (mb 2) 94 SP ++ (jrW ct (mb 3) 376 SV ++ (irW ct (mb 4) 150 TX ++ (irW ct (mb 5) 2 NB))))))) hx hb hml hown (fun w h => hts w (inL_142 w h)) hl hE hS hA hP hD (c_X8_balance l D ct ad u a r q b2 nx sz S M TX tl pl ft n1 n2 wd (by assumption)) gdL_142 rfl rfl k_X8_balance ⟨Nat.le_of_ble_eq_true rfl, Nat.le_of_ble_eq_true rfl⟩ rfl rfl rfl rfl (Nat.le_of_ble_eq_true rfl) hc0 dL_law_1054 rfl (fun v w1 H locs hpost hP hD hS => ?_)
  obtain ⟨rfl, rfl⟩ := hpost
  have hP : va_P D vwCl (x8W u a r q ++ (svW ct r b2 nx sz S ++ (sobjW a ++ (gridW ct a M ++ (benchW ct a M ++ (logW ct a M ++ (txtW ct q TX tl pl ft wd n1 n2 ++ (jrW ct o0 1 O ++ (moW mb sz tl cd plm cm h ++ (jrW ct (mb 1) 94 M ++ (jrW ct (mb 2) 94 SP ++ (jrW ct (mb 3) 376 SV ++ (irW ct (mb 4) 150 TX ++ (irW ct (mb 5) 2 NB)))))))))))))) H := hP
  have hD : va_D (fun q : Nat => s.heap.size ≤ q) (x8W u a r q ++ (svW ct r b2 nx sz S ++ (sobjW a ++ (gridW ct a M ++ (benchW ct a M ++ (logW ct a M ++ (txtW ct q TX tl pl ft wd n1 n2 ++ (jrW ct o0 1 O ++ (moW mb sz tl cd plm cm h ++ (jrW ct (mb 1) 94 M ++ (jrW ct (mb 2) 94 SP ++ (jrW ct (mb 3) 376 SV ++ (irW ct (mb 4) 150 TX ++ (irW ct (mb 5) 2 NB)))))))))))))) := hD
  refine W.eq (g2 := F0 m 1057 ls [.long (zJ (sp_bal M))]) rfl ?_
  refine lv_aload_n hx hb dL_law_1057 rfl (lv_at hl 2 rfl) ?_
  refine z_callV (C := RX9) (q0 := 0) (ci := 7) (As := []) (rest := [.long (zJ (sp_bal M))]) (x8W u a r q ++ (svW ct r b2 nx sz S ++ (sobjW a ++ (gridW ct a M ++ (benchW ct a M ++ (logW ct a M ++ (txtW ct q TX tl pl ft wd n1 n2 ++ (jrW ct o0 1 O)))))))) ([] : va_W) hx hb hml hown (fun w h => hts w (inL_146 w h)) hl hE hS hA (zr0 (x8W u a r q ++ (svW ct r b2 nx sz S ++ (sobjW a ++ (gridW ct a M ++ (benchW ct a M ++ (logW ct a M ++ (txtW ct q TX tl pl ft wd n1 n2 ++ (jrW ct o0 1 O)))))))) hP) (zr0D (x8W u a r q ++ (svW ct r b2 nx sz S ++ (sobjW a ++ (gridW ct a M ++ (benchW ct a M ++ (logW ct a M ++ (txtW ct q TX tl pl ft wd n1 n2 ++ (jrW ct o0 1 O)))))))) hD) (c_X9_balance l D ct ad mb M SP SV TX NB sz tl cd plm cm h (by assumption)) gdL_146 rfl rfl k_X9_balance ⟨Nat.le_of_ble_eq_true rfl, Nat.le_of_ble_eq_true rfl⟩ rfl rfl rfl rfl (Nat.le_of_ble_eq_true rfl) hc0 dL_law_1058 rfl (fun v w1 H locs hpost hP hD hS => ?_)
  obtain ⟨rfl, rfl⟩ := hpost
  have hP := zr0' hP
  have hD := zr0D' hD
  have hP : va_P D vwCl (x8W u a r q ++ (svW ct r b2 nx sz S ++ (sobjW a ++ (gridW ct a M ++ (benchW ct a M ++ (logW ct a M ++ (txtW ct q TX tl pl ft wd n1 n2 ++ (jrW ct o0 1 O ++ (moW mb sz tl 0 plm cm h ++ (jrW ct (mb 1) 94 M ++ (jrW ct (mb 2) 94 SP ++ (jrW ct (mb 3) 376 SV ++ (irW ct (mb 4) 150 TX ++ (irW ct (mb 5) 2 NB)))))))))))))) H := hP
  have hD : va_D (fun q : Nat => s.heap.size ≤ q) (x8W u a r q ++ (svW ct r b2 nx sz S ++ (sobjW a ++ (gridW ct a M ++ (benchW ct a M ++ (logW ct a M ++ (txtW ct q TX tl pl ft wd n1 n2 ++ (jrW ct o0 1 O ++ (moW mb sz tl 0 plm cm h ++ (jrW ct (mb 1) 94 M ++ (jrW ct (mb 2) 94 SP ++ (jrW ct (mb 3) 376 SV ++ (irW ct (mb 4) 150 TX ++ (irW ct (mb 5) 2 NB)))))))))))))) := hD
  refine W.eq (g2 := F0 m 1061 ls [.long (zJ (sp_bal M)), .long (zJ (sp_bal M))]) rfl ?_
  refine z_lcmp_eqS (tgt := 1590) hx hb dL_law_1061 dL_law_1062 (by decide) ?_
  refine W.widen (k := cells + 1) (n := slots + 6) (Nat.le_add_right _ _) (Nat.le_add_right _ _) ?_
  exact ih _ _ _ ⟨nx, sz, S, M, TX, tl, pl, ft, n1, n2, wd, O, SP, SV, NB, 0, plm, cm, h, hR, hP, hD, hS, lv_sub hl [0, 1, 2, 3, 4] rfl⟩
set_option maxHeartbeats 4000000 in
set_option maxRecDepth 100000 in
theorem law_c16 (p : Program) (l : Launch) (e : Env) (s : State) (m : MethodId) (below : List Frame) (meth : Method) (c : Code) (D : va_G) (ct ad : Nat → Nat) (b L : Nat) (xs : Nat → Int32) (u : Nat) (a r q : Nat → Nat) (b2 : Nat → Nat → Nat) (o0 : Nat) (mb : Nat → Nat) (hC : lwC p l s m meth c D ct ad b L xs) (i : Int) (hi : 0 ≤ i ∧ i + 4 ≤ (L : Int)) (cells slots : Nat) (hcap : cells + 1 ≤ 601024 ∧ slots + 6 ≤ 7293034) (ih : ∀ (H : Heap) (locs : List Loc) (ls : Array Slot), lwI s D ct b u a r q b2 o0 mb i H locs ls → W p l e room_1 s m #[Value.ref b] below meth c H locs (cells + 1) (slots + 6) (lw_Z below #[Value.ref b] s) (F0 m 1590 ls [])) (H : Heap) (locs : List Loc) (ls : Array Slot) (hI0 : lwI s D ct b u a r q b2 o0 mb i H locs ls) : W p l e room_1 s m #[Value.ref b] below meth c H locs cells slots (lw_Z below #[Value.ref b] s) (F0 m 1067 ls []) := by
  obtain ⟨hx, hb, hr, hml, hown, hts, hX, hbl, hlocks, hE, hst, hL⟩ := hC
  obtain ⟨nx, sz, S, M, TX, tl, pl, ft, n1, n2, wd, O, SP, SV, NB, cd, plm, cm, h, hR, hP, hD, hS, hl⟩ := hI0
  have hA : ∀ q : Nat, s.heap.size ≤ q → (fun q : Nat => s.heap.size ≤ q) q := fun _ h => h
  have hbA : ¬ (fun q : Nat => s.heap.size ≤ q) b := Nat.not_le.mpr hbl
  have hK := hE.1
  have hc0 : cells ≤ room_1.cells ∧ slots ≤ room_1.slots := by show cells ≤ 601024 ∧ slots ≤ 7293034; omega
  have hc1 : cells + 1 ≤ room_1.cells ∧ slots + 6 ≤ room_1.slots := hcap
  have hP : va_P D vwCl (x8W u a r q ++ (svW ct r b2 nx sz S ++ (sobjW a ++ (gridW ct a M ++ (benchW ct a M ++ (logW ct a M ++ (txtW ct q TX tl pl ft wd n1 n2 ++ (jrW ct o0 1 O ++ (moW mb sz tl cd plm cm h ++ (jrW ct (mb 1) 94 M ++ (jrW ct (mb 2) 94 SP ++ (jrW ct (mb 3) 376 SV ++ (irW ct (mb 4) 150 TX ++ (irW ct (mb 5) 2 NB)))))))))))))) H := hP
  have hD : va_D (fun q : Nat => s.heap.size ≤ q) (x8W u a r q ++ (svW ct r b2 nx sz S ++ (sobjW a ++ (gridW ct a M ++ (benchW ct a M ++ (logW ct a M ++ (txtW ct q TX tl pl ft wd n1 n2 ++ (jrW ct o0 1 O ++ (moW mb sz tl cd plm cm h ++ (jrW ct (mb 1) 94 M ++ (jrW ct (mb 2) 94 SP ++ (jrW ct (mb 3) 376 SV ++ (irW ct (mb 4) 150 TX ++ (irW ct (mb 5) 2 NB)))))))))))))) := hD
  have hs := hR.1
  have ht := hR.2.1
  have hI := hs.1
  have hB := hs.2.1
  have ha := hs.2.2
  have i3 := hI.1
  have i4 := hI.2.1
  have j0 := hB.1
  have j1 := hB.2.1
  have j2 := hB.2.2.1
  have j4 := hB.2.2.2.2
  have t1 := ht.1
  have hn := hR.2.2.1
  have hsz := hR.2.2.2.1
  have hsc := hR.2.2.2.1
  refine lv_aload_n hx hb dL_law_1067 rfl (lv_at hl 1 rfl) ?_
  refine z_callV (C := RX8) (q0 := 0) (ci := 6) (As := []) (rest := []) ([] : va_W) (jrW ct o0 1 O ++ (moW mb sz tl cd plm cm h ++ (jrW ct (mb 1) 94 M ++ (jrW ct (mb 2) 94 SP ++ (jrW ct (mb 3) 376 SV ++ (irW ct (mb 4) 150 TX ++ (irW ct (mb 5) 2 NB))))))) hx hb hml hown (fun w h => hts w (inL_147 w h)) hl hE hS hA hP hD (c_X8_rates l D ct ad u a r q b2 nx sz S M TX tl pl ft n1 n2 wd (by assumption)) gdL_147 rfl rfl k_X8_rates ⟨Nat.le_of_ble_eq_true rfl, Nat.le_of_ble_eq_true rfl⟩ rfl rfl rfl rfl (Nat.le_of_ble_eq_true rfl) hc0 dL_law_1068 rfl (fun v w1 H locs hpost hP hD hS => ?_)
  obtain ⟨rfl, rfl⟩ := hpost
  have hP : va_P D vwCl (x8W u a r q ++ (svW ct r b2 nx sz S ++ (sobjW a ++ (gridW ct a M ++ (benchW ct a M ++ (logW ct a M ++ (txtW ct q TX tl pl ft wd n1 n2 ++ (jrW ct o0 1 O ++ (moW mb sz tl cd plm cm h ++ (jrW ct (mb 1) 94 M ++ (jrW ct (mb 2) 94 SP ++ (jrW ct (mb 3) 376 SV ++ (irW ct (mb 4) 150 TX ++ (irW ct (mb 5) 2 NB)))))))))))))) H := hP
  have hD : va_D (fun q : Nat => s.heap.size ≤ q) (x8W u a r q ++ (svW ct r b2 nx sz S ++ (sobjW a ++ (gridW ct a M ++ (benchW ct a M ++ (logW ct a M ++ (txtW ct q TX tl pl ft wd n1 n2 ++ (jrW ct o0 1 O ++ (moW mb sz tl cd plm cm h ++ (jrW ct (mb 1) 94 M ++ (jrW ct (mb 2) 94 SP ++ (jrW ct (mb 3) 376 SV ++ (irW ct (mb 4) 150 TX ++ (irW ct (mb 5) 2 NB)))))))))))))) := hD
  refine W.eq (g2 := F0 m 1071 ls [.long (zJ (M 12))]) rfl ?_
  refine lv_aload_n hx hb dL_law_1071 rfl (lv_at hl 2 rfl) ?_
  refine z_callV (C := RX9) (q0 := 0) (ci := 7) (As := []) (rest := [.long (zJ (M 12))]) (x8W u a r q ++ (svW ct r b2 nx sz S ++ (sobjW a ++ (gridW ct a M ++ (benchW ct a M ++ (logW ct a M ++ (txtW ct q TX tl pl ft wd n1 n2 ++ (jrW ct o0 1 O)))))))) ([] : va_W) hx hb hml hown (fun w h => hts w (inL_150 w h)) hl hE hS hA (zr0 (x8W u a r q ++ (svW ct r b2 nx sz S ++ (sobjW a ++ (gridW ct a M ++ (benchW ct a M ++ (logW ct a M ++ (txtW ct q TX tl pl ft wd n1 n2 ++ (jrW ct o0 1 O)))))))) hP) (zr0D (x8W u a r q ++ (svW ct r b2 nx sz S ++ (sobjW a ++ (gridW ct a M ++ (benchW ct a M ++ (logW ct a M ++ (txtW ct q TX tl pl ft wd n1 n2 ++ (jrW ct o0 1 O)))))))) hD) (c_X9_rates l D ct ad mb M SP SV TX NB sz tl cd plm cm h) gdL_150 rfl rfl k_X9_rates ⟨Nat.le_of_ble_eq_true rfl, Nat.le_of_ble_eq_true rfl⟩ rfl rfl rfl rfl (Nat.le_of_ble_eq_true rfl) hc0 dL_law_1072 rfl (fun v w1 H locs hpost hP hD hS => ?_)
  obtain ⟨rfl, rfl⟩ := hpost
  have hP := zr0' hP
  have hD := zr0D' hD
  have hP : va_P D vwCl (x8W u a r q ++ (svW ct r b2 nx sz S ++ (sobjW a ++ (gridW ct a M ++ (benchW ct a M ++ (logW ct a M ++ (txtW ct q TX tl pl ft wd n1 n2 ++ (jrW ct o0 1 O ++ (moW mb sz tl 0 plm cm h ++ (jrW ct (mb 1) 94 M ++ (jrW ct (mb 2) 94 SP ++ (jrW ct (mb 3) 376 SV ++ (irW ct (mb 4) 150 TX ++ (irW ct (mb 5) 2 NB)))))))))))))) H := hP
  have hD : va_D (fun q : Nat => s.heap.size ≤ q) (x8W u a r q ++ (svW ct r b2 nx sz S ++ (sobjW a ++ (gridW ct a M ++ (benchW ct a M ++ (logW ct a M ++ (txtW ct q TX tl pl ft wd n1 n2 ++ (jrW ct o0 1 O ++ (moW mb sz tl 0 plm cm h ++ (jrW ct (mb 1) 94 M ++ (jrW ct (mb 2) 94 SP ++ (jrW ct (mb 3) 376 SV ++ (irW ct (mb 4) 150 TX ++ (irW ct (mb 5) 2 NB)))))))))))))) := hD
  refine W.eq (g2 := F0 m 1075 ls [.long (zJ (M 12)), .long (zJ (M 12))]) rfl ?_
  refine z_lcmp_eqS (tgt := 1590) hx hb dL_law_1075 dL_law_1076 (by decide) ?_
  refine W.widen (k := cells + 1) (n := slots + 6) (Nat.le_add_right _ _) (Nat.le_add_right _ _) ?_
  exact ih _ _ _ ⟨nx, sz, S, M, TX, tl, pl, ft, n1, n2, wd, O, SP, SV, NB, 0, plm, cm, h, hR, hP, hD, hS, lv_sub hl [0, 1, 2, 3, 4] rfl⟩
set_option maxHeartbeats 4000000 in
set_option maxRecDepth 100000 in
theorem law_c17 (p : Program) (l : Launch) (e : Env) (s : State) (m : MethodId) (below : List Frame) (meth : Method) (c : Code) (D : va_G) (ct ad : Nat → Nat) (b L : Nat) (xs : Nat → Int32) (u : Nat) (a r q : Nat → Nat) (b2 : Nat → Nat → Nat) (o0 : Nat) (mb : Nat → Nat) (hC : lwC p l s m meth c D ct ad b L xs) (i : Int) (hi : 0 ≤ i ∧ i + 4 ≤ (L : Int)) (cells slots : Nat) (hcap : cells + 1 ≤ 601024 ∧ slots + 6 ≤ 7293034) (ih : ∀ (H : Heap) (locs : List Loc) (ls : Array Slot), lwI s D ct b u a r q b2 o0 mb i H locs ls → W p l e room_1 s m #[Value.ref b] below meth c H locs (cells + 1) (slots + 6) (lw_Z below #[Value.ref b] s) (F0 m 1590 ls [])) (H : Heap) (locs : List Loc) (ls : Array Slot) (hI0 : lwI s D ct b u a r q b2 o0 mb i H locs ls) : W p l e room_1 s m #[Value.ref b] below meth c H locs cells slots (lw_Z below #[Value.ref b] s) (F0 m 1081 ls []) := by
  obtain ⟨hx, hb, hr, hml, hown, hts, hX, hbl, hlocks, hE, hst, hL⟩ := hC
  obtain ⟨nx, sz, S, M, TX, tl, pl, ft, n1, n2, wd, O, SP, SV, NB, cd, plm, cm, h, hR, hP, hD, hS, hl⟩ := hI0
  have hA : ∀ q : Nat, s.heap.size ≤ q → (fun q : Nat => s.heap.size ≤ q) q := fun _ h => h
  have hbA : ¬ (fun q : Nat => s.heap.size ≤ q) b := Nat.not_le.mpr hbl
  have hK := hE.1
  have hc0 : cells ≤ room_1.cells ∧ slots ≤ room_1.slots := by show cells ≤ 601024 ∧ slots ≤ 7293034; omega
  have hc1 : cells + 1 ≤ room_1.cells ∧ slots + 6 ≤ room_1.slots := hcap
  have hP : va_P D vwCl (x8W u a r q ++ (svW ct r b2 nx sz S ++ (sobjW a ++ (gridW ct a M ++ (benchW ct a M ++ (logW ct a M ++ (txtW ct q TX tl pl ft wd n1 n2 ++ (jrW ct o0 1 O ++ (moW mb sz tl cd plm cm h ++ (jrW ct (mb 1) 94 M ++ (jrW ct (mb 2) 94 SP ++ (jrW ct (mb 3) 376 SV ++ (irW ct (mb 4) 150 TX ++ (irW ct (mb 5) 2 NB)))))))))))))) H := hP
  have hD : va_D (fun q : Nat => s.heap.size ≤ q) (x8W u a r q ++ (svW ct r b2 nx sz S ++ (sobjW a ++ (gridW ct a M ++ (benchW ct a M ++ (logW ct a M ++ (txtW ct q TX tl pl ft wd n1 n2 ++ (jrW ct o0 1 O ++ (moW mb sz tl cd plm cm h ++ (jrW ct (mb 1) 94 M ++ (jrW ct (mb 2) 94 SP ++ (jrW ct (mb 3) 376 SV ++ (irW ct (mb 4) 150 TX ++ (irW ct (mb 5) 2 NB)))))))))))))) := hD
  have hs := hR.1
  have ht := hR.2.1
  have hI := hs.1
  have hB := hs.2.1
  have ha := hs.2.2
  have i3 := hI.1
  have i4 := hI.2.1
  have j0 := hB.1
  have j1 := hB.2.1
  have j2 := hB.2.2.1
  have j4 := hB.2.2.2.2
  have t1 := ht.1
  have hn := hR.2.2.1
  have hsz := hR.2.2.2.1
  have hsc := hR.2.2.2.1
  refine lv_aload_n hx hb dL_law_1081 rfl (lv_at hl 1 rfl) ?_
  refine z_callV (C := RX8) (q0 := 0) (ci := 6) (As := []) (rest := []) ([] : va_W) (jrW ct o0 1 O ++ (moW mb sz tl cd plm cm h ++ (jrW ct (mb 1) 94 M ++ (jrW ct (mb 2) 94 SP ++ (jrW ct (mb 3) 376 SV ++ (irW ct (mb 4) 150 TX ++ (irW ct (mb 5) 2 NB))))))) hx hb hml hown (fun w h => hts w (inL_151 w h)) hl hE hS hA hP hD (c_X8_balanceBits l D ct ad u a r q b2 nx sz S M TX tl pl ft n1 n2 wd (by assumption)) gdL_151 rfl rfl k_X8_balanceBits ⟨Nat.le_of_ble_eq_true rfl, Nat.le_of_ble_eq_true rfl⟩ rfl rfl rfl rfl (Nat.le_of_ble_eq_true rfl) hc0 dL_law_1082 rfl (fun v w1 H locs hpost hP hD hS => ?_)
  obtain ⟨rfl, rfl⟩ := hpost
  have hP : va_P D vwCl (x8W u a r q ++ (svW ct r b2 nx sz S ++ (sobjW a ++ (gridW ct a M ++ (benchW ct a M ++ (logW ct a M ++ (txtW ct q TX tl pl ft wd n1 n2 ++ (jrW ct o0 1 O ++ (moW mb sz tl cd plm cm h ++ (jrW ct (mb 1) 94 M ++ (jrW ct (mb 2) 94 SP ++ (jrW ct (mb 3) 376 SV ++ (irW ct (mb 4) 150 TX ++ (irW ct (mb 5) 2 NB)))))))))))))) H := hP
  have hD : va_D (fun q : Nat => s.heap.size ≤ q) (x8W u a r q ++ (svW ct r b2 nx sz S ++ (sobjW a ++ (gridW ct a M ++ (benchW ct a M ++ (logW ct a M ++ (txtW ct q TX tl pl ft wd n1 n2 ++ (jrW ct o0 1 O ++ (moW mb sz tl cd plm cm h ++ (jrW ct (mb 1) 94 M ++ (jrW ct (mb 2) 94 SP ++ (jrW ct (mb 3) 376 SV ++ (irW ct (mb 4) 150 TX ++ (irW ct (mb 5) 2 NB)))))))))))))) := hD
  refine W.eq (g2 := F0 m 1085 ls [.int (zI (sp_bits M))]) rfl ?_
  refine lv_aload_n hx hb dL_law_1085 rfl (lv_at hl 2 rfl) ?_
  refine z_callV (C := RX9) (q0 := 0) (ci := 7) (As := []) (rest := [.int (zI (sp_bits M))]) (x8W u a r q ++ (svW ct r b2 nx sz S ++ (sobjW a ++ (gridW ct a M ++ (benchW ct a M ++ (logW ct a M ++ (txtW ct q TX tl pl ft wd n1 n2 ++ (jrW ct o0 1 O)))))))) ([] : va_W) hx hb hml hown (fun w h => hts w (inL_154 w h)) hl hE hS hA (zr0 (x8W u a r q ++ (svW ct r b2 nx sz S ++ (sobjW a ++ (gridW ct a M ++ (benchW ct a M ++ (logW ct a M ++ (txtW ct q TX tl pl ft wd n1 n2 ++ (jrW ct o0 1 O)))))))) hP) (zr0D (x8W u a r q ++ (svW ct r b2 nx sz S ++ (sobjW a ++ (gridW ct a M ++ (benchW ct a M ++ (logW ct a M ++ (txtW ct q TX tl pl ft wd n1 n2 ++ (jrW ct o0 1 O)))))))) hD) (c_X9_balanceBits l D ct ad mb M SP SV TX NB sz tl cd plm cm h (by assumption) (by assumption)) gdL_154 rfl rfl k_X9_balanceBits ⟨Nat.le_of_ble_eq_true rfl, Nat.le_of_ble_eq_true rfl⟩ rfl rfl rfl rfl (Nat.le_of_ble_eq_true rfl) hc0 dL_law_1086 rfl (fun v w1 H locs hpost hP hD hS => ?_)
  obtain ⟨rfl, rfl⟩ := hpost
  have hP := zr0' hP
  have hD := zr0D' hD
  have hP : va_P D vwCl (x8W u a r q ++ (svW ct r b2 nx sz S ++ (sobjW a ++ (gridW ct a M ++ (benchW ct a M ++ (logW ct a M ++ (txtW ct q TX tl pl ft wd n1 n2 ++ (jrW ct o0 1 O ++ (moW mb sz tl 0 plm cm h ++ (jrW ct (mb 1) 94 M ++ (jrW ct (mb 2) 94 SP ++ (jrW ct (mb 3) 376 SV ++ (irW ct (mb 4) 150 TX ++ (irW ct (mb 5) 2 NB)))))))))))))) H := hP
  have hD : va_D (fun q : Nat => s.heap.size ≤ q) (x8W u a r q ++ (svW ct r b2 nx sz S ++ (sobjW a ++ (gridW ct a M ++ (benchW ct a M ++ (logW ct a M ++ (txtW ct q TX tl pl ft wd n1 n2 ++ (jrW ct o0 1 O ++ (moW mb sz tl 0 plm cm h ++ (jrW ct (mb 1) 94 M ++ (jrW ct (mb 2) 94 SP ++ (jrW ct (mb 3) 376 SV ++ (irW ct (mb 4) 150 TX ++ (irW ct (mb 5) 2 NB)))))))))))))) := hD
  refine W.eq (g2 := F0 m 1089 ls [.int (zI (sp_bits M)), .int (zI (sp_bits M))]) rfl ?_
  refine z_icmp_eqS (tgt := 1590) hx hb dL_law_1089 (by decide) ?_
  refine W.widen (k := cells + 1) (n := slots + 6) (Nat.le_add_right _ _) (Nat.le_add_right _ _) ?_
  exact ih _ _ _ ⟨nx, sz, S, M, TX, tl, pl, ft, n1, n2, wd, O, SP, SV, NB, 0, plm, cm, h, hR, hP, hD, hS, lv_sub hl [0, 1, 2, 3, 4] rfl⟩
set_option maxHeartbeats 4000000 in
set_option maxRecDepth 100000 in
theorem law_c18 (p : Program) (l : Launch) (e : Env) (s : State) (m : MethodId) (below : List Frame) (meth : Method) (c : Code) (D : va_G) (ct ad : Nat → Nat) (b L : Nat) (xs : Nat → Int32) (u : Nat) (a r q : Nat → Nat) (b2 : Nat → Nat → Nat) (o0 : Nat) (mb : Nat → Nat) (hC : lwC p l s m meth c D ct ad b L xs) (i : Int) (hi : 0 ≤ i ∧ i + 4 ≤ (L : Int)) (cells slots : Nat) (hcap : cells + 1 ≤ 601024 ∧ slots + 6 ≤ 7293034) (ih : ∀ (H : Heap) (locs : List Loc) (ls : Array Slot), lwI s D ct b u a r q b2 o0 mb i H locs ls → W p l e room_1 s m #[Value.ref b] below meth c H locs (cells + 1) (slots + 6) (lw_Z below #[Value.ref b] s) (F0 m 1590 ls [])) (H : Heap) (locs : List Loc) (ls : Array Slot) (hI0 : lwI s D ct b u a r q b2 o0 mb i H locs ls) : W p l e room_1 s m #[Value.ref b] below meth c H locs cells slots (lw_Z below #[Value.ref b] s) (F0 m 1094 ls []) := by
  obtain ⟨hx, hb, hr, hml, hown, hts, hX, hbl, hlocks, hE, hst, hL⟩ := hC
  obtain ⟨nx, sz, S, M, TX, tl, pl, ft, n1, n2, wd, O, SP, SV, NB, cd, plm, cm, h, hR, hP, hD, hS, hl⟩ := hI0
  have hA : ∀ q : Nat, s.heap.size ≤ q → (fun q : Nat => s.heap.size ≤ q) q := fun _ h => h
  have hbA : ¬ (fun q : Nat => s.heap.size ≤ q) b := Nat.not_le.mpr hbl
  have hK := hE.1
  have hc0 : cells ≤ room_1.cells ∧ slots ≤ room_1.slots := by show cells ≤ 601024 ∧ slots ≤ 7293034; omega
  have hc1 : cells + 1 ≤ room_1.cells ∧ slots + 6 ≤ room_1.slots := hcap
  have hP : va_P D vwCl (x8W u a r q ++ (svW ct r b2 nx sz S ++ (sobjW a ++ (gridW ct a M ++ (benchW ct a M ++ (logW ct a M ++ (txtW ct q TX tl pl ft wd n1 n2 ++ (jrW ct o0 1 O ++ (moW mb sz tl cd plm cm h ++ (jrW ct (mb 1) 94 M ++ (jrW ct (mb 2) 94 SP ++ (jrW ct (mb 3) 376 SV ++ (irW ct (mb 4) 150 TX ++ (irW ct (mb 5) 2 NB)))))))))))))) H := hP
  have hD : va_D (fun q : Nat => s.heap.size ≤ q) (x8W u a r q ++ (svW ct r b2 nx sz S ++ (sobjW a ++ (gridW ct a M ++ (benchW ct a M ++ (logW ct a M ++ (txtW ct q TX tl pl ft wd n1 n2 ++ (jrW ct o0 1 O ++ (moW mb sz tl cd plm cm h ++ (jrW ct (mb 1) 94 M ++ (jrW ct (mb 2) 94 SP ++ (jrW ct (mb 3) 376 SV ++ (irW ct (mb 4) 150 TX ++ (irW ct (mb 5) 2 NB)))))))))))))) := hD
  have hs := hR.1
  have ht := hR.2.1
  have hI := hs.1
  have hB := hs.2.1
  have ha := hs.2.2
  have i3 := hI.1
  have i4 := hI.2.1
  have j0 := hB.1
  have j1 := hB.2.1
  have j2 := hB.2.2.1
  have j4 := hB.2.2.2.2
  have t1 := ht.1
  have hn := hR.2.2.1
  have hsz := hR.2.2.2.1
  have hsc := hR.2.2.2.1
  obtain ⟨v1, e1, r1⟩ := zI_any (xs (i + 1).toNat)
  obtain ⟨v2, e2, r2⟩ := zI_any (xs (i + 2).toNat)
  by_cases hok : 0 ≤ v1 ∧ 0 ≤ v2 ∧ v2 ≤ 3
  · skip
    refine lv_aload_n hx hb dL_law_1094 rfl (lv_at hl 1 rfl) ?_
    refine lv_aload_n hx hb dL_law_1095 rfl (lv_at hl 0 rfl) ?_
    refine lv_iload hx hb dL_law_1096 (lv_at hl 4 rfl) ?_
    refine z_iconst hx hb dL_law_1098 ?_
    refine z_iadd hx hb dL_law_1099 ?_
    refine z_sld hx hb hX hbl hbA hS (by omega) hL e1 dL_law_1100 ?_
    refine lv_aload_n hx hb dL_law_1101 rfl (lv_at hl 0 rfl) ?_
    refine lv_iload hx hb dL_law_1102 (lv_at hl 4 rfl) ?_
    refine z_iconst hx hb dL_law_1104 ?_
    refine z_iadd hx hb dL_law_1105 ?_
    refine z_sld hx hb hX hbl hbA hS (by omega) hL e2 dL_law_1106 ?_
    refine lv_aload_n hx hb dL_law_1107 rfl (lv_at hl 3 rfl) ?_
    refine z_callSW (As := [.ref u, .int (zI v1), .int (zI v2), .ref o0]) (rest := []) ([] : va_W) (moW mb sz tl cd plm cm h ++ (jrW ct (mb 1) 94 M ++ (jrW ct (mb 2) 94 SP ++ (jrW ct (mb 3) 376 SV ++ (irW ct (mb 4) 150 TX ++ (irW ct (mb 5) 2 NB)))))) hx hb hml hown (fun w h => hts w (inL_155 w h)) hl hE hS hA hP hD (c_L_day_ok l D ct ad u a r q b2 nx sz S M TX tl pl ft n1 n2 wd o0 O v1 v2 (by assumption) (by omega) (by omega) hok) gdL_155 rfl k_L_day ⟨Nat.le_of_ble_eq_true rfl, Nat.le_of_ble_eq_true rfl⟩ rfl (Nat.le_of_ble_eq_true rfl) hc0 dL_law_1108 rfl (fun v w1 H locs hpost hP hD hS => ?_)
    obtain ⟨rfl, rfl⟩ := hpost
    have hP : va_P D vwCl (x8W u a r q ++ (svW ct r b2 nx sz S ++ (sobjW a ++ (gridW ct a M ++ (benchW ct a M ++ (logW ct a M ++ (txtW ct q TX tl pl ft wd n1 n2 ++ (jrW ct o0 1 (up O 0 (sp_dayv M v1 v2)) ++ (moW mb sz tl cd plm cm h ++ (jrW ct (mb 1) 94 M ++ (jrW ct (mb 2) 94 SP ++ (jrW ct (mb 3) 376 SV ++ (irW ct (mb 4) 150 TX ++ (irW ct (mb 5) 2 NB)))))))))))))) H := hP
    have hD : va_D (fun q : Nat => s.heap.size ≤ q) (x8W u a r q ++ (svW ct r b2 nx sz S ++ (sobjW a ++ (gridW ct a M ++ (benchW ct a M ++ (logW ct a M ++ (txtW ct q TX tl pl ft wd n1 n2 ++ (jrW ct o0 1 (up O 0 (sp_dayv M v1 v2)) ++ (moW mb sz tl cd plm cm h ++ (jrW ct (mb 1) 94 M ++ (jrW ct (mb 2) 94 SP ++ (jrW ct (mb 3) 376 SV ++ (irW ct (mb 4) 150 TX ++ (irW ct (mb 5) 2 NB)))))))))))))) := hD
    refine W.eq (g2 := F0 m 1111 ls [.int (zI 0)]) rfl ?_
    refine lv_istore (lv' := [(5, .int (zI 0)), (0, .ref b), (1, .ref u), (2, .ref (mb 0)), (3, .ref o0), (4, .int (zI i))]) hx hb dL_law_1111 hl (by decide) rfl (fun ls hl => ?_)
    refine lv_aload_n hx hb dL_law_1113 rfl (lv_at hl 3 rfl) ?_
    refine lv_aload_n hx hb dL_law_1114 rfl (lv_at hl 1 rfl) ?_
    refine lv_iload hx hb dL_law_1115 (lv_at hl 5 rfl) ?_
    refine z_iconst hx hb dL_law_1117 ?_
    refine z_iadd hx hb dL_law_1118 ?_
    refine z_sld hx hb hX hbl hbA hS (by omega) hL e1 dL_law_1119 ?_
    refine lv_aload_n hx hb dL_law_1120 rfl (lv_at hl 1 rfl) ?_
    refine lv_iload hx hb dL_law_1121 (lv_at hl 5 rfl) ?_
    refine z_iconst hx hb dL_law_1123 ?_
    refine z_iadd hx hb dL_law_1124 ?_
    refine z_sld hx hb hX hbl hbA hS (by omega) hL e2 dL_law_1125 ?_
    refine z_callV (C := RX9) (q0 := 0) (ci := 7) (As := [.int (zI v1), .int (zI v2)]) (rest := []) (x8W u a r q ++ (svW ct r b2 nx sz S ++ (sobjW a ++ (gridW ct a M ++ (benchW ct a M ++ (logW ct a M ++ (txtW ct q TX tl pl ft wd n1 n2 ++ (jrW ct o0 1 (up O 0 (sp_dayv M v1 v2)))))))))) ([] : va_W) hx hb hml hown (fun w h => hts w (inL_157 w h)) hl hE hS hA (zr0 (x8W u a r q ++ (svW ct r b2 nx sz S ++ (sobjW a ++ (gridW ct a M ++ (benchW ct a M ++ (logW ct a M ++ (txtW ct q TX tl pl ft wd n1 n2 ++ (jrW ct o0 1 (up O 0 (sp_dayv M v1 v2)))))))))) hP) (zr0D (x8W u a r q ++ (svW ct r b2 nx sz S ++ (sobjW a ++ (gridW ct a M ++ (benchW ct a M ++ (logW ct a M ++ (txtW ct q TX tl pl ft wd n1 n2 ++ (jrW ct o0 1 (up O 0 (sp_dayv M v1 v2)))))))))) hD) (c_X9_day_ok l D ct ad mb M SP SV TX NB sz tl cd plm cm h v1 v2 (by assumption) (by assumption) (by omega) (by omega) (if_pos hok)) gdL_157 rfl rfl k_X9_day ⟨Nat.le_of_ble_eq_true rfl, Nat.le_of_ble_eq_true rfl⟩ rfl rfl rfl rfl (Nat.le_of_ble_eq_true rfl) hc0 dL_law_1126 rfl (fun v w1 H locs hpost hP hD hS => ?_)
    obtain ⟨rfl, rfl⟩ := hpost
    have hP := zr0' hP
    have hD := zr0D' hD
    have hP : va_P D vwCl (x8W u a r q ++ (svW ct r b2 nx sz S ++ (sobjW a ++ (gridW ct a M ++ (benchW ct a M ++ (logW ct a M ++ (txtW ct q TX tl pl ft wd n1 n2 ++ (jrW ct o0 1 (up O 0 (sp_dayv M v1 v2)) ++ (moW mb sz tl (ck_b (0 ≤ v1 ∧ 0 ≤ v2 ∧ v2 ≤ 3)) plm cm h ++ (jrW ct (mb 1) 94 M ++ (jrW ct (mb 2) 94 SP ++ (jrW ct (mb 3) 376 SV ++ (irW ct (mb 4) 150 TX ++ (irW ct (mb 5) 2 NB)))))))))))))) H := hP
    have hD : va_D (fun q : Nat => s.heap.size ≤ q) (x8W u a r q ++ (svW ct r b2 nx sz S ++ (sobjW a ++ (gridW ct a M ++ (benchW ct a M ++ (logW ct a M ++ (txtW ct q TX tl pl ft wd n1 n2 ++ (jrW ct o0 1 (up O 0 (sp_dayv M v1 v2)) ++ (moW mb sz tl (ck_b (0 ≤ v1 ∧ 0 ≤ v2 ∧ v2 ≤ 3)) plm cm h ++ (jrW ct (mb 1) 94 M ++ (jrW ct (mb 2) 94 SP ++ (jrW ct (mb 3) 376 SV ++ (irW ct (mb 4) 150 TX ++ (irW ct (mb 5) 2 NB)))))))))))))) := hD
    refine W.eq (g2 := F0 m 1129 ls [.long (zJ (sp_dayv M v1 v2))]) rfl ?_
    refine lv_lstore (lv' := [(6, .long (zJ (sp_dayv M v1 v2))), (5, .int (zI 0)), (0, .ref b), (1, .ref u), (2, .ref (mb 0)), (3, .ref o0), (4, .int (zI i))]) hx hb dL_law_1129 hl (by decide) rfl (fun ls hl => ?_)
    refine lv_aload_n hx hb dL_law_1131 rfl (lv_at hl 4 rfl) ?_
    refine z_callV (C := RX9) (q0 := 0) (ci := 7) (As := []) (rest := []) (x8W u a r q ++ (svW ct r b2 nx sz S ++ (sobjW a ++ (gridW ct a M ++ (benchW ct a M ++ (logW ct a M ++ (txtW ct q TX tl pl ft wd n1 n2 ++ (jrW ct o0 1 (up O 0 (sp_dayv M v1 v2)))))))))) ([] : va_W) hx hb hml hown (fun w h => hts w (inL_94 w h)) hl hE hS hA (zr0 (x8W u a r q ++ (svW ct r b2 nx sz S ++ (sobjW a ++ (gridW ct a M ++ (benchW ct a M ++ (logW ct a M ++ (txtW ct q TX tl pl ft wd n1 n2 ++ (jrW ct o0 1 (up O 0 (sp_dayv M v1 v2)))))))))) hP) (zr0D (x8W u a r q ++ (svW ct r b2 nx sz S ++ (sobjW a ++ (gridW ct a M ++ (benchW ct a M ++ (logW ct a M ++ (txtW ct q TX tl pl ft wd n1 n2 ++ (jrW ct o0 1 (up O 0 (sp_dayv M v1 v2)))))))))) hD) (c_X9_thrown l D ct ad mb M SP SV TX NB sz tl (ck_b (0 ≤ v1 ∧ 0 ≤ v2 ∧ v2 ≤ 3)) plm cm h) gdL_94 rfl rfl k_X9_thrown ⟨Nat.le_of_ble_eq_true rfl, Nat.le_of_ble_eq_true rfl⟩ rfl rfl rfl rfl (Nat.le_of_ble_eq_true rfl) hc0 dL_law_1132 rfl (fun v w1 H locs hpost hP hD hS => ?_)
    obtain ⟨rfl, rfl⟩ := hpost
    have hP := zr0' hP
    have hD := zr0D' hD
    have hP : va_P D vwCl (x8W u a r q ++ (svW ct r b2 nx sz S ++ (sobjW a ++ (gridW ct a M ++ (benchW ct a M ++ (logW ct a M ++ (txtW ct q TX tl pl ft wd n1 n2 ++ (jrW ct o0 1 (up O 0 (sp_dayv M v1 v2)) ++ (moW mb sz tl (ck_b (0 ≤ v1 ∧ 0 ≤ v2 ∧ v2 ≤ 3)) plm cm h ++ (jrW ct (mb 1) 94 M ++ (jrW ct (mb 2) 94 SP ++ (jrW ct (mb 3) 376 SV ++ (irW ct (mb 4) 150 TX ++ (irW ct (mb 5) 2 NB)))))))))))))) H := hP
    have hD : va_D (fun q : Nat => s.heap.size ≤ q) (x8W u a r q ++ (svW ct r b2 nx sz S ++ (sobjW a ++ (gridW ct a M ++ (benchW ct a M ++ (logW ct a M ++ (txtW ct q TX tl pl ft wd n1 n2 ++ (jrW ct o0 1 (up O 0 (sp_dayv M v1 v2)) ++ (moW mb sz tl (ck_b (0 ≤ v1 ∧ 0 ≤ v2 ∧ v2 ≤ 3)) plm cm h ++ (jrW ct (mb 1) 94 M ++ (jrW ct (mb 2) 94 SP ++ (jrW ct (mb 3) 376 SV ++ (irW ct (mb 4) 150 TX ++ (irW ct (mb 5) 2 NB)))))))))))))) := hD
    refine W.eq (g2 := F0 m 1135 ls [.int (zI (ck_b (0 ≤ v1 ∧ 0 ≤ v2 ∧ v2 ≤ 3)))]) rfl ?_
    refine lv_iload hx hb dL_law_1135 (lv_at hl 1 rfl) ?_
    refine z_canI (show 0 = ck_b (0 ≤ v1 ∧ 0 ≤ v2 ∧ v2 ≤ 3) from (if_pos hok).symm) ?_
    refine z_icmp_eqS (tgt := 1142) hx hb dL_law_1137 (by decide) ?_
    refine lv_iload hx hb dL_law_1142 (lv_at hl 1 rfl) ?_
    refine z_if_ne (tgt := 1158) hx hb dL_law_1144 (by decide) (by omega) (fun hc_1144 => ?_) (fun hc_1144 => ?_)
    · have hc_1144 := hc_1144
      exfalso; first | omega | (revert hc_1144; unfold ck1; split <;> omega)
    · have hc_1144 := hc_1144
      refine lv_aload_n hx hb dL_law_1147 rfl (lv_at hl 5 rfl) ?_
      refine z_iconst hx hb dL_law_1148 ?_
      refine z_lald (g := (up O 0 (sp_dayv M v1 v2))) (v := sp_dayv M v1 v2) hx hb hK hP 60 rfl (by decide) (by omega) (show (up O 0 (sp_dayv M v1 v2)) 0 = sp_dayv M v1 v2 from by rw [up_s]) dL_law_1149 ?_
      refine lv_lload hx hb dL_law_1150 (lv_at hl 0 rfl) ?_
      refine z_lcmp_eqS (tgt := 1158) hx hb dL_law_1152 dL_law_1153 (by decide) ?_
      refine lv_goto (tgt := 1590) hx hb dL_law_1158 (by decide) ?_
      refine W.widen (k := cells + 1) (n := slots + 6) (Nat.le_add_right _ _) (Nat.le_add_right _ _) ?_
      exact ih _ _ _ ⟨nx, sz, S, M, TX, tl, pl, ft, n1, n2, wd, (up O 0 (sp_dayv M v1 v2)), SP, SV, NB, (ck_b (0 ≤ v1 ∧ 0 ≤ v2 ∧ v2 ≤ 3)), plm, cm, h, hR, hP, hD, hS, lv_sub hl [2, 3, 4, 5, 6] rfl⟩
  · skip
    refine lv_aload_n hx hb dL_law_1094 rfl (lv_at hl 1 rfl) ?_
    refine lv_aload_n hx hb dL_law_1095 rfl (lv_at hl 0 rfl) ?_
    refine lv_iload hx hb dL_law_1096 (lv_at hl 4 rfl) ?_
    refine z_iconst hx hb dL_law_1098 ?_
    refine z_iadd hx hb dL_law_1099 ?_
    refine z_sld hx hb hX hbl hbA hS (by omega) hL e1 dL_law_1100 ?_
    refine lv_aload_n hx hb dL_law_1101 rfl (lv_at hl 0 rfl) ?_
    refine lv_iload hx hb dL_law_1102 (lv_at hl 4 rfl) ?_
    refine z_iconst hx hb dL_law_1104 ?_
    refine z_iadd hx hb dL_law_1105 ?_
    refine z_sld hx hb hX hbl hbA hS (by omega) hL e2 dL_law_1106 ?_
    refine lv_aload_n hx hb dL_law_1107 rfl (lv_at hl 3 rfl) ?_
    refine z_callSW (As := [.ref u, .int (zI v1), .int (zI v2), .ref o0]) (rest := []) ([] : va_W) (moW mb sz tl cd plm cm h ++ (jrW ct (mb 1) 94 M ++ (jrW ct (mb 2) 94 SP ++ (jrW ct (mb 3) 376 SV ++ (irW ct (mb 4) 150 TX ++ (irW ct (mb 5) 2 NB)))))) hx hb hml hown (fun w h => hts w (inL_155 w h)) hl hE hS hA hP hD (c_L_day_no l D ct ad u a r q b2 nx sz S M TX tl pl ft n1 n2 wd o0 O v1 v2 (by assumption) hst (by omega) (by omega) hok) gdL_155 rfl k_L_day ⟨Nat.le_of_ble_eq_true rfl, Nat.le_of_ble_eq_true rfl⟩ rfl (Nat.le_of_ble_eq_true rfl) hc1 dL_law_1108 rfl (fun v w1 H locs hpost hP hD hS => ?_)
    obtain ⟨rfl, rfl⟩ := hpost
    have hP : va_P D vwCl (x8W u a r q ++ (svW ct r b2 nx sz S ++ (sobjW a ++ (gridW ct a M ++ (benchW ct a M ++ (logW ct a M ++ (txtW ct q TX tl pl ft wd n1 n2 ++ (jrW ct o0 1 O ++ (moW mb sz tl cd plm cm h ++ (jrW ct (mb 1) 94 M ++ (jrW ct (mb 2) 94 SP ++ (jrW ct (mb 3) 376 SV ++ (irW ct (mb 4) 150 TX ++ (irW ct (mb 5) 2 NB)))))))))))))) H := hP
    have hD : va_D (fun q : Nat => s.heap.size ≤ q) (x8W u a r q ++ (svW ct r b2 nx sz S ++ (sobjW a ++ (gridW ct a M ++ (benchW ct a M ++ (logW ct a M ++ (txtW ct q TX tl pl ft wd n1 n2 ++ (jrW ct o0 1 O ++ (moW mb sz tl cd plm cm h ++ (jrW ct (mb 1) 94 M ++ (jrW ct (mb 2) 94 SP ++ (jrW ct (mb 3) 376 SV ++ (irW ct (mb 4) 150 TX ++ (irW ct (mb 5) 2 NB)))))))))))))) := hD
    refine W.eq (g2 := F0 m 1111 ls [.int (zI 1)]) rfl ?_
    refine lv_istore (lv' := [(5, .int (zI 1)), (0, .ref b), (1, .ref u), (2, .ref (mb 0)), (3, .ref o0), (4, .int (zI i))]) hx hb dL_law_1111 hl (by decide) rfl (fun ls hl => ?_)
    refine lv_aload_n hx hb dL_law_1113 rfl (lv_at hl 3 rfl) ?_
    refine lv_aload_n hx hb dL_law_1114 rfl (lv_at hl 1 rfl) ?_
    refine lv_iload hx hb dL_law_1115 (lv_at hl 5 rfl) ?_
    refine z_iconst hx hb dL_law_1117 ?_
    refine z_iadd hx hb dL_law_1118 ?_
    refine z_sld hx hb hX hbl hbA hS (by omega) hL e1 dL_law_1119 ?_
    refine lv_aload_n hx hb dL_law_1120 rfl (lv_at hl 1 rfl) ?_
    refine lv_iload hx hb dL_law_1121 (lv_at hl 5 rfl) ?_
    refine z_iconst hx hb dL_law_1123 ?_
    refine z_iadd hx hb dL_law_1124 ?_
    refine z_sld hx hb hX hbl hbA hS (by omega) hL e2 dL_law_1125 ?_
    refine z_callV (C := RX9) (q0 := 0) (ci := 7) (As := [.int (zI v1), .int (zI v2)]) (rest := []) (x8W u a r q ++ (svW ct r b2 nx sz S ++ (sobjW a ++ (gridW ct a M ++ (benchW ct a M ++ (logW ct a M ++ (txtW ct q TX tl pl ft wd n1 n2 ++ (jrW ct o0 1 O)))))))) ([] : va_W) hx hb hml hown (fun w h => hts w (inL_157 w h)) hl hE hS hA (zr0 (x8W u a r q ++ (svW ct r b2 nx sz S ++ (sobjW a ++ (gridW ct a M ++ (benchW ct a M ++ (logW ct a M ++ (txtW ct q TX tl pl ft wd n1 n2 ++ (jrW ct o0 1 O)))))))) hP) (zr0D (x8W u a r q ++ (svW ct r b2 nx sz S ++ (sobjW a ++ (gridW ct a M ++ (benchW ct a M ++ (logW ct a M ++ (txtW ct q TX tl pl ft wd n1 n2 ++ (jrW ct o0 1 O)))))))) hD) (c_X9_day_no l D ct ad mb M SP SV TX NB sz tl cd plm cm h v1 v2 (by assumption) (by assumption) (by omega) (by omega) (by unfold ck_b; rw [if_neg hok]; omega)) gdL_157 rfl rfl k_X9_day ⟨Nat.le_of_ble_eq_true rfl, Nat.le_of_ble_eq_true rfl⟩ rfl rfl rfl rfl (Nat.le_of_ble_eq_true rfl) hc1 dL_law_1126 rfl (fun v w1 H locs hpost hP hD hS => ?_)
    obtain ⟨rfl, rfl⟩ := hpost
    have hP := zr0' hP
    have hD := zr0D' hD
    have hP : va_P D vwCl (x8W u a r q ++ (svW ct r b2 nx sz S ++ (sobjW a ++ (gridW ct a M ++ (benchW ct a M ++ (logW ct a M ++ (txtW ct q TX tl pl ft wd n1 n2 ++ (jrW ct o0 1 O ++ (moW mb sz tl (ck_b (0 ≤ v1 ∧ 0 ≤ v2 ∧ v2 ≤ 3)) plm cm h ++ (jrW ct (mb 1) 94 M ++ (jrW ct (mb 2) 94 SP ++ (jrW ct (mb 3) 376 SV ++ (irW ct (mb 4) 150 TX ++ (irW ct (mb 5) 2 NB)))))))))))))) H := hP
    have hD : va_D (fun q : Nat => s.heap.size ≤ q) (x8W u a r q ++ (svW ct r b2 nx sz S ++ (sobjW a ++ (gridW ct a M ++ (benchW ct a M ++ (logW ct a M ++ (txtW ct q TX tl pl ft wd n1 n2 ++ (jrW ct o0 1 O ++ (moW mb sz tl (ck_b (0 ≤ v1 ∧ 0 ≤ v2 ∧ v2 ≤ 3)) plm cm h ++ (jrW ct (mb 1) 94 M ++ (jrW ct (mb 2) 94 SP ++ (jrW ct (mb 3) 376 SV ++ (irW ct (mb 4) 150 TX ++ (irW ct (mb 5) 2 NB)))))))))))))) := hD
    refine W.eq (g2 := F0 m 1129 ls [.long (zJ 0)]) rfl ?_
    refine lv_lstore (lv' := [(6, .long (zJ 0)), (5, .int (zI 1)), (0, .ref b), (1, .ref u), (2, .ref (mb 0)), (3, .ref o0), (4, .int (zI i))]) hx hb dL_law_1129 hl (by decide) rfl (fun ls hl => ?_)
    refine lv_aload_n hx hb dL_law_1131 rfl (lv_at hl 4 rfl) ?_
    refine z_callV (C := RX9) (q0 := 0) (ci := 7) (As := []) (rest := []) (x8W u a r q ++ (svW ct r b2 nx sz S ++ (sobjW a ++ (gridW ct a M ++ (benchW ct a M ++ (logW ct a M ++ (txtW ct q TX tl pl ft wd n1 n2 ++ (jrW ct o0 1 O)))))))) ([] : va_W) hx hb hml hown (fun w h => hts w (inL_94 w h)) hl hE hS hA (zr0 (x8W u a r q ++ (svW ct r b2 nx sz S ++ (sobjW a ++ (gridW ct a M ++ (benchW ct a M ++ (logW ct a M ++ (txtW ct q TX tl pl ft wd n1 n2 ++ (jrW ct o0 1 O)))))))) hP) (zr0D (x8W u a r q ++ (svW ct r b2 nx sz S ++ (sobjW a ++ (gridW ct a M ++ (benchW ct a M ++ (logW ct a M ++ (txtW ct q TX tl pl ft wd n1 n2 ++ (jrW ct o0 1 O)))))))) hD) (c_X9_thrown l D ct ad mb M SP SV TX NB sz tl (ck_b (0 ≤ v1 ∧ 0 ≤ v2 ∧ v2 ≤ 3)) plm cm h) gdL_94 rfl rfl k_X9_thrown ⟨Nat.le_of_ble_eq_true rfl, Nat.le_of_ble_eq_true rfl⟩ rfl rfl rfl rfl (Nat.le_of_ble_eq_true rfl) hc1 dL_law_1132 rfl (fun v w1 H locs hpost hP hD hS => ?_)
    obtain ⟨rfl, rfl⟩ := hpost
    have hP := zr0' hP
    have hD := zr0D' hD
    have hP : va_P D vwCl (x8W u a r q ++ (svW ct r b2 nx sz S ++ (sobjW a ++ (gridW ct a M ++ (benchW ct a M ++ (logW ct a M ++ (txtW ct q TX tl pl ft wd n1 n2 ++ (jrW ct o0 1 O ++ (moW mb sz tl (ck_b (0 ≤ v1 ∧ 0 ≤ v2 ∧ v2 ≤ 3)) plm cm h ++ (jrW ct (mb 1) 94 M ++ (jrW ct (mb 2) 94 SP ++ (jrW ct (mb 3) 376 SV ++ (irW ct (mb 4) 150 TX ++ (irW ct (mb 5) 2 NB)))))))))))))) H := hP
    have hD : va_D (fun q : Nat => s.heap.size ≤ q) (x8W u a r q ++ (svW ct r b2 nx sz S ++ (sobjW a ++ (gridW ct a M ++ (benchW ct a M ++ (logW ct a M ++ (txtW ct q TX tl pl ft wd n1 n2 ++ (jrW ct o0 1 O ++ (moW mb sz tl (ck_b (0 ≤ v1 ∧ 0 ≤ v2 ∧ v2 ≤ 3)) plm cm h ++ (jrW ct (mb 1) 94 M ++ (jrW ct (mb 2) 94 SP ++ (jrW ct (mb 3) 376 SV ++ (irW ct (mb 4) 150 TX ++ (irW ct (mb 5) 2 NB)))))))))))))) := hD
    refine W.eq (g2 := F0 m 1135 ls [.int (zI (ck_b (0 ≤ v1 ∧ 0 ≤ v2 ∧ v2 ≤ 3)))]) rfl ?_
    refine lv_iload hx hb dL_law_1135 (lv_at hl 1 rfl) ?_
    refine z_canI (show 1 = ck_b (0 ≤ v1 ∧ 0 ≤ v2 ∧ v2 ≤ 3) from (if_neg hok).symm) ?_
    refine z_icmp_eqS (tgt := 1142) hx hb dL_law_1137 (by decide) ?_
    refine lv_iload hx hb dL_law_1142 (lv_at hl 1 rfl) ?_
    refine z_if_ne (tgt := 1158) hx hb dL_law_1144 (by decide) (by omega) (fun hc_1144 => ?_) (fun hc_1144 => ?_)
    · have hc_1144 := hc_1144
      refine lv_goto (tgt := 1590) hx hb dL_law_1158 (by decide) ?_
      exact ih _ _ _ ⟨nx, sz, S, M, TX, tl, pl, ft, n1, n2, wd, O, SP, SV, NB, (ck_b (0 ≤ v1 ∧ 0 ≤ v2 ∧ v2 ≤ 3)), plm, cm, h, hR, hP, hD, hS, lv_sub hl [2, 3, 4, 5, 6] rfl⟩
    · have hc_1144 := hc_1144
      exfalso; first | omega | (revert hc_1144; unfold ck1; split <;> omega)
set_option maxHeartbeats 4000000 in
set_option maxRecDepth 100000 in
theorem law_c19 (p : Program) (l : Launch) (e : Env) (s : State) (m : MethodId) (below : List Frame) (meth : Method) (c : Code) (D : va_G) (ct ad : Nat → Nat) (b L : Nat) (xs : Nat → Int32) (u : Nat) (a r q : Nat → Nat) (b2 : Nat → Nat → Nat) (o0 : Nat) (mb : Nat → Nat) (hC : lwC p l s m meth c D ct ad b L xs) (i : Int) (hi : 0 ≤ i ∧ i + 4 ≤ (L : Int)) (cells slots : Nat) (hcap : cells + 1 ≤ 601024 ∧ slots + 6 ≤ 7293034) (ih : ∀ (H : Heap) (locs : List Loc) (ls : Array Slot), lwI s D ct b u a r q b2 o0 mb i H locs ls → W p l e room_1 s m #[Value.ref b] below meth c H locs (cells + 1) (slots + 6) (lw_Z below #[Value.ref b] s) (F0 m 1590 ls [])) (H : Heap) (locs : List Loc) (ls : Array Slot) (hI0 : lwI s D ct b u a r q b2 o0 mb i H locs ls) : W p l e room_1 s m #[Value.ref b] below meth c H locs cells slots (lw_Z below #[Value.ref b] s) (F0 m 1161 ls []) := by
  obtain ⟨hx, hb, hr, hml, hown, hts, hX, hbl, hlocks, hE, hst, hL⟩ := hC
  obtain ⟨nx, sz, S, M, TX, tl, pl, ft, n1, n2, wd, O, SP, SV, NB, cd, plm, cm, h, hR, hP, hD, hS, hl⟩ := hI0
  have hA : ∀ q : Nat, s.heap.size ≤ q → (fun q : Nat => s.heap.size ≤ q) q := fun _ h => h
  have hbA : ¬ (fun q : Nat => s.heap.size ≤ q) b := Nat.not_le.mpr hbl
  have hK := hE.1
  have hc0 : cells ≤ room_1.cells ∧ slots ≤ room_1.slots := by show cells ≤ 601024 ∧ slots ≤ 7293034; omega
  have hc1 : cells + 1 ≤ room_1.cells ∧ slots + 6 ≤ room_1.slots := hcap
  have hP : va_P D vwCl (x8W u a r q ++ (svW ct r b2 nx sz S ++ (sobjW a ++ (gridW ct a M ++ (benchW ct a M ++ (logW ct a M ++ (txtW ct q TX tl pl ft wd n1 n2 ++ (jrW ct o0 1 O ++ (moW mb sz tl cd plm cm h ++ (jrW ct (mb 1) 94 M ++ (jrW ct (mb 2) 94 SP ++ (jrW ct (mb 3) 376 SV ++ (irW ct (mb 4) 150 TX ++ (irW ct (mb 5) 2 NB)))))))))))))) H := hP
  have hD : va_D (fun q : Nat => s.heap.size ≤ q) (x8W u a r q ++ (svW ct r b2 nx sz S ++ (sobjW a ++ (gridW ct a M ++ (benchW ct a M ++ (logW ct a M ++ (txtW ct q TX tl pl ft wd n1 n2 ++ (jrW ct o0 1 O ++ (moW mb sz tl cd plm cm h ++ (jrW ct (mb 1) 94 M ++ (jrW ct (mb 2) 94 SP ++ (jrW ct (mb 3) 376 SV ++ (irW ct (mb 4) 150 TX ++ (irW ct (mb 5) 2 NB)))))))))))))) := hD
  have hs := hR.1
  have ht := hR.2.1
  have hI := hs.1
  have hB := hs.2.1
  have ha := hs.2.2
  have i3 := hI.1
  have i4 := hI.2.1
  have j0 := hB.1
  have j1 := hB.2.1
  have j2 := hB.2.2.1
  have j4 := hB.2.2.2.2
  have t1 := ht.1
  have hn := hR.2.2.1
  have hsz := hR.2.2.2.1
  have hsc := hR.2.2.2.1
  have hmn := sp_meanN hs
  refine lv_aload_n hx hb dL_law_1161 rfl (lv_at hl 1 rfl) ?_
  refine z_callV (C := RX8) (q0 := 0) (ci := 6) (As := []) (rest := []) ([] : va_W) (jrW ct o0 1 O ++ (moW mb sz tl cd plm cm h ++ (jrW ct (mb 1) 94 M ++ (jrW ct (mb 2) 94 SP ++ (jrW ct (mb 3) 376 SV ++ (irW ct (mb 4) 150 TX ++ (irW ct (mb 5) 2 NB))))))) hx hb hml hown (fun w h => hts w (inL_158 w h)) hl hE hS hA hP hD (c_X8_meanRate l D ct ad u a r q b2 nx sz S M TX tl pl ft n1 n2 wd (by assumption)) gdL_158 rfl rfl k_X8_meanRate ⟨Nat.le_of_ble_eq_true rfl, Nat.le_of_ble_eq_true rfl⟩ rfl rfl rfl rfl (Nat.le_of_ble_eq_true rfl) hc0 dL_law_1162 rfl (fun v w1 H locs hpost hP hD hS => ?_)
  obtain ⟨rfl, rfl⟩ := hpost
  have hP : va_P D vwCl (x8W u a r q ++ (svW ct r b2 nx sz S ++ (sobjW a ++ (gridW ct a M ++ (benchW ct a M ++ (logW ct a M ++ (txtW ct q TX tl pl ft wd n1 n2 ++ (jrW ct o0 1 O ++ (moW mb sz tl cd plm cm h ++ (jrW ct (mb 1) 94 M ++ (jrW ct (mb 2) 94 SP ++ (jrW ct (mb 3) 376 SV ++ (irW ct (mb 4) 150 TX ++ (irW ct (mb 5) 2 NB)))))))))))))) H := hP
  have hD : va_D (fun q : Nat => s.heap.size ≤ q) (x8W u a r q ++ (svW ct r b2 nx sz S ++ (sobjW a ++ (gridW ct a M ++ (benchW ct a M ++ (logW ct a M ++ (txtW ct q TX tl pl ft wd n1 n2 ++ (jrW ct o0 1 O ++ (moW mb sz tl cd plm cm h ++ (jrW ct (mb 1) 94 M ++ (jrW ct (mb 2) 94 SP ++ (jrW ct (mb 3) 376 SV ++ (irW ct (mb 4) 150 TX ++ (irW ct (mb 5) 2 NB)))))))))))))) := hD
  refine W.eq (g2 := F0 m 1165 ls [.double (sp_mean M)]) rfl ?_
  refine lv_dstore (lv' := [(5, .double (sp_mean M)), (0, .ref b), (1, .ref u), (2, .ref (mb 0)), (3, .ref o0), (4, .int (zI i))]) hx hb dL_law_1165 hl (by decide) rfl (fun ls hl => ?_)
  refine lv_aload_n hx hb dL_law_1167 rfl (lv_at hl 3 rfl) ?_
  refine z_callV (C := RX9) (q0 := 0) (ci := 7) (As := []) (rest := []) (x8W u a r q ++ (svW ct r b2 nx sz S ++ (sobjW a ++ (gridW ct a M ++ (benchW ct a M ++ (logW ct a M ++ (txtW ct q TX tl pl ft wd n1 n2 ++ (jrW ct o0 1 O)))))))) ([] : va_W) hx hb hml hown (fun w h => hts w (inL_162 w h)) hl hE hS hA (zr0 (x8W u a r q ++ (svW ct r b2 nx sz S ++ (sobjW a ++ (gridW ct a M ++ (benchW ct a M ++ (logW ct a M ++ (txtW ct q TX tl pl ft wd n1 n2 ++ (jrW ct o0 1 O)))))))) hP) (zr0D (x8W u a r q ++ (svW ct r b2 nx sz S ++ (sobjW a ++ (gridW ct a M ++ (benchW ct a M ++ (logW ct a M ++ (txtW ct q TX tl pl ft wd n1 n2 ++ (jrW ct o0 1 O)))))))) hD) (c_X9_meanRate l D ct ad mb M SP SV TX NB sz tl cd plm cm h (by assumption) (by assumption)) gdL_162 rfl rfl k_X9_meanRate ⟨Nat.le_of_ble_eq_true rfl, Nat.le_of_ble_eq_true rfl⟩ rfl rfl rfl rfl (Nat.le_of_ble_eq_true rfl) hc0 dL_law_1168 rfl (fun v w1 H locs hpost hP hD hS => ?_)
  obtain ⟨rfl, rfl⟩ := hpost
  have hP := zr0' hP
  have hD := zr0D' hD
  have hP : va_P D vwCl (x8W u a r q ++ (svW ct r b2 nx sz S ++ (sobjW a ++ (gridW ct a M ++ (benchW ct a M ++ (logW ct a M ++ (txtW ct q TX tl pl ft wd n1 n2 ++ (jrW ct o0 1 O ++ (moW mb sz tl 0 plm cm h ++ (jrW ct (mb 1) 94 M ++ (jrW ct (mb 2) 94 SP ++ (jrW ct (mb 3) 376 SV ++ (irW ct (mb 4) 150 TX ++ (irW ct (mb 5) 2 NB)))))))))))))) H := hP
  have hD : va_D (fun q : Nat => s.heap.size ≤ q) (x8W u a r q ++ (svW ct r b2 nx sz S ++ (sobjW a ++ (gridW ct a M ++ (benchW ct a M ++ (logW ct a M ++ (txtW ct q TX tl pl ft wd n1 n2 ++ (jrW ct o0 1 O ++ (moW mb sz tl 0 plm cm h ++ (jrW ct (mb 1) 94 M ++ (jrW ct (mb 2) 94 SP ++ (jrW ct (mb 3) 376 SV ++ (irW ct (mb 4) 150 TX ++ (irW ct (mb 5) 2 NB)))))))))))))) := hD
  refine W.eq (g2 := F0 m 1171 ls [.double (sp_mean M)]) rfl ?_
  refine lv_dstore (lv' := [(7, .double (sp_mean M)), (5, .double (sp_mean M)), (0, .ref b), (1, .ref u), (2, .ref (mb 0)), (3, .ref o0), (4, .int (zI i))]) hx hb dL_law_1171 hl (by decide) rfl (fun ls hl => ?_)
  refine lv_dload hx hb dL_law_1173 (lv_at hl 1 rfl) ?_
  refine lv_dload hx hb dL_law_1175 (lv_at hl 0 rfl) ?_
  refine z_dcmp_self hx hb dL_law_1177 hmn ?_
  refine z_if_eq (tgt := 1199) hx hb dL_law_1178 (by decide) (by omega) (fun _ => ?_) (fun h => absurd rfl h)
  refine lv_goto (tgt := 1590) hx hb dL_law_1199 (by decide) ?_
  refine W.widen (k := cells + 1) (n := slots + 6) (Nat.le_add_right _ _) (Nat.le_add_right _ _) ?_
  exact ih _ _ _ ⟨nx, sz, S, M, TX, tl, pl, ft, n1, n2, wd, O, SP, SV, NB, 0, plm, cm, h, hR, hP, hD, hS, lv_sub hl [2, 3, 4, 5, 6] rfl⟩
set_option maxHeartbeats 4000000 in
set_option maxRecDepth 100000 in
theorem law_c20 (p : Program) (l : Launch) (e : Env) (s : State) (m : MethodId) (below : List Frame) (meth : Method) (c : Code) (D : va_G) (ct ad : Nat → Nat) (b L : Nat) (xs : Nat → Int32) (u : Nat) (a r q : Nat → Nat) (b2 : Nat → Nat → Nat) (o0 : Nat) (mb : Nat → Nat) (hC : lwC p l s m meth c D ct ad b L xs) (i : Int) (hi : 0 ≤ i ∧ i + 4 ≤ (L : Int)) (cells slots : Nat) (hcap : cells + 1 ≤ 601024 ∧ slots + 6 ≤ 7293034) (ih : ∀ (H : Heap) (locs : List Loc) (ls : Array Slot), lwI s D ct b u a r q b2 o0 mb i H locs ls → W p l e room_1 s m #[Value.ref b] below meth c H locs (cells + 1) (slots + 6) (lw_Z below #[Value.ref b] s) (F0 m 1590 ls [])) (H : Heap) (locs : List Loc) (ls : Array Slot) (hI0 : lwI s D ct b u a r q b2 o0 mb i H locs ls) : W p l e room_1 s m #[Value.ref b] below meth c H locs cells slots (lw_Z below #[Value.ref b] s) (F0 m 1202 ls []) := by
  obtain ⟨hx, hb, hr, hml, hown, hts, hX, hbl, hlocks, hE, hst, hL⟩ := hC
  obtain ⟨nx, sz, S, M, TX, tl, pl, ft, n1, n2, wd, O, SP, SV, NB, cd, plm, cm, h, hR, hP, hD, hS, hl⟩ := hI0
  have hA : ∀ q : Nat, s.heap.size ≤ q → (fun q : Nat => s.heap.size ≤ q) q := fun _ h => h
  have hbA : ¬ (fun q : Nat => s.heap.size ≤ q) b := Nat.not_le.mpr hbl
  have hK := hE.1
  have hc0 : cells ≤ room_1.cells ∧ slots ≤ room_1.slots := by show cells ≤ 601024 ∧ slots ≤ 7293034; omega
  have hc1 : cells + 1 ≤ room_1.cells ∧ slots + 6 ≤ room_1.slots := hcap
  have hP : va_P D vwCl (x8W u a r q ++ (svW ct r b2 nx sz S ++ (sobjW a ++ (gridW ct a M ++ (benchW ct a M ++ (logW ct a M ++ (txtW ct q TX tl pl ft wd n1 n2 ++ (jrW ct o0 1 O ++ (moW mb sz tl cd plm cm h ++ (jrW ct (mb 1) 94 M ++ (jrW ct (mb 2) 94 SP ++ (jrW ct (mb 3) 376 SV ++ (irW ct (mb 4) 150 TX ++ (irW ct (mb 5) 2 NB)))))))))))))) H := hP
  have hD : va_D (fun q : Nat => s.heap.size ≤ q) (x8W u a r q ++ (svW ct r b2 nx sz S ++ (sobjW a ++ (gridW ct a M ++ (benchW ct a M ++ (logW ct a M ++ (txtW ct q TX tl pl ft wd n1 n2 ++ (jrW ct o0 1 O ++ (moW mb sz tl cd plm cm h ++ (jrW ct (mb 1) 94 M ++ (jrW ct (mb 2) 94 SP ++ (jrW ct (mb 3) 376 SV ++ (irW ct (mb 4) 150 TX ++ (irW ct (mb 5) 2 NB)))))))))))))) := hD
  have hs := hR.1
  have ht := hR.2.1
  have hI := hs.1
  have hB := hs.2.1
  have ha := hs.2.2
  have i3 := hI.1
  have i4 := hI.2.1
  have j0 := hB.1
  have j1 := hB.2.1
  have j2 := hB.2.2.1
  have j4 := hB.2.2.2.2
  have t1 := ht.1
  have hn := hR.2.2.1
  have hsz := hR.2.2.2.1
  have hsc := hR.2.2.2.1
  obtain ⟨v1, e1, r1⟩ := zI_any (xs (i + 1).toNat)
  by_cases hok : -300 ≤ v1 ∧ v1 ≤ 600
  · skip
    have hv : -2147483648 ≤ sp_rt M v1 ∧ sp_rt M v1 ≤ 2147483647 := sp_rtB hB
    refine lv_aload_n hx hb dL_law_1202 rfl (lv_at hl 1 rfl) ?_
    refine lv_aload_n hx hb dL_law_1203 rfl (lv_at hl 0 rfl) ?_
    refine lv_iload hx hb dL_law_1204 (lv_at hl 4 rfl) ?_
    refine z_iconst hx hb dL_law_1206 ?_
    refine z_iadd hx hb dL_law_1207 ?_
    refine z_sld hx hb hX hbl hbA hS (by omega) hL e1 dL_law_1208 ?_
    refine lv_aload_n hx hb dL_law_1209 rfl (lv_at hl 3 rfl) ?_
    refine z_callSW (As := [.ref u, .int (zI v1), .ref o0]) (rest := []) ([] : va_W) (moW mb sz tl cd plm cm h ++ (jrW ct (mb 1) 94 M ++ (jrW ct (mb 2) 94 SP ++ (jrW ct (mb 3) 376 SV ++ (irW ct (mb 4) 150 TX ++ (irW ct (mb 5) 2 NB)))))) hx hb hml hown (fun w h => hts w (inL_163 w h)) hl hE hS hA hP hD (c_L_rateAt_ok l D ct ad u a r q b2 nx sz S M TX tl pl ft n1 n2 wd o0 O v1 (by assumption) (by omega) hok hv) gdL_163 rfl k_L_rateAt ⟨Nat.le_of_ble_eq_true rfl, Nat.le_of_ble_eq_true rfl⟩ rfl (Nat.le_of_ble_eq_true rfl) hc0 dL_law_1210 rfl (fun v w1 H locs hpost hP hD hS => ?_)
    obtain ⟨rfl, rfl⟩ := hpost
    have hP : va_P D vwCl (x8W u a r q ++ (svW ct r b2 nx sz S ++ (sobjW a ++ (gridW ct a M ++ (benchW ct a M ++ (logW ct a M ++ (txtW ct q TX tl pl ft wd n1 n2 ++ (jrW ct o0 1 (up O 0 (sp_rt M v1)) ++ (moW mb sz tl cd plm cm h ++ (jrW ct (mb 1) 94 M ++ (jrW ct (mb 2) 94 SP ++ (jrW ct (mb 3) 376 SV ++ (irW ct (mb 4) 150 TX ++ (irW ct (mb 5) 2 NB)))))))))))))) H := hP
    have hD : va_D (fun q : Nat => s.heap.size ≤ q) (x8W u a r q ++ (svW ct r b2 nx sz S ++ (sobjW a ++ (gridW ct a M ++ (benchW ct a M ++ (logW ct a M ++ (txtW ct q TX tl pl ft wd n1 n2 ++ (jrW ct o0 1 (up O 0 (sp_rt M v1)) ++ (moW mb sz tl cd plm cm h ++ (jrW ct (mb 1) 94 M ++ (jrW ct (mb 2) 94 SP ++ (jrW ct (mb 3) 376 SV ++ (irW ct (mb 4) 150 TX ++ (irW ct (mb 5) 2 NB)))))))))))))) := hD
    refine W.eq (g2 := F0 m 1213 ls [.int (zI 0)]) rfl ?_
    refine lv_istore (lv' := [(5, .int (zI 0)), (0, .ref b), (1, .ref u), (2, .ref (mb 0)), (3, .ref o0), (4, .int (zI i))]) hx hb dL_law_1213 hl (by decide) rfl (fun ls hl => ?_)
    refine lv_aload_n hx hb dL_law_1215 rfl (lv_at hl 3 rfl) ?_
    refine lv_aload_n hx hb dL_law_1216 rfl (lv_at hl 1 rfl) ?_
    refine lv_iload hx hb dL_law_1217 (lv_at hl 5 rfl) ?_
    refine z_iconst hx hb dL_law_1219 ?_
    refine z_iadd hx hb dL_law_1220 ?_
    refine z_sld hx hb hX hbl hbA hS (by omega) hL e1 dL_law_1221 ?_
    refine z_callV (C := RX9) (q0 := 0) (ci := 7) (As := [.int (zI v1)]) (rest := []) (x8W u a r q ++ (svW ct r b2 nx sz S ++ (sobjW a ++ (gridW ct a M ++ (benchW ct a M ++ (logW ct a M ++ (txtW ct q TX tl pl ft wd n1 n2 ++ (jrW ct o0 1 (up O 0 (sp_rt M v1)))))))))) ([] : va_W) hx hb hml hown (fun w h => hts w (inL_165 w h)) hl hE hS hA (zr0 (x8W u a r q ++ (svW ct r b2 nx sz S ++ (sobjW a ++ (gridW ct a M ++ (benchW ct a M ++ (logW ct a M ++ (txtW ct q TX tl pl ft wd n1 n2 ++ (jrW ct o0 1 (up O 0 (sp_rt M v1)))))))))) hP) (zr0D (x8W u a r q ++ (svW ct r b2 nx sz S ++ (sobjW a ++ (gridW ct a M ++ (benchW ct a M ++ (logW ct a M ++ (txtW ct q TX tl pl ft wd n1 n2 ++ (jrW ct o0 1 (up O 0 (sp_rt M v1)))))))))) hD) (c_X9_rateAt_ok l D ct ad mb M SP SV TX NB sz tl cd plm cm h v1 (by assumption) (by assumption) (by omega) (if_pos hok)) gdL_165 rfl rfl k_X9_rateAt ⟨Nat.le_of_ble_eq_true rfl, Nat.le_of_ble_eq_true rfl⟩ rfl rfl rfl rfl (Nat.le_of_ble_eq_true rfl) hc0 dL_law_1222 rfl (fun v w1 H locs hpost hP hD hS => ?_)
    obtain ⟨rfl, rfl⟩ := hpost
    have hP := zr0' hP
    have hD := zr0D' hD
    have hP : va_P D vwCl (x8W u a r q ++ (svW ct r b2 nx sz S ++ (sobjW a ++ (gridW ct a M ++ (benchW ct a M ++ (logW ct a M ++ (txtW ct q TX tl pl ft wd n1 n2 ++ (jrW ct o0 1 (up O 0 (sp_rt M v1)) ++ (moW mb sz tl (ck_b (-300 ≤ v1 ∧ v1 ≤ 600)) plm cm h ++ (jrW ct (mb 1) 94 M ++ (jrW ct (mb 2) 94 SP ++ (jrW ct (mb 3) 376 SV ++ (irW ct (mb 4) 150 TX ++ (irW ct (mb 5) 2 NB)))))))))))))) H := hP
    have hD : va_D (fun q : Nat => s.heap.size ≤ q) (x8W u a r q ++ (svW ct r b2 nx sz S ++ (sobjW a ++ (gridW ct a M ++ (benchW ct a M ++ (logW ct a M ++ (txtW ct q TX tl pl ft wd n1 n2 ++ (jrW ct o0 1 (up O 0 (sp_rt M v1)) ++ (moW mb sz tl (ck_b (-300 ≤ v1 ∧ v1 ≤ 600)) plm cm h ++ (jrW ct (mb 1) 94 M ++ (jrW ct (mb 2) 94 SP ++ (jrW ct (mb 3) 376 SV ++ (irW ct (mb 4) 150 TX ++ (irW ct (mb 5) 2 NB)))))))))))))) := hD
    refine W.eq (g2 := F0 m 1225 ls [.int (zI (sp_rt M v1))]) rfl ?_
    refine lv_istore (lv' := [(6, .int (zI (sp_rt M v1))), (5, .int (zI 0)), (0, .ref b), (1, .ref u), (2, .ref (mb 0)), (3, .ref o0), (4, .int (zI i))]) hx hb dL_law_1225 hl (by decide) rfl (fun ls hl => ?_)
    refine lv_aload_n hx hb dL_law_1227 rfl (lv_at hl 4 rfl) ?_
    refine z_callV (C := RX9) (q0 := 0) (ci := 7) (As := []) (rest := []) (x8W u a r q ++ (svW ct r b2 nx sz S ++ (sobjW a ++ (gridW ct a M ++ (benchW ct a M ++ (logW ct a M ++ (txtW ct q TX tl pl ft wd n1 n2 ++ (jrW ct o0 1 (up O 0 (sp_rt M v1)))))))))) ([] : va_W) hx hb hml hown (fun w h => hts w (inL_94 w h)) hl hE hS hA (zr0 (x8W u a r q ++ (svW ct r b2 nx sz S ++ (sobjW a ++ (gridW ct a M ++ (benchW ct a M ++ (logW ct a M ++ (txtW ct q TX tl pl ft wd n1 n2 ++ (jrW ct o0 1 (up O 0 (sp_rt M v1)))))))))) hP) (zr0D (x8W u a r q ++ (svW ct r b2 nx sz S ++ (sobjW a ++ (gridW ct a M ++ (benchW ct a M ++ (logW ct a M ++ (txtW ct q TX tl pl ft wd n1 n2 ++ (jrW ct o0 1 (up O 0 (sp_rt M v1)))))))))) hD) (c_X9_thrown l D ct ad mb M SP SV TX NB sz tl (ck_b (-300 ≤ v1 ∧ v1 ≤ 600)) plm cm h) gdL_94 rfl rfl k_X9_thrown ⟨Nat.le_of_ble_eq_true rfl, Nat.le_of_ble_eq_true rfl⟩ rfl rfl rfl rfl (Nat.le_of_ble_eq_true rfl) hc0 dL_law_1228 rfl (fun v w1 H locs hpost hP hD hS => ?_)
    obtain ⟨rfl, rfl⟩ := hpost
    have hP := zr0' hP
    have hD := zr0D' hD
    have hP : va_P D vwCl (x8W u a r q ++ (svW ct r b2 nx sz S ++ (sobjW a ++ (gridW ct a M ++ (benchW ct a M ++ (logW ct a M ++ (txtW ct q TX tl pl ft wd n1 n2 ++ (jrW ct o0 1 (up O 0 (sp_rt M v1)) ++ (moW mb sz tl (ck_b (-300 ≤ v1 ∧ v1 ≤ 600)) plm cm h ++ (jrW ct (mb 1) 94 M ++ (jrW ct (mb 2) 94 SP ++ (jrW ct (mb 3) 376 SV ++ (irW ct (mb 4) 150 TX ++ (irW ct (mb 5) 2 NB)))))))))))))) H := hP
    have hD : va_D (fun q : Nat => s.heap.size ≤ q) (x8W u a r q ++ (svW ct r b2 nx sz S ++ (sobjW a ++ (gridW ct a M ++ (benchW ct a M ++ (logW ct a M ++ (txtW ct q TX tl pl ft wd n1 n2 ++ (jrW ct o0 1 (up O 0 (sp_rt M v1)) ++ (moW mb sz tl (ck_b (-300 ≤ v1 ∧ v1 ≤ 600)) plm cm h ++ (jrW ct (mb 1) 94 M ++ (jrW ct (mb 2) 94 SP ++ (jrW ct (mb 3) 376 SV ++ (irW ct (mb 4) 150 TX ++ (irW ct (mb 5) 2 NB)))))))))))))) := hD
    refine W.eq (g2 := F0 m 1231 ls [.int (zI (ck_b (-300 ≤ v1 ∧ v1 ≤ 600)))]) rfl ?_
    refine lv_iload hx hb dL_law_1231 (lv_at hl 1 rfl) ?_
    refine z_canI (show 0 = ck_b (-300 ≤ v1 ∧ v1 ≤ 600) from (if_pos hok).symm) ?_
    refine z_icmp_eqS (tgt := 1238) hx hb dL_law_1233 (by decide) ?_
    refine lv_iload hx hb dL_law_1238 (lv_at hl 1 rfl) ?_
    refine z_if_ne (tgt := 1255) hx hb dL_law_1240 (by decide) (by omega) (fun hc_1240 => ?_) (fun hc_1240 => ?_)
    · have hc_1240 := hc_1240
      exfalso; first | omega | (revert hc_1240; unfold ck1; split <;> omega)
    · have hc_1240 := hc_1240
      refine lv_aload_n hx hb dL_law_1243 rfl (lv_at hl 5 rfl) ?_
      refine z_iconst hx hb dL_law_1244 ?_
      refine z_lald (g := (up O 0 (sp_rt M v1))) (v := sp_rt M v1) hx hb hK hP 60 rfl (by decide) (by omega) (show (up O 0 (sp_rt M v1)) 0 = sp_rt M v1 from by rw [up_s]) dL_law_1245 ?_
      refine lv_iload hx hb dL_law_1246 (lv_at hl 0 rfl) ?_
      refine z_i2l hx hb dL_law_1248 (by omega) ?_
      refine z_lcmp_eqS (tgt := 1255) hx hb dL_law_1249 dL_law_1250 (by decide) ?_
      refine lv_goto (tgt := 1590) hx hb dL_law_1255 (by decide) ?_
      refine W.widen (k := cells + 1) (n := slots + 6) (Nat.le_add_right _ _) (Nat.le_add_right _ _) ?_
      exact ih _ _ _ ⟨nx, sz, S, M, TX, tl, pl, ft, n1, n2, wd, (up O 0 (sp_rt M v1)), SP, SV, NB, (ck_b (-300 ≤ v1 ∧ v1 ≤ 600)), plm, cm, h, hR, hP, hD, hS, lv_sub hl [2, 3, 4, 5, 6] rfl⟩
  · skip
    refine lv_aload_n hx hb dL_law_1202 rfl (lv_at hl 1 rfl) ?_
    refine lv_aload_n hx hb dL_law_1203 rfl (lv_at hl 0 rfl) ?_
    refine lv_iload hx hb dL_law_1204 (lv_at hl 4 rfl) ?_
    refine z_iconst hx hb dL_law_1206 ?_
    refine z_iadd hx hb dL_law_1207 ?_
    refine z_sld hx hb hX hbl hbA hS (by omega) hL e1 dL_law_1208 ?_
    refine lv_aload_n hx hb dL_law_1209 rfl (lv_at hl 3 rfl) ?_
    refine z_callSW (As := [.ref u, .int (zI v1), .ref o0]) (rest := []) ([] : va_W) (moW mb sz tl cd plm cm h ++ (jrW ct (mb 1) 94 M ++ (jrW ct (mb 2) 94 SP ++ (jrW ct (mb 3) 376 SV ++ (irW ct (mb 4) 150 TX ++ (irW ct (mb 5) 2 NB)))))) hx hb hml hown (fun w h => hts w (inL_163 w h)) hl hE hS hA hP hD (c_L_rateAt_no l D ct ad u a r q b2 nx sz S M TX tl pl ft n1 n2 wd o0 O v1 (by assumption) hst (by omega) hok) gdL_163 rfl k_L_rateAt ⟨Nat.le_of_ble_eq_true rfl, Nat.le_of_ble_eq_true rfl⟩ rfl (Nat.le_of_ble_eq_true rfl) hc1 dL_law_1210 rfl (fun v w1 H locs hpost hP hD hS => ?_)
    obtain ⟨rfl, rfl⟩ := hpost
    have hP : va_P D vwCl (x8W u a r q ++ (svW ct r b2 nx sz S ++ (sobjW a ++ (gridW ct a M ++ (benchW ct a M ++ (logW ct a M ++ (txtW ct q TX tl pl ft wd n1 n2 ++ (jrW ct o0 1 O ++ (moW mb sz tl cd plm cm h ++ (jrW ct (mb 1) 94 M ++ (jrW ct (mb 2) 94 SP ++ (jrW ct (mb 3) 376 SV ++ (irW ct (mb 4) 150 TX ++ (irW ct (mb 5) 2 NB)))))))))))))) H := hP
    have hD : va_D (fun q : Nat => s.heap.size ≤ q) (x8W u a r q ++ (svW ct r b2 nx sz S ++ (sobjW a ++ (gridW ct a M ++ (benchW ct a M ++ (logW ct a M ++ (txtW ct q TX tl pl ft wd n1 n2 ++ (jrW ct o0 1 O ++ (moW mb sz tl cd plm cm h ++ (jrW ct (mb 1) 94 M ++ (jrW ct (mb 2) 94 SP ++ (jrW ct (mb 3) 376 SV ++ (irW ct (mb 4) 150 TX ++ (irW ct (mb 5) 2 NB)))))))))))))) := hD
    refine W.eq (g2 := F0 m 1213 ls [.int (zI 1)]) rfl ?_
    refine lv_istore (lv' := [(5, .int (zI 1)), (0, .ref b), (1, .ref u), (2, .ref (mb 0)), (3, .ref o0), (4, .int (zI i))]) hx hb dL_law_1213 hl (by decide) rfl (fun ls hl => ?_)
    refine lv_aload_n hx hb dL_law_1215 rfl (lv_at hl 3 rfl) ?_
    refine lv_aload_n hx hb dL_law_1216 rfl (lv_at hl 1 rfl) ?_
    refine lv_iload hx hb dL_law_1217 (lv_at hl 5 rfl) ?_
    refine z_iconst hx hb dL_law_1219 ?_
    refine z_iadd hx hb dL_law_1220 ?_
    refine z_sld hx hb hX hbl hbA hS (by omega) hL e1 dL_law_1221 ?_
    refine z_callV (C := RX9) (q0 := 0) (ci := 7) (As := [.int (zI v1)]) (rest := []) (x8W u a r q ++ (svW ct r b2 nx sz S ++ (sobjW a ++ (gridW ct a M ++ (benchW ct a M ++ (logW ct a M ++ (txtW ct q TX tl pl ft wd n1 n2 ++ (jrW ct o0 1 O)))))))) ([] : va_W) hx hb hml hown (fun w h => hts w (inL_165 w h)) hl hE hS hA (zr0 (x8W u a r q ++ (svW ct r b2 nx sz S ++ (sobjW a ++ (gridW ct a M ++ (benchW ct a M ++ (logW ct a M ++ (txtW ct q TX tl pl ft wd n1 n2 ++ (jrW ct o0 1 O)))))))) hP) (zr0D (x8W u a r q ++ (svW ct r b2 nx sz S ++ (sobjW a ++ (gridW ct a M ++ (benchW ct a M ++ (logW ct a M ++ (txtW ct q TX tl pl ft wd n1 n2 ++ (jrW ct o0 1 O)))))))) hD) (c_X9_rateAt_no l D ct ad mb M SP SV TX NB sz tl cd plm cm h v1 (by assumption) (by assumption) (by omega) (by unfold ck_b; rw [if_neg hok]; omega)) gdL_165 rfl rfl k_X9_rateAt ⟨Nat.le_of_ble_eq_true rfl, Nat.le_of_ble_eq_true rfl⟩ rfl rfl rfl rfl (Nat.le_of_ble_eq_true rfl) hc1 dL_law_1222 rfl (fun v w1 H locs hpost hP hD hS => ?_)
    obtain ⟨rfl, rfl⟩ := hpost
    have hP := zr0' hP
    have hD := zr0D' hD
    have hP : va_P D vwCl (x8W u a r q ++ (svW ct r b2 nx sz S ++ (sobjW a ++ (gridW ct a M ++ (benchW ct a M ++ (logW ct a M ++ (txtW ct q TX tl pl ft wd n1 n2 ++ (jrW ct o0 1 O ++ (moW mb sz tl (ck_b (-300 ≤ v1 ∧ v1 ≤ 600)) plm cm h ++ (jrW ct (mb 1) 94 M ++ (jrW ct (mb 2) 94 SP ++ (jrW ct (mb 3) 376 SV ++ (irW ct (mb 4) 150 TX ++ (irW ct (mb 5) 2 NB)))))))))))))) H := hP
    have hD : va_D (fun q : Nat => s.heap.size ≤ q) (x8W u a r q ++ (svW ct r b2 nx sz S ++ (sobjW a ++ (gridW ct a M ++ (benchW ct a M ++ (logW ct a M ++ (txtW ct q TX tl pl ft wd n1 n2 ++ (jrW ct o0 1 O ++ (moW mb sz tl (ck_b (-300 ≤ v1 ∧ v1 ≤ 600)) plm cm h ++ (jrW ct (mb 1) 94 M ++ (jrW ct (mb 2) 94 SP ++ (jrW ct (mb 3) 376 SV ++ (irW ct (mb 4) 150 TX ++ (irW ct (mb 5) 2 NB)))))))))))))) := hD
    refine W.eq (g2 := F0 m 1225 ls [.int (zI 0)]) rfl ?_
    refine lv_istore (lv' := [(6, .int (zI 0)), (5, .int (zI 1)), (0, .ref b), (1, .ref u), (2, .ref (mb 0)), (3, .ref o0), (4, .int (zI i))]) hx hb dL_law_1225 hl (by decide) rfl (fun ls hl => ?_)
    refine lv_aload_n hx hb dL_law_1227 rfl (lv_at hl 4 rfl) ?_
    refine z_callV (C := RX9) (q0 := 0) (ci := 7) (As := []) (rest := []) (x8W u a r q ++ (svW ct r b2 nx sz S ++ (sobjW a ++ (gridW ct a M ++ (benchW ct a M ++ (logW ct a M ++ (txtW ct q TX tl pl ft wd n1 n2 ++ (jrW ct o0 1 O)))))))) ([] : va_W) hx hb hml hown (fun w h => hts w (inL_94 w h)) hl hE hS hA (zr0 (x8W u a r q ++ (svW ct r b2 nx sz S ++ (sobjW a ++ (gridW ct a M ++ (benchW ct a M ++ (logW ct a M ++ (txtW ct q TX tl pl ft wd n1 n2 ++ (jrW ct o0 1 O)))))))) hP) (zr0D (x8W u a r q ++ (svW ct r b2 nx sz S ++ (sobjW a ++ (gridW ct a M ++ (benchW ct a M ++ (logW ct a M ++ (txtW ct q TX tl pl ft wd n1 n2 ++ (jrW ct o0 1 O)))))))) hD) (c_X9_thrown l D ct ad mb M SP SV TX NB sz tl (ck_b (-300 ≤ v1 ∧ v1 ≤ 600)) plm cm h) gdL_94 rfl rfl k_X9_thrown ⟨Nat.le_of_ble_eq_true rfl, Nat.le_of_ble_eq_true rfl⟩ rfl rfl rfl rfl (Nat.le_of_ble_eq_true rfl) hc1 dL_law_1228 rfl (fun v w1 H locs hpost hP hD hS => ?_)
    obtain ⟨rfl, rfl⟩ := hpost
    have hP := zr0' hP
    have hD := zr0D' hD
    have hP : va_P D vwCl (x8W u a r q ++ (svW ct r b2 nx sz S ++ (sobjW a ++ (gridW ct a M ++ (benchW ct a M ++ (logW ct a M ++ (txtW ct q TX tl pl ft wd n1 n2 ++ (jrW ct o0 1 O ++ (moW mb sz tl (ck_b (-300 ≤ v1 ∧ v1 ≤ 600)) plm cm h ++ (jrW ct (mb 1) 94 M ++ (jrW ct (mb 2) 94 SP ++ (jrW ct (mb 3) 376 SV ++ (irW ct (mb 4) 150 TX ++ (irW ct (mb 5) 2 NB)))))))))))))) H := hP
    have hD : va_D (fun q : Nat => s.heap.size ≤ q) (x8W u a r q ++ (svW ct r b2 nx sz S ++ (sobjW a ++ (gridW ct a M ++ (benchW ct a M ++ (logW ct a M ++ (txtW ct q TX tl pl ft wd n1 n2 ++ (jrW ct o0 1 O ++ (moW mb sz tl (ck_b (-300 ≤ v1 ∧ v1 ≤ 600)) plm cm h ++ (jrW ct (mb 1) 94 M ++ (jrW ct (mb 2) 94 SP ++ (jrW ct (mb 3) 376 SV ++ (irW ct (mb 4) 150 TX ++ (irW ct (mb 5) 2 NB)))))))))))))) := hD
    refine W.eq (g2 := F0 m 1231 ls [.int (zI (ck_b (-300 ≤ v1 ∧ v1 ≤ 600)))]) rfl ?_
    refine lv_iload hx hb dL_law_1231 (lv_at hl 1 rfl) ?_
    refine z_canI (show 1 = ck_b (-300 ≤ v1 ∧ v1 ≤ 600) from (if_neg hok).symm) ?_
    refine z_icmp_eqS (tgt := 1238) hx hb dL_law_1233 (by decide) ?_
    refine lv_iload hx hb dL_law_1238 (lv_at hl 1 rfl) ?_
    refine z_if_ne (tgt := 1255) hx hb dL_law_1240 (by decide) (by omega) (fun hc_1240 => ?_) (fun hc_1240 => ?_)
    · have hc_1240 := hc_1240
      refine lv_goto (tgt := 1590) hx hb dL_law_1255 (by decide) ?_
      exact ih _ _ _ ⟨nx, sz, S, M, TX, tl, pl, ft, n1, n2, wd, O, SP, SV, NB, (ck_b (-300 ≤ v1 ∧ v1 ≤ 600)), plm, cm, h, hR, hP, hD, hS, lv_sub hl [2, 3, 4, 5, 6] rfl⟩
    · have hc_1240 := hc_1240
      exfalso; first | omega | (revert hc_1240; unfold ck1; split <;> omega)
