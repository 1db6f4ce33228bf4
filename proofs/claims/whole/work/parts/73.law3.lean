set_option maxHeartbeats 4000000 in
set_option maxRecDepth 100000 in
theorem law_c8 (p : Program) (l : Launch) (e : Env) (s : State) (m : MethodId) (below : List Frame) (meth : Method) (c : Code) (D : va_G) (ct ad : Nat → Nat) (b L : Nat) (xs : Nat → Int32) (u : Nat) (a r q : Nat → Nat) (b2 : Nat → Nat → Nat) (o0 : Nat) (mb : Nat → Nat) (hC : lwC p l s m meth c D ct ad b L xs) (i : Int) (hi : 0 ≤ i ∧ i + 4 ≤ (L : Int)) (cells slots : Nat) (hcap : cells + 1 ≤ 601024 ∧ slots + 6 ≤ 7293034) (ih : ∀ (H : Heap) (locs : List Loc) (ls : Array Slot), lwI s D ct b u a r q b2 o0 mb i H locs ls → W p l e room_1 s m #[Value.ref b] below meth c H locs (cells + 1) (slots + 6) (lw_Z below #[Value.ref b] s) (F0 m 1590 ls [])) (H : Heap) (locs : List Loc) (ls : Array Slot) (hI0 : lwI s D ct b u a r q b2 o0 mb i H locs ls) : W p l e room_1 s m #[Value.ref b] below meth c H locs cells slots (lw_Z below #[Value.ref b] s) (F0 m 680 ls []) := by
  obtain ⟨hx, hb, hr, hml, hown, hts, hX, hbl, hlocks, hE, hst, hL⟩ := hC
  obtain ⟨nx, sz, S, M, TX, tl, pl, ft, n1, n2, wd, O, SP, SV, NB, cd, plm, cm, h, hR, hP, hD, hS, hl⟩ := hI0
  have hA : ∀ q : Nat, s.heap.size ≤ q → (fun q : Nat => s.heap.size ≤ q) q := fun _ h => h
  have hbA : ¬ (fun q : Nat => s.heap.size ≤ q) b := Nat.not_le.mpr hbl
  have hK := hE.1
  have hc0 : cells ≤ room_1.cells ∧ slots ≤ room_1.slots := by show cells ≤ 601024 ∧ slots ≤ 7293034; omega
  have hc1 : cells + 1 ≤ room_1.cells ∧ slots + 6 ≤ room_1.slots := hcap
  have hP : va_P D vwCl (x8W u a r q ++ (svW ct r b2 nx sz S ++ (sobjW a ++ (gridW ct a M ++ (benchW ct a M ++ (logW ct a M ++ (txtW ct q TX tl pl ft wd n1 n2 ++ (jrW ct o0 1 O ++ (moW mb sz tl cd plm cm h ++ (jrW ct (mb 1) 94 M ++ (jrW ct (mb 2) 94 SP ++ (jrW ct (mb 3) 376 SV ++ (irW ct (mb 4) 150 TX ++ (irW ct (mb 5) 2 NB)))))))))))))) H := hP
  have hD : va_D (fun q : Nat => s.heap.size ≤ q) (x8W u a r q ++ (svW ct r b2 nx sz S ++ (sobjW a ++ (gridW ct a M ++ (benchW ct a M ++ (logW ct a M ++ (txtW ct q TX tl pl ft wd n1 n2 ++ (jrW ct o0 1 O ++ (moW mb sz tl cd plm cm h ++ (jrW ct (mb 1) 94 M ++ (jrW ct (mb 2) 94 SP ++ (jrW ct (mb 3) 376 SV ++ (irW ct (mb 4) 150 TX ++ (irW ct (mb 5) 2 NB)))))))))))))) := hD
  have hs := hR.1
  have ht := hR.2.1
  have hI := hs.1
  have hB := hs.2.1
  have ha := hs.2.2
  have i3 := hI.1
  have i4 := hI.2.1
  have j0 := hB.1
  have j1 := hB.2.1
  have j2 := hB.2.2.1
  have j4 := hB.2.2.2.2
  have t1 := ht.1
  have hn := hR.2.2.1
  have hsz := hR.2.2.2.1
  have hsc := hR.2.2.2.1
  refine lv_aload_n hx hb dL_law_680 rfl (lv_at hl 1 rfl) ?_
  refine z_callV (C := RX8) (q0 := 0) (ci := 6) (As := []) (rest := []) ([] : va_W) (jrW ct o0 1 O ++ (moW mb sz tl cd plm cm h ++ (jrW ct (mb 1) 94 M ++ (jrW ct (mb 2) 94 SP ++ (jrW ct (mb 3) 376 SV ++ (irW ct (mb 4) 150 TX ++ (irW ct (mb 5) 2 NB))))))) hx hb hml hown (fun w h => hts w (inL_120 w h)) hl hE hS hA hP hD (c_X8_wind l D ct ad u a r q b2 nx sz S M TX tl pl ft n1 n2 wd (by assumption) (by omega) (by omega)) gdL_120 rfl rfl k_X8_wind ⟨Nat.le_of_ble_eq_true rfl, Nat.le_of_ble_eq_true rfl⟩ rfl rfl rfl rfl (Nat.le_of_ble_eq_true rfl) hc0 dL_law_681 rfl (fun v w1 H locs hpost hP hD hS => ?_)
  obtain ⟨rfl, rfl⟩ := hpost
  have hP : va_P D vwCl (x8W u a r q ++ (svW ct r b2 ((nx + 1) % 4) (min (sz + 1) 4) (updS S nx M) ++ (sobjW a ++ (gridW ct a (up M 8 192) ++ (benchW ct a (up M 8 192) ++ (logW ct a (up M 8 192) ++ (txtW ct q TX tl pl ft wd n1 n2 ++ (jrW ct o0 1 O ++ (moW mb sz tl cd plm cm h ++ (jrW ct (mb 1) 94 M ++ (jrW ct (mb 2) 94 SP ++ (jrW ct (mb 3) 376 SV ++ (irW ct (mb 4) 150 TX ++ (irW ct (mb 5) 2 NB)))))))))))))) H := hP
  have hD : va_D (fun q : Nat => s.heap.size ≤ q) (x8W u a r q ++ (svW ct r b2 ((nx + 1) % 4) (min (sz + 1) 4) (updS S nx M) ++ (sobjW a ++ (gridW ct a (up M 8 192) ++ (benchW ct a (up M 8 192) ++ (logW ct a (up M 8 192) ++ (txtW ct q TX tl pl ft wd n1 n2 ++ (jrW ct o0 1 O ++ (moW mb sz tl cd plm cm h ++ (jrW ct (mb 1) 94 M ++ (jrW ct (mb 2) 94 SP ++ (jrW ct (mb 3) 376 SV ++ (irW ct (mb 4) 150 TX ++ (irW ct (mb 5) 2 NB)))))))))))))) := hD
  refine W.eq (g2 := F0 m 684 ls [.int (zI (M 8))]) rfl ?_
  refine lv_aload_n hx hb dL_law_684 rfl (lv_at hl 2 rfl) ?_
  refine z_callV (C := RX9) (q0 := 0) (ci := 7) (As := []) (rest := [.int (zI (M 8))]) (x8W u a r q ++ (svW ct r b2 ((nx + 1) % 4) (min (sz + 1) 4) (updS S nx M) ++ (sobjW a ++ (gridW ct a (up M 8 192) ++ (benchW ct a (up M 8 192) ++ (logW ct a (up M 8 192) ++ (txtW ct q TX tl pl ft wd n1 n2 ++ (jrW ct o0 1 O)))))))) ([] : va_W) hx hb hml hown (fun w h => hts w (inL_123 w h)) hl hE hS hA (zr0 (x8W u a r q ++ (svW ct r b2 ((nx + 1) % 4) (min (sz + 1) 4) (updS S nx M) ++ (sobjW a ++ (gridW ct a (up M 8 192) ++ (benchW ct a (up M 8 192) ++ (logW ct a (up M 8 192) ++ (txtW ct q TX tl pl ft wd n1 n2 ++ (jrW ct o0 1 O)))))))) hP) (zr0D (x8W u a r q ++ (svW ct r b2 ((nx + 1) % 4) (min (sz + 1) 4) (updS S nx M) ++ (sobjW a ++ (gridW ct a (up M 8 192) ++ (benchW ct a (up M 8 192) ++ (logW ct a (up M 8 192) ++ (txtW ct q TX tl pl ft wd n1 n2 ++ (jrW ct o0 1 O)))))))) hD) (c_X9_wind l D ct ad mb M SP SV TX NB sz tl cd plm cm h (by omega)) gdL_123 rfl rfl k_X9_wind ⟨Nat.le_of_ble_eq_true rfl, Nat.le_of_ble_eq_true rfl⟩ rfl rfl rfl rfl (Nat.le_of_ble_eq_true rfl) hc0 dL_law_685 rfl (fun v w1 H locs hpost hP hD hS => ?_)
  obtain ⟨rfl, rfl⟩ := hpost
  have hP := zr0' hP
  have hD := zr0D' hD
  have hP : va_P D vwCl (x8W u a r q ++ (svW ct r b2 ((nx + 1) % 4) (min (sz + 1) 4) (updS S nx M) ++ (sobjW a ++ (gridW ct a (up M 8 192) ++ (benchW ct a (up M 8 192) ++ (logW ct a (up M 8 192) ++ (txtW ct q TX tl pl ft wd n1 n2 ++ (jrW ct o0 1 O ++ (moW mb (sv_n sz + 1) tl 0 plm cm h ++ (jrW ct (mb 1) 94 (up M 8 192) ++ (jrW ct (mb 2) 94 SP ++ (jrW ct (mb 3) 376 (sv_keep SV M sz) ++ (irW ct (mb 4) 150 TX ++ (irW ct (mb 5) 2 NB)))))))))))))) H := hP
  have hD : va_D (fun q : Nat => s.heap.size ≤ q) (x8W u a r q ++ (svW ct r b2 ((nx + 1) % 4) (min (sz + 1) 4) (updS S nx M) ++ (sobjW a ++ (gridW ct a (up M 8 192) ++ (benchW ct a (up M 8 192) ++ (logW ct a (up M 8 192) ++ (txtW ct q TX tl pl ft wd n1 n2 ++ (jrW ct o0 1 O ++ (moW mb (sv_n sz + 1) tl 0 plm cm h ++ (jrW ct (mb 1) 94 (up M 8 192) ++ (jrW ct (mb 2) 94 SP ++ (jrW ct (mb 3) 376 (sv_keep SV M sz) ++ (irW ct (mb 4) 150 TX ++ (irW ct (mb 5) 2 NB)))))))))))))) := hD
  refine W.eq (g2 := F0 m 688 ls [.int (zI (M 8)), .int (zI (M 8))]) rfl ?_
  refine z_icmp_eqS (tgt := 1590) hx hb dL_law_688 (by decide) ?_
  refine W.widen (k := cells + 1) (n := slots + 6) (Nat.le_add_right _ _) (Nat.le_add_right _ _) ?_
  have e9 : (sv_n sz + 1) = (min (sz + 1) 4) := by have q9 := sv_min (sz := sz); have := hR.2.2.2.1; omega
  rw [e9] at hP hD
  exact ih _ _ _ ⟨((nx + 1) % 4), (min (sz + 1) 4), (updS S nx M), (up M 8 192), TX, tl, pl, ft, n1, n2, wd, O, SP, (sv_keep SV M sz), NB, 0, plm, cm, h, lwR_push hR (sInv_wind hs), hP, hD, hS, lv_sub hl [0, 1, 2, 3, 4] rfl⟩
set_option maxHeartbeats 4000000 in
set_option maxRecDepth 100000 in
theorem law_c9 (p : Program) (l : Launch) (e : Env) (s : State) (m : MethodId) (below : List Frame) (meth : Method) (c : Code) (D : va_G) (ct ad : Nat → Nat) (b L : Nat) (xs : Nat → Int32) (u : Nat) (a r q : Nat → Nat) (b2 : Nat → Nat → Nat) (o0 : Nat) (mb : Nat → Nat) (hC : lwC p l s m meth c D ct ad b L xs) (i : Int) (hi : 0 ≤ i ∧ i + 4 ≤ (L : Int)) (cells slots : Nat) (hcap : cells + 1 ≤ 601024 ∧ slots + 6 ≤ 7293034) (ih : ∀ (H : Heap) (locs : List Loc) (ls : Array Slot), lwI s D ct b u a r q b2 o0 mb i H locs ls → W p l e room_1 s m #[Value.ref b] below meth c H locs (cells + 1) (slots + 6) (lw_Z below #[Value.ref b] s) (F0 m 1590 ls [])) (H : Heap) (locs : List Loc) (ls : Array Slot) (hI0 : lwI s D ct b u a r q b2 o0 mb i H locs ls) : W p l e room_1 s m #[Value.ref b] below meth c H locs cells slots (lw_Z below #[Value.ref b] s) (F0 m 693 ls []) := by
  obtain ⟨hx, hb, hr, hml, hown, hts, hX, hbl, hlocks, hE, hst, hL⟩ := hC
  obtain ⟨nx, sz, S, M, TX, tl, pl, ft, n1, n2, wd, O, SP, SV, NB, cd, plm, cm, h, hR, hP, hD, hS, hl⟩ := hI0
  have hA : ∀ q : Nat, s.heap.size ≤ q → (fun q : Nat => s.heap.size ≤ q) q := fun _ h => h
  have hbA : ¬ (fun q : Nat => s.heap.size ≤ q) b := Nat.not_le.mpr hbl
  have hK := hE.1
  have hc0 : cells ≤ room_1.cells ∧ slots ≤ room_1.slots := by show cells ≤ 601024 ∧ slots ≤ 7293034; omega
  have hc1 : cells + 1 ≤ room_1.cells ∧ slots + 6 ≤ room_1.slots := hcap
  have hP : va_P D vwCl (x8W u a r q ++ (svW ct r b2 nx sz S ++ (sobjW a ++ (gridW ct a M ++ (benchW ct a M ++ (logW ct a M ++ (txtW ct q TX tl pl ft wd n1 n2 ++ (jrW ct o0 1 O ++ (moW mb sz tl cd plm cm h ++ (jrW ct (mb 1) 94 M ++ (jrW ct (mb 2) 94 SP ++ (jrW ct (mb 3) 376 SV ++ (irW ct (mb 4) 150 TX ++ (irW ct (mb 5) 2 NB)))))))))))))) H := hP
  have hD : va_D (fun q : Nat => s.heap.size ≤ q) (x8W u a r q ++ (svW ct r b2 nx sz S ++ (sobjW a ++ (gridW ct a M ++ (benchW ct a M ++ (logW ct a M ++ (txtW ct q TX tl pl ft wd n1 n2 ++ (jrW ct o0 1 O ++ (moW mb sz tl cd plm cm h ++ (jrW ct (mb 1) 94 M ++ (jrW ct (mb 2) 94 SP ++ (jrW ct (mb 3) 376 SV ++ (irW ct (mb 4) 150 TX ++ (irW ct (mb 5) 2 NB)))))))))))))) := hD
  have hs := hR.1
  have ht := hR.2.1
  have hI := hs.1
  have hB := hs.2.1
  have ha := hs.2.2
  have i3 := hI.1
  have i4 := hI.2.1
  have j0 := hB.1
  have j1 := hB.2.1
  have j2 := hB.2.2.1
  have j4 := hB.2.2.2.2
  have t1 := ht.1
  have hn := hR.2.2.1
  have hsz := hR.2.2.2.1
  have hsc := hR.2.2.2.1
  obtain ⟨v1, e1, r1⟩ := zI_any (xs (i + 1).toNat)
  obtain ⟨v2, e2, r2⟩ := zI_any (xs (i + 2).toNat)
  by_cases hok : ck_set v1 v2 = 0
  · skip
    have hk : v1 = 0 ∨ v1 = 1 ∨ v1 = 2 := by revert hok; unfold ck_set; (repeat' split) <;> intro z <;> omega
    have hv : -2147483648 ≤ M v1 ∧ M v1 ≤ 2147483647 := by rcases hk with z | z | z <;> rw [z] <;> omega
    refine lv_aload_n hx hb dL_law_693 rfl (lv_at hl 1 rfl) ?_
    refine lv_aload_n hx hb dL_law_694 rfl (lv_at hl 0 rfl) ?_
    refine lv_iload hx hb dL_law_695 (lv_at hl 4 rfl) ?_
    refine z_iconst hx hb dL_law_697 ?_
    refine z_iadd hx hb dL_law_698 ?_
    refine z_sld hx hb hX hbl hbA hS (by omega) hL e1 dL_law_699 ?_
    refine lv_aload_n hx hb dL_law_700 rfl (lv_at hl 0 rfl) ?_
    refine lv_iload hx hb dL_law_701 (lv_at hl 4 rfl) ?_
    refine z_iconst hx hb dL_law_703 ?_
    refine z_iadd hx hb dL_law_704 ?_
    refine z_sld hx hb hX hbl hbA hS (by omega) hL e2 dL_law_705 ?_
    refine lv_aload_n hx hb dL_law_706 rfl (lv_at hl 3 rfl) ?_
    refine z_callSW (As := [.ref u, .int (zI v1), .int (zI v2), .ref o0]) (rest := []) ([] : va_W) (moW mb sz tl cd plm cm h ++ (jrW ct (mb 1) 94 M ++ (jrW ct (mb 2) 94 SP ++ (jrW ct (mb 3) 376 SV ++ (irW ct (mb 4) 150 TX ++ (irW ct (mb 5) 2 NB)))))) hx hb hml hown (fun w h => hts w (inL_124 w h)) hl hE hS hA hP hD (c_L_set_ok l D ct ad u a r q b2 nx sz S M TX tl pl ft n1 n2 wd o0 O v1 v2 (by assumption) (by omega) (by omega) (by omega) (by omega) hok hv) gdL_124 rfl k_L_set ⟨Nat.le_of_ble_eq_true rfl, Nat.le_of_ble_eq_true rfl⟩ rfl (Nat.le_of_ble_eq_true rfl) hc0 dL_law_707 rfl (fun v w1 H locs hpost hP hD hS => ?_)
    obtain ⟨rfl, rfl⟩ := hpost
    have hP : va_P D vwCl (x8W u a r q ++ (svW ct r b2 ((nx + 1) % 4) (min (sz + 1) 4) (updS S nx M) ++ (sobjW a ++ (gridW ct a (up M v1 v2) ++ (benchW ct a (up M v1 v2) ++ (logW ct a (up M v1 v2) ++ (txtW ct q TX tl pl ft wd n1 n2 ++ (jrW ct o0 1 (up O 0 (M v1)) ++ (moW mb sz tl cd plm cm h ++ (jrW ct (mb 1) 94 M ++ (jrW ct (mb 2) 94 SP ++ (jrW ct (mb 3) 376 SV ++ (irW ct (mb 4) 150 TX ++ (irW ct (mb 5) 2 NB)))))))))))))) H := hP
    have hD : va_D (fun q : Nat => s.heap.size ≤ q) (x8W u a r q ++ (svW ct r b2 ((nx + 1) % 4) (min (sz + 1) 4) (updS S nx M) ++ (sobjW a ++ (gridW ct a (up M v1 v2) ++ (benchW ct a (up M v1 v2) ++ (logW ct a (up M v1 v2) ++ (txtW ct q TX tl pl ft wd n1 n2 ++ (jrW ct o0 1 (up O 0 (M v1)) ++ (moW mb sz tl cd plm cm h ++ (jrW ct (mb 1) 94 M ++ (jrW ct (mb 2) 94 SP ++ (jrW ct (mb 3) 376 SV ++ (irW ct (mb 4) 150 TX ++ (irW ct (mb 5) 2 NB)))))))))))))) := hD
    refine W.eq (g2 := F0 m 710 ls [.int (zI 0)]) rfl ?_
    refine lv_istore (lv' := [(5, .int (zI 0)), (0, .ref b), (1, .ref u), (2, .ref (mb 0)), (3, .ref o0), (4, .int (zI i))]) hx hb dL_law_710 hl (by decide) rfl (fun ls hl => ?_)
    refine lv_aload_n hx hb dL_law_712 rfl (lv_at hl 3 rfl) ?_
    refine lv_aload_n hx hb dL_law_713 rfl (lv_at hl 1 rfl) ?_
    refine lv_iload hx hb dL_law_714 (lv_at hl 5 rfl) ?_
    refine z_iconst hx hb dL_law_716 ?_
    refine z_iadd hx hb dL_law_717 ?_
    refine z_sld hx hb hX hbl hbA hS (by omega) hL e1 dL_law_718 ?_
    refine lv_aload_n hx hb dL_law_719 rfl (lv_at hl 1 rfl) ?_
    refine lv_iload hx hb dL_law_720 (lv_at hl 5 rfl) ?_
    refine z_iconst hx hb dL_law_722 ?_
    refine z_iadd hx hb dL_law_723 ?_
    refine z_sld hx hb hX hbl hbA hS (by omega) hL e2 dL_law_724 ?_
    refine z_callV (C := RX9) (q0 := 0) (ci := 7) (As := [.int (zI v1), .int (zI v2)]) (rest := []) (x8W u a r q ++ (svW ct r b2 ((nx + 1) % 4) (min (sz + 1) 4) (updS S nx M) ++ (sobjW a ++ (gridW ct a (up M v1 v2) ++ (benchW ct a (up M v1 v2) ++ (logW ct a (up M v1 v2) ++ (txtW ct q TX tl pl ft wd n1 n2 ++ (jrW ct o0 1 (up O 0 (M v1)))))))))) ([] : va_W) hx hb hml hown (fun w h => hts w (inL_126 w h)) hl hE hS hA (zr0 (x8W u a r q ++ (svW ct r b2 ((nx + 1) % 4) (min (sz + 1) 4) (updS S nx M) ++ (sobjW a ++ (gridW ct a (up M v1 v2) ++ (benchW ct a (up M v1 v2) ++ (logW ct a (up M v1 v2) ++ (txtW ct q TX tl pl ft wd n1 n2 ++ (jrW ct o0 1 (up O 0 (M v1)))))))))) hP) (zr0D (x8W u a r q ++ (svW ct r b2 ((nx + 1) % 4) (min (sz + 1) 4) (updS S nx M) ++ (sobjW a ++ (gridW ct a (up M v1 v2) ++ (benchW ct a (up M v1 v2) ++ (logW ct a (up M v1 v2) ++ (txtW ct q TX tl pl ft wd n1 n2 ++ (jrW ct o0 1 (up O 0 (M v1)))))))))) hD) (c_X9_set_ok l D ct ad mb M SP SV TX NB sz tl cd plm cm h v1 v2 (by omega) (by omega) (by omega) (why_s.mpr hok)) gdL_126 rfl rfl k_X9_set ⟨Nat.le_of_ble_eq_true rfl, Nat.le_of_ble_eq_true rfl⟩ rfl rfl rfl rfl (Nat.le_of_ble_eq_true rfl) hc0 dL_law_725 rfl (fun v w1 H locs hpost hP hD hS => ?_)
    obtain ⟨rfl, rfl⟩ := hpost
    have hP := zr0' hP
    have hD := zr0D' hD
    have hP : va_P D vwCl (x8W u a r q ++ (svW ct r b2 ((nx + 1) % 4) (min (sz + 1) 4) (updS S nx M) ++ (sobjW a ++ (gridW ct a (up M v1 v2) ++ (benchW ct a (up M v1 v2) ++ (logW ct a (up M v1 v2) ++ (txtW ct q TX tl pl ft wd n1 n2 ++ (jrW ct o0 1 (up O 0 (M v1)) ++ (moW mb (sv_n sz + 1) tl (ck1 (ck_set v1 v2)) plm cm h ++ (jrW ct (mb 1) 94 (up M v1 v2) ++ (jrW ct (mb 2) 94 SP ++ (jrW ct (mb 3) 376 (sv_keep SV M sz) ++ (irW ct (mb 4) 150 TX ++ (irW ct (mb 5) 2 NB)))))))))))))) H := hP
    have hD : va_D (fun q : Nat => s.heap.size ≤ q) (x8W u a r q ++ (svW ct r b2 ((nx + 1) % 4) (min (sz + 1) 4) (updS S nx M) ++ (sobjW a ++ (gridW ct a (up M v1 v2) ++ (benchW ct a (up M v1 v2) ++ (logW ct a (up M v1 v2) ++ (txtW ct q TX tl pl ft wd n1 n2 ++ (jrW ct o0 1 (up O 0 (M v1)) ++ (moW mb (sv_n sz + 1) tl (ck1 (ck_set v1 v2)) plm cm h ++ (jrW ct (mb 1) 94 (up M v1 v2) ++ (jrW ct (mb 2) 94 SP ++ (jrW ct (mb 3) 376 (sv_keep SV M sz) ++ (irW ct (mb 4) 150 TX ++ (irW ct (mb 5) 2 NB)))))))))))))) := hD
    refine W.eq (g2 := F0 m 728 ls [.int (zI (M v1))]) rfl ?_
    refine lv_istore (lv' := [(6, .int (zI (M v1))), (5, .int (zI 0)), (0, .ref b), (1, .ref u), (2, .ref (mb 0)), (3, .ref o0), (4, .int (zI i))]) hx hb dL_law_728 hl (by decide) rfl (fun ls hl => ?_)
    refine lv_aload_n hx hb dL_law_730 rfl (lv_at hl 4 rfl) ?_
    refine z_callV (C := RX9) (q0 := 0) (ci := 7) (As := []) (rest := []) (x8W u a r q ++ (svW ct r b2 ((nx + 1) % 4) (min (sz + 1) 4) (updS S nx M) ++ (sobjW a ++ (gridW ct a (up M v1 v2) ++ (benchW ct a (up M v1 v2) ++ (logW ct a (up M v1 v2) ++ (txtW ct q TX tl pl ft wd n1 n2 ++ (jrW ct o0 1 (up O 0 (M v1)))))))))) ([] : va_W) hx hb hml hown (fun w h => hts w (inL_94 w h)) hl hE hS hA (zr0 (x8W u a r q ++ (svW ct r b2 ((nx + 1) % 4) (min (sz + 1) 4) (updS S nx M) ++ (sobjW a ++ (gridW ct a (up M v1 v2) ++ (benchW ct a (up M v1 v2) ++ (logW ct a (up M v1 v2) ++ (txtW ct q TX tl pl ft wd n1 n2 ++ (jrW ct o0 1 (up O 0 (M v1)))))))))) hP) (zr0D (x8W u a r q ++ (svW ct r b2 ((nx + 1) % 4) (min (sz + 1) 4) (updS S nx M) ++ (sobjW a ++ (gridW ct a (up M v1 v2) ++ (benchW ct a (up M v1 v2) ++ (logW ct a (up M v1 v2) ++ (txtW ct q TX tl pl ft wd n1 n2 ++ (jrW ct o0 1 (up O 0 (M v1)))))))))) hD) (c_X9_thrown l D ct ad mb (up M v1 v2) SP (sv_keep SV M sz) TX NB (sv_n sz + 1) tl (ck1 (ck_set v1 v2)) plm cm h) gdL_94 rfl rfl k_X9_thrown ⟨Nat.le_of_ble_eq_true rfl, Nat.le_of_ble_eq_true rfl⟩ rfl rfl rfl rfl (Nat.le_of_ble_eq_true rfl) hc0 dL_law_731 rfl (fun v w1 H locs hpost hP hD hS => ?_)
    obtain ⟨rfl, rfl⟩ := hpost
    have hP := zr0' hP
    have hD := zr0D' hD
    have hP : va_P D vwCl (x8W u a r q ++ (svW ct r b2 ((nx + 1) % 4) (min (sz + 1) 4) (updS S nx M) ++ (sobjW a ++ (gridW ct a (up M v1 v2) ++ (benchW ct a (up M v1 v2) ++ (logW ct a (up M v1 v2) ++ (txtW ct q TX tl pl ft wd n1 n2 ++ (jrW ct o0 1 (up O 0 (M v1)) ++ (moW mb (sv_n sz + 1) tl (ck1 (ck_set v1 v2)) plm cm h ++ (jrW ct (mb 1) 94 (up M v1 v2) ++ (jrW ct (mb 2) 94 SP ++ (jrW ct (mb 3) 376 (sv_keep SV M sz) ++ (irW ct (mb 4) 150 TX ++ (irW ct (mb 5) 2 NB)))))))))))))) H := hP
    have hD : va_D (fun q : Nat => s.heap.size ≤ q) (x8W u a r q ++ (svW ct r b2 ((nx + 1) % 4) (min (sz + 1) 4) (updS S nx M) ++ (sobjW a ++ (gridW ct a (up M v1 v2) ++ (benchW ct a (up M v1 v2) ++ (logW ct a (up M v1 v2) ++ (txtW ct q TX tl pl ft wd n1 n2 ++ (jrW ct o0 1 (up O 0 (M v1)) ++ (moW mb (sv_n sz + 1) tl (ck1 (ck_set v1 v2)) plm cm h ++ (jrW ct (mb 1) 94 (up M v1 v2) ++ (jrW ct (mb 2) 94 SP ++ (jrW ct (mb 3) 376 (sv_keep SV M sz) ++ (irW ct (mb 4) 150 TX ++ (irW ct (mb 5) 2 NB)))))))))))))) := hD
    refine W.eq (g2 := F0 m 734 ls [.int (zI (ck1 (ck_set v1 v2)))]) rfl ?_
    refine lv_iload hx hb dL_law_734 (lv_at hl 1 rfl) ?_
    refine z_canI (show 0 = ck1 (ck_set v1 v2) from (why_s.mpr hok).symm) ?_
    refine z_icmp_eqS (tgt := 741) hx hb dL_law_736 (by decide) ?_
    refine lv_iload hx hb dL_law_741 (lv_at hl 1 rfl) ?_
    refine z_if_ne (tgt := 758) hx hb dL_law_743 (by decide) (by omega) (fun hc_743 => ?_) (fun hc_743 => ?_)
    · have hc_743 := hc_743
      exfalso; first | omega | (revert hc_743; unfold ck1; split <;> omega)
    · have hc_743 := hc_743
      refine lv_aload_n hx hb dL_law_746 rfl (lv_at hl 5 rfl) ?_
      refine z_iconst hx hb dL_law_747 ?_
      refine z_lald (g := (up O 0 (M v1))) (v := M v1) hx hb hK hP 60 rfl (by decide) (by omega) (show (up O 0 (M v1)) 0 = M v1 from by rw [up_s]) dL_law_748 ?_
      refine lv_iload hx hb dL_law_749 (lv_at hl 0 rfl) ?_
      refine z_i2l hx hb dL_law_751 (by omega) ?_
      refine z_lcmp_eqS (tgt := 758) hx hb dL_law_752 dL_law_753 (by decide) ?_
      refine lv_goto (tgt := 1590) hx hb dL_law_758 (by decide) ?_
      refine W.widen (k := cells + 1) (n := slots + 6) (Nat.le_add_right _ _) (Nat.le_add_right _ _) ?_
      have e9 : (sv_n sz + 1) = (min (sz + 1) 4) := by have q9 := sv_min (sz := sz); have := hR.2.2.2.1; omega
      rw [e9] at hP hD
      exact ih _ _ _ ⟨((nx + 1) % 4), (min (sz + 1) 4), (updS S nx M), (up M v1 v2), TX, tl, pl, ft, n1, n2, wd, (up O 0 (M v1)), SP, (sv_keep SV M sz), NB, (ck1 (ck_set v1 v2)), plm, cm, h, lwR_push hR (sInv_set hs hok), hP, hD, hS, lv_sub hl [2, 3, 4, 5, 6] rfl⟩
  · skip
    have hcc : (1 ≤ ck1 (ck_set v1 v2) ∧ ck1 (ck_set v1 v2) ≤ 3) := by
      have q9 := hok
      revert q9
      unfold ck1 ck_set
      (repeat' split) <;> intro q9 <;> omega
    refine lv_aload_n hx hb dL_law_693 rfl (lv_at hl 1 rfl) ?_
    refine lv_aload_n hx hb dL_law_694 rfl (lv_at hl 0 rfl) ?_
    refine lv_iload hx hb dL_law_695 (lv_at hl 4 rfl) ?_
    refine z_iconst hx hb dL_law_697 ?_
    refine z_iadd hx hb dL_law_698 ?_
    refine z_sld hx hb hX hbl hbA hS (by omega) hL e1 dL_law_699 ?_
    refine lv_aload_n hx hb dL_law_700 rfl (lv_at hl 0 rfl) ?_
    refine lv_iload hx hb dL_law_701 (lv_at hl 4 rfl) ?_
    refine z_iconst hx hb dL_law_703 ?_
    refine z_iadd hx hb dL_law_704 ?_
    refine z_sld hx hb hX hbl hbA hS (by omega) hL e2 dL_law_705 ?_
    refine lv_aload_n hx hb dL_law_706 rfl (lv_at hl 3 rfl) ?_
    refine z_callSW (As := [.ref u, .int (zI v1), .int (zI v2), .ref o0]) (rest := []) ([] : va_W) (moW mb sz tl cd plm cm h ++ (jrW ct (mb 1) 94 M ++ (jrW ct (mb 2) 94 SP ++ (jrW ct (mb 3) 376 SV ++ (irW ct (mb 4) 150 TX ++ (irW ct (mb 5) 2 NB)))))) hx hb hml hown (fun w h => hts w (inL_124 w h)) hl hE hS hA hP hD (c_L_set_no l D ct ad u a r q b2 nx sz S M TX tl pl ft n1 n2 wd o0 O v1 v2 (by assumption) hst (by omega) (by omega) hok) gdL_124 rfl k_L_set ⟨Nat.le_of_ble_eq_true rfl, Nat.le_of_ble_eq_true rfl⟩ rfl (Nat.le_of_ble_eq_true rfl) hc1 dL_law_707 rfl (fun v w1 H locs hpost hP hD hS => ?_)
    obtain ⟨rfl, rfl⟩ := hpost
    have hP : va_P D vwCl (x8W u a r q ++ (svW ct r b2 nx sz S ++ (sobjW a ++ (gridW ct a M ++ (benchW ct a M ++ (logW ct a M ++ (txtW ct q TX tl pl ft wd n1 n2 ++ (jrW ct o0 1 O ++ (moW mb sz tl cd plm cm h ++ (jrW ct (mb 1) 94 M ++ (jrW ct (mb 2) 94 SP ++ (jrW ct (mb 3) 376 SV ++ (irW ct (mb 4) 150 TX ++ (irW ct (mb 5) 2 NB)))))))))))))) H := hP
    have hD : va_D (fun q : Nat => s.heap.size ≤ q) (x8W u a r q ++ (svW ct r b2 nx sz S ++ (sobjW a ++ (gridW ct a M ++ (benchW ct a M ++ (logW ct a M ++ (txtW ct q TX tl pl ft wd n1 n2 ++ (jrW ct o0 1 O ++ (moW mb sz tl cd plm cm h ++ (jrW ct (mb 1) 94 M ++ (jrW ct (mb 2) 94 SP ++ (jrW ct (mb 3) 376 SV ++ (irW ct (mb 4) 150 TX ++ (irW ct (mb 5) 2 NB)))))))))))))) := hD
    refine W.eq (g2 := F0 m 710 ls [.int (zI (ck1 (ck_set v1 v2)))]) rfl ?_
    refine lv_istore (lv' := [(5, .int (zI (ck1 (ck_set v1 v2)))), (0, .ref b), (1, .ref u), (2, .ref (mb 0)), (3, .ref o0), (4, .int (zI i))]) hx hb dL_law_710 hl (by decide) rfl (fun ls hl => ?_)
    refine lv_aload_n hx hb dL_law_712 rfl (lv_at hl 3 rfl) ?_
    refine lv_aload_n hx hb dL_law_713 rfl (lv_at hl 1 rfl) ?_
    refine lv_iload hx hb dL_law_714 (lv_at hl 5 rfl) ?_
    refine z_iconst hx hb dL_law_716 ?_
    refine z_iadd hx hb dL_law_717 ?_
    refine z_sld hx hb hX hbl hbA hS (by omega) hL e1 dL_law_718 ?_
    refine lv_aload_n hx hb dL_law_719 rfl (lv_at hl 1 rfl) ?_
    refine lv_iload hx hb dL_law_720 (lv_at hl 5 rfl) ?_
    refine z_iconst hx hb dL_law_722 ?_
    refine z_iadd hx hb dL_law_723 ?_
    refine z_sld hx hb hX hbl hbA hS (by omega) hL e2 dL_law_724 ?_
    refine z_callV (C := RX9) (q0 := 0) (ci := 7) (As := [.int (zI v1), .int (zI v2)]) (rest := []) (x8W u a r q ++ (svW ct r b2 nx sz S ++ (sobjW a ++ (gridW ct a M ++ (benchW ct a M ++ (logW ct a M ++ (txtW ct q TX tl pl ft wd n1 n2 ++ (jrW ct o0 1 O)))))))) ([] : va_W) hx hb hml hown (fun w h => hts w (inL_126 w h)) hl hE hS hA (zr0 (x8W u a r q ++ (svW ct r b2 nx sz S ++ (sobjW a ++ (gridW ct a M ++ (benchW ct a M ++ (logW ct a M ++ (txtW ct q TX tl pl ft wd n1 n2 ++ (jrW ct o0 1 O)))))))) hP) (zr0D (x8W u a r q ++ (svW ct r b2 nx sz S ++ (sobjW a ++ (gridW ct a M ++ (benchW ct a M ++ (logW ct a M ++ (txtW ct q TX tl pl ft wd n1 n2 ++ (jrW ct o0 1 O)))))))) hD) (c_X9_set_no l D ct ad mb M SP SV TX NB sz tl cd plm cm h v1 v2 (by omega) (by omega) (fun z => hok (why_s.mp z))) gdL_126 rfl rfl k_X9_set ⟨Nat.le_of_ble_eq_true rfl, Nat.le_of_ble_eq_true rfl⟩ rfl rfl rfl rfl (Nat.le_of_ble_eq_true rfl) hc1 dL_law_725 rfl (fun v w1 H locs hpost hP hD hS => ?_)
    obtain ⟨rfl, rfl⟩ := hpost
    have hP := zr0' hP
    have hD := zr0D' hD
    have hP : va_P D vwCl (x8W u a r q ++ (svW ct r b2 nx sz S ++ (sobjW a ++ (gridW ct a M ++ (benchW ct a M ++ (logW ct a M ++ (txtW ct q TX tl pl ft wd n1 n2 ++ (jrW ct o0 1 O ++ (moW mb sz tl (ck1 (ck_set v1 v2)) plm cm h ++ (jrW ct (mb 1) 94 M ++ (jrW ct (mb 2) 94 SP ++ (jrW ct (mb 3) 376 SV ++ (irW ct (mb 4) 150 TX ++ (irW ct (mb 5) 2 NB)))))))))))))) H := hP
    have hD : va_D (fun q : Nat => s.heap.size ≤ q) (x8W u a r q ++ (svW ct r b2 nx sz S ++ (sobjW a ++ (gridW ct a M ++ (benchW ct a M ++ (logW ct a M ++ (txtW ct q TX tl pl ft wd n1 n2 ++ (jrW ct o0 1 O ++ (moW mb sz tl (ck1 (ck_set v1 v2)) plm cm h ++ (jrW ct (mb 1) 94 M ++ (jrW ct (mb 2) 94 SP ++ (jrW ct (mb 3) 376 SV ++ (irW ct (mb 4) 150 TX ++ (irW ct (mb 5) 2 NB)))))))))))))) := hD
    refine W.eq (g2 := F0 m 728 ls [.int (zI 0)]) rfl ?_
    refine lv_istore (lv' := [(6, .int (zI 0)), (5, .int (zI (ck1 (ck_set v1 v2)))), (0, .ref b), (1, .ref u), (2, .ref (mb 0)), (3, .ref o0), (4, .int (zI i))]) hx hb dL_law_728 hl (by decide) rfl (fun ls hl => ?_)
    refine lv_aload_n hx hb dL_law_730 rfl (lv_at hl 4 rfl) ?_
    refine z_callV (C := RX9) (q0 := 0) (ci := 7) (As := []) (rest := []) (x8W u a r q ++ (svW ct r b2 nx sz S ++ (sobjW a ++ (gridW ct a M ++ (benchW ct a M ++ (logW ct a M ++ (txtW ct q TX tl pl ft wd n1 n2 ++ (jrW ct o0 1 O)))))))) ([] : va_W) hx hb hml hown (fun w h => hts w (inL_94 w h)) hl hE hS hA (zr0 (x8W u a r q ++ (svW ct r b2 nx sz S ++ (sobjW a ++ (gridW ct a M ++ (benchW ct a M ++ (logW ct a M ++ (txtW ct q TX tl pl ft wd n1 n2 ++ (jrW ct o0 1 O)))))))) hP) (zr0D (x8W u a r q ++ (svW ct r b2 nx sz S ++ (sobjW a ++ (gridW ct a M ++ (benchW ct a M ++ (logW ct a M ++ (txtW ct q TX tl pl ft wd n1 n2 ++ (jrW ct o0 1 O)))))))) hD) (c_X9_thrown l D ct ad mb M SP SV TX NB sz tl (ck1 (ck_set v1 v2)) plm cm h) gdL_94 rfl rfl k_X9_thrown ⟨Nat.le_of_ble_eq_true rfl, Nat.le_of_ble_eq_true rfl⟩ rfl rfl rfl rfl (Nat.le_of_ble_eq_true rfl) hc1 dL_law_731 rfl (fun v w1 H locs hpost hP hD hS => ?_)
    obtain ⟨rfl, rfl⟩ := hpost
    have hP := zr0' hP
    have hD := zr0D' hD
    have hP : va_P D vwCl (x8W u a r q ++ (svW ct r b2 nx sz S ++ (sobjW a ++ (gridW ct a M ++ (benchW ct a M ++ (logW ct a M ++ (txtW ct q TX tl pl ft wd n1 n2 ++ (jrW ct o0 1 O ++ (moW mb sz tl (ck1 (ck_set v1 v2)) plm cm h ++ (jrW ct (mb 1) 94 M ++ (jrW ct (mb 2) 94 SP ++ (jrW ct (mb 3) 376 SV ++ (irW ct (mb 4) 150 TX ++ (irW ct (mb 5) 2 NB)))))))))))))) H := hP
    have hD : va_D (fun q : Nat => s.heap.size ≤ q) (x8W u a r q ++ (svW ct r b2 nx sz S ++ (sobjW a ++ (gridW ct a M ++ (benchW ct a M ++ (logW ct a M ++ (txtW ct q TX tl pl ft wd n1 n2 ++ (jrW ct o0 1 O ++ (moW mb sz tl (ck1 (ck_set v1 v2)) plm cm h ++ (jrW ct (mb 1) 94 M ++ (jrW ct (mb 2) 94 SP ++ (jrW ct (mb 3) 376 SV ++ (irW ct (mb 4) 150 TX ++ (irW ct (mb 5) 2 NB)))))))))))))) := hD
    refine W.eq (g2 := F0 m 734 ls [.int (zI (ck1 (ck_set v1 v2)))]) rfl ?_
    refine lv_iload hx hb dL_law_734 (lv_at hl 1 rfl) ?_
    refine z_icmp_eqS (tgt := 741) hx hb dL_law_736 (by decide) ?_
    refine lv_iload hx hb dL_law_741 (lv_at hl 1 rfl) ?_
    refine z_if_ne (tgt := 758) hx hb dL_law_743 (by decide) (by omega) (fun hc_743 => ?_) (fun hc_743 => ?_)
    · have hc_743 := hc_743
      refine lv_goto (tgt := 1590) hx hb dL_law_758 (by decide) ?_
      exact ih _ _ _ ⟨nx, sz, S, M, TX, tl, pl, ft, n1, n2, wd, O, SP, SV, NB, (ck1 (ck_set v1 v2)), plm, cm, h, hR, hP, hD, hS, lv_sub hl [2, 3, 4, 5, 6] rfl⟩
    · have hc_743 := hc_743
      exfalso; first | omega | (revert hc_743; unfold ck1; split <;> omega)
set_option maxHeartbeats 4000000 in
set_option maxRecDepth 100000 in
theorem law_c10 (p : Program) (l : Launch) (e : Env) (s : State) (m : MethodId) (below : List Frame) (meth : Method) (c : Code) (D : va_G) (ct ad : Nat → Nat) (b L : Nat) (xs : Nat → Int32) (u : Nat) (a r q : Nat → Nat) (b2 : Nat → Nat → Nat) (o0 : Nat) (mb : Nat → Nat) (hC : lwC p l s m meth c D ct ad b L xs) (i : Int) (hi : 0 ≤ i ∧ i + 4 ≤ (L : Int)) (cells slots : Nat) (hcap : cells + 1 ≤ 601024 ∧ slots + 6 ≤ 7293034) (ih : ∀ (H : Heap) (locs : List Loc) (ls : Array Slot), lwI s D ct b u a r q b2 o0 mb i H locs ls → W p l e room_1 s m #[Value.ref b] below meth c H locs (cells + 1) (slots + 6) (lw_Z below #[Value.ref b] s) (F0 m 1590 ls [])) (H : Heap) (locs : List Loc) (ls : Array Slot) (hI0 : lwI s D ct b u a r q b2 o0 mb i H locs ls) : W p l e room_1 s m #[Value.ref b] below meth c H locs cells slots (lw_Z below #[Value.ref b] s) (F0 m 761 ls []) := by
  obtain ⟨hx, hb, hr, hml, hown, hts, hX, hbl, hlocks, hE, hst, hL⟩ := hC
  obtain ⟨nx, sz, S, M, TX, tl, pl, ft, n1, n2, wd, O, SP, SV, NB, cd, plm, cm, h, hR, hP, hD, hS, hl⟩ := hI0
  have hA : ∀ q : Nat, s.heap.size ≤ q → (fun q : Nat => s.heap.size ≤ q) q := fun _ h => h
  have hbA : ¬ (fun q : Nat => s.heap.size ≤ q) b := Nat.not_le.mpr hbl
  have hK := hE.1
  have hc0 : cells ≤ room_1.cells ∧ slots ≤ room_1.slots := by show cells ≤ 601024 ∧ slots ≤ 7293034; omega
  have hc1 : cells + 1 ≤ room_1.cells ∧ slots + 6 ≤ room_1.slots := hcap
  have hP : va_P D vwCl (x8W u a r q ++ (svW ct r b2 nx sz S ++ (sobjW a ++ (gridW ct a M ++ (benchW ct a M ++ (logW ct a M ++ (txtW ct q TX tl pl ft wd n1 n2 ++ (jrW ct o0 1 O ++ (moW mb sz tl cd plm cm h ++ (jrW ct (mb 1) 94 M ++ (jrW ct (mb 2) 94 SP ++ (jrW ct (mb 3) 376 SV ++ (irW ct (mb 4) 150 TX ++ (irW ct (mb 5) 2 NB)))))))))))))) H := hP
  have hD : va_D (fun q : Nat => s.heap.size ≤ q) (x8W u a r q ++ (svW ct r b2 nx sz S ++ (sobjW a ++ (gridW ct a M ++ (benchW ct a M ++ (logW ct a M ++ (txtW ct q TX tl pl ft wd n1 n2 ++ (jrW ct o0 1 O ++ (moW mb sz tl cd plm cm h ++ (jrW ct (mb 1) 94 M ++ (jrW ct (mb 2) 94 SP ++ (jrW ct (mb 3) 376 SV ++ (irW ct (mb 4) 150 TX ++ (irW ct (mb 5) 2 NB)))))))))))))) := hD
  have hs := hR.1
  have ht := hR.2.1
  have hI := hs.1
  have hB := hs.2.1
  have ha := hs.2.2
  have i3 := hI.1
  have i4 := hI.2.1
  have j0 := hB.1
  have j1 := hB.2.1
  have j2 := hB.2.2.1
  have j4 := hB.2.2.2.2
  have t1 := ht.1
  have hn := hR.2.2.1
  have hsz := hR.2.2.2.1
  have hsc := hR.2.2.2.1
  obtain ⟨v1, e1, r1⟩ := zI_any (xs (i + 1).toNat)
  by_cases hok : ck_hours M v1 = 0
  · skip
    have hv : -2147483648 ≤ sp_err (sp_pass M v1.toNat) ∧ sp_err (sp_pass M v1.toNat) ≤ 2147483647 := sp_errB
    refine lv_aload_n hx hb dL_law_761 rfl (lv_at hl 1 rfl) ?_
    refine lv_aload_n hx hb dL_law_762 rfl (lv_at hl 0 rfl) ?_
    refine lv_iload hx hb dL_law_763 (lv_at hl 4 rfl) ?_
    refine z_iconst hx hb dL_law_765 ?_
    refine z_iadd hx hb dL_law_766 ?_
    refine z_sld hx hb hX hbl hbA hS (by omega) hL e1 dL_law_767 ?_
    refine lv_aload_n hx hb dL_law_768 rfl (lv_at hl 3 rfl) ?_
    refine z_callSW (As := [.ref u, .int (zI v1), .ref o0]) (rest := []) ([] : va_W) (moW mb sz tl cd plm cm h ++ (jrW ct (mb 1) 94 M ++ (jrW ct (mb 2) 94 SP ++ (jrW ct (mb 3) 376 SV ++ (irW ct (mb 4) 150 TX ++ (irW ct (mb 5) 2 NB)))))) hx hb hml hown (fun w h => hts w (inL_127 w h)) hl hE hS hA hP hD (c_L_pass_ok l D ct ad u a r q b2 nx sz S M TX tl pl ft n1 n2 wd o0 O v1 (by assumption) (by omega) (by omega) (by omega) hok hv) gdL_127 rfl k_L_pass ⟨Nat.le_of_ble_eq_true rfl, Nat.le_of_ble_eq_true rfl⟩ rfl (Nat.le_of_ble_eq_true rfl) hc0 dL_law_769 rfl (fun v w1 H locs hpost hP hD hS => ?_)
    obtain ⟨rfl, rfl⟩ := hpost
    have hP : va_P D vwCl (x8W u a r q ++ (svW ct r b2 ((nx + 1) % 4) (min (sz + 1) 4) (updS S nx M) ++ (sobjW a ++ (gridW ct a (sp_pass M v1.toNat) ++ (benchW ct a (sp_pass M v1.toNat) ++ (logW ct a (sp_pass M v1.toNat) ++ (txtW ct q TX tl pl ft wd n1 n2 ++ (jrW ct o0 1 (up O 0 (sp_err (sp_pass M v1.toNat))) ++ (moW mb sz tl cd plm cm h ++ (jrW ct (mb 1) 94 M ++ (jrW ct (mb 2) 94 SP ++ (jrW ct (mb 3) 376 SV ++ (irW ct (mb 4) 150 TX ++ (irW ct (mb 5) 2 NB)))))))))))))) H := hP
    have hD : va_D (fun q : Nat => s.heap.size ≤ q) (x8W u a r q ++ (svW ct r b2 ((nx + 1) % 4) (min (sz + 1) 4) (updS S nx M) ++ (sobjW a ++ (gridW ct a (sp_pass M v1.toNat) ++ (benchW ct a (sp_pass M v1.toNat) ++ (logW ct a (sp_pass M v1.toNat) ++ (txtW ct q TX tl pl ft wd n1 n2 ++ (jrW ct o0 1 (up O 0 (sp_err (sp_pass M v1.toNat))) ++ (moW mb sz tl cd plm cm h ++ (jrW ct (mb 1) 94 M ++ (jrW ct (mb 2) 94 SP ++ (jrW ct (mb 3) 376 SV ++ (irW ct (mb 4) 150 TX ++ (irW ct (mb 5) 2 NB)))))))))))))) := hD
    refine W.eq (g2 := F0 m 772 ls [.int (zI 0)]) rfl ?_
    refine lv_istore (lv' := [(5, .int (zI 0)), (0, .ref b), (1, .ref u), (2, .ref (mb 0)), (3, .ref o0), (4, .int (zI i))]) hx hb dL_law_772 hl (by decide) rfl (fun ls hl => ?_)
    refine lv_aload_n hx hb dL_law_774 rfl (lv_at hl 3 rfl) ?_
    refine lv_aload_n hx hb dL_law_775 rfl (lv_at hl 1 rfl) ?_
    refine lv_iload hx hb dL_law_776 (lv_at hl 5 rfl) ?_
    refine z_iconst hx hb dL_law_778 ?_
    refine z_iadd hx hb dL_law_779 ?_
    refine z_sld hx hb hX hbl hbA hS (by omega) hL e1 dL_law_780 ?_
    refine z_callV (C := RX9) (q0 := 0) (ci := 7) (As := [.int (zI v1)]) (rest := []) (x8W u a r q ++ (svW ct r b2 ((nx + 1) % 4) (min (sz + 1) 4) (updS S nx M) ++ (sobjW a ++ (gridW ct a (sp_pass M v1.toNat) ++ (benchW ct a (sp_pass M v1.toNat) ++ (logW ct a (sp_pass M v1.toNat) ++ (txtW ct q TX tl pl ft wd n1 n2 ++ (jrW ct o0 1 (up O 0 (sp_err (sp_pass M v1.toNat))))))))))) ([] : va_W) hx hb hml hown (fun w h => hts w (inL_129 w h)) hl hE hS hA (zr0 (x8W u a r q ++ (svW ct r b2 ((nx + 1) % 4) (min (sz + 1) 4) (updS S nx M) ++ (sobjW a ++ (gridW ct a (sp_pass M v1.toNat) ++ (benchW ct a (sp_pass M v1.toNat) ++ (logW ct a (sp_pass M v1.toNat) ++ (txtW ct q TX tl pl ft wd n1 n2 ++ (jrW ct o0 1 (up O 0 (sp_err (sp_pass M v1.toNat))))))))))) hP) (zr0D (x8W u a r q ++ (svW ct r b2 ((nx + 1) % 4) (min (sz + 1) 4) (updS S nx M) ++ (sobjW a ++ (gridW ct a (sp_pass M v1.toNat) ++ (benchW ct a (sp_pass M v1.toNat) ++ (logW ct a (sp_pass M v1.toNat) ++ (txtW ct q TX tl pl ft wd n1 n2 ++ (jrW ct o0 1 (up O 0 (sp_err (sp_pass M v1.toNat))))))))))) hD) (c_X9_pass_ok l D ct ad mb M SP SV TX NB sz tl cd plm cm h v1 (by assumption) (by assumption) (by omega) (by omega) (why_h.mpr hok)) gdL_129 rfl rfl k_X9_pass ⟨Nat.le_of_ble_eq_true rfl, Nat.le_of_ble_eq_true rfl⟩ rfl rfl rfl rfl (Nat.le_of_ble_eq_true rfl) hc0 dL_law_781 rfl (fun v w1 H locs hpost hP hD hS => ?_)
    obtain ⟨rfl, rfl⟩ := hpost
    have hP := zr0' hP
    have hD := zr0D' hD
    have hP : va_P D vwCl (x8W u a r q ++ (svW ct r b2 ((nx + 1) % 4) (min (sz + 1) 4) (updS S nx M) ++ (sobjW a ++ (gridW ct a (sp_pass M v1.toNat) ++ (benchW ct a (sp_pass M v1.toNat) ++ (logW ct a (sp_pass M v1.toNat) ++ (txtW ct q TX tl pl ft wd n1 n2 ++ (jrW ct o0 1 (up O 0 (sp_err (sp_pass M v1.toNat))) ++ (moW mb (sv_n sz + 1) tl (ck1 (ck_hours M v1)) plm cm h ++ (jrW ct (mb 1) 94 (sp_pass M v1.toNat) ++ (jrW ct (mb 2) 94 SP ++ (jrW ct (mb 3) 376 (sv_keep SV M sz) ++ (irW ct (mb 4) 150 TX ++ (irW ct (mb 5) 2 NB)))))))))))))) H := hP
    have hD : va_D (fun q : Nat => s.heap.size ≤ q) (x8W u a r q ++ (svW ct r b2 ((nx + 1) % 4) (min (sz + 1) 4) (updS S nx M) ++ (sobjW a ++ (gridW ct a (sp_pass M v1.toNat) ++ (benchW ct a (sp_pass M v1.toNat) ++ (logW ct a (sp_pass M v1.toNat) ++ (txtW ct q TX tl pl ft wd n1 n2 ++ (jrW ct o0 1 (up O 0 (sp_err (sp_pass M v1.toNat))) ++ (moW mb (sv_n sz + 1) tl (ck1 (ck_hours M v1)) plm cm h ++ (jrW ct (mb 1) 94 (sp_pass M v1.toNat) ++ (jrW ct (mb 2) 94 SP ++ (jrW ct (mb 3) 376 (sv_keep SV M sz) ++ (irW ct (mb 4) 150 TX ++ (irW ct (mb 5) 2 NB)))))))))))))) := hD
    refine W.eq (g2 := F0 m 784 ls [.int (zI (sp_err (sp_pass M v1.toNat)))]) rfl ?_
    refine lv_istore (lv' := [(6, .int (zI (sp_err (sp_pass M v1.toNat)))), (5, .int (zI 0)), (0, .ref b), (1, .ref u), (2, .ref (mb 0)), (3, .ref o0), (4, .int (zI i))]) hx hb dL_law_784 hl (by decide) rfl (fun ls hl => ?_)
    refine lv_aload_n hx hb dL_law_786 rfl (lv_at hl 4 rfl) ?_
    refine z_callV (C := RX9) (q0 := 0) (ci := 7) (As := []) (rest := []) (x8W u a r q ++ (svW ct r b2 ((nx + 1) % 4) (min (sz + 1) 4) (updS S nx M) ++ (sobjW a ++ (gridW ct a (sp_pass M v1.toNat) ++ (benchW ct a (sp_pass M v1.toNat) ++ (logW ct a (sp_pass M v1.toNat) ++ (txtW ct q TX tl pl ft wd n1 n2 ++ (jrW ct o0 1 (up O 0 (sp_err (sp_pass M v1.toNat))))))))))) ([] : va_W) hx hb hml hown (fun w h => hts w (inL_94 w h)) hl hE hS hA (zr0 (x8W u a r q ++ (svW ct r b2 ((nx + 1) % 4) (min (sz + 1) 4) (updS S nx M) ++ (sobjW a ++ (gridW ct a (sp_pass M v1.toNat) ++ (benchW ct a (sp_pass M v1.toNat) ++ (logW ct a (sp_pass M v1.toNat) ++ (txtW ct q TX tl pl ft wd n1 n2 ++ (jrW ct o0 1 (up O 0 (sp_err (sp_pass M v1.toNat))))))))))) hP) (zr0D (x8W u a r q ++ (svW ct r b2 ((nx + 1) % 4) (min (sz + 1) 4) (updS S nx M) ++ (sobjW a ++ (gridW ct a (sp_pass M v1.toNat) ++ (benchW ct a (sp_pass M v1.toNat) ++ (logW ct a (sp_pass M v1.toNat) ++ (txtW ct q TX tl pl ft wd n1 n2 ++ (jrW ct o0 1 (up O 0 (sp_err (sp_pass M v1.toNat))))))))))) hD) (c_X9_thrown l D ct ad mb (sp_pass M v1.toNat) SP (sv_keep SV M sz) TX NB (sv_n sz + 1) tl (ck1 (ck_hours M v1)) plm cm h) gdL_94 rfl rfl k_X9_thrown ⟨Nat.le_of_ble_eq_true rfl, Nat.le_of_ble_eq_true rfl⟩ rfl rfl rfl rfl (Nat.le_of_ble_eq_true rfl) hc0 dL_law_787 rfl (fun v w1 H locs hpost hP hD hS => ?_)
    obtain ⟨rfl, rfl⟩ := hpost
    have hP := zr0' hP
    have hD := zr0D' hD
    have hP : va_P D vwCl (x8W u a r q ++ (svW ct r b2 ((nx + 1) % 4) (min (sz + 1) 4) (updS S nx M) ++ (sobjW a ++ (gridW ct a (sp_pass M v1.toNat) ++ (benchW ct a (sp_pass M v1.toNat) ++ (logW ct a (sp_pass M v1.toNat) ++ (txtW ct q TX tl pl ft wd n1 n2 ++ (jrW ct o0 1 (up O 0 (sp_err (sp_pass M v1.toNat))) ++ (moW mb (sv_n sz + 1) tl (ck1 (ck_hours M v1)) plm cm h ++ (jrW ct (mb 1) 94 (sp_pass M v1.toNat) ++ (jrW ct (mb 2) 94 SP ++ (jrW ct (mb 3) 376 (sv_keep SV M sz) ++ (irW ct (mb 4) 150 TX ++ (irW ct (mb 5) 2 NB)))))))))))))) H := hP
    have hD : va_D (fun q : Nat => s.heap.size ≤ q) (x8W u a r q ++ (svW ct r b2 ((nx + 1) % 4) (min (sz + 1) 4) (updS S nx M) ++ (sobjW a ++ (gridW ct a (sp_pass M v1.toNat) ++ (benchW ct a (sp_pass M v1.toNat) ++ (logW ct a (sp_pass M v1.toNat) ++ (txtW ct q TX tl pl ft wd n1 n2 ++ (jrW ct o0 1 (up O 0 (sp_err (sp_pass M v1.toNat))) ++ (moW mb (sv_n sz + 1) tl (ck1 (ck_hours M v1)) plm cm h ++ (jrW ct (mb 1) 94 (sp_pass M v1.toNat) ++ (jrW ct (mb 2) 94 SP ++ (jrW ct (mb 3) 376 (sv_keep SV M sz) ++ (irW ct (mb 4) 150 TX ++ (irW ct (mb 5) 2 NB)))))))))))))) := hD
    refine W.eq (g2 := F0 m 790 ls [.int (zI (ck1 (ck_hours M v1)))]) rfl ?_
    refine lv_iload hx hb dL_law_790 (lv_at hl 1 rfl) ?_
    refine z_canI (show 0 = ck1 (ck_hours M v1) from (why_h.mpr hok).symm) ?_
    refine z_icmp_eqS (tgt := 797) hx hb dL_law_792 (by decide) ?_
    refine lv_iload hx hb dL_law_797 (lv_at hl 1 rfl) ?_
    refine z_if_ne (tgt := 814) hx hb dL_law_799 (by decide) (by omega) (fun hc_799 => ?_) (fun hc_799 => ?_)
    · have hc_799 := hc_799
      exfalso; first | omega | (revert hc_799; unfold ck1; split <;> omega)
    · have hc_799 := hc_799
      refine lv_aload_n hx hb dL_law_802 rfl (lv_at hl 5 rfl) ?_
      refine z_iconst hx hb dL_law_803 ?_
      refine z_lald (g := (up O 0 (sp_err (sp_pass M v1.toNat)))) (v := sp_err (sp_pass M v1.toNat)) hx hb hK hP 60 rfl (by decide) (by omega) (show (up O 0 (sp_err (sp_pass M v1.toNat))) 0 = sp_err (sp_pass M v1.toNat) from by rw [up_s]) dL_law_804 ?_
      refine lv_iload hx hb dL_law_805 (lv_at hl 0 rfl) ?_
      refine z_i2l hx hb dL_law_807 (by omega) ?_
      refine z_lcmp_eqS (tgt := 814) hx hb dL_law_808 dL_law_809 (by decide) ?_
      refine lv_goto (tgt := 1590) hx hb dL_law_814 (by decide) ?_
      refine W.widen (k := cells + 1) (n := slots + 6) (Nat.le_add_right _ _) (Nat.le_add_right _ _) ?_
      have e9 : (sv_n sz + 1) = (min (sz + 1) 4) := by have q9 := sv_min (sz := sz); have := hR.2.2.2.1; omega
      rw [e9] at hP hD
      exact ih _ _ _ ⟨((nx + 1) % 4), (min (sz + 1) 4), (updS S nx M), (sp_pass M v1.toNat), TX, tl, pl, ft, n1, n2, wd, (up O 0 (sp_err (sp_pass M v1.toNat))), SP, (sv_keep SV M sz), NB, (ck1 (ck_hours M v1)), plm, cm, h, lwR_push hR (sInv_pass hs hok), hP, hD, hS, lv_sub hl [2, 3, 4, 5, 6] rfl⟩
  · skip
    have hcc : (1 ≤ ck1 (ck_hours M v1) ∧ ck1 (ck_hours M v1) ≤ 3) := by
      have q9 := hok
      revert q9
      unfold ck1 ck_hours
      (repeat' split) <;> intro q9 <;> omega
    refine lv_aload_n hx hb dL_law_761 rfl (lv_at hl 1 rfl) ?_
    refine lv_aload_n hx hb dL_law_762 rfl (lv_at hl 0 rfl) ?_
    refine lv_iload hx hb dL_law_763 (lv_at hl 4 rfl) ?_
    refine z_iconst hx hb dL_law_765 ?_
    refine z_iadd hx hb dL_law_766 ?_
    refine z_sld hx hb hX hbl hbA hS (by omega) hL e1 dL_law_767 ?_
    refine lv_aload_n hx hb dL_law_768 rfl (lv_at hl 3 rfl) ?_
    refine z_callSW (As := [.ref u, .int (zI v1), .ref o0]) (rest := []) ([] : va_W) (moW mb sz tl cd plm cm h ++ (jrW ct (mb 1) 94 M ++ (jrW ct (mb 2) 94 SP ++ (jrW ct (mb 3) 376 SV ++ (irW ct (mb 4) 150 TX ++ (irW ct (mb 5) 2 NB)))))) hx hb hml hown (fun w h => hts w (inL_127 w h)) hl hE hS hA hP hD (c_L_pass_no l D ct ad u a r q b2 nx sz S M TX tl pl ft n1 n2 wd o0 O v1 (by assumption) hst (by omega) hok) gdL_127 rfl k_L_pass ⟨Nat.le_of_ble_eq_true rfl, Nat.le_of_ble_eq_true rfl⟩ rfl (Nat.le_of_ble_eq_true rfl) hc1 dL_law_769 rfl (fun v w1 H locs hpost hP hD hS => ?_)
    obtain ⟨rfl, rfl⟩ := hpost
    have hP : va_P D vwCl (x8W u a r q ++ (svW ct r b2 nx sz S ++ (sobjW a ++ (gridW ct a M ++ (benchW ct a M ++ (logW ct a M ++ (txtW ct q TX tl pl ft wd n1 n2 ++ (jrW ct o0 1 O ++ (moW mb sz tl cd plm cm h ++ (jrW ct (mb 1) 94 M ++ (jrW ct (mb 2) 94 SP ++ (jrW ct (mb 3) 376 SV ++ (irW ct (mb 4) 150 TX ++ (irW ct (mb 5) 2 NB)))))))))))))) H := hP
    have hD : va_D (fun q : Nat => s.heap.size ≤ q) (x8W u a r q ++ (svW ct r b2 nx sz S ++ (sobjW a ++ (gridW ct a M ++ (benchW ct a M ++ (logW ct a M ++ (txtW ct q TX tl pl ft wd n1 n2 ++ (jrW ct o0 1 O ++ (moW mb sz tl cd plm cm h ++ (jrW ct (mb 1) 94 M ++ (jrW ct (mb 2) 94 SP ++ (jrW ct (mb 3) 376 SV ++ (irW ct (mb 4) 150 TX ++ (irW ct (mb 5) 2 NB)))))))))))))) := hD
    refine W.eq (g2 := F0 m 772 ls [.int (zI (ck1 (ck_hours M v1)))]) rfl ?_
    refine lv_istore (lv' := [(5, .int (zI (ck1 (ck_hours M v1)))), (0, .ref b), (1, .ref u), (2, .ref (mb 0)), (3, .ref o0), (4, .int (zI i))]) hx hb dL_law_772 hl (by decide) rfl (fun ls hl => ?_)
    refine lv_aload_n hx hb dL_law_774 rfl (lv_at hl 3 rfl) ?_
    refine lv_aload_n hx hb dL_law_775 rfl (lv_at hl 1 rfl) ?_
    refine lv_iload hx hb dL_law_776 (lv_at hl 5 rfl) ?_
    refine z_iconst hx hb dL_law_778 ?_
    refine z_iadd hx hb dL_law_779 ?_
    refine z_sld hx hb hX hbl hbA hS (by omega) hL e1 dL_law_780 ?_
    refine z_callV (C := RX9) (q0 := 0) (ci := 7) (As := [.int (zI v1)]) (rest := []) (x8W u a r q ++ (svW ct r b2 nx sz S ++ (sobjW a ++ (gridW ct a M ++ (benchW ct a M ++ (logW ct a M ++ (txtW ct q TX tl pl ft wd n1 n2 ++ (jrW ct o0 1 O)))))))) ([] : va_W) hx hb hml hown (fun w h => hts w (inL_129 w h)) hl hE hS hA (zr0 (x8W u a r q ++ (svW ct r b2 nx sz S ++ (sobjW a ++ (gridW ct a M ++ (benchW ct a M ++ (logW ct a M ++ (txtW ct q TX tl pl ft wd n1 n2 ++ (jrW ct o0 1 O)))))))) hP) (zr0D (x8W u a r q ++ (svW ct r b2 nx sz S ++ (sobjW a ++ (gridW ct a M ++ (benchW ct a M ++ (logW ct a M ++ (txtW ct q TX tl pl ft wd n1 n2 ++ (jrW ct o0 1 O)))))))) hD) (c_X9_pass_no l D ct ad mb M SP SV TX NB sz tl cd plm cm h v1 (by assumption) (by assumption) (by omega) (fun z => hok (why_h.mp z))) gdL_129 rfl rfl k_X9_pass ⟨Nat.le_of_ble_eq_true rfl, Nat.le_of_ble_eq_true rfl⟩ rfl rfl rfl rfl (Nat.le_of_ble_eq_true rfl) hc1 dL_law_781 rfl (fun v w1 H locs hpost hP hD hS => ?_)
    obtain ⟨rfl, rfl⟩ := hpost
    have hP := zr0' hP
    have hD := zr0D' hD
    have hP : va_P D vwCl (x8W u a r q ++ (svW ct r b2 nx sz S ++ (sobjW a ++ (gridW ct a M ++ (benchW ct a M ++ (logW ct a M ++ (txtW ct q TX tl pl ft wd n1 n2 ++ (jrW ct o0 1 O ++ (moW mb sz tl (ck1 (ck_hours M v1)) plm cm h ++ (jrW ct (mb 1) 94 M ++ (jrW ct (mb 2) 94 SP ++ (jrW ct (mb 3) 376 SV ++ (irW ct (mb 4) 150 TX ++ (irW ct (mb 5) 2 NB)))))))))))))) H := hP
    have hD : va_D (fun q : Nat => s.heap.size ≤ q) (x8W u a r q ++ (svW ct r b2 nx sz S ++ (sobjW a ++ (gridW ct a M ++ (benchW ct a M ++ (logW ct a M ++ (txtW ct q TX tl pl ft wd n1 n2 ++ (jrW ct o0 1 O ++ (moW mb sz tl (ck1 (ck_hours M v1)) plm cm h ++ (jrW ct (mb 1) 94 M ++ (jrW ct (mb 2) 94 SP ++ (jrW ct (mb 3) 376 SV ++ (irW ct (mb 4) 150 TX ++ (irW ct (mb 5) 2 NB)))))))))))))) := hD
    refine W.eq (g2 := F0 m 784 ls [.int (zI 0)]) rfl ?_
    refine lv_istore (lv' := [(6, .int (zI 0)), (5, .int (zI (ck1 (ck_hours M v1)))), (0, .ref b), (1, .ref u), (2, .ref (mb 0)), (3, .ref o0), (4, .int (zI i))]) hx hb dL_law_784 hl (by decide) rfl (fun ls hl => ?_)
    refine lv_aload_n hx hb dL_law_786 rfl (lv_at hl 4 rfl) ?_
    refine z_callV (C := RX9) (q0 := 0) (ci := 7) (As := []) (rest := []) (x8W u a r q ++ (svW ct r b2 nx sz S ++ (sobjW a ++ (gridW ct a M ++ (benchW ct a M ++ (logW ct a M ++ (txtW ct q TX tl pl ft wd n1 n2 ++ (jrW ct o0 1 O)))))))) ([] : va_W) hx hb hml hown (fun w h => hts w (inL_94 w h)) hl hE hS hA (zr0 (x8W u a r q ++ (svW ct r b2 nx sz S ++ (sobjW a ++ (gridW ct a M ++ (benchW ct a M ++ (logW ct a M ++ (txtW ct q TX tl pl ft wd n1 n2 ++ (jrW ct o0 1 O)))))))) hP) (zr0D (x8W u a r q ++ (svW ct r b2 nx sz S ++ (sobjW a ++ (gridW ct a M ++ (benchW ct a M ++ (logW ct a M ++ (txtW ct q TX tl pl ft wd n1 n2 ++ (jrW ct o0 1 O)))))))) hD) (c_X9_thrown l D ct ad mb M SP SV TX NB sz tl (ck1 (ck_hours M v1)) plm cm h) gdL_94 rfl rfl k_X9_thrown ⟨Nat.le_of_ble_eq_true rfl, Nat.le_of_ble_eq_true rfl⟩ rfl rfl rfl rfl (Nat.le_of_ble_eq_true rfl) hc1 dL_law_787 rfl (fun v w1 H locs hpost hP hD hS => ?_)
    obtain ⟨rfl, rfl⟩ := hpost
    have hP := zr0' hP
    have hD := zr0D' hD
    have hP : va_P D vwCl (x8W u a r q ++ (svW ct r b2 nx sz S ++ (sobjW a ++ (gridW ct a M ++ (benchW ct a M ++ (logW ct a M ++ (txtW ct q TX tl pl ft wd n1 n2 ++ (jrW ct o0 1 O ++ (moW mb sz tl (ck1 (ck_hours M v1)) plm cm h ++ (jrW ct (mb 1) 94 M ++ (jrW ct (mb 2) 94 SP ++ (jrW ct (mb 3) 376 SV ++ (irW ct (mb 4) 150 TX ++ (irW ct (mb 5) 2 NB)))))))))))))) H := hP
    have hD : va_D (fun q : Nat => s.heap.size ≤ q) (x8W u a r q ++ (svW ct r b2 nx sz S ++ (sobjW a ++ (gridW ct a M ++ (benchW ct a M ++ (logW ct a M ++ (txtW ct q TX tl pl ft wd n1 n2 ++ (jrW ct o0 1 O ++ (moW mb sz tl (ck1 (ck_hours M v1)) plm cm h ++ (jrW ct (mb 1) 94 M ++ (jrW ct (mb 2) 94 SP ++ (jrW ct (mb 3) 376 SV ++ (irW ct (mb 4) 150 TX ++ (irW ct (mb 5) 2 NB)))))))))))))) := hD
    refine W.eq (g2 := F0 m 790 ls [.int (zI (ck1 (ck_hours M v1)))]) rfl ?_
    refine lv_iload hx hb dL_law_790 (lv_at hl 1 rfl) ?_
    refine z_icmp_eqS (tgt := 797) hx hb dL_law_792 (by decide) ?_
    refine lv_iload hx hb dL_law_797 (lv_at hl 1 rfl) ?_
    refine z_if_ne (tgt := 814) hx hb dL_law_799 (by decide) (by omega) (fun hc_799 => ?_) (fun hc_799 => ?_)
    · have hc_799 := hc_799
      refine lv_goto (tgt := 1590) hx hb dL_law_814 (by decide) ?_
      exact ih _ _ _ ⟨nx, sz, S, M, TX, tl, pl, ft, n1, n2, wd, O, SP, SV, NB, (ck1 (ck_hours M v1)), plm, cm, h, hR, hP, hD, hS, lv_sub hl [2, 3, 4, 5, 6] rfl⟩
    · have hc_799 := hc_799
      exfalso; first | omega | (revert hc_799; unfold ck1; split <;> omega)
set_option maxHeartbeats 4000000 in
set_option maxRecDepth 100000 in
theorem law_c11 (p : Program) (l : Launch) (e : Env) (s : State) (m : MethodId) (below : List Frame) (meth : Method) (c : Code) (D : va_G) (ct ad : Nat → Nat) (b L : Nat) (xs : Nat → Int32) (u : Nat) (a r q : Nat → Nat) (b2 : Nat → Nat → Nat) (o0 : Nat) (mb : Nat → Nat) (hC : lwC p l s m meth c D ct ad b L xs) (i : Int) (hi : 0 ≤ i ∧ i + 4 ≤ (L : Int)) (cells slots : Nat) (hcap : cells + 1 ≤ 601024 ∧ slots + 6 ≤ 7293034) (ih : ∀ (H : Heap) (locs : List Loc) (ls : Array Slot), lwI s D ct b u a r q b2 o0 mb i H locs ls → W p l e room_1 s m #[Value.ref b] below meth c H locs (cells + 1) (slots + 6) (lw_Z below #[Value.ref b] s) (F0 m 1590 ls [])) (H : Heap) (locs : List Loc) (ls : Array Slot) (hI0 : lwI s D ct b u a r q b2 o0 mb i H locs ls) : W p l e room_1 s m #[Value.ref b] below meth c H locs cells slots (lw_Z below #[Value.ref b] s) (F0 m 817 ls []) := by
  obtain ⟨hx, hb, hr, hml, hown, hts, hX, hbl, hlocks, hE, hst, hL⟩ := hC
  obtain ⟨nx, sz, S, M, TX, tl, pl, ft, n1, n2, wd, O, SP, SV, NB, cd, plm, cm, h, hR, hP, hD, hS, hl⟩ := hI0
  have hA : ∀ q : Nat, s.heap.size ≤ q → (fun q : Nat => s.heap.size ≤ q) q := fun _ h => h
  have hbA : ¬ (fun q : Nat => s.heap.size ≤ q) b := Nat.not_le.mpr hbl
  have hK := hE.1
  have hc0 : cells ≤ room_1.cells ∧ slots ≤ room_1.slots := by show cells ≤ 601024 ∧ slots ≤ 7293034; omega
  have hc1 : cells + 1 ≤ room_1.cells ∧ slots + 6 ≤ room_1.slots := hcap
  have hP : va_P D vwCl (x8W u a r q ++ (svW ct r b2 nx sz S ++ (sobjW a ++ (gridW ct a M ++ (benchW ct a M ++ (logW ct a M ++ (txtW ct q TX tl pl ft wd n1 n2 ++ (jrW ct o0 1 O ++ (moW mb sz tl cd plm cm h ++ (jrW ct (mb 1) 94 M ++ (jrW ct (mb 2) 94 SP ++ (jrW ct (mb 3) 376 SV ++ (irW ct (mb 4) 150 TX ++ (irW ct (mb 5) 2 NB)))))))))))))) H := hP
  have hD : va_D (fun q : Nat => s.heap.size ≤ q) (x8W u a r q ++ (svW ct r b2 nx sz S ++ (sobjW a ++ (gridW ct a M ++ (benchW ct a M ++ (logW ct a M ++ (txtW ct q TX tl pl ft wd n1 n2 ++ (jrW ct o0 1 O ++ (moW mb sz tl cd plm cm h ++ (jrW ct (mb 1) 94 M ++ (jrW ct (mb 2) 94 SP ++ (jrW ct (mb 3) 376 SV ++ (irW ct (mb 4) 150 TX ++ (irW ct (mb 5) 2 NB)))))))))))))) := hD
  have hs := hR.1
  have ht := hR.2.1
  have hI := hs.1
  have hB := hs.2.1
  have ha := hs.2.2
  have i3 := hI.1
  have i4 := hI.2.1
  have j0 := hB.1
  have j1 := hB.2.1
  have j2 := hB.2.2.1
  have j4 := hB.2.2.2.2
  have t1 := ht.1
  have hn := hR.2.2.1
  have hsz := hR.2.2.2.1
  have hsc := hR.2.2.2.1
  obtain ⟨v1, e1, r1⟩ := zI_any (xs (i + 1).toNat)
  obtain ⟨v2, e2, r2⟩ := zI_any (xs (i + 2).toNat)
  by_cases hk : 0 ≤ v1 ∧ v1 < M 4
  · skip
    by_cases hw : 0 ≤ v2 ∧ v2 ≤ 4
    · skip
      have hv : -2147483648 ≤ sp_rodv M v1 v2 (M 6) ∧ sp_rodv M v1 v2 (M 6) ≤ 2147483647 := by have := sp_rodvB (w := v2) (t := M 6) hI (r := v1) (by omega) (by omega); omega
      have e9 : ck_rodq M v1 v2 = 0 := by unfold ck_rodq; rw [if_pos hk, if_pos hw]
      refine lv_aload_n hx hb dL_law_817 rfl (lv_at hl 1 rfl) ?_
      refine lv_aload_n hx hb dL_law_818 rfl (lv_at hl 0 rfl) ?_
      refine lv_iload hx hb dL_law_819 (lv_at hl 4 rfl) ?_
      refine z_iconst hx hb dL_law_821 ?_
      refine z_iadd hx hb dL_law_822 ?_
      refine z_sld hx hb hX hbl hbA hS (by omega) hL e1 dL_law_823 ?_
      refine lv_aload_n hx hb dL_law_824 rfl (lv_at hl 0 rfl) ?_
      refine lv_iload hx hb dL_law_825 (lv_at hl 4 rfl) ?_
      refine z_iconst hx hb dL_law_827 ?_
      refine z_iadd hx hb dL_law_828 ?_
      refine z_sld hx hb hX hbl hbA hS (by omega) hL e2 dL_law_829 ?_
      refine lv_aload_n hx hb dL_law_830 rfl (lv_at hl 3 rfl) ?_
      refine z_callSW (As := [.ref u, .int (zI v1), .int (zI v2), .ref o0]) (rest := []) ([] : va_W) (moW mb sz tl cd plm cm h ++ (jrW ct (mb 1) 94 M ++ (jrW ct (mb 2) 94 SP ++ (jrW ct (mb 3) 376 SV ++ (irW ct (mb 4) 150 TX ++ (irW ct (mb 5) 2 NB)))))) hx hb hml hown (fun w h => hts w (inL_130 w h)) hl hE hS hA hP hD (c_L_rod_ok l D ct ad u a r q b2 nx sz S M TX tl pl ft n1 n2 wd o0 O v1 v2 (by assumption) (by omega) (by omega) ⟨hk, hw⟩ hv) gdL_130 rfl k_L_rod ⟨Nat.le_of_ble_eq_true rfl, Nat.le_of_ble_eq_true rfl⟩ rfl (Nat.le_of_ble_eq_true rfl) hc0 dL_law_831 rfl (fun v w1 H locs hpost hP hD hS => ?_)
      obtain ⟨rfl, rfl⟩ := hpost
      have hP : va_P D vwCl (x8W u a r q ++ (svW ct r b2 nx sz S ++ (sobjW a ++ (gridW ct a M ++ (benchW ct a M ++ (logW ct a M ++ (txtW ct q TX tl pl ft wd n1 n2 ++ (jrW ct o0 1 (up O 0 (sp_rodv M v1 v2 (M 6))) ++ (moW mb sz tl cd plm cm h ++ (jrW ct (mb 1) 94 M ++ (jrW ct (mb 2) 94 SP ++ (jrW ct (mb 3) 376 SV ++ (irW ct (mb 4) 150 TX ++ (irW ct (mb 5) 2 NB)))))))))))))) H := hP
      have hD : va_D (fun q : Nat => s.heap.size ≤ q) (x8W u a r q ++ (svW ct r b2 nx sz S ++ (sobjW a ++ (gridW ct a M ++ (benchW ct a M ++ (logW ct a M ++ (txtW ct q TX tl pl ft wd n1 n2 ++ (jrW ct o0 1 (up O 0 (sp_rodv M v1 v2 (M 6))) ++ (moW mb sz tl cd plm cm h ++ (jrW ct (mb 1) 94 M ++ (jrW ct (mb 2) 94 SP ++ (jrW ct (mb 3) 376 SV ++ (irW ct (mb 4) 150 TX ++ (irW ct (mb 5) 2 NB)))))))))))))) := hD
      refine W.eq (g2 := F0 m 834 ls [.int (zI 0)]) rfl ?_
      refine lv_istore (lv' := [(5, .int (zI 0)), (0, .ref b), (1, .ref u), (2, .ref (mb 0)), (3, .ref o0), (4, .int (zI i))]) hx hb dL_law_834 hl (by decide) rfl (fun ls hl => ?_)
      refine lv_aload_n hx hb dL_law_836 rfl (lv_at hl 3 rfl) ?_
      refine lv_aload_n hx hb dL_law_837 rfl (lv_at hl 1 rfl) ?_
      refine lv_iload hx hb dL_law_838 (lv_at hl 5 rfl) ?_
      refine z_iconst hx hb dL_law_840 ?_
      refine z_iadd hx hb dL_law_841 ?_
      refine z_sld hx hb hX hbl hbA hS (by omega) hL e1 dL_law_842 ?_
      refine lv_aload_n hx hb dL_law_843 rfl (lv_at hl 1 rfl) ?_
      refine lv_iload hx hb dL_law_844 (lv_at hl 5 rfl) ?_
      refine z_iconst hx hb dL_law_846 ?_
      refine z_iadd hx hb dL_law_847 ?_
      refine z_sld hx hb hX hbl hbA hS (by omega) hL e2 dL_law_848 ?_
      refine z_callV (C := RX9) (q0 := 0) (ci := 7) (As := [.int (zI v1), .int (zI v2)]) (rest := []) (x8W u a r q ++ (svW ct r b2 nx sz S ++ (sobjW a ++ (gridW ct a M ++ (benchW ct a M ++ (logW ct a M ++ (txtW ct q TX tl pl ft wd n1 n2 ++ (jrW ct o0 1 (up O 0 (sp_rodv M v1 v2 (M 6))))))))))) ([] : va_W) hx hb hml hown (fun w h => hts w (inL_132 w h)) hl hE hS hA (zr0 (x8W u a r q ++ (svW ct r b2 nx sz S ++ (sobjW a ++ (gridW ct a M ++ (benchW ct a M ++ (logW ct a M ++ (txtW ct q TX tl pl ft wd n1 n2 ++ (jrW ct o0 1 (up O 0 (sp_rodv M v1 v2 (M 6))))))))))) hP) (zr0D (x8W u a r q ++ (svW ct r b2 nx sz S ++ (sobjW a ++ (gridW ct a M ++ (benchW ct a M ++ (logW ct a M ++ (txtW ct q TX tl pl ft wd n1 n2 ++ (jrW ct o0 1 (up O 0 (sp_rodv M v1 v2 (M 6))))))))))) hD) (c_X9_rod_ok l D ct ad mb M SP SV TX NB sz tl cd plm cm h v1 v2 (by assumption) (by assumption) (by omega) (by omega) e9) gdL_132 rfl rfl k_X9_rod ⟨Nat.le_of_ble_eq_true rfl, Nat.le_of_ble_eq_true rfl⟩ rfl rfl rfl rfl (Nat.le_of_ble_eq_true rfl) hc0 dL_law_849 rfl (fun v w1 H locs hpost hP hD hS => ?_)
      obtain ⟨rfl, rfl⟩ := hpost
      have hP := zr0' hP
      have hD := zr0D' hD
      have hP : va_P D vwCl (x8W u a r q ++ (svW ct r b2 nx sz S ++ (sobjW a ++ (gridW ct a M ++ (benchW ct a M ++ (logW ct a M ++ (txtW ct q TX tl pl ft wd n1 n2 ++ (jrW ct o0 1 (up O 0 (sp_rodv M v1 v2 (M 6))) ++ (moW mb sz tl (ck_rodq M v1 v2) plm cm h ++ (jrW ct (mb 1) 94 M ++ (jrW ct (mb 2) 94 SP ++ (jrW ct (mb 3) 376 SV ++ (irW ct (mb 4) 150 TX ++ (irW ct (mb 5) 2 NB)))))))))))))) H := hP
      have hD : va_D (fun q : Nat => s.heap.size ≤ q) (x8W u a r q ++ (svW ct r b2 nx sz S ++ (sobjW a ++ (gridW ct a M ++ (benchW ct a M ++ (logW ct a M ++ (txtW ct q TX tl pl ft wd n1 n2 ++ (jrW ct o0 1 (up O 0 (sp_rodv M v1 v2 (M 6))) ++ (moW mb sz tl (ck_rodq M v1 v2) plm cm h ++ (jrW ct (mb 1) 94 M ++ (jrW ct (mb 2) 94 SP ++ (jrW ct (mb 3) 376 SV ++ (irW ct (mb 4) 150 TX ++ (irW ct (mb 5) 2 NB)))))))))))))) := hD
      refine W.eq (g2 := F0 m 852 ls [.int (zI (sp_rodv M v1 v2 (M 6)))]) rfl ?_
      refine lv_istore (lv' := [(6, .int (zI (sp_rodv M v1 v2 (M 6)))), (5, .int (zI 0)), (0, .ref b), (1, .ref u), (2, .ref (mb 0)), (3, .ref o0), (4, .int (zI i))]) hx hb dL_law_852 hl (by decide) rfl (fun ls hl => ?_)
      refine lv_aload_n hx hb dL_law_854 rfl (lv_at hl 4 rfl) ?_
      refine z_callV (C := RX9) (q0 := 0) (ci := 7) (As := []) (rest := []) (x8W u a r q ++ (svW ct r b2 nx sz S ++ (sobjW a ++ (gridW ct a M ++ (benchW ct a M ++ (logW ct a M ++ (txtW ct q TX tl pl ft wd n1 n2 ++ (jrW ct o0 1 (up O 0 (sp_rodv M v1 v2 (M 6))))))))))) ([] : va_W) hx hb hml hown (fun w h => hts w (inL_94 w h)) hl hE hS hA (zr0 (x8W u a r q ++ (svW ct r b2 nx sz S ++ (sobjW a ++ (gridW ct a M ++ (benchW ct a M ++ (logW ct a M ++ (txtW ct q TX tl pl ft wd n1 n2 ++ (jrW ct o0 1 (up O 0 (sp_rodv M v1 v2 (M 6))))))))))) hP) (zr0D (x8W u a r q ++ (svW ct r b2 nx sz S ++ (sobjW a ++ (gridW ct a M ++ (benchW ct a M ++ (logW ct a M ++ (txtW ct q TX tl pl ft wd n1 n2 ++ (jrW ct o0 1 (up O 0 (sp_rodv M v1 v2 (M 6))))))))))) hD) (c_X9_thrown l D ct ad mb M SP SV TX NB sz tl (ck_rodq M v1 v2) plm cm h) gdL_94 rfl rfl k_X9_thrown ⟨Nat.le_of_ble_eq_true rfl, Nat.le_of_ble_eq_true rfl⟩ rfl rfl rfl rfl (Nat.le_of_ble_eq_true rfl) hc0 dL_law_855 rfl (fun v w1 H locs hpost hP hD hS => ?_)
      obtain ⟨rfl, rfl⟩ := hpost
      have hP := zr0' hP
      have hD := zr0D' hD
      have hP : va_P D vwCl (x8W u a r q ++ (svW ct r b2 nx sz S ++ (sobjW a ++ (gridW ct a M ++ (benchW ct a M ++ (logW ct a M ++ (txtW ct q TX tl pl ft wd n1 n2 ++ (jrW ct o0 1 (up O 0 (sp_rodv M v1 v2 (M 6))) ++ (moW mb sz tl (ck_rodq M v1 v2) plm cm h ++ (jrW ct (mb 1) 94 M ++ (jrW ct (mb 2) 94 SP ++ (jrW ct (mb 3) 376 SV ++ (irW ct (mb 4) 150 TX ++ (irW ct (mb 5) 2 NB)))))))))))))) H := hP
      have hD : va_D (fun q : Nat => s.heap.size ≤ q) (x8W u a r q ++ (svW ct r b2 nx sz S ++ (sobjW a ++ (gridW ct a M ++ (benchW ct a M ++ (logW ct a M ++ (txtW ct q TX tl pl ft wd n1 n2 ++ (jrW ct o0 1 (up O 0 (sp_rodv M v1 v2 (M 6))) ++ (moW mb sz tl (ck_rodq M v1 v2) plm cm h ++ (jrW ct (mb 1) 94 M ++ (jrW ct (mb 2) 94 SP ++ (jrW ct (mb 3) 376 SV ++ (irW ct (mb 4) 150 TX ++ (irW ct (mb 5) 2 NB)))))))))))))) := hD
      refine W.eq (g2 := F0 m 858 ls [.int (zI (ck_rodq M v1 v2))]) rfl ?_
      refine lv_iload hx hb dL_law_858 (lv_at hl 1 rfl) ?_
      refine z_canI (show 0 = ck_rodq M v1 v2 from e9.symm) ?_
      refine z_icmp_eqS (tgt := 865) hx hb dL_law_860 (by decide) ?_
      refine lv_iload hx hb dL_law_865 (lv_at hl 1 rfl) ?_
      refine z_if_ne (tgt := 882) hx hb dL_law_867 (by decide) (by omega) (fun hc_867 => ?_) (fun hc_867 => ?_)
      · have hc_867 := hc_867
        exfalso; first | omega | (revert hc_867; unfold ck1; split <;> omega)
      · have hc_867 := hc_867
        refine lv_aload_n hx hb dL_law_870 rfl (lv_at hl 5 rfl) ?_
        refine z_iconst hx hb dL_law_871 ?_
        refine z_lald (g := (up O 0 (sp_rodv M v1 v2 (M 6)))) (v := sp_rodv M v1 v2 (M 6)) hx hb hK hP 60 rfl (by decide) (by omega) (show (up O 0 (sp_rodv M v1 v2 (M 6))) 0 = sp_rodv M v1 v2 (M 6) from by rw [up_s]) dL_law_872 ?_
        refine lv_iload hx hb dL_law_873 (lv_at hl 0 rfl) ?_
        refine z_i2l hx hb dL_law_875 (by omega) ?_
        refine z_lcmp_eqS (tgt := 882) hx hb dL_law_876 dL_law_877 (by decide) ?_
        refine lv_goto (tgt := 1590) hx hb dL_law_882 (by decide) ?_
        refine W.widen (k := cells + 1) (n := slots + 6) (Nat.le_add_right _ _) (Nat.le_add_right _ _) ?_
        exact ih _ _ _ ⟨nx, sz, S, M, TX, tl, pl, ft, n1, n2, wd, (up O 0 (sp_rodv M v1 v2 (M 6))), SP, SV, NB, (ck_rodq M v1 v2), plm, cm, h, hR, hP, hD, hS, lv_sub hl [2, 3, 4, 5, 6] rfl⟩
    · skip
      have e9 : ck_rodq M v1 v2 = 2 := by unfold ck_rodq; rw [if_pos hk, if_neg hw]
      refine lv_aload_n hx hb dL_law_817 rfl (lv_at hl 1 rfl) ?_
      refine lv_aload_n hx hb dL_law_818 rfl (lv_at hl 0 rfl) ?_
      refine lv_iload hx hb dL_law_819 (lv_at hl 4 rfl) ?_
      refine z_iconst hx hb dL_law_821 ?_
      refine z_iadd hx hb dL_law_822 ?_
      refine z_sld hx hb hX hbl hbA hS (by omega) hL e1 dL_law_823 ?_
      refine lv_aload_n hx hb dL_law_824 rfl (lv_at hl 0 rfl) ?_
      refine lv_iload hx hb dL_law_825 (lv_at hl 4 rfl) ?_
      refine z_iconst hx hb dL_law_827 ?_
      refine z_iadd hx hb dL_law_828 ?_
      refine z_sld hx hb hX hbl hbA hS (by omega) hL e2 dL_law_829 ?_
      refine lv_aload_n hx hb dL_law_830 rfl (lv_at hl 3 rfl) ?_
      refine z_callSW (As := [.ref u, .int (zI v1), .int (zI v2), .ref o0]) (rest := []) ([] : va_W) (moW mb sz tl cd plm cm h ++ (jrW ct (mb 1) 94 M ++ (jrW ct (mb 2) 94 SP ++ (jrW ct (mb 3) 376 SV ++ (irW ct (mb 4) 150 TX ++ (irW ct (mb 5) 2 NB)))))) hx hb hml hown (fun w h => hts w (inL_130 w h)) hl hE hS hA hP hD (c_L_rod_no2 l D ct ad u a r q b2 nx sz S M TX tl pl ft n1 n2 wd o0 O v1 v2 (by assumption) hst (by omega) (by omega) hk hw) gdL_130 rfl k_L_rod ⟨Nat.le_of_ble_eq_true rfl, Nat.le_of_ble_eq_true rfl⟩ rfl (Nat.le_of_ble_eq_true rfl) hc1 dL_law_831 rfl (fun v w1 H locs hpost hP hD hS => ?_)
      obtain ⟨rfl, rfl⟩ := hpost
      have hP : va_P D vwCl (x8W u a r q ++ (svW ct r b2 nx sz S ++ (sobjW a ++ (gridW ct a M ++ (benchW ct a M ++ (logW ct a M ++ (txtW ct q TX tl pl ft wd n1 n2 ++ (jrW ct o0 1 O ++ (moW mb sz tl cd plm cm h ++ (jrW ct (mb 1) 94 M ++ (jrW ct (mb 2) 94 SP ++ (jrW ct (mb 3) 376 SV ++ (irW ct (mb 4) 150 TX ++ (irW ct (mb 5) 2 NB)))))))))))))) H := hP
      have hD : va_D (fun q : Nat => s.heap.size ≤ q) (x8W u a r q ++ (svW ct r b2 nx sz S ++ (sobjW a ++ (gridW ct a M ++ (benchW ct a M ++ (logW ct a M ++ (txtW ct q TX tl pl ft wd n1 n2 ++ (jrW ct o0 1 O ++ (moW mb sz tl cd plm cm h ++ (jrW ct (mb 1) 94 M ++ (jrW ct (mb 2) 94 SP ++ (jrW ct (mb 3) 376 SV ++ (irW ct (mb 4) 150 TX ++ (irW ct (mb 5) 2 NB)))))))))))))) := hD
      refine W.eq (g2 := F0 m 834 ls [.int (zI 2)]) rfl ?_
      refine lv_istore (lv' := [(5, .int (zI 2)), (0, .ref b), (1, .ref u), (2, .ref (mb 0)), (3, .ref o0), (4, .int (zI i))]) hx hb dL_law_834 hl (by decide) rfl (fun ls hl => ?_)
      refine lv_aload_n hx hb dL_law_836 rfl (lv_at hl 3 rfl) ?_
      refine lv_aload_n hx hb dL_law_837 rfl (lv_at hl 1 rfl) ?_
      refine lv_iload hx hb dL_law_838 (lv_at hl 5 rfl) ?_
      refine z_iconst hx hb dL_law_840 ?_
      refine z_iadd hx hb dL_law_841 ?_
      refine z_sld hx hb hX hbl hbA hS (by omega) hL e1 dL_law_842 ?_
      refine lv_aload_n hx hb dL_law_843 rfl (lv_at hl 1 rfl) ?_
      refine lv_iload hx hb dL_law_844 (lv_at hl 5 rfl) ?_
      refine z_iconst hx hb dL_law_846 ?_
      refine z_iadd hx hb dL_law_847 ?_
      refine z_sld hx hb hX hbl hbA hS (by omega) hL e2 dL_law_848 ?_
      refine z_callV (C := RX9) (q0 := 0) (ci := 7) (As := [.int (zI v1), .int (zI v2)]) (rest := []) (x8W u a r q ++ (svW ct r b2 nx sz S ++ (sobjW a ++ (gridW ct a M ++ (benchW ct a M ++ (logW ct a M ++ (txtW ct q TX tl pl ft wd n1 n2 ++ (jrW ct o0 1 O)))))))) ([] : va_W) hx hb hml hown (fun w h => hts w (inL_132 w h)) hl hE hS hA (zr0 (x8W u a r q ++ (svW ct r b2 nx sz S ++ (sobjW a ++ (gridW ct a M ++ (benchW ct a M ++ (logW ct a M ++ (txtW ct q TX tl pl ft wd n1 n2 ++ (jrW ct o0 1 O)))))))) hP) (zr0D (x8W u a r q ++ (svW ct r b2 nx sz S ++ (sobjW a ++ (gridW ct a M ++ (benchW ct a M ++ (logW ct a M ++ (txtW ct q TX tl pl ft wd n1 n2 ++ (jrW ct o0 1 O)))))))) hD) (c_X9_rod_no l D ct ad mb M SP SV TX NB sz tl cd plm cm h v1 v2 (by assumption) (by assumption) (by omega) (by omega) (by omega)) gdL_132 rfl rfl k_X9_rod ⟨Nat.le_of_ble_eq_true rfl, Nat.le_of_ble_eq_true rfl⟩ rfl rfl rfl rfl (Nat.le_of_ble_eq_true rfl) hc1 dL_law_849 rfl (fun v w1 H locs hpost hP hD hS => ?_)
      obtain ⟨rfl, rfl⟩ := hpost
      have hP := zr0' hP
      have hD := zr0D' hD
      have hP : va_P D vwCl (x8W u a r q ++ (svW ct r b2 nx sz S ++ (sobjW a ++ (gridW ct a M ++ (benchW ct a M ++ (logW ct a M ++ (txtW ct q TX tl pl ft wd n1 n2 ++ (jrW ct o0 1 O ++ (moW mb sz tl (ck_rodq M v1 v2) plm cm h ++ (jrW ct (mb 1) 94 M ++ (jrW ct (mb 2) 94 SP ++ (jrW ct (mb 3) 376 SV ++ (irW ct (mb 4) 150 TX ++ (irW ct (mb 5) 2 NB)))))))))))))) H := hP
      have hD : va_D (fun q : Nat => s.heap.size ≤ q) (x8W u a r q ++ (svW ct r b2 nx sz S ++ (sobjW a ++ (gridW ct a M ++ (benchW ct a M ++ (logW ct a M ++ (txtW ct q TX tl pl ft wd n1 n2 ++ (jrW ct o0 1 O ++ (moW mb sz tl (ck_rodq M v1 v2) plm cm h ++ (jrW ct (mb 1) 94 M ++ (jrW ct (mb 2) 94 SP ++ (jrW ct (mb 3) 376 SV ++ (irW ct (mb 4) 150 TX ++ (irW ct (mb 5) 2 NB)))))))))))))) := hD
      refine W.eq (g2 := F0 m 852 ls [.int (zI 0)]) rfl ?_
      refine lv_istore (lv' := [(6, .int (zI 0)), (5, .int (zI 2)), (0, .ref b), (1, .ref u), (2, .ref (mb 0)), (3, .ref o0), (4, .int (zI i))]) hx hb dL_law_852 hl (by decide) rfl (fun ls hl => ?_)
      refine lv_aload_n hx hb dL_law_854 rfl (lv_at hl 4 rfl) ?_
      refine z_callV (C := RX9) (q0 := 0) (ci := 7) (As := []) (rest := []) (x8W u a r q ++ (svW ct r b2 nx sz S ++ (sobjW a ++ (gridW ct a M ++ (benchW ct a M ++ (logW ct a M ++ (txtW ct q TX tl pl ft wd n1 n2 ++ (jrW ct o0 1 O)))))))) ([] : va_W) hx hb hml hown (fun w h => hts w (inL_94 w h)) hl hE hS hA (zr0 (x8W u a r q ++ (svW ct r b2 nx sz S ++ (sobjW a ++ (gridW ct a M ++ (benchW ct a M ++ (logW ct a M ++ (txtW ct q TX tl pl ft wd n1 n2 ++ (jrW ct o0 1 O)))))))) hP) (zr0D (x8W u a r q ++ (svW ct r b2 nx sz S ++ (sobjW a ++ (gridW ct a M ++ (benchW ct a M ++ (logW ct a M ++ (txtW ct q TX tl pl ft wd n1 n2 ++ (jrW ct o0 1 O)))))))) hD) (c_X9_thrown l D ct ad mb M SP SV TX NB sz tl (ck_rodq M v1 v2) plm cm h) gdL_94 rfl rfl k_X9_thrown ⟨Nat.le_of_ble_eq_true rfl, Nat.le_of_ble_eq_true rfl⟩ rfl rfl rfl rfl (Nat.le_of_ble_eq_true rfl) hc1 dL_law_855 rfl (fun v w1 H locs hpost hP hD hS => ?_)
      obtain ⟨rfl, rfl⟩ := hpost
      have hP := zr0' hP
      have hD := zr0D' hD
      have hP : va_P D vwCl (x8W u a r q ++ (svW ct r b2 nx sz S ++ (sobjW a ++ (gridW ct a M ++ (benchW ct a M ++ (logW ct a M ++ (txtW ct q TX tl pl ft wd n1 n2 ++ (jrW ct o0 1 O ++ (moW mb sz tl (ck_rodq M v1 v2) plm cm h ++ (jrW ct (mb 1) 94 M ++ (jrW ct (mb 2) 94 SP ++ (jrW ct (mb 3) 376 SV ++ (irW ct (mb 4) 150 TX ++ (irW ct (mb 5) 2 NB)))))))))))))) H := hP
      have hD : va_D (fun q : Nat => s.heap.size ≤ q) (x8W u a r q ++ (svW ct r b2 nx sz S ++ (sobjW a ++ (gridW ct a M ++ (benchW ct a M ++ (logW ct a M ++ (txtW ct q TX tl pl ft wd n1 n2 ++ (jrW ct o0 1 O ++ (moW mb sz tl (ck_rodq M v1 v2) plm cm h ++ (jrW ct (mb 1) 94 M ++ (jrW ct (mb 2) 94 SP ++ (jrW ct (mb 3) 376 SV ++ (irW ct (mb 4) 150 TX ++ (irW ct (mb 5) 2 NB)))))))))))))) := hD
      refine W.eq (g2 := F0 m 858 ls [.int (zI (ck_rodq M v1 v2))]) rfl ?_
      refine lv_iload hx hb dL_law_858 (lv_at hl 1 rfl) ?_
      refine z_canI (show 2 = ck_rodq M v1 v2 from e9.symm) ?_
      refine z_icmp_eqS (tgt := 865) hx hb dL_law_860 (by decide) ?_
      refine lv_iload hx hb dL_law_865 (lv_at hl 1 rfl) ?_
      refine z_if_ne (tgt := 882) hx hb dL_law_867 (by decide) (by omega) (fun hc_867 => ?_) (fun hc_867 => ?_)
      · have hc_867 := hc_867
        refine lv_goto (tgt := 1590) hx hb dL_law_882 (by decide) ?_
        exact ih _ _ _ ⟨nx, sz, S, M, TX, tl, pl, ft, n1, n2, wd, O, SP, SV, NB, (ck_rodq M v1 v2), plm, cm, h, hR, hP, hD, hS, lv_sub hl [2, 3, 4, 5, 6] rfl⟩
      · have hc_867 := hc_867
        exfalso; first | omega | (revert hc_867; unfold ck1; split <;> omega)
  · skip
    have e9 : ck_rodq M v1 v2 = 1 := by unfold ck_rodq; rw [if_neg hk]
    refine lv_aload_n hx hb dL_law_817 rfl (lv_at hl 1 rfl) ?_
    refine lv_aload_n hx hb dL_law_818 rfl (lv_at hl 0 rfl) ?_
    refine lv_iload hx hb dL_law_819 (lv_at hl 4 rfl) ?_
    refine z_iconst hx hb dL_law_821 ?_
    refine z_iadd hx hb dL_law_822 ?_
    refine z_sld hx hb hX hbl hbA hS (by omega) hL e1 dL_law_823 ?_
    refine lv_aload_n hx hb dL_law_824 rfl (lv_at hl 0 rfl) ?_
    refine lv_iload hx hb dL_law_825 (lv_at hl 4 rfl) ?_
    refine z_iconst hx hb dL_law_827 ?_
    refine z_iadd hx hb dL_law_828 ?_
    refine z_sld hx hb hX hbl hbA hS (by omega) hL e2 dL_law_829 ?_
    refine lv_aload_n hx hb dL_law_830 rfl (lv_at hl 3 rfl) ?_
    refine z_callSW (As := [.ref u, .int (zI v1), .int (zI v2), .ref o0]) (rest := []) ([] : va_W) (moW mb sz tl cd plm cm h ++ (jrW ct (mb 1) 94 M ++ (jrW ct (mb 2) 94 SP ++ (jrW ct (mb 3) 376 SV ++ (irW ct (mb 4) 150 TX ++ (irW ct (mb 5) 2 NB)))))) hx hb hml hown (fun w h => hts w (inL_130 w h)) hl hE hS hA hP hD (c_L_rod_no1 l D ct ad u a r q b2 nx sz S M TX tl pl ft n1 n2 wd o0 O v1 v2 (by assumption) hst (by omega) (by omega) hk) gdL_130 rfl k_L_rod ⟨Nat.le_of_ble_eq_true rfl, Nat.le_of_ble_eq_true rfl⟩ rfl (Nat.le_of_ble_eq_true rfl) hc1 dL_law_831 rfl (fun v w1 H locs hpost hP hD hS => ?_)
    obtain ⟨rfl, rfl⟩ := hpost
    have hP : va_P D vwCl (x8W u a r q ++ (svW ct r b2 nx sz S ++ (sobjW a ++ (gridW ct a M ++ (benchW ct a M ++ (logW ct a M ++ (txtW ct q TX tl pl ft wd n1 n2 ++ (jrW ct o0 1 O ++ (moW mb sz tl cd plm cm h ++ (jrW ct (mb 1) 94 M ++ (jrW ct (mb 2) 94 SP ++ (jrW ct (mb 3) 376 SV ++ (irW ct (mb 4) 150 TX ++ (irW ct (mb 5) 2 NB)))))))))))))) H := hP
    have hD : va_D (fun q : Nat => s.heap.size ≤ q) (x8W u a r q ++ (svW ct r b2 nx sz S ++ (sobjW a ++ (gridW ct a M ++ (benchW ct a M ++ (logW ct a M ++ (txtW ct q TX tl pl ft wd n1 n2 ++ (jrW ct o0 1 O ++ (moW mb sz tl cd plm cm h ++ (jrW ct (mb 1) 94 M ++ (jrW ct (mb 2) 94 SP ++ (jrW ct (mb 3) 376 SV ++ (irW ct (mb 4) 150 TX ++ (irW ct (mb 5) 2 NB)))))))))))))) := hD
    refine W.eq (g2 := F0 m 834 ls [.int (zI 1)]) rfl ?_
    refine lv_istore (lv' := [(5, .int (zI 1)), (0, .ref b), (1, .ref u), (2, .ref (mb 0)), (3, .ref o0), (4, .int (zI i))]) hx hb dL_law_834 hl (by decide) rfl (fun ls hl => ?_)
    refine lv_aload_n hx hb dL_law_836 rfl (lv_at hl 3 rfl) ?_
    refine lv_aload_n hx hb dL_law_837 rfl (lv_at hl 1 rfl) ?_
    refine lv_iload hx hb dL_law_838 (lv_at hl 5 rfl) ?_
    refine z_iconst hx hb dL_law_840 ?_
    refine z_iadd hx hb dL_law_841 ?_
    refine z_sld hx hb hX hbl hbA hS (by omega) hL e1 dL_law_842 ?_
    refine lv_aload_n hx hb dL_law_843 rfl (lv_at hl 1 rfl) ?_
    refine lv_iload hx hb dL_law_844 (lv_at hl 5 rfl) ?_
    refine z_iconst hx hb dL_law_846 ?_
    refine z_iadd hx hb dL_law_847 ?_
    refine z_sld hx hb hX hbl hbA hS (by omega) hL e2 dL_law_848 ?_
    refine z_callV (C := RX9) (q0 := 0) (ci := 7) (As := [.int (zI v1), .int (zI v2)]) (rest := []) (x8W u a r q ++ (svW ct r b2 nx sz S ++ (sobjW a ++ (gridW ct a M ++ (benchW ct a M ++ (logW ct a M ++ (txtW ct q TX tl pl ft wd n1 n2 ++ (jrW ct o0 1 O)))))))) ([] : va_W) hx hb hml hown (fun w h => hts w (inL_132 w h)) hl hE hS hA (zr0 (x8W u a r q ++ (svW ct r b2 nx sz S ++ (sobjW a ++ (gridW ct a M ++ (benchW ct a M ++ (logW ct a M ++ (txtW ct q TX tl pl ft wd n1 n2 ++ (jrW ct o0 1 O)))))))) hP) (zr0D (x8W u a r q ++ (svW ct r b2 nx sz S ++ (sobjW a ++ (gridW ct a M ++ (benchW ct a M ++ (logW ct a M ++ (txtW ct q TX tl pl ft wd n1 n2 ++ (jrW ct o0 1 O)))))))) hD) (c_X9_rod_no l D ct ad mb M SP SV TX NB sz tl cd plm cm h v1 v2 (by assumption) (by assumption) (by omega) (by omega) (by omega)) gdL_132 rfl rfl k_X9_rod ⟨Nat.le_of_ble_eq_true rfl, Nat.le_of_ble_eq_true rfl⟩ rfl rfl rfl rfl (Nat.le_of_ble_eq_true rfl) hc1 dL_law_849 rfl (fun v w1 H locs hpost hP hD hS => ?_)
    obtain ⟨rfl, rfl⟩ := hpost
    have hP := zr0' hP
    have hD := zr0D' hD
    have hP : va_P D vwCl (x8W u a r q ++ (svW ct r b2 nx sz S ++ (sobjW a ++ (gridW ct a M ++ (benchW ct a M ++ (logW ct a M ++ (txtW ct q TX tl pl ft wd n1 n2 ++ (jrW ct o0 1 O ++ (moW mb sz tl (ck_rodq M v1 v2) plm cm h ++ (jrW ct (mb 1) 94 M ++ (jrW ct (mb 2) 94 SP ++ (jrW ct (mb 3) 376 SV ++ (irW ct (mb 4) 150 TX ++ (irW ct (mb 5) 2 NB)))))))))))))) H := hP
    have hD : va_D (fun q : Nat => s.heap.size ≤ q) (x8W u a r q ++ (svW ct r b2 nx sz S ++ (sobjW a ++ (gridW ct a M ++ (benchW ct a M ++ (logW ct a M ++ (txtW ct q TX tl pl ft wd n1 n2 ++ (jrW ct o0 1 O ++ (moW mb sz tl (ck_rodq M v1 v2) plm cm h ++ (jrW ct (mb 1) 94 M ++ (jrW ct (mb 2) 94 SP ++ (jrW ct (mb 3) 376 SV ++ (irW ct (mb 4) 150 TX ++ (irW ct (mb 5) 2 NB)))))))))))))) := hD
    refine W.eq (g2 := F0 m 852 ls [.int (zI 0)]) rfl ?_
    refine lv_istore (lv' := [(6, .int (zI 0)), (5, .int (zI 1)), (0, .ref b), (1, .ref u), (2, .ref (mb 0)), (3, .ref o0), (4, .int (zI i))]) hx hb dL_law_852 hl (by decide) rfl (fun ls hl => ?_)
    refine lv_aload_n hx hb dL_law_854 rfl (lv_at hl 4 rfl) ?_
    refine z_callV (C := RX9) (q0 := 0) (ci := 7) (As := []) (rest := []) (x8W u a r q ++ (svW ct r b2 nx sz S ++ (sobjW a ++ (gridW ct a M ++ (benchW ct a M ++ (logW ct a M ++ (txtW ct q TX tl pl ft wd n1 n2 ++ (jrW ct o0 1 O)))))))) ([] : va_W) hx hb hml hown (fun w h => hts w (inL_94 w h)) hl hE hS hA (zr0 (x8W u a r q ++ (svW ct r b2 nx sz S ++ (sobjW a ++ (gridW ct a M ++ (benchW ct a M ++ (logW ct a M ++ (txtW ct q TX tl pl ft wd n1 n2 ++ (jrW ct o0 1 O)))))))) hP) (zr0D (x8W u a r q ++ (svW ct r b2 nx sz S ++ (sobjW a ++ (gridW ct a M ++ (benchW ct a M ++ (logW ct a M ++ (txtW ct q TX tl pl ft wd n1 n2 ++ (jrW ct o0 1 O)))))))) hD) (c_X9_thrown l D ct ad mb M SP SV TX NB sz tl (ck_rodq M v1 v2) plm cm h) gdL_94 rfl rfl k_X9_thrown ⟨Nat.le_of_ble_eq_true rfl, Nat.le_of_ble_eq_true rfl⟩ rfl rfl rfl rfl (Nat.le_of_ble_eq_true rfl) hc1 dL_law_855 rfl (fun v w1 H locs hpost hP hD hS => ?_)
    obtain ⟨rfl, rfl⟩ := hpost
    have hP := zr0' hP
    have hD := zr0D' hD
    have hP : va_P D vwCl (x8W u a r q ++ (svW ct r b2 nx sz S ++ (sobjW a ++ (gridW ct a M ++ (benchW ct a M ++ (logW ct a M ++ (txtW ct q TX tl pl ft wd n1 n2 ++ (jrW ct o0 1 O ++ (moW mb sz tl (ck_rodq M v1 v2) plm cm h ++ (jrW ct (mb 1) 94 M ++ (jrW ct (mb 2) 94 SP ++ (jrW ct (mb 3) 376 SV ++ (irW ct (mb 4) 150 TX ++ (irW ct (mb 5) 2 NB)))))))))))))) H := hP
    have hD : va_D (fun q : Nat => s.heap.size ≤ q) (x8W u a r q ++ (svW ct r b2 nx sz S ++ (sobjW a ++ (gridW ct a M ++ (benchW ct a M ++ (logW ct a M ++ (txtW ct q TX tl pl ft wd n1 n2 ++ (jrW ct o0 1 O ++ (moW mb sz tl (ck_rodq M v1 v2) plm cm h ++ (jrW ct (mb 1) 94 M ++ (jrW ct (mb 2) 94 SP ++ (jrW ct (mb 3) 376 SV ++ (irW ct (mb 4) 150 TX ++ (irW ct (mb 5) 2 NB)))))))))))))) := hD
    refine W.eq (g2 := F0 m 858 ls [.int (zI (ck_rodq M v1 v2))]) rfl ?_
    refine lv_iload hx hb dL_law_858 (lv_at hl 1 rfl) ?_
    refine z_canI (show 1 = ck_rodq M v1 v2 from e9.symm) ?_
    refine z_icmp_eqS (tgt := 865) hx hb dL_law_860 (by decide) ?_
    refine lv_iload hx hb dL_law_865 (lv_at hl 1 rfl) ?_
    refine z_if_ne (tgt := 882) hx hb dL_law_867 (by decide) (by omega) (fun hc_867 => ?_) (fun hc_867 => ?_)
    · have hc_867 := hc_867
      refine lv_goto (tgt := 1590) hx hb dL_law_882 (by decide) ?_
      exact ih _ _ _ ⟨nx, sz, S, M, TX, tl, pl, ft, n1, n2, wd, O, SP, SV, NB, (ck_rodq M v1 v2), plm, cm, h, hR, hP, hD, hS, lv_sub hl [2, 3, 4, 5, 6] rfl⟩
    · have hc_867 := hc_867
      exfalso; first | omega | (revert hc_867; unfold ck1; split <;> omega)
set_option maxHeartbeats 4000000 in
set_option maxRecDepth 100000 in
theorem law_c12 (p : Program) (l : Launch) (e : Env) (s : State) (m : MethodId) (below : List Frame) (meth : Method) (c : Code) (D : va_G) (ct ad : Nat → Nat) (b L : Nat) (xs : Nat → Int32) (u : Nat) (a r q : Nat → Nat) (b2 : Nat → Nat → Nat) (o0 : Nat) (mb : Nat → Nat) (hC : lwC p l s m meth c D ct ad b L xs) (i : Int) (hi : 0 ≤ i ∧ i + 4 ≤ (L : Int)) (cells slots : Nat) (hcap : cells + 1 ≤ 601024 ∧ slots + 6 ≤ 7293034) (ih : ∀ (H : Heap) (locs : List Loc) (ls : Array Slot), lwI s D ct b u a r q b2 o0 mb i H locs ls → W p l e room_1 s m #[Value.ref b] below meth c H locs (cells + 1) (slots + 6) (lw_Z below #[Value.ref b] s) (F0 m 1590 ls [])) (H : Heap) (locs : List Loc) (ls : Array Slot) (hI0 : lwI s D ct b u a r q b2 o0 mb i H locs ls) : W p l e room_1 s m #[Value.ref b] below meth c H locs cells slots (lw_Z below #[Value.ref b] s) (F0 m 885 ls []) := by
  obtain ⟨hx, hb, hr, hml, hown, hts, hX, hbl, hlocks, hE, hst, hL⟩ := hC
  obtain ⟨nx, sz, S, M, TX, tl, pl, ft, n1, n2, wd, O, SP, SV, NB, cd, plm, cm, h, hR, hP, hD, hS, hl⟩ := hI0
  have hA : ∀ q : Nat, s.heap.size ≤ q → (fun q : Nat => s.heap.size ≤ q) q := fun _ h => h
  have hbA : ¬ (fun q : Nat => s.heap.size ≤ q) b := Nat.not_le.mpr hbl
  have hK := hE.1
  have hc0 : cells ≤ room_1.cells ∧ slots ≤ room_1.slots := by show cells ≤ 601024 ∧ slots ≤ 7293034; omega
  have hc1 : cells + 1 ≤ room_1.cells ∧ slots + 6 ≤ room_1.slots := hcap
  have hP : va_P D vwCl (x8W u a r q ++ (svW ct r b2 nx sz S ++ (sobjW a ++ (gridW ct a M ++ (benchW ct a M ++ (logW ct a M ++ (txtW ct q TX tl pl ft wd n1 n2 ++ (jrW ct o0 1 O ++ (moW mb sz tl cd plm cm h ++ (jrW ct (mb 1) 94 M ++ (jrW ct (mb 2) 94 SP ++ (jrW ct (mb 3) 376 SV ++ (irW ct (mb 4) 150 TX ++ (irW ct (mb 5) 2 NB)))))))))))))) H := hP
  have hD : va_D (fun q : Nat => s.heap.size ≤ q) (x8W u a r q ++ (svW ct r b2 nx sz S ++ (sobjW a ++ (gridW ct a M ++ (benchW ct a M ++ (logW ct a M ++ (txtW ct q TX tl pl ft wd n1 n2 ++ (jrW ct o0 1 O ++ (moW mb sz tl cd plm cm h ++ (jrW ct (mb 1) 94 M ++ (jrW ct (mb 2) 94 SP ++ (jrW ct (mb 3) 376 SV ++ (irW ct (mb 4) 150 TX ++ (irW ct (mb 5) 2 NB)))))))))))))) := hD
  have hs := hR.1
  have ht := hR.2.1
  have hI := hs.1
  have hB := hs.2.1
  have ha := hs.2.2
  have i3 := hI.1
  have i4 := hI.2.1
  have j0 := hB.1
  have j1 := hB.2.1
  have j2 := hB.2.2.1
  have j4 := hB.2.2.2.2
  have t1 := ht.1
  have hn := hR.2.2.1
  have hsz := hR.2.2.2.1
  have hsc := hR.2.2.2.1
  obtain ⟨v1, e1, r1⟩ := zI_any (xs (i + 1).toNat)
  by_cases hok : 0 ≤ v1 ∧ v1 < M 3
  · skip
    have hq := hI.2.2.1 v1 (by omega) (by omega)
    have hv : -2147483648 ≤ M (16 + v1) ∧ M (16 + v1) ≤ 2147483647 := by omega
    refine lv_aload_n hx hb dL_law_885 rfl (lv_at hl 1 rfl) ?_
    refine lv_aload_n hx hb dL_law_886 rfl (lv_at hl 0 rfl) ?_
    refine lv_iload hx hb dL_law_887 (lv_at hl 4 rfl) ?_
    refine z_iconst hx hb dL_law_889 ?_
    refine z_iadd hx hb dL_law_890 ?_
    refine z_sld hx hb hX hbl hbA hS (by omega) hL e1 dL_law_891 ?_
    refine lv_aload_n hx hb dL_law_892 rfl (lv_at hl 3 rfl) ?_
    refine z_callSW (As := [.ref u, .int (zI v1), .ref o0]) (rest := []) ([] : va_W) (moW mb sz tl cd plm cm h ++ (jrW ct (mb 1) 94 M ++ (jrW ct (mb 2) 94 SP ++ (jrW ct (mb 3) 376 SV ++ (irW ct (mb 4) 150 TX ++ (irW ct (mb 5) 2 NB)))))) hx hb hml hown (fun w h => hts w (inL_133 w h)) hl hE hS hA hP hD (c_L_stretch_ok l D ct ad u a r q b2 nx sz S M TX tl pl ft n1 n2 wd o0 O v1 (by assumption) (by omega) hok hv) gdL_133 rfl k_L_stretch ⟨Nat.le_of_ble_eq_true rfl, Nat.le_of_ble_eq_true rfl⟩ rfl (Nat.le_of_ble_eq_true rfl) hc0 dL_law_893 rfl (fun v w1 H locs hpost hP hD hS => ?_)
    obtain ⟨rfl, rfl⟩ := hpost
    have hP : va_P D vwCl (x8W u a r q ++ (svW ct r b2 nx sz S ++ (sobjW a ++ (gridW ct a M ++ (benchW ct a M ++ (logW ct a M ++ (txtW ct q TX tl pl ft wd n1 n2 ++ (jrW ct o0 1 (up O 0 (M (16 + v1))) ++ (moW mb sz tl cd plm cm h ++ (jrW ct (mb 1) 94 M ++ (jrW ct (mb 2) 94 SP ++ (jrW ct (mb 3) 376 SV ++ (irW ct (mb 4) 150 TX ++ (irW ct (mb 5) 2 NB)))))))))))))) H := hP
    have hD : va_D (fun q : Nat => s.heap.size ≤ q) (x8W u a r q ++ (svW ct r b2 nx sz S ++ (sobjW a ++ (gridW ct a M ++ (benchW ct a M ++ (logW ct a M ++ (txtW ct q TX tl pl ft wd n1 n2 ++ (jrW ct o0 1 (up O 0 (M (16 + v1))) ++ (moW mb sz tl cd plm cm h ++ (jrW ct (mb 1) 94 M ++ (jrW ct (mb 2) 94 SP ++ (jrW ct (mb 3) 376 SV ++ (irW ct (mb 4) 150 TX ++ (irW ct (mb 5) 2 NB)))))))))))))) := hD
    refine W.eq (g2 := F0 m 896 ls [.int (zI 0)]) rfl ?_
    refine lv_istore (lv' := [(5, .int (zI 0)), (0, .ref b), (1, .ref u), (2, .ref (mb 0)), (3, .ref o0), (4, .int (zI i))]) hx hb dL_law_896 hl (by decide) rfl (fun ls hl => ?_)
    refine lv_aload_n hx hb dL_law_898 rfl (lv_at hl 3 rfl) ?_
    refine lv_aload_n hx hb dL_law_899 rfl (lv_at hl 1 rfl) ?_
    refine lv_iload hx hb dL_law_900 (lv_at hl 5 rfl) ?_
    refine z_iconst hx hb dL_law_902 ?_
    refine z_iadd hx hb dL_law_903 ?_
    refine z_sld hx hb hX hbl hbA hS (by omega) hL e1 dL_law_904 ?_
    refine z_callV (C := RX9) (q0 := 0) (ci := 7) (As := [.int (zI v1)]) (rest := []) (x8W u a r q ++ (svW ct r b2 nx sz S ++ (sobjW a ++ (gridW ct a M ++ (benchW ct a M ++ (logW ct a M ++ (txtW ct q TX tl pl ft wd n1 n2 ++ (jrW ct o0 1 (up O 0 (M (16 + v1))))))))))) ([] : va_W) hx hb hml hown (fun w h => hts w (inL_135 w h)) hl hE hS hA (zr0 (x8W u a r q ++ (svW ct r b2 nx sz S ++ (sobjW a ++ (gridW ct a M ++ (benchW ct a M ++ (logW ct a M ++ (txtW ct q TX tl pl ft wd n1 n2 ++ (jrW ct o0 1 (up O 0 (M (16 + v1))))))))))) hP) (zr0D (x8W u a r q ++ (svW ct r b2 nx sz S ++ (sobjW a ++ (gridW ct a M ++ (benchW ct a M ++ (logW ct a M ++ (txtW ct q TX tl pl ft wd n1 n2 ++ (jrW ct o0 1 (up O 0 (M (16 + v1))))))))))) hD) (c_X9_stretch_ok l D ct ad mb M SP SV TX NB sz tl cd plm cm h v1 (by assumption) (by omega) (if_pos hok)) gdL_135 rfl rfl k_X9_stretch ⟨Nat.le_of_ble_eq_true rfl, Nat.le_of_ble_eq_true rfl⟩ rfl rfl rfl rfl (Nat.le_of_ble_eq_true rfl) hc0 dL_law_905 rfl (fun v w1 H locs hpost hP hD hS => ?_)
    obtain ⟨rfl, rfl⟩ := hpost
    have hP := zr0' hP
    have hD := zr0D' hD
    have hP : va_P D vwCl (x8W u a r q ++ (svW ct r b2 nx sz S ++ (sobjW a ++ (gridW ct a M ++ (benchW ct a M ++ (logW ct a M ++ (txtW ct q TX tl pl ft wd n1 n2 ++ (jrW ct o0 1 (up O 0 (M (16 + v1))) ++ (moW mb sz tl (ck_b (0 ≤ v1 ∧ v1 < M 3)) plm cm h ++ (jrW ct (mb 1) 94 M ++ (jrW ct (mb 2) 94 SP ++ (jrW ct (mb 3) 376 SV ++ (irW ct (mb 4) 150 TX ++ (irW ct (mb 5) 2 NB)))))))))))))) H := hP
    have hD : va_D (fun q : Nat => s.heap.size ≤ q) (x8W u a r q ++ (svW ct r b2 nx sz S ++ (sobjW a ++ (gridW ct a M ++ (benchW ct a M ++ (logW ct a M ++ (txtW ct q TX tl pl ft wd n1 n2 ++ (jrW ct o0 1 (up O 0 (M (16 + v1))) ++ (moW mb sz tl (ck_b (0 ≤ v1 ∧ v1 < M 3)) plm cm h ++ (jrW ct (mb 1) 94 M ++ (jrW ct (mb 2) 94 SP ++ (jrW ct (mb 3) 376 SV ++ (irW ct (mb 4) 150 TX ++ (irW ct (mb 5) 2 NB)))))))))))))) := hD
    refine W.eq (g2 := F0 m 908 ls [.int (zI (M (16 + v1)))]) rfl ?_
    refine lv_istore (lv' := [(6, .int (zI (M (16 + v1)))), (5, .int (zI 0)), (0, .ref b), (1, .ref u), (2, .ref (mb 0)), (3, .ref o0), (4, .int (zI i))]) hx hb dL_law_908 hl (by decide) rfl (fun ls hl => ?_)
    refine lv_aload_n hx hb dL_law_910 rfl (lv_at hl 4 rfl) ?_
    refine z_callV (C := RX9) (q0 := 0) (ci := 7) (As := []) (rest := []) (x8W u a r q ++ (svW ct r b2 nx sz S ++ (sobjW a ++ (gridW ct a M ++ (benchW ct a M ++ (logW ct a M ++ (txtW ct q TX tl pl ft wd n1 n2 ++ (jrW ct o0 1 (up O 0 (M (16 + v1))))))))))) ([] : va_W) hx hb hml hown (fun w h => hts w (inL_94 w h)) hl hE hS hA (zr0 (x8W u a r q ++ (svW ct r b2 nx sz S ++ (sobjW a ++ (gridW ct a M ++ (benchW ct a M ++ (logW ct a M ++ (txtW ct q TX tl pl ft wd n1 n2 ++ (jrW ct o0 1 (up O 0 (M (16 + v1))))))))))) hP) (zr0D (x8W u a r q ++ (svW ct r b2 nx sz S ++ (sobjW a ++ (gridW ct a M ++ (benchW ct a M ++ (logW ct a M ++ (txtW ct q TX tl pl ft wd n1 n2 ++ (jrW ct o0 1 (up O 0 (M (16 + v1))))))))))) hD) (c_X9_thrown l D ct ad mb M SP SV TX NB sz tl (ck_b (0 ≤ v1 ∧ v1 < M 3)) plm cm h) gdL_94 rfl rfl k_X9_thrown ⟨Nat.le_of_ble_eq_true rfl, Nat.le_of_ble_eq_true rfl⟩ rfl rfl rfl rfl (Nat.le_of_ble_eq_true rfl) hc0 dL_law_911 rfl (fun v w1 H locs hpost hP hD hS => ?_)
    obtain ⟨rfl, rfl⟩ := hpost
    have hP := zr0' hP
    have hD := zr0D' hD
    have hP : va_P D vwCl (x8W u a r q ++ (svW ct r b2 nx sz S ++ (sobjW a ++ (gridW ct a M ++ (benchW ct a M ++ (logW ct a M ++ (txtW ct q TX tl pl ft wd n1 n2 ++ (jrW ct o0 1 (up O 0 (M (16 + v1))) ++ (moW mb sz tl (ck_b (0 ≤ v1 ∧ v1 < M 3)) plm cm h ++ (jrW ct (mb 1) 94 M ++ (jrW ct (mb 2) 94 SP ++ (jrW ct (mb 3) 376 SV ++ (irW ct (mb 4) 150 TX ++ (irW ct (mb 5) 2 NB)))))))))))))) H := hP
    have hD : va_D (fun q : Nat => s.heap.size ≤ q) (x8W u a r q ++ (svW ct r b2 nx sz S ++ (sobjW a ++ (gridW ct a M ++ (benchW ct a M ++ (logW ct a M ++ (txtW ct q TX tl pl ft wd n1 n2 ++ (jrW ct o0 1 (up O 0 (M (16 + v1))) ++ (moW mb sz tl (ck_b (0 ≤ v1 ∧ v1 < M 3)) plm cm h ++ (jrW ct (mb 1) 94 M ++ (jrW ct (mb 2) 94 SP ++ (jrW ct (mb 3) 376 SV ++ (irW ct (mb 4) 150 TX ++ (irW ct (mb 5) 2 NB)))))))))))))) := hD
    refine W.eq (g2 := F0 m 914 ls [.int (zI (ck_b (0 ≤ v1 ∧ v1 < M 3)))]) rfl ?_
    refine lv_iload hx hb dL_law_914 (lv_at hl 1 rfl) ?_
    refine z_canI (show 0 = ck_b (0 ≤ v1 ∧ v1 < M 3) from (if_pos hok).symm) ?_
    refine z_icmp_eqS (tgt := 921) hx hb dL_law_916 (by decide) ?_
    refine lv_iload hx hb dL_law_921 (lv_at hl 1 rfl) ?_
    refine z_if_ne (tgt := 938) hx hb dL_law_923 (by decide) (by omega) (fun hc_923 => ?_) (fun hc_923 => ?_)
    · have hc_923 := hc_923
      exfalso; first | omega | (revert hc_923; unfold ck1; split <;> omega)
    · have hc_923 := hc_923
      refine lv_aload_n hx hb dL_law_926 rfl (lv_at hl 5 rfl) ?_
      refine z_iconst hx hb dL_law_927 ?_
      refine z_lald (g := (up O 0 (M (16 + v1)))) (v := M (16 + v1)) hx hb hK hP 60 rfl (by decide) (by omega) (show (up O 0 (M (16 + v1))) 0 = M (16 + v1) from by rw [up_s]) dL_law_928 ?_
      refine lv_iload hx hb dL_law_929 (lv_at hl 0 rfl) ?_
      refine z_i2l hx hb dL_law_931 (by omega) ?_
      refine z_lcmp_eqS (tgt := 938) hx hb dL_law_932 dL_law_933 (by decide) ?_
      refine lv_goto (tgt := 1590) hx hb dL_law_938 (by decide) ?_
      refine W.widen (k := cells + 1) (n := slots + 6) (Nat.le_add_right _ _) (Nat.le_add_right _ _) ?_
      exact ih _ _ _ ⟨nx, sz, S, M, TX, tl, pl, ft, n1, n2, wd, (up O 0 (M (16 + v1))), SP, SV, NB, (ck_b (0 ≤ v1 ∧ v1 < M 3)), plm, cm, h, hR, hP, hD, hS, lv_sub hl [2, 3, 4, 5, 6] rfl⟩
  · skip
    refine lv_aload_n hx hb dL_law_885 rfl (lv_at hl 1 rfl) ?_
    refine lv_aload_n hx hb dL_law_886 rfl (lv_at hl 0 rfl) ?_
    refine lv_iload hx hb dL_law_887 (lv_at hl 4 rfl) ?_
    refine z_iconst hx hb dL_law_889 ?_
    refine z_iadd hx hb dL_law_890 ?_
    refine z_sld hx hb hX hbl hbA hS (by omega) hL e1 dL_law_891 ?_
    refine lv_aload_n hx hb dL_law_892 rfl (lv_at hl 3 rfl) ?_
    refine z_callSW (As := [.ref u, .int (zI v1), .ref o0]) (rest := []) ([] : va_W) (moW mb sz tl cd plm cm h ++ (jrW ct (mb 1) 94 M ++ (jrW ct (mb 2) 94 SP ++ (jrW ct (mb 3) 376 SV ++ (irW ct (mb 4) 150 TX ++ (irW ct (mb 5) 2 NB)))))) hx hb hml hown (fun w h => hts w (inL_133 w h)) hl hE hS hA hP hD (c_L_stretch_no l D ct ad u a r q b2 nx sz S M TX tl pl ft n1 n2 wd o0 O v1 (by assumption) hst (by omega) hok) gdL_133 rfl k_L_stretch ⟨Nat.le_of_ble_eq_true rfl, Nat.le_of_ble_eq_true rfl⟩ rfl (Nat.le_of_ble_eq_true rfl) hc1 dL_law_893 rfl (fun v w1 H locs hpost hP hD hS => ?_)
    obtain ⟨rfl, rfl⟩ := hpost
    have hP : va_P D vwCl (x8W u a r q ++ (svW ct r b2 nx sz S ++ (sobjW a ++ (gridW ct a M ++ (benchW ct a M ++ (logW ct a M ++ (txtW ct q TX tl pl ft wd n1 n2 ++ (jrW ct o0 1 O ++ (moW mb sz tl cd plm cm h ++ (jrW ct (mb 1) 94 M ++ (jrW ct (mb 2) 94 SP ++ (jrW ct (mb 3) 376 SV ++ (irW ct (mb 4) 150 TX ++ (irW ct (mb 5) 2 NB)))))))))))))) H := hP
    have hD : va_D (fun q : Nat => s.heap.size ≤ q) (x8W u a r q ++ (svW ct r b2 nx sz S ++ (sobjW a ++ (gridW ct a M ++ (benchW ct a M ++ (logW ct a M ++ (txtW ct q TX tl pl ft wd n1 n2 ++ (jrW ct o0 1 O ++ (moW mb sz tl cd plm cm h ++ (jrW ct (mb 1) 94 M ++ (jrW ct (mb 2) 94 SP ++ (jrW ct (mb 3) 376 SV ++ (irW ct (mb 4) 150 TX ++ (irW ct (mb 5) 2 NB)))))))))))))) := hD
    refine W.eq (g2 := F0 m 896 ls [.int (zI 1)]) rfl ?_
    refine lv_istore (lv' := [(5, .int (zI 1)), (0, .ref b), (1, .ref u), (2, .ref (mb 0)), (3, .ref o0), (4, .int (zI i))]) hx hb dL_law_896 hl (by decide) rfl (fun ls hl => ?_)
    refine lv_aload_n hx hb dL_law_898 rfl (lv_at hl 3 rfl) ?_
    refine lv_aload_n hx hb dL_law_899 rfl (lv_at hl 1 rfl) ?_
    refine lv_iload hx hb dL_law_900 (lv_at hl 5 rfl) ?_
    refine z_iconst hx hb dL_law_902 ?_
    refine z_iadd hx hb dL_law_903 ?_
    refine z_sld hx hb hX hbl hbA hS (by omega) hL e1 dL_law_904 ?_
    refine z_callV (C := RX9) (q0 := 0) (ci := 7) (As := [.int (zI v1)]) (rest := []) (x8W u a r q ++ (svW ct r b2 nx sz S ++ (sobjW a ++ (gridW ct a M ++ (benchW ct a M ++ (logW ct a M ++ (txtW ct q TX tl pl ft wd n1 n2 ++ (jrW ct o0 1 O)))))))) ([] : va_W) hx hb hml hown (fun w h => hts w (inL_135 w h)) hl hE hS hA (zr0 (x8W u a r q ++ (svW ct r b2 nx sz S ++ (sobjW a ++ (gridW ct a M ++ (benchW ct a M ++ (logW ct a M ++ (txtW ct q TX tl pl ft wd n1 n2 ++ (jrW ct o0 1 O)))))))) hP) (zr0D (x8W u a r q ++ (svW ct r b2 nx sz S ++ (sobjW a ++ (gridW ct a M ++ (benchW ct a M ++ (logW ct a M ++ (txtW ct q TX tl pl ft wd n1 n2 ++ (jrW ct o0 1 O)))))))) hD) (c_X9_stretch_no l D ct ad mb M SP SV TX NB sz tl cd plm cm h v1 (by assumption) (by omega) (by unfold ck_b; rw [if_neg hok]; omega)) gdL_135 rfl rfl k_X9_stretch ⟨Nat.le_of_ble_eq_true rfl, Nat.le_of_ble_eq_true rfl⟩ rfl rfl rfl rfl (Nat.le_of_ble_eq_true rfl) hc1 dL_law_905 rfl (fun v w1 H locs hpost hP hD hS => ?_)
    obtain ⟨rfl, rfl⟩ := hpost
    have hP := zr0' hP
    have hD := zr0D' hD
    have hP : va_P D vwCl (x8W u a r q ++ (svW ct r b2 nx sz S ++ (sobjW a ++ (gridW ct a M ++ (benchW ct a M ++ (logW ct a M ++ (txtW ct q TX tl pl ft wd n1 n2 ++ (jrW ct o0 1 O ++ (moW mb sz tl (ck_b (0 ≤ v1 ∧ v1 < M 3)) plm cm h ++ (jrW ct (mb 1) 94 M ++ (jrW ct (mb 2) 94 SP ++ (jrW ct (mb 3) 376 SV ++ (irW ct (mb 4) 150 TX ++ (irW ct (mb 5) 2 NB)))))))))))))) H := hP
    have hD : va_D (fun q : Nat => s.heap.size ≤ q) (x8W u a r q ++ (svW ct r b2 nx sz S ++ (sobjW a ++ (gridW ct a M ++ (benchW ct a M ++ (logW ct a M ++ (txtW ct q TX tl pl ft wd n1 n2 ++ (jrW ct o0 1 O ++ (moW mb sz tl (ck_b (0 ≤ v1 ∧ v1 < M 3)) plm cm h ++ (jrW ct (mb 1) 94 M ++ (jrW ct (mb 2) 94 SP ++ (jrW ct (mb 3) 376 SV ++ (irW ct (mb 4) 150 TX ++ (irW ct (mb 5) 2 NB)))))))))))))) := hD
    refine W.eq (g2 := F0 m 908 ls [.int (zI 0)]) rfl ?_
    refine lv_istore (lv' := [(6, .int (zI 0)), (5, .int (zI 1)), (0, .ref b), (1, .ref u), (2, .ref (mb 0)), (3, .ref o0), (4, .int (zI i))]) hx hb dL_law_908 hl (by decide) rfl (fun ls hl => ?_)
    refine lv_aload_n hx hb dL_law_910 rfl (lv_at hl 4 rfl) ?_
    refine z_callV (C := RX9) (q0 := 0) (ci := 7) (As := []) (rest := []) (x8W u a r q ++ (svW ct r b2 nx sz S ++ (sobjW a ++ (gridW ct a M ++ (benchW ct a M ++ (logW ct a M ++ (txtW ct q TX tl pl ft wd n1 n2 ++ (jrW ct o0 1 O)))))))) ([] : va_W) hx hb hml hown (fun w h => hts w (inL_94 w h)) hl hE hS hA (zr0 (x8W u a r q ++ (svW ct r b2 nx sz S ++ (sobjW a ++ (gridW ct a M ++ (benchW ct a M ++ (logW ct a M ++ (txtW ct q TX tl pl ft wd n1 n2 ++ (jrW ct o0 1 O)))))))) hP) (zr0D (x8W u a r q ++ (svW ct r b2 nx sz S ++ (sobjW a ++ (gridW ct a M ++ (benchW ct a M ++ (logW ct a M ++ (txtW ct q TX tl pl ft wd n1 n2 ++ (jrW ct o0 1 O)))))))) hD) (c_X9_thrown l D ct ad mb M SP SV TX NB sz tl (ck_b (0 ≤ v1 ∧ v1 < M 3)) plm cm h) gdL_94 rfl rfl k_X9_thrown ⟨Nat.le_of_ble_eq_true rfl, Nat.le_of_ble_eq_true rfl⟩ rfl rfl rfl rfl (Nat.le_of_ble_eq_true rfl) hc1 dL_law_911 rfl (fun v w1 H locs hpost hP hD hS => ?_)
    obtain ⟨rfl, rfl⟩ := hpost
    have hP := zr0' hP
    have hD := zr0D' hD
    have hP : va_P D vwCl (x8W u a r q ++ (svW ct r b2 nx sz S ++ (sobjW a ++ (gridW ct a M ++ (benchW ct a M ++ (logW ct a M ++ (txtW ct q TX tl pl ft wd n1 n2 ++ (jrW ct o0 1 O ++ (moW mb sz tl (ck_b (0 ≤ v1 ∧ v1 < M 3)) plm cm h ++ (jrW ct (mb 1) 94 M ++ (jrW ct (mb 2) 94 SP ++ (jrW ct (mb 3) 376 SV ++ (irW ct (mb 4) 150 TX ++ (irW ct (mb 5) 2 NB)))))))))))))) H := hP
    have hD : va_D (fun q : Nat => s.heap.size ≤ q) (x8W u a r q ++ (svW ct r b2 nx sz S ++ (sobjW a ++ (gridW ct a M ++ (benchW ct a M ++ (logW ct a M ++ (txtW ct q TX tl pl ft wd n1 n2 ++ (jrW ct o0 1 O ++ (moW mb sz tl (ck_b (0 ≤ v1 ∧ v1 < M 3)) plm cm h ++ (jrW ct (mb 1) 94 M ++ (jrW ct (mb 2) 94 SP ++ (jrW ct (mb 3) 376 SV ++ (irW ct (mb 4) 150 TX ++ (irW ct (mb 5) 2 NB)))))))))))))) := hD
    refine W.eq (g2 := F0 m 914 ls [.int (zI (ck_b (0 ≤ v1 ∧ v1 < M 3)))]) rfl ?_
    refine lv_iload hx hb dL_law_914 (lv_at hl 1 rfl) ?_
    refine z_canI (show 1 = ck_b (0 ≤ v1 ∧ v1 < M 3) from (if_neg hok).symm) ?_
    refine z_icmp_eqS (tgt := 921) hx hb dL_law_916 (by decide) ?_
    refine lv_iload hx hb dL_law_921 (lv_at hl 1 rfl) ?_
    refine z_if_ne (tgt := 938) hx hb dL_law_923 (by decide) (by omega) (fun hc_923 => ?_) (fun hc_923 => ?_)
    · have hc_923 := hc_923
      refine lv_goto (tgt := 1590) hx hb dL_law_938 (by decide) ?_
      exact ih _ _ _ ⟨nx, sz, S, M, TX, tl, pl, ft, n1, n2, wd, O, SP, SV, NB, (ck_b (0 ≤ v1 ∧ v1 < M 3)), plm, cm, h, hR, hP, hD, hS, lv_sub hl [2, 3, 4, 5, 6] rfl⟩
    · have hc_923 := hc_923
      exfalso; first | omega | (revert hc_923; unfold ck1; split <;> omega)
set_option maxHeartbeats 4000000 in
set_option maxRecDepth 100000 in
theorem law_c13 (p : Program) (l : Launch) (e : Env) (s : State) (m : MethodId) (below : List Frame) (meth : Method) (c : Code) (D : va_G) (ct ad : Nat → Nat) (b L : Nat) (xs : Nat → Int32) (u : Nat) (a r q : Nat → Nat) (b2 : Nat → Nat → Nat) (o0 : Nat) (mb : Nat → Nat) (hC : lwC p l s m meth c D ct ad b L xs) (i : Int) (hi : 0 ≤ i ∧ i + 4 ≤ (L : Int)) (cells slots : Nat) (hcap : cells + 1 ≤ 601024 ∧ slots + 6 ≤ 7293034) (ih : ∀ (H : Heap) (locs : List Loc) (ls : Array Slot), lwI s D ct b u a r q b2 o0 mb i H locs ls → W p l e room_1 s m #[Value.ref b] below meth c H locs (cells + 1) (slots + 6) (lw_Z below #[Value.ref b] s) (F0 m 1590 ls [])) (H : Heap) (locs : List Loc) (ls : Array Slot) (hI0 : lwI s D ct b u a r q b2 o0 mb i H locs ls) : W p l e room_1 s m #[Value.ref b] below meth c H locs cells slots (lw_Z below #[Value.ref b] s) (F0 m 941 ls []) := by
  obtain ⟨hx, hb, hr, hml, hown, hts, hX, hbl, hlocks, hE, hst, hL⟩ := hC
  obtain ⟨nx, sz, S, M, TX, tl, pl, ft, n1, n2, wd, O, SP, SV, NB, cd, plm, cm, h, hR, hP, hD, hS, hl⟩ := hI0
  have hA : ∀ q : Nat, s.heap.size ≤ q → (fun q : Nat => s.heap.size ≤ q) q := fun _ h => h
  have hbA : ¬ (fun q : Nat => s.heap.size ≤ q) b := Nat.not_le.mpr hbl
  have hK := hE.1
  have hc0 : cells ≤ room_1.cells ∧ slots ≤ room_1.slots := by show cells ≤ 601024 ∧ slots ≤ 7293034; omega
  have hc1 : cells + 1 ≤ room_1.cells ∧ slots + 6 ≤ room_1.slots := hcap
  have hP : va_P D vwCl (x8W u a r q ++ (svW ct r b2 nx sz S ++ (sobjW a ++ (gridW ct a M ++ (benchW ct a M ++ (logW ct a M ++ (txtW ct q TX tl pl ft wd n1 n2 ++ (jrW ct o0 1 O ++ (moW mb sz tl cd plm cm h ++ (jrW ct (mb 1) 94 M ++ (jrW ct (mb 2) 94 SP ++ (jrW ct (mb 3) 376 SV ++ (irW ct (mb 4) 150 TX ++ (irW ct (mb 5) 2 NB)))))))))))))) H := hP
  have hD : va_D (fun q : Nat => s.heap.size ≤ q) (x8W u a r q ++ (svW ct r b2 nx sz S ++ (sobjW a ++ (gridW ct a M ++ (benchW ct a M ++ (logW ct a M ++ (txtW ct q TX tl pl ft wd n1 n2 ++ (jrW ct o0 1 O ++ (moW mb sz tl cd plm cm h ++ (jrW ct (mb 1) 94 M ++ (jrW ct (mb 2) 94 SP ++ (jrW ct (mb 3) 376 SV ++ (irW ct (mb 4) 150 TX ++ (irW ct (mb 5) 2 NB)))))))))))))) := hD
  have hs := hR.1
  have ht := hR.2.1
  have hI := hs.1
  have hB := hs.2.1
  have ha := hs.2.2
  have i3 := hI.1
  have i4 := hI.2.1
  have j0 := hB.1
  have j1 := hB.2.1
  have j2 := hB.2.2.1
  have j4 := hB.2.2.2.2
  have t1 := ht.1
  have hn := hR.2.2.1
  have hsz := hR.2.2.2.1
  have hsc := hR.2.2.2.1
  obtain ⟨v1, e1, r1⟩ := zI_any (xs (i + 1).toNat)
  by_cases hok : ck_shelf v1 = 0
  · skip
    have hk : 0 ≤ v1 ∧ v1 ≤ 4 := by revert hok; unfold ck_shelf; (repeat' split) <;> intro z <;> omega
    have hq := hB.2.2.2.1 v1 (by omega) (by omega)
    have hv : -2147483648 ≤ M (49 + v1) ∧ M (49 + v1) ≤ 2147483647 := by omega
    refine lv_aload_n hx hb dL_law_941 rfl (lv_at hl 1 rfl) ?_
    refine lv_aload_n hx hb dL_law_942 rfl (lv_at hl 0 rfl) ?_
    refine lv_iload hx hb dL_law_943 (lv_at hl 4 rfl) ?_
    refine z_iconst hx hb dL_law_945 ?_
    refine z_iadd hx hb dL_law_946 ?_
    refine z_sld hx hb hX hbl hbA hS (by omega) hL e1 dL_law_947 ?_
    refine lv_aload_n hx hb dL_law_948 rfl (lv_at hl 3 rfl) ?_
    refine z_callSW (As := [.ref u, .int (zI v1), .ref o0]) (rest := []) ([] : va_W) (moW mb sz tl cd plm cm h ++ (jrW ct (mb 1) 94 M ++ (jrW ct (mb 2) 94 SP ++ (jrW ct (mb 3) 376 SV ++ (irW ct (mb 4) 150 TX ++ (irW ct (mb 5) 2 NB)))))) hx hb hml hown (fun w h => hts w (inL_136 w h)) hl hE hS hA hP hD (c_L_shelf_ok l D ct ad u a r q b2 nx sz S M TX tl pl ft n1 n2 wd o0 O v1 (by assumption) (by omega) hok hv) gdL_136 rfl k_L_shelf ⟨Nat.le_of_ble_eq_true rfl, Nat.le_of_ble_eq_true rfl⟩ rfl (Nat.le_of_ble_eq_true rfl) hc0 dL_law_949 rfl (fun v w1 H locs hpost hP hD hS => ?_)
    obtain ⟨rfl, rfl⟩ := hpost
    have hP : va_P D vwCl (x8W u a r q ++ (svW ct r b2 nx sz S ++ (sobjW a ++ (gridW ct a M ++ (benchW ct a M ++ (logW ct a M ++ (txtW ct q TX tl pl ft wd n1 n2 ++ (jrW ct o0 1 (up O 0 (M (49 + v1))) ++ (moW mb sz tl cd plm cm h ++ (jrW ct (mb 1) 94 M ++ (jrW ct (mb 2) 94 SP ++ (jrW ct (mb 3) 376 SV ++ (irW ct (mb 4) 150 TX ++ (irW ct (mb 5) 2 NB)))))))))))))) H := hP
    have hD : va_D (fun q : Nat => s.heap.size ≤ q) (x8W u a r q ++ (svW ct r b2 nx sz S ++ (sobjW a ++ (gridW ct a M ++ (benchW ct a M ++ (logW ct a M ++ (txtW ct q TX tl pl ft wd n1 n2 ++ (jrW ct o0 1 (up O 0 (M (49 + v1))) ++ (moW mb sz tl cd plm cm h ++ (jrW ct (mb 1) 94 M ++ (jrW ct (mb 2) 94 SP ++ (jrW ct (mb 3) 376 SV ++ (irW ct (mb 4) 150 TX ++ (irW ct (mb 5) 2 NB)))))))))))))) := hD
    refine W.eq (g2 := F0 m 952 ls [.int (zI 0)]) rfl ?_
    refine lv_istore (lv' := [(5, .int (zI 0)), (0, .ref b), (1, .ref u), (2, .ref (mb 0)), (3, .ref o0), (4, .int (zI i))]) hx hb dL_law_952 hl (by decide) rfl (fun ls hl => ?_)
    refine lv_aload_n hx hb dL_law_954 rfl (lv_at hl 3 rfl) ?_
    refine lv_aload_n hx hb dL_law_955 rfl (lv_at hl 1 rfl) ?_
    refine lv_iload hx hb dL_law_956 (lv_at hl 5 rfl) ?_
    refine z_iconst hx hb dL_law_958 ?_
    refine z_iadd hx hb dL_law_959 ?_
    refine z_sld hx hb hX hbl hbA hS (by omega) hL e1 dL_law_960 ?_
    refine z_callV (C := RX9) (q0 := 0) (ci := 7) (As := [.int (zI v1)]) (rest := []) (x8W u a r q ++ (svW ct r b2 nx sz S ++ (sobjW a ++ (gridW ct a M ++ (benchW ct a M ++ (logW ct a M ++ (txtW ct q TX tl pl ft wd n1 n2 ++ (jrW ct o0 1 (up O 0 (M (49 + v1))))))))))) ([] : va_W) hx hb hml hown (fun w h => hts w (inL_138 w h)) hl hE hS hA (zr0 (x8W u a r q ++ (svW ct r b2 nx sz S ++ (sobjW a ++ (gridW ct a M ++ (benchW ct a M ++ (logW ct a M ++ (txtW ct q TX tl pl ft wd n1 n2 ++ (jrW ct o0 1 (up O 0 (M (49 + v1))))))))))) hP) (zr0D (x8W u a r q ++ (svW ct r b2 nx sz S ++ (sobjW a ++ (gridW ct a M ++ (benchW ct a M ++ (logW ct a M ++ (txtW ct q TX tl pl ft wd n1 n2 ++ (jrW ct o0 1 (up O 0 (M (49 + v1))))))))))) hD) (c_X9_shelf_ok l D ct ad mb M SP SV TX NB sz tl cd plm cm h v1 (by omega) (hok)) gdL_138 rfl rfl k_X9_shelf ⟨Nat.le_of_ble_eq_true rfl, Nat.le_of_ble_eq_true rfl⟩ rfl rfl rfl rfl (Nat.le_of_ble_eq_true rfl) hc0 dL_law_961 rfl (fun v w1 H locs hpost hP hD hS => ?_)
    obtain ⟨rfl, rfl⟩ := hpost
    have hP := zr0' hP
    have hD := zr0D' hD
    have hP : va_P D vwCl (x8W u a r q ++ (svW ct r b2 nx sz S ++ (sobjW a ++ (gridW ct a M ++ (benchW ct a M ++ (logW ct a M ++ (txtW ct q TX tl pl ft wd n1 n2 ++ (jrW ct o0 1 (up O 0 (M (49 + v1))) ++ (moW mb sz tl (ck_shelf v1) plm cm h ++ (jrW ct (mb 1) 94 M ++ (jrW ct (mb 2) 94 SP ++ (jrW ct (mb 3) 376 SV ++ (irW ct (mb 4) 150 TX ++ (irW ct (mb 5) 2 NB)))))))))))))) H := hP
    have hD : va_D (fun q : Nat => s.heap.size ≤ q) (x8W u a r q ++ (svW ct r b2 nx sz S ++ (sobjW a ++ (gridW ct a M ++ (benchW ct a M ++ (logW ct a M ++ (txtW ct q TX tl pl ft wd n1 n2 ++ (jrW ct o0 1 (up O 0 (M (49 + v1))) ++ (moW mb sz tl (ck_shelf v1) plm cm h ++ (jrW ct (mb 1) 94 M ++ (jrW ct (mb 2) 94 SP ++ (jrW ct (mb 3) 376 SV ++ (irW ct (mb 4) 150 TX ++ (irW ct (mb 5) 2 NB)))))))))))))) := hD
    refine W.eq (g2 := F0 m 964 ls [.int (zI (M (49 + v1)))]) rfl ?_
    refine lv_istore (lv' := [(6, .int (zI (M (49 + v1)))), (5, .int (zI 0)), (0, .ref b), (1, .ref u), (2, .ref (mb 0)), (3, .ref o0), (4, .int (zI i))]) hx hb dL_law_964 hl (by decide) rfl (fun ls hl => ?_)
    refine lv_aload_n hx hb dL_law_966 rfl (lv_at hl 4 rfl) ?_
    refine z_callV (C := RX9) (q0 := 0) (ci := 7) (As := []) (rest := []) (x8W u a r q ++ (svW ct r b2 nx sz S ++ (sobjW a ++ (gridW ct a M ++ (benchW ct a M ++ (logW ct a M ++ (txtW ct q TX tl pl ft wd n1 n2 ++ (jrW ct o0 1 (up O 0 (M (49 + v1))))))))))) ([] : va_W) hx hb hml hown (fun w h => hts w (inL_94 w h)) hl hE hS hA (zr0 (x8W u a r q ++ (svW ct r b2 nx sz S ++ (sobjW a ++ (gridW ct a M ++ (benchW ct a M ++ (logW ct a M ++ (txtW ct q TX tl pl ft wd n1 n2 ++ (jrW ct o0 1 (up O 0 (M (49 + v1))))))))))) hP) (zr0D (x8W u a r q ++ (svW ct r b2 nx sz S ++ (sobjW a ++ (gridW ct a M ++ (benchW ct a M ++ (logW ct a M ++ (txtW ct q TX tl pl ft wd n1 n2 ++ (jrW ct o0 1 (up O 0 (M (49 + v1))))))))))) hD) (c_X9_thrown l D ct ad mb M SP SV TX NB sz tl (ck_shelf v1) plm cm h) gdL_94 rfl rfl k_X9_thrown ⟨Nat.le_of_ble_eq_true rfl, Nat.le_of_ble_eq_true rfl⟩ rfl rfl rfl rfl (Nat.le_of_ble_eq_true rfl) hc0 dL_law_967 rfl (fun v w1 H locs hpost hP hD hS => ?_)
    obtain ⟨rfl, rfl⟩ := hpost
    have hP := zr0' hP
    have hD := zr0D' hD
    have hP : va_P D vwCl (x8W u a r q ++ (svW ct r b2 nx sz S ++ (sobjW a ++ (gridW ct a M ++ (benchW ct a M ++ (logW ct a M ++ (txtW ct q TX tl pl ft wd n1 n2 ++ (jrW ct o0 1 (up O 0 (M (49 + v1))) ++ (moW mb sz tl (ck_shelf v1) plm cm h ++ (jrW ct (mb 1) 94 M ++ (jrW ct (mb 2) 94 SP ++ (jrW ct (mb 3) 376 SV ++ (irW ct (mb 4) 150 TX ++ (irW ct (mb 5) 2 NB)))))))))))))) H := hP
    have hD : va_D (fun q : Nat => s.heap.size ≤ q) (x8W u a r q ++ (svW ct r b2 nx sz S ++ (sobjW a ++ (gridW ct a M ++ (benchW ct a M ++ (logW ct a M ++ (txtW ct q TX tl pl ft wd n1 n2 ++ (jrW ct o0 1 (up O 0 (M (49 + v1))) ++ (moW mb sz tl (ck_shelf v1) plm cm h ++ (jrW ct (mb 1) 94 M ++ (jrW ct (mb 2) 94 SP ++ (jrW ct (mb 3) 376 SV ++ (irW ct (mb 4) 150 TX ++ (irW ct (mb 5) 2 NB)))))))))))))) := hD
    refine W.eq (g2 := F0 m 970 ls [.int (zI (ck_shelf v1))]) rfl ?_
    refine lv_iload hx hb dL_law_970 (lv_at hl 1 rfl) ?_
    refine z_canI (show 0 = ck_shelf v1 from hok.symm) ?_
    refine z_icmp_eqS (tgt := 977) hx hb dL_law_972 (by decide) ?_
    refine lv_iload hx hb dL_law_977 (lv_at hl 1 rfl) ?_
    refine z_if_ne (tgt := 994) hx hb dL_law_979 (by decide) (by omega) (fun hc_979 => ?_) (fun hc_979 => ?_)
    · have hc_979 := hc_979
      exfalso; first | omega | (revert hc_979; unfold ck1; split <;> omega)
    · have hc_979 := hc_979
      refine lv_aload_n hx hb dL_law_982 rfl (lv_at hl 5 rfl) ?_
      refine z_iconst hx hb dL_law_983 ?_
      refine z_lald (g := (up O 0 (M (49 + v1)))) (v := M (49 + v1)) hx hb hK hP 60 rfl (by decide) (by omega) (show (up O 0 (M (49 + v1))) 0 = M (49 + v1) from by rw [up_s]) dL_law_984 ?_
      refine lv_iload hx hb dL_law_985 (lv_at hl 0 rfl) ?_
      refine z_i2l hx hb dL_law_987 (by omega) ?_
      refine z_lcmp_eqS (tgt := 994) hx hb dL_law_988 dL_law_989 (by decide) ?_
      refine lv_goto (tgt := 1590) hx hb dL_law_994 (by decide) ?_
      refine W.widen (k := cells + 1) (n := slots + 6) (Nat.le_add_right _ _) (Nat.le_add_right _ _) ?_
      exact ih _ _ _ ⟨nx, sz, S, M, TX, tl, pl, ft, n1, n2, wd, (up O 0 (M (49 + v1))), SP, SV, NB, (ck_shelf v1), plm, cm, h, hR, hP, hD, hS, lv_sub hl [2, 3, 4, 5, 6] rfl⟩
  · skip
    have hcc : (1 ≤ ck_shelf v1 ∧ ck_shelf v1 ≤ 3) := by
      have q9 := hok
      revert q9
      unfold ck_shelf
      (repeat' split) <;> intro q9 <;> omega
    refine lv_aload_n hx hb dL_law_941 rfl (lv_at hl 1 rfl) ?_
    refine lv_aload_n hx hb dL_law_942 rfl (lv_at hl 0 rfl) ?_
    refine lv_iload hx hb dL_law_943 (lv_at hl 4 rfl) ?_
    refine z_iconst hx hb dL_law_945 ?_
    refine z_iadd hx hb dL_law_946 ?_
    refine z_sld hx hb hX hbl hbA hS (by omega) hL e1 dL_law_947 ?_
    refine lv_aload_n hx hb dL_law_948 rfl (lv_at hl 3 rfl) ?_
    refine z_callSW (As := [.ref u, .int (zI v1), .ref o0]) (rest := []) ([] : va_W) (moW mb sz tl cd plm cm h ++ (jrW ct (mb 1) 94 M ++ (jrW ct (mb 2) 94 SP ++ (jrW ct (mb 3) 376 SV ++ (irW ct (mb 4) 150 TX ++ (irW ct (mb 5) 2 NB)))))) hx hb hml hown (fun w h => hts w (inL_136 w h)) hl hE hS hA hP hD (c_L_shelf_no l D ct ad u a r q b2 nx sz S M TX tl pl ft n1 n2 wd o0 O v1 (by assumption) hst (by omega) hok) gdL_136 rfl k_L_shelf ⟨Nat.le_of_ble_eq_true rfl, Nat.le_of_ble_eq_true rfl⟩ rfl (Nat.le_of_ble_eq_true rfl) hc1 dL_law_949 rfl (fun v w1 H locs hpost hP hD hS => ?_)
    obtain ⟨rfl, rfl⟩ := hpost
    have hP : va_P D vwCl (x8W u a r q ++ (svW ct r b2 nx sz S ++ (sobjW a ++ (gridW ct a M ++ (benchW ct a M ++ (logW ct a M ++ (txtW ct q TX tl pl ft wd n1 n2 ++ (jrW ct o0 1 O ++ (moW mb sz tl cd plm cm h ++ (jrW ct (mb 1) 94 M ++ (jrW ct (mb 2) 94 SP ++ (jrW ct (mb 3) 376 SV ++ (irW ct (mb 4) 150 TX ++ (irW ct (mb 5) 2 NB)))))))))))))) H := hP
    have hD : va_D (fun q : Nat => s.heap.size ≤ q) (x8W u a r q ++ (svW ct r b2 nx sz S ++ (sobjW a ++ (gridW ct a M ++ (benchW ct a M ++ (logW ct a M ++ (txtW ct q TX tl pl ft wd n1 n2 ++ (jrW ct o0 1 O ++ (moW mb sz tl cd plm cm h ++ (jrW ct (mb 1) 94 M ++ (jrW ct (mb 2) 94 SP ++ (jrW ct (mb 3) 376 SV ++ (irW ct (mb 4) 150 TX ++ (irW ct (mb 5) 2 NB)))))))))))))) := hD
    refine W.eq (g2 := F0 m 952 ls [.int (zI (ck_shelf v1))]) rfl ?_
    refine lv_istore (lv' := [(5, .int (zI (ck_shelf v1))), (0, .ref b), (1, .ref u), (2, .ref (mb 0)), (3, .ref o0), (4, .int (zI i))]) hx hb dL_law_952 hl (by decide) rfl (fun ls hl => ?_)
    refine lv_aload_n hx hb dL_law_954 rfl (lv_at hl 3 rfl) ?_
    refine lv_aload_n hx hb dL_law_955 rfl (lv_at hl 1 rfl) ?_
    refine lv_iload hx hb dL_law_956 (lv_at hl 5 rfl) ?_
    refine z_iconst hx hb dL_law_958 ?_
    refine z_iadd hx hb dL_law_959 ?_
    refine z_sld hx hb hX hbl hbA hS (by omega) hL e1 dL_law_960 ?_
    refine z_callV (C := RX9) (q0 := 0) (ci := 7) (As := [.int (zI v1)]) (rest := []) (x8W u a r q ++ (svW ct r b2 nx sz S ++ (sobjW a ++ (gridW ct a M ++ (benchW ct a M ++ (logW ct a M ++ (txtW ct q TX tl pl ft wd n1 n2 ++ (jrW ct o0 1 O)))))))) ([] : va_W) hx hb hml hown (fun w h => hts w (inL_138 w h)) hl hE hS hA (zr0 (x8W u a r q ++ (svW ct r b2 nx sz S ++ (sobjW a ++ (gridW ct a M ++ (benchW ct a M ++ (logW ct a M ++ (txtW ct q TX tl pl ft wd n1 n2 ++ (jrW ct o0 1 O)))))))) hP) (zr0D (x8W u a r q ++ (svW ct r b2 nx sz S ++ (sobjW a ++ (gridW ct a M ++ (benchW ct a M ++ (logW ct a M ++ (txtW ct q TX tl pl ft wd n1 n2 ++ (jrW ct o0 1 O)))))))) hD) (c_X9_shelf_no l D ct ad mb M SP SV TX NB sz tl cd plm cm h v1 (by omega) (hok)) gdL_138 rfl rfl k_X9_shelf ⟨Nat.le_of_ble_eq_true rfl, Nat.le_of_ble_eq_true rfl⟩ rfl rfl rfl rfl (Nat.le_of_ble_eq_true rfl) hc1 dL_law_961 rfl (fun v w1 H locs hpost hP hD hS => ?_)
    obtain ⟨rfl, rfl⟩ := hpost
    have hP := zr0' hP
    have hD := zr0D' hD
    have hP : va_P D vwCl (x8W u a r q ++ (svW ct r b2 nx sz S ++ (sobjW a ++ (gridW ct a M ++ (benchW ct a M ++ (logW ct a M ++ (txtW ct q TX tl pl ft wd n1 n2 ++ (jrW ct o0 1 O ++ (moW mb sz tl (ck_shelf v1) plm cm h ++ (jrW ct (mb 1) 94 M ++ (jrW ct (mb 2) 94 SP ++ (jrW ct (mb 3) 376 SV ++ (irW ct (mb 4) 150 TX ++ (irW ct (mb 5) 2 NB)))))))))))))) H := hP
    have hD : va_D (fun q : Nat => s.heap.size ≤ q) (x8W u a r q ++ (svW ct r b2 nx sz S ++ (sobjW a ++ (gridW ct a M ++ (benchW ct a M ++ (logW ct a M ++ (txtW ct q TX tl pl ft wd n1 n2 ++ (jrW ct o0 1 O ++ (moW mb sz tl (ck_shelf v1) plm cm h ++ (jrW ct (mb 1) 94 M ++ (jrW ct (mb 2) 94 SP ++ (jrW ct (mb 3) 376 SV ++ (irW ct (mb 4) 150 TX ++ (irW ct (mb 5) 2 NB)))))))))))))) := hD
    refine W.eq (g2 := F0 m 964 ls [.int (zI 0)]) rfl ?_
    refine lv_istore (lv' := [(6, .int (zI 0)), (5, .int (zI (ck_shelf v1))), (0, .ref b), (1, .ref u), (2, .ref (mb 0)), (3, .ref o0), (4, .int (zI i))]) hx hb dL_law_964 hl (by decide) rfl (fun ls hl => ?_)
    refine lv_aload_n hx hb dL_law_966 rfl (lv_at hl 4 rfl) ?_
    refine z_callV (C := RX9) (q0 := 0) (ci := 7) (As := []) (rest := []) (x8W u a r q ++ (svW ct r b2 nx sz S ++ (sobjW a ++ (gridW ct a M ++ (benchW ct a M ++ (logW ct a M ++ (txtW ct q TX tl pl ft wd n1 n2 ++ (jrW ct o0 1 O)))))))) ([] : va_W) hx hb hml hown (fun w h => hts w (inL_94 w h)) hl hE hS hA (zr0 (x8W u a r q ++ (svW ct r b2 nx sz S ++ (sobjW a ++ (gridW ct a M ++ (benchW ct a M ++ (logW ct a M ++ (txtW ct q TX tl pl ft wd n1 n2 ++ (jrW ct o0 1 O)))))))) hP) (zr0D (x8W u a r q ++ (svW ct r b2 nx sz S ++ (sobjW a ++ (gridW ct a M ++ (benchW ct a M ++ (logW ct a M ++ (txtW ct q TX tl pl ft wd n1 n2 ++ (jrW ct o0 1 O)))))))) hD) (c_X9_thrown l D ct ad mb M SP SV TX NB sz tl (ck_shelf v1) plm cm h) gdL_94 rfl rfl k_X9_thrown ⟨Nat.le_of_ble_eq_true rfl, Nat.le_of_ble_eq_true rfl⟩ rfl rfl rfl rfl (Nat.le_of_ble_eq_true rfl) hc1 dL_law_967 rfl (fun v w1 H locs hpost hP hD hS => ?_)
    obtain ⟨rfl, rfl⟩ := hpost
    have hP := zr0' hP
    have hD := zr0D' hD
    have hP : va_P D vwCl (x8W u a r q ++ (svW ct r b2 nx sz S ++ (sobjW a ++ (gridW ct a M ++ (benchW ct a M ++ (logW ct a M ++ (txtW ct q TX tl pl ft wd n1 n2 ++ (jrW ct o0 1 O ++ (moW mb sz tl (ck_shelf v1) plm cm h ++ (jrW ct (mb 1) 94 M ++ (jrW ct (mb 2) 94 SP ++ (jrW ct (mb 3) 376 SV ++ (irW ct (mb 4) 150 TX ++ (irW ct (mb 5) 2 NB)))))))))))))) H := hP
    have hD : va_D (fun q : Nat => s.heap.size ≤ q) (x8W u a r q ++ (svW ct r b2 nx sz S ++ (sobjW a ++ (gridW ct a M ++ (benchW ct a M ++ (logW ct a M ++ (txtW ct q TX tl pl ft wd n1 n2 ++ (jrW ct o0 1 O ++ (moW mb sz tl (ck_shelf v1) plm cm h ++ (jrW ct (mb 1) 94 M ++ (jrW ct (mb 2) 94 SP ++ (jrW ct (mb 3) 376 SV ++ (irW ct (mb 4) 150 TX ++ (irW ct (mb 5) 2 NB)))))))))))))) := hD
    refine W.eq (g2 := F0 m 970 ls [.int (zI (ck_shelf v1))]) rfl ?_
    refine lv_iload hx hb dL_law_970 (lv_at hl 1 rfl) ?_
    refine z_icmp_eqS (tgt := 977) hx hb dL_law_972 (by decide) ?_
    refine lv_iload hx hb dL_law_977 (lv_at hl 1 rfl) ?_
    refine z_if_ne (tgt := 994) hx hb dL_law_979 (by decide) (by omega) (fun hc_979 => ?_) (fun hc_979 => ?_)
    · have hc_979 := hc_979
      refine lv_goto (tgt := 1590) hx hb dL_law_994 (by decide) ?_
      exact ih _ _ _ ⟨nx, sz, S, M, TX, tl, pl, ft, n1, n2, wd, O, SP, SV, NB, (ck_shelf v1), plm, cm, h, hR, hP, hD, hS, lv_sub hl [2, 3, 4, 5, 6] rfl⟩
    · have hc_979 := hc_979
      exfalso; first | omega | (revert hc_979; unfold ck1; split <;> omega)
set_option maxHeartbeats 4000000 in
set_option maxRecDepth 100000 in
theorem law_c14 (p : Program) (l : Launch) (e : Env) (s : State) (m : MethodId) (below : List Frame) (meth : Method) (c : Code) (D : va_G) (ct ad : Nat → Nat) (b L : Nat) (xs : Nat → Int32) (u : Nat) (a r q : Nat → Nat) (b2 : Nat → Nat → Nat) (o0 : Nat) (mb : Nat → Nat) (hC : lwC p l s m meth c D ct ad b L xs) (i : Int) (hi : 0 ≤ i ∧ i + 4 ≤ (L : Int)) (cells slots : Nat) (hcap : cells + 1 ≤ 601024 ∧ slots + 6 ≤ 7293034) (ih : ∀ (H : Heap) (locs : List Loc) (ls : Array Slot), lwI s D ct b u a r q b2 o0 mb i H locs ls → W p l e room_1 s m #[Value.ref b] below meth c H locs (cells + 1) (slots + 6) (lw_Z below #[Value.ref b] s) (F0 m 1590 ls [])) (H : Heap) (locs : List Loc) (ls : Array Slot) (hI0 : lwI s D ct b u a r q b2 o0 mb i H locs ls) : W p l e room_1 s m #[Value.ref b] below meth c H locs cells slots (lw_Z below #[Value.ref b] s) (F0 m 997 ls []) := by
  obtain ⟨hx, hb, hr, hml, hown, hts, hX, hbl, hlocks, hE, hst, hL⟩ := hC
  obtain ⟨nx, sz, S, M, TX, tl, pl, ft, n1, n2, wd, O, SP, SV, NB, cd, plm, cm, h, hR, hP, hD, hS, hl⟩ := hI0
  have hA : ∀ q : Nat, s.heap.size ≤ q → (fun q : Nat => s.heap.size ≤ q) q := fun _ h => h
  have hbA : ¬ (fun q : Nat => s.heap.size ≤ q) b := Nat.not_le.mpr hbl
  have hK := hE.1
  have hc0 : cells ≤ room_1.cells ∧ slots ≤ room_1.slots := by show cells ≤ 601024 ∧ slots ≤ 7293034; omega
  have hc1 : cells + 1 ≤ room_1.cells ∧ slots + 6 ≤ room_1.slots := hcap
  have hP : va_P D vwCl (x8W u a r q ++ (svW ct r b2 nx sz S ++ (sobjW a ++ (gridW ct a M ++ (benchW ct a M ++ (logW ct a M ++ (txtW ct q TX tl pl ft wd n1 n2 ++ (jrW ct o0 1 O ++ (moW mb sz tl cd plm cm h ++ (jrW ct (mb 1) 94 M ++ (jrW ct (mb 2) 94 SP ++ (jrW ct (mb 3) 376 SV ++ (irW ct (mb 4) 150 TX ++ (irW ct (mb 5) 2 NB)))))))))))))) H := hP
  have hD : va_D (fun q : Nat => s.heap.size ≤ q) (x8W u a r q ++ (svW ct r b2 nx sz S ++ (sobjW a ++ (gridW ct a M ++ (benchW ct a M ++ (logW ct a M ++ (txtW ct q TX tl pl ft wd n1 n2 ++ (jrW ct o0 1 O ++ (moW mb sz tl cd plm cm h ++ (jrW ct (mb 1) 94 M ++ (jrW ct (mb 2) 94 SP ++ (jrW ct (mb 3) 376 SV ++ (irW ct (mb 4) 150 TX ++ (irW ct (mb 5) 2 NB)))))))))))))) := hD
  have hs := hR.1
  have ht := hR.2.1
  have hI := hs.1
  have hB := hs.2.1
  have ha := hs.2.2
  have i3 := hI.1
  have i4 := hI.2.1
  have j0 := hB.1
  have j1 := hB.2.1
  have j2 := hB.2.2.1
  have j4 := hB.2.2.2.2
  have t1 := ht.1
  have hn := hR.2.2.1
  have hsz := hR.2.2.2.1
  have hsc := hR.2.2.2.1
  obtain ⟨v1, e1, r1⟩ := zI_any (xs (i + 1).toNat)
  by_cases hok : 0 ≤ v1 ∧ v1 ≤ 17
  · skip
    have hv : -2147483648 ≤ sp_wh M tl v1 ∧ sp_wh M tl v1 ≤ 2147483647 := sp_whB hs t1
    refine lv_aload_n hx hb dL_law_997 rfl (lv_at hl 1 rfl) ?_
    refine lv_aload_n hx hb dL_law_998 rfl (lv_at hl 0 rfl) ?_
    refine lv_iload hx hb dL_law_999 (lv_at hl 4 rfl) ?_
    refine z_iconst hx hb dL_law_1001 ?_
    refine z_iadd hx hb dL_law_1002 ?_
    refine z_sld hx hb hX hbl hbA hS (by omega) hL e1 dL_law_1003 ?_
    refine lv_aload_n hx hb dL_law_1004 rfl (lv_at hl 3 rfl) ?_
    refine z_callSW (As := [.ref u, .int (zI v1), .ref o0]) (rest := []) ([] : va_W) (moW mb sz tl cd plm cm h ++ (jrW ct (mb 1) 94 M ++ (jrW ct (mb 2) 94 SP ++ (jrW ct (mb 3) 376 SV ++ (irW ct (mb 4) 150 TX ++ (irW ct (mb 5) 2 NB)))))) hx hb hml hown (fun w h => hts w (inL_139 w h)) hl hE hS hA hP hD (c_L_whole_ok l D ct ad u a r q b2 nx sz S M TX tl pl ft n1 n2 wd o0 O v1 (by assumption) (by omega) hok hv) gdL_139 rfl k_L_whole ⟨Nat.le_of_ble_eq_true rfl, Nat.le_of_ble_eq_true rfl⟩ rfl (Nat.le_of_ble_eq_true rfl) hc0 dL_law_1005 rfl (fun v w1 H locs hpost hP hD hS => ?_)
    obtain ⟨rfl, rfl⟩ := hpost
    have hP : va_P D vwCl (x8W u a r q ++ (svW ct r b2 nx sz S ++ (sobjW a ++ (gridW ct a M ++ (benchW ct a M ++ (logW ct a M ++ (txtW ct q TX tl pl ft wd n1 n2 ++ (jrW ct o0 1 (up O 0 (sp_wh M tl v1)) ++ (moW mb sz tl cd plm cm h ++ (jrW ct (mb 1) 94 M ++ (jrW ct (mb 2) 94 SP ++ (jrW ct (mb 3) 376 SV ++ (irW ct (mb 4) 150 TX ++ (irW ct (mb 5) 2 NB)))))))))))))) H := hP
    have hD : va_D (fun q : Nat => s.heap.size ≤ q) (x8W u a r q ++ (svW ct r b2 nx sz S ++ (sobjW a ++ (gridW ct a M ++ (benchW ct a M ++ (logW ct a M ++ (txtW ct q TX tl pl ft wd n1 n2 ++ (jrW ct o0 1 (up O 0 (sp_wh M tl v1)) ++ (moW mb sz tl cd plm cm h ++ (jrW ct (mb 1) 94 M ++ (jrW ct (mb 2) 94 SP ++ (jrW ct (mb 3) 376 SV ++ (irW ct (mb 4) 150 TX ++ (irW ct (mb 5) 2 NB)))))))))))))) := hD
    refine W.eq (g2 := F0 m 1008 ls [.int (zI 0)]) rfl ?_
    refine lv_istore (lv' := [(5, .int (zI 0)), (0, .ref b), (1, .ref u), (2, .ref (mb 0)), (3, .ref o0), (4, .int (zI i))]) hx hb dL_law_1008 hl (by decide) rfl (fun ls hl => ?_)
    refine lv_aload_n hx hb dL_law_1010 rfl (lv_at hl 3 rfl) ?_
    refine lv_aload_n hx hb dL_law_1011 rfl (lv_at hl 1 rfl) ?_
    refine lv_iload hx hb dL_law_1012 (lv_at hl 5 rfl) ?_
    refine z_iconst hx hb dL_law_1014 ?_
    refine z_iadd hx hb dL_law_1015 ?_
    refine z_sld hx hb hX hbl hbA hS (by omega) hL e1 dL_law_1016 ?_
    refine z_callV (C := RX9) (q0 := 0) (ci := 7) (As := [.int (zI v1)]) (rest := []) (x8W u a r q ++ (svW ct r b2 nx sz S ++ (sobjW a ++ (gridW ct a M ++ (benchW ct a M ++ (logW ct a M ++ (txtW ct q TX tl pl ft wd n1 n2 ++ (jrW ct o0 1 (up O 0 (sp_wh M tl v1)))))))))) ([] : va_W) hx hb hml hown (fun w h => hts w (inL_141 w h)) hl hE hS hA (zr0 (x8W u a r q ++ (svW ct r b2 nx sz S ++ (sobjW a ++ (gridW ct a M ++ (benchW ct a M ++ (logW ct a M ++ (txtW ct q TX tl pl ft wd n1 n2 ++ (jrW ct o0 1 (up O 0 (sp_wh M tl v1)))))))))) hP) (zr0D (x8W u a r q ++ (svW ct r b2 nx sz S ++ (sobjW a ++ (gridW ct a M ++ (benchW ct a M ++ (logW ct a M ++ (txtW ct q TX tl pl ft wd n1 n2 ++ (jrW ct o0 1 (up O 0 (sp_wh M tl v1)))))))))) hD) (c_X9_whole_ok l D ct ad mb M SP SV TX NB sz tl cd plm cm h v1 (by assumption) (by assumption) (by omega) (if_pos hok)) gdL_141 rfl rfl k_X9_whole ⟨Nat.le_of_ble_eq_true rfl, Nat.le_of_ble_eq_true rfl⟩ rfl rfl rfl rfl (Nat.le_of_ble_eq_true rfl) hc0 dL_law_1017 rfl (fun v w1 H locs hpost hP hD hS => ?_)
    obtain ⟨rfl, rfl⟩ := hpost
    have hP := zr0' hP
    have hD := zr0D' hD
    have hP : va_P D vwCl (x8W u a r q ++ (svW ct r b2 nx sz S ++ (sobjW a ++ (gridW ct a M ++ (benchW ct a M ++ (logW ct a M ++ (txtW ct q TX tl pl ft wd n1 n2 ++ (jrW ct o0 1 (up O 0 (sp_wh M tl v1)) ++ (moW mb sz tl (ck_b (0 ≤ v1 ∧ v1 ≤ 17)) plm cm h ++ (jrW ct (mb 1) 94 M ++ (jrW ct (mb 2) 94 SP ++ (jrW ct (mb 3) 376 SV ++ (irW ct (mb 4) 150 TX ++ (irW ct (mb 5) 2 NB)))))))))))))) H := hP
    have hD : va_D (fun q : Nat => s.heap.size ≤ q) (x8W u a r q ++ (svW ct r b2 nx sz S ++ (sobjW a ++ (gridW ct a M ++ (benchW ct a M ++ (logW ct a M ++ (txtW ct q TX tl pl ft wd n1 n2 ++ (jrW ct o0 1 (up O 0 (sp_wh M tl v1)) ++ (moW mb sz tl (ck_b (0 ≤ v1 ∧ v1 ≤ 17)) plm cm h ++ (jrW ct (mb 1) 94 M ++ (jrW ct (mb 2) 94 SP ++ (jrW ct (mb 3) 376 SV ++ (irW ct (mb 4) 150 TX ++ (irW ct (mb 5) 2 NB)))))))))))))) := hD
    refine W.eq (g2 := F0 m 1020 ls [.int (zI (sp_wh M tl v1))]) rfl ?_
    refine lv_istore (lv' := [(6, .int (zI (sp_wh M tl v1))), (5, .int (zI 0)), (0, .ref b), (1, .ref u), (2, .ref (mb 0)), (3, .ref o0), (4, .int (zI i))]) hx hb dL_law_1020 hl (by decide) rfl (fun ls hl => ?_)
    refine lv_aload_n hx hb dL_law_1022 rfl (lv_at hl 4 rfl) ?_
    refine z_callV (C := RX9) (q0 := 0) (ci := 7) (As := []) (rest := []) (x8W u a r q ++ (svW ct r b2 nx sz S ++ (sobjW a ++ (gridW ct a M ++ (benchW ct a M ++ (logW ct a M ++ (txtW ct q TX tl pl ft wd n1 n2 ++ (jrW ct o0 1 (up O 0 (sp_wh M tl v1)))))))))) ([] : va_W) hx hb hml hown (fun w h => hts w (inL_94 w h)) hl hE hS hA (zr0 (x8W u a r q ++ (svW ct r b2 nx sz S ++ (sobjW a ++ (gridW ct a M ++ (benchW ct a M ++ (logW ct a M ++ (txtW ct q TX tl pl ft wd n1 n2 ++ (jrW ct o0 1 (up O 0 (sp_wh M tl v1)))))))))) hP) (zr0D (x8W u a r q ++ (svW ct r b2 nx sz S ++ (sobjW a ++ (gridW ct a M ++ (benchW ct a M ++ (logW ct a M ++ (txtW ct q TX tl pl ft wd n1 n2 ++ (jrW ct o0 1 (up O 0 (sp_wh M tl v1)))))))))) hD) (c_X9_thrown l D ct ad mb M SP SV TX NB sz tl (ck_b (0 ≤ v1 ∧ v1 ≤ 17)) plm cm h) gdL_94 rfl rfl k_X9_thrown ⟨Nat.le_of_ble_eq_true rfl, Nat.le_of_ble_eq_true rfl⟩ rfl rfl rfl rfl (Nat.le_of_ble_eq_true rfl) hc0 dL_law_1023 rfl (fun v w1 H locs hpost hP hD hS => ?_)
    obtain ⟨rfl, rfl⟩ := hpost
    have hP := zr0' hP
    have hD := zr0D' hD
    have hP : va_P D vwCl (x8W u a r q ++ (svW ct r b2 nx sz S ++ (sobjW a ++ (gridW ct a M ++ (benchW ct a M ++ (logW ct a M ++ (txtW ct q TX tl pl ft wd n1 n2 ++ (jrW ct o0 1 (up O 0 (sp_wh M tl v1)) ++ (moW mb sz tl (ck_b (0 ≤ v1 ∧ v1 ≤ 17)) plm cm h ++ (jrW ct (mb 1) 94 M ++ (jrW ct (mb 2) 94 SP ++ (jrW ct (mb 3) 376 SV ++ (irW ct (mb 4) 150 TX ++ (irW ct (mb 5) 2 NB)))))))))))))) H := hP
    have hD : va_D (fun q : Nat => s.heap.size ≤ q) (x8W u a r q ++ (svW ct r b2 nx sz S ++ (sobjW a ++ (gridW ct a M ++ (benchW ct a M ++ (logW ct a M ++ (txtW ct q TX tl pl ft wd n1 n2 ++ (jrW ct o0 1 (up O 0 (sp_wh M tl v1)) ++ (moW mb sz tl (ck_b (0 ≤ v1 ∧ v1 ≤ 17)) plm cm h ++ (jrW ct (mb 1) 94 M ++ (jrW ct (mb 2) 94 SP ++ (jrW ct (mb 3) 376 SV ++ (irW ct (mb 4) 150 TX ++ (irW ct (mb 5) 2 NB)))))))))))))) := hD
    refine W.eq (g2 := F0 m 1026 ls [.int (zI (ck_b (0 ≤ v1 ∧ v1 ≤ 17)))]) rfl ?_
    refine lv_iload hx hb dL_law_1026 (lv_at hl 1 rfl) ?_
    refine z_canI (show 0 = ck_b (0 ≤ v1 ∧ v1 ≤ 17) from (if_pos hok).symm) ?_
    refine z_icmp_eqS (tgt := 1033) hx hb dL_law_1028 (by decide) ?_
    refine lv_iload hx hb dL_law_1033 (lv_at hl 1 rfl) ?_
    refine z_if_ne (tgt := 1050) hx hb dL_law_1035 (by decide) (by omega) (fun hc_1035 => ?_) (fun hc_1035 => ?_)
    · have hc_1035 := hc_1035
      exfalso; first | omega | (revert hc_1035; unfold ck1; split <;> omega)
    · have hc_1035 := hc_1035
      refine lv_aload_n hx hb dL_law_1038 rfl (lv_at hl 5 rfl) ?_
      refine z_iconst hx hb dL_law_1039 ?_
      refine z_lald (g := (up O 0 (sp_wh M tl v1))) (v := sp_wh M tl v1) hx hb hK hP 60 rfl (by decide) (by omega) (show (up O 0 (sp_wh M tl v1)) 0 = sp_wh M tl v1 from by rw [up_s]) dL_law_1040 ?_
      refine lv_iload hx hb dL_law_1041 (lv_at hl 0 rfl) ?_
      refine z_i2l hx hb dL_law_1043 (by omega) ?_
      refine z_lcmp_eqS (tgt := 1050) hx hb dL_law_1044 dL_law_1045 (by decide) ?_
      refine lv_goto (tgt := 1590) hx hb dL_law_1050 (by decide) ?_
      refine W.widen (k := cells + 1) (n := slots + 6) (Nat.le_add_right _ _) (Nat.le_add_right _ _) ?_
      exact ih _ _ _ ⟨nx, sz, S, M, TX, tl, pl, ft, n1, n2, wd, (up O 0 (sp_wh M tl v1)), SP, SV, NB, (ck_b (0 ≤ v1 ∧ v1 ≤ 17)), plm, cm, h, hR, hP, hD, hS, lv_sub hl [2, 3, 4, 5, 6] rfl⟩
  · skip
    refine lv_aload_n hx hb dL_law_997 rfl (lv_at hl 1 rfl) ?_
    refine lv_aload_n hx hb dL_law_998 rfl (lv_at hl 0 rfl) ?_
    refine lv_iload hx hb dL_law_999 (lv_at hl 4 rfl) ?_
    refine z_iconst hx hb dL_law_1001 ?_
    refine z_iadd hx hb dL_law_1002 ?_
    refine z_sld hx hb hX hbl hbA hS (by omega) hL e1 dL_law_1003 ?_
    refine lv_aload_n hx hb dL_law_1004 rfl (lv_at hl 3 rfl) ?_
    refine z_callSW (As := [.ref u, .int (zI v1), .ref o0]) (rest := []) ([] : va_W) (moW mb sz tl cd plm cm h ++ (jrW ct (mb 1) 94 M ++ (jrW ct (mb 2) 94 SP ++ (jrW ct (mb 3) 376 SV ++ (irW ct (mb 4) 150 TX ++ (irW ct (mb 5) 2 NB)))))) hx hb hml hown (fun w h => hts w (inL_139 w h)) hl hE hS hA hP hD (c_L_whole_no l D ct ad u a r q b2 nx sz S M TX tl pl ft n1 n2 wd o0 O v1 (by assumption) hst (by omega) hok) gdL_139 rfl k_L_whole ⟨Nat.le_of_ble_eq_true rfl, Nat.le_of_ble_eq_true rfl⟩ rfl (Nat.le_of_ble_eq_true rfl) hc1 dL_law_1005 rfl (fun v w1 H locs hpost hP hD hS => ?_)
    obtain ⟨rfl, rfl⟩ := hpost
    have hP : va_P D vwCl (x8W u a r q ++ (svW ct r b2 nx sz S ++ (sobjW a ++ (gridW ct a M ++ (benchW ct a M ++ (logW ct a M ++ (txtW ct q TX tl pl ft wd n1 n2 ++ (jrW ct o0 1 O ++ (moW mb sz tl cd plm cm h ++ (jrW ct (mb 1) 94 M ++ (jrW ct (mb 2) 94 SP ++ (jrW ct (mb 3) 376 SV ++ (irW ct (mb 4) 150 TX ++ (irW ct (mb 5) 2 NB)))))))))))))) H := hP
    have hD : va_D (fun q : Nat => s.heap.size ≤ q) (x8W u a r q ++ (svW ct r b2 nx sz S ++ (sobjW a ++ (gridW ct a M ++ (benchW ct a M ++ (logW ct a M ++ (txtW ct q TX tl pl ft wd n1 n2 ++ (jrW ct o0 1 O ++ (moW mb sz tl cd plm cm h ++ (jrW ct (mb 1) 94 M ++ (jrW ct (mb 2) 94 SP ++ (jrW ct (mb 3) 376 SV ++ (irW ct (mb 4) 150 TX ++ (irW ct (mb 5) 2 NB)))))))))))))) := hD
    refine W.eq (g2 := F0 m 1008 ls [.int (zI 1)]) rfl ?_
    refine lv_istore (lv' := [(5, .int (zI 1)), (0, .ref b), (1, .ref u), (2, .ref (mb 0)), (3, .ref o0), (4, .int (zI i))]) hx hb dL_law_1008 hl (by decide) rfl (fun ls hl => ?_)
    refine lv_aload_n hx hb dL_law_1010 rfl (lv_at hl 3 rfl) ?_
    refine lv_aload_n hx hb dL_law_1011 rfl (lv_at hl 1 rfl) ?_
    refine lv_iload hx hb dL_law_1012 (lv_at hl 5 rfl) ?_
    refine z_iconst hx hb dL_law_1014 ?_
    refine z_iadd hx hb dL_law_1015 ?_
    refine z_sld hx hb hX hbl hbA hS (by omega) hL e1 dL_law_1016 ?_
    refine z_callV (C := RX9) (q0 := 0) (ci := 7) (As := [.int (zI v1)]) (rest := []) (x8W u a r q ++ (svW ct r b2 nx sz S ++ (sobjW a ++ (gridW ct a M ++ (benchW ct a M ++ (logW ct a M ++ (txtW ct q TX tl pl ft wd n1 n2 ++ (jrW ct o0 1 O)))))))) ([] : va_W) hx hb hml hown (fun w h => hts w (inL_141 w h)) hl hE hS hA (zr0 (x8W u a r q ++ (svW ct r b2 nx sz S ++ (sobjW a ++ (gridW ct a M ++ (benchW ct a M ++ (logW ct a M ++ (txtW ct q TX tl pl ft wd n1 n2 ++ (jrW ct o0 1 O)))))))) hP) (zr0D (x8W u a r q ++ (svW ct r b2 nx sz S ++ (sobjW a ++ (gridW ct a M ++ (benchW ct a M ++ (logW ct a M ++ (txtW ct q TX tl pl ft wd n1 n2 ++ (jrW ct o0 1 O)))))))) hD) (c_X9_whole_no l D ct ad mb M SP SV TX NB sz tl cd plm cm h v1 (by assumption) (by assumption) (by omega) (by unfold ck_b; rw [if_neg hok]; omega)) gdL_141 rfl rfl k_X9_whole ⟨Nat.le_of_ble_eq_true rfl, Nat.le_of_ble_eq_true rfl⟩ rfl rfl rfl rfl (Nat.le_of_ble_eq_true rfl) hc1 dL_law_1017 rfl (fun v w1 H locs hpost hP hD hS => ?_)
    obtain ⟨rfl, rfl⟩ := hpost
    have hP := zr0' hP
    have hD := zr0D' hD
    have hP : va_P D vwCl (x8W u a r q ++ (svW ct r b2 nx sz S ++ (sobjW a ++ (gridW ct a M ++ (benchW ct a M ++ (logW ct a M ++ (txtW ct q TX tl pl ft wd n1 n2 ++ (jrW ct o0 1 O ++ (moW mb sz tl (ck_b (0 ≤ v1 ∧ v1 ≤ 17)) plm cm h ++ (jrW ct (mb 1) 94 M ++ (jrW ct (mb 2) 94 SP ++ (jrW ct (mb 3) 376 SV ++ (irW ct (mb 4) 150 TX ++ (irW ct (mb 5) 2 NB)))))))))))))) H := hP
    have hD : va_D (fun q : Nat => s.heap.size ≤ q) (x8W u a r q ++ (svW ct r b2 nx sz S ++ (sobjW a ++ (gridW ct a M ++ (benchW ct a M ++ (logW ct a M ++ (txtW ct q TX tl pl ft wd n1 n2 ++ (jrW ct o0 1 O ++ (moW mb sz tl (ck_b (0 ≤ v1 ∧ v1 ≤ 17)) plm cm h ++ (jrW ct (mb 1) 94 M ++ (jrW ct (mb 2) 94 SP ++ (jrW ct (mb 3) 376 SV ++ (irW ct (mb 4) 150 TX ++ (irW ct (mb 5) 2 NB)))))))))))))) := hD
    refine W.eq (g2 := F0 m 1020 ls [.int (zI 0)]) rfl ?_
    refine lv_istore (lv' := [(6, .int (zI 0)), (5, .int (zI 1)), (0, .ref b), (1, .ref u), (2, .ref (mb 0)), (3, .ref o0), (4, .int (zI i))]) hx hb dL_law_1020 hl (by decide) rfl (fun ls hl => ?_)
    refine lv_aload_n hx hb dL_law_1022 rfl (lv_at hl 4 rfl) ?_
    refine z_callV (C := RX9) (q0 := 0) (ci := 7) (As := []) (rest := []) (x8W u a r q ++ (svW ct r b2 nx sz S ++ (sobjW a ++ (gridW ct a M ++ (benchW ct a M ++ (logW ct a M ++ (txtW ct q TX tl pl ft wd n1 n2 ++ (jrW ct o0 1 O)))))))) ([] : va_W) hx hb hml hown (fun w h => hts w (inL_94 w h)) hl hE hS hA (zr0 (x8W u a r q ++ (svW ct r b2 nx sz S ++ (sobjW a ++ (gridW ct a M ++ (benchW ct a M ++ (logW ct a M ++ (txtW ct q TX tl pl ft wd n1 n2 ++ (jrW ct o0 1 O)))))))) hP) (zr0D (x8W u a r q ++ (svW ct r b2 nx sz S ++ (sobjW a ++ (gridW ct a M ++ (benchW ct a M ++ (logW ct a M ++ (txtW ct q TX tl pl ft wd n1 n2 ++ (jrW ct o0 1 O)))))))) hD) (c_X9_thrown l D ct ad mb M SP SV TX NB sz tl (ck_b (0 ≤ v1 ∧ v1 ≤ 17)) plm cm h) gdL_94 rfl rfl k_X9_thrown ⟨Nat.le_of_ble_eq_true rfl, Nat.le_of_ble_eq_true rfl⟩ rfl rfl rfl rfl (Nat.le_of_ble_eq_true rfl) hc1 dL_law_1023 rfl (fun v w1 H locs hpost hP hD hS => ?_)
    obtain ⟨rfl, rfl⟩ := hpost
    have hP := zr0' hP
    have hD := zr0D' hD
    have hP : va_P D vwCl (x8W u a r q ++ (svW ct r b2 nx sz S ++ (sobjW a ++ (gridW ct a M ++ (benchW ct a M ++ (logW ct a M ++ (txtW ct q TX tl pl ft wd n1 n2 ++ (jrW ct o0 1 O ++ (moW mb sz tl (ck_b (0 ≤ v1 ∧ v1 ≤ 17)) plm cm h ++ (jrW ct (mb 1) 94 M ++ (jrW ct (mb 2) 94 SP ++ (jrW ct (mb 3) 376 SV ++ (irW ct (mb 4) 150 TX ++ (irW ct (mb 5) 2 NB)))))))))))))) H := hP
    have hD : va_D (fun q : Nat => s.heap.size ≤ q) (x8W u a r q ++ (svW ct r b2 nx sz S ++ (sobjW a ++ (gridW ct a M ++ (benchW ct a M ++ (logW ct a M ++ (txtW ct q TX tl pl ft wd n1 n2 ++ (jrW ct o0 1 O ++ (moW mb sz tl (ck_b (0 ≤ v1 ∧ v1 ≤ 17)) plm cm h ++ (jrW ct (mb 1) 94 M ++ (jrW ct (mb 2) 94 SP ++ (jrW ct (mb 3) 376 SV ++ (irW ct (mb 4) 150 TX ++ (irW ct (mb 5) 2 NB)))))))))))))) := hD
    refine W.eq (g2 := F0 m 1026 ls [.int (zI (ck_b (0 ≤ v1 ∧ v1 ≤ 17)))]) rfl ?_
    refine lv_iload hx hb dL_law_1026 (lv_at hl 1 rfl) ?_
    refine z_canI (show 1 = ck_b (0 ≤ v1 ∧ v1 ≤ 17) from (if_neg hok).symm) ?_
    refine z_icmp_eqS (tgt := 1033) hx hb dL_law_1028 (by decide) ?_
    refine lv_iload hx hb dL_law_1033 (lv_at hl 1 rfl) ?_
    refine z_if_ne (tgt := 1050) hx hb dL_law_1035 (by decide) (by omega) (fun hc_1035 => ?_) (fun hc_1035 => ?_)
    · have hc_1035 := hc_1035
      refine lv_goto (tgt := 1590) hx hb dL_law_1050 (by decide) ?_
      exact ih _ _ _ ⟨nx, sz, S, M, TX, tl, pl, ft, n1, n2, wd, O, SP, SV, NB, (ck_b (0 ≤ v1 ∧ v1 ≤ 17)), plm, cm, h, hR, hP, hD, hS, lv_sub hl [2, 3, 4, 5, 6] rfl⟩
    · have hc_1035 := hc_1035
      exfalso; first | omega | (revert hc_1035; unfold ck1; split <;> omega)
