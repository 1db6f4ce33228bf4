set_option maxHeartbeats 4000000 in
set_option maxRecDepth 100000 in
theorem lp_1084 (l : Launch) (D : va_G) (ct ad : Nat → Nat) (u : Nat) (a r q : Nat → Nat) (b : Nat → Nat → Nat) (nx sz : Int) (S : Nat → Int → Int) (M TX : Int → Int) (tl pl ft n1 n2 : Int) (wd : Value) (nn : Int) (cells slots : Nat) (y9 : Int) (how : Int) (r_ : Int) (hL : LInv M) (ht : tInv TX tl) (hn : 0 ≤ nx ∧ nx ≤ 3) (hsz : 0 ≤ sz ∧ sz ≤ 4) (hn9 : 0 ≤ nn ∧ nn < 46) (h9 : M 9 ≤ 200 * nn) (hcap : cells + 41 ≤ 604022 ∧ slots + 250 ≤ 7289401) (ih : ∀ (nx sz : Int) (S : Nat → Int → Int) (M : Int → Int), LInv M → (0 ≤ nx ∧ nx ≤ 3) → (0 ≤ sz ∧ sz ≤ 4) → M 9 ≤ 200 * nn + 200 → LZ l D ct ad (cells + 1) (slots + 6) 1102 (x8W u a r q ++ (svW ct r b nx sz S ++ (sobjW a ++ (gridW ct a M ++ (benchW ct a M ++ (logW ct a M ++ (txtW ct q TX tl pl ft wd n1 n2))))))) [(0, .ref (ad 67)), (1, .ref u), (2, .int (zI nn))] []) (hyr : -2147483648 ≤ y9 ∧ y9 ≤ 2147483647) (hhow : 0 ≤ how ∧ how ≤ 15) (hr9 : 0 ≤ r_ ∧ (0 < M 4 → r_ < M 4)) : LZ l D ct ad cells slots 1084 (x8W u a r q ++ (svW ct r b nx sz S ++ (sobjW a ++ (gridW ct a M ++ (benchW ct a M ++ (logW ct a M ++ (txtW ct q TX tl pl ft wd n1 n2))))))) [(0, .ref (ad 67)), (1, .ref u), (2, .int (zI nn)), (4, .int (zI y9)), (5, .int (zI (M 3))), (6, .int (zI (M 4))), (7, .int (zI how)), (8, .int (zI r_))] [] := by
  intro p e s m below meth c b9 H locs ls hC hP hD hS hl
  obtain ⟨hx, hb, hr, hml, hown, hts, hlocks, hE, hst⟩ := id hC
  have hK := hE.1
  have hA : ∀ q : Nat, s.heap.size ≤ q → (fun q : Nat => s.heap.size ≤ q) q := fun _ h => h
  have hc0 : cells ≤ room_1.cells ∧ slots ≤ room_1.slots := by show cells ≤ 604022 ∧ slots ≤ 7289401; omega
  have hs := hL.1
  have hI := hs.1
  have hB := hs.2.1
  have ha := hs.2.2
  have t1 := ht.1
  have hP : va_P D vwCl (x8W u a r q ++ (svW ct r b nx sz S ++ (sobjW a ++ (gridW ct a M ++ (benchW ct a M ++ (logW ct a M ++ (txtW ct q TX tl pl ft wd n1 n2))))))) H := hP
  have hD : va_D (fun q : Nat => s.heap.size ≤ q) (x8W u a r q ++ (svW ct r b nx sz S ++ (sobjW a ++ (gridW ct a M ++ (benchW ct a M ++ (logW ct a M ++ (txtW ct q TX tl pl ft wd n1 n2))))))) := hD
  have hl : lv_has ls 13 [(0, .ref (ad 67)), (1, .ref u), (2, .int (zI nn)), (4, .int (zI y9)), (5, .int (zI (M 3))), (6, .int (zI (M 4))), (7, .int (zI how)), (8, .int (zI r_))] := hl
  refine lv_iload hx hb dL_law_1084 (lv_at hl 6 rfl) ?_
  refine z_bipush hx hb dL_law_1086 (by decide) ?_
  refine z_icmp_ne (tgt := 1102) hx hb dL_law_1088 (by decide) (by omega) (by omega) (fun hc_1088 => ?_) (fun hc_1088 => ?_)
  · have hc_1088 := hc_1088
    refine W.widen (k := cells + 1) (n := slots + 6) (Nat.le_add_right _ _) (Nat.le_add_right _ _) ?_
    exact ih nx sz S M (by assumption) (by omega) (by omega) (by first | assumption | omega) p e s m below meth c b9 _ _ _ hC hP hD hS (lv_sub hl [0, 1, 2] rfl)
  · have hc_1088 := hc_1088
    refine lv_aload_n hx hb dL_law_1091 rfl (lv_at hl 1 rfl) ?_
    refine lv_iload hx hb dL_law_1092 (lv_at hl 3 rfl) ?_
    refine z_callS (As := [.ref u, .int (zI y9)]) (rest := []) ([] : va_W) ([] : va_W) hx hb hml hown (fun w h => hts w (inL_215 w h)) hl hE hS hA (zr0 ([] : va_W) hP) (zr0D ([] : va_W) hD) (c_L_thoughts l D ct ad u a r q b nx sz S M TX tl pl ft n1 n2 wd y9 (by assumption) (by assumption) (by omega) (by omega) (by omega) (by omega)) gdL_215 rfl k_L_thoughts ⟨Nat.le_of_ble_eq_true rfl, Nat.le_of_ble_eq_true rfl⟩ rfl (Nat.le_of_ble_eq_true rfl) hc0 dL_law_1094 rfl (fun v w1 H locs hpost hP hD hS => ?_)
    obtain ⟨nx2_1094, sz2_1094, S2_1094, ⟨hx0_1094, hx1_1094⟩, rfl, rfl⟩ := hpost
    have hP := zr0' hP
    have hD := zr0D' hD
    have hP : va_P D vwCl (x8W u a r q ++ (svW ct r b nx2_1094 sz2_1094 S2_1094 ++ (sobjW a ++ (gridW ct a M ++ (benchW ct a M ++ (logW ct a M ++ (txtW ct q TX tl pl ft wd n1 n2))))))) H := hP
    have hD : va_D (fun q : Nat => s.heap.size ≤ q) (x8W u a r q ++ (svW ct r b nx2_1094 sz2_1094 S2_1094 ++ (sobjW a ++ (gridW ct a M ++ (benchW ct a M ++ (logW ct a M ++ (txtW ct q TX tl pl ft wd n1 n2))))))) := hD
    refine W.eq (g2 := F0 m 1097 ls [.int (zI 1)]) rfl ?_
    refine z_if_ne (tgt := 1102) hx hb dL_law_1097 (by decide) (by omega) (fun hc_1097 => ?_) (fun hc_1097 => ?_)
    · have hc_1097 := hc_1097
      refine W.widen (k := cells + 1) (n := slots + 6) (Nat.le_add_right _ _) (Nat.le_add_right _ _) ?_
      exact ih nx2_1094 sz2_1094 S2_1094 M (by assumption) (by omega) (by omega) (by first | assumption | omega) p e s m below meth c b9 _ _ _ hC hP hD hS (lv_sub hl [0, 1, 2] rfl)
    · have hc_1097 := hc_1097
      omega
set_option maxHeartbeats 4000000 in
set_option maxRecDepth 100000 in
theorem lp_972 (l : Launch) (D : va_G) (ct ad : Nat → Nat) (u : Nat) (a r q : Nat → Nat) (b : Nat → Nat → Nat) (nx sz : Int) (S : Nat → Int → Int) (M TX : Int → Int) (tl pl ft n1 n2 : Int) (wd : Value) (nn : Int) (cells slots : Nat) (y9 : Int) (hL : LInv M) (ht : tInv TX tl) (hn : 0 ≤ nx ∧ nx ≤ 3) (hsz : 0 ≤ sz ∧ sz ≤ 4) (hn9 : 0 ≤ nn ∧ nn < 46) (h9 : M 9 ≤ 200 * nn) (hcap : cells + 41 ≤ 604022 ∧ slots + 250 ≤ 7289401) (ih : ∀ (nx sz : Int) (S : Nat → Int → Int) (M : Int → Int), LInv M → (0 ≤ nx ∧ nx ≤ 3) → (0 ≤ sz ∧ sz ≤ 4) → M 9 ≤ 200 * nn + 200 → LZ l D ct ad (cells + 1) (slots + 6) 1102 (x8W u a r q ++ (svW ct r b nx sz S ++ (sobjW a ++ (gridW ct a M ++ (benchW ct a M ++ (logW ct a M ++ (txtW ct q TX tl pl ft wd n1 n2))))))) [(0, .ref (ad 67)), (1, .ref u), (2, .int (zI nn))] []) (hyr : -2147483648 ≤ y9 ∧ y9 ≤ 2147483647) : LZ l D ct ad cells slots 972 (x8W u a r q ++ (svW ct r b nx sz S ++ (sobjW a ++ (gridW ct a M ++ (benchW ct a M ++ (logW ct a M ++ (txtW ct q TX tl pl ft wd n1 n2))))))) [(0, .ref (ad 67)), (1, .ref u), (2, .int (zI nn)), (4, .int (zI y9)), (5, .int (zI (M 3))), (6, .int (zI (M 4)))] [] := by
  intro p e s m below meth c b9 H locs ls hC hP hD hS hl
  obtain ⟨hx, hb, hr, hml, hown, hts, hlocks, hE, hst⟩ := id hC
  have hK := hE.1
  have hA : ∀ q : Nat, s.heap.size ≤ q → (fun q : Nat => s.heap.size ≤ q) q := fun _ h => h
  have hc0 : cells ≤ room_1.cells ∧ slots ≤ room_1.slots := by show cells ≤ 604022 ∧ slots ≤ 7289401; omega
  have hs := hL.1
  have hI := hs.1
  have hB := hs.2.1
  have ha := hs.2.2
  have t1 := ht.1
  have hP : va_P D vwCl (x8W u a r q ++ (svW ct r b nx sz S ++ (sobjW a ++ (gridW ct a M ++ (benchW ct a M ++ (logW ct a M ++ (txtW ct q TX tl pl ft wd n1 n2))))))) H := hP
  have hD : va_D (fun q : Nat => s.heap.size ≤ q) (x8W u a r q ++ (svW ct r b nx sz S ++ (sobjW a ++ (gridW ct a M ++ (benchW ct a M ++ (logW ct a M ++ (txtW ct q TX tl pl ft wd n1 n2))))))) := hD
  have hf_0 : (Cond.constant RL 17 (-2100000001)).before #[Value.ref b9] s = true := hts _ (zin [656] (by decide +kernel) _ (List.mem_singleton.mpr rfl))
  have hl : lv_has ls 13 [(0, .ref (ad 67)), (1, .ref u), (2, .int (zI nn)), (4, .int (zI y9)), (5, .int (zI (M 3))), (6, .int (zI (M 4)))] := hl
  have j1 := hB.2.1
  have j2 := hB.2.2.1
  have lwA := sp_lowB (v := y9) (n := 200) (by decide)
  have qs := hB.2.2.2.1 (M 5) (by omega) (by omega)
  refine lv_aload_n hx hb dL_law_972 rfl (lv_at hl 1 rfl) ?_
  refine z_bipush hx hb dL_law_973 (by decide) ?_
  refine z_callSW (As := [.ref u, .int (zI 10)]) (rest := []) ([] : va_W) ([] : va_W) hx hb hml hown (fun w h => hts w (inL_93 w h)) hl hE hS hA (zr0 ([] : va_W) hP) (zr0D ([] : va_W) hD) (c_L_whole_ok l D ct ad u a r q b nx sz S M TX tl pl ft n1 n2 wd 10 (by assumption) (by omega) (by omega)) gdL_93 rfl k_L_whole ⟨Nat.le_of_ble_eq_true rfl, Nat.le_of_ble_eq_true rfl⟩ rfl (Nat.le_of_ble_eq_true rfl) hc0 dL_law_975 rfl (fun v w1 H locs hpost hP hD hS => ?_)
  obtain ⟨rfl, rfl⟩ := hpost
  have hP := zr0' hP
  have hD := zr0D' hD
  have hP : va_P D vwCl (x8W u a r q ++ (svW ct r b nx sz S ++ (sobjW a ++ (gridW ct a M ++ (benchW ct a M ++ (logW ct a M ++ (txtW ct q TX tl pl ft wd n1 n2))))))) H := hP
  have hD : va_D (fun q : Nat => s.heap.size ≤ q) (x8W u a r q ++ (svW ct r b nx sz S ++ (sobjW a ++ (gridW ct a M ++ (benchW ct a M ++ (logW ct a M ++ (txtW ct q TX tl pl ft wd n1 n2))))))) := hD
  refine W.eq (g2 := F0 m 978 ls [.int (zI (sp_wh M tl 10))]) rfl ?_
  refine z_canI (show sp_wh M tl 10 = M 9 from rfl) ?_
  refine lv_istore (lv' := [(9, .int (zI (M 9))), (0, .ref (ad 67)), (1, .ref u), (2, .int (zI nn)), (4, .int (zI y9)), (5, .int (zI (M 3))), (6, .int (zI (M 4)))]) hx hb dL_law_978 hl (by decide) rfl (fun ls hl => ?_)
  refine lv_aload_n hx hb dL_law_980 rfl (lv_at hl 2 rfl) ?_
  refine z_iconst hx hb dL_law_981 ?_
  refine z_callSW (As := [.ref u, .int (zI 3)]) (rest := []) ([] : va_W) ([] : va_W) hx hb hml hown (fun w h => hts w (inL_93 w h)) hl hE hS hA (zr0 ([] : va_W) hP) (zr0D ([] : va_W) hD) (c_L_whole_ok l D ct ad u a r q b nx sz S M TX tl pl ft n1 n2 wd 3 (by assumption) (by omega) (by omega)) gdL_93 rfl k_L_whole ⟨Nat.le_of_ble_eq_true rfl, Nat.le_of_ble_eq_true rfl⟩ rfl (Nat.le_of_ble_eq_true rfl) hc0 dL_law_982 rfl (fun v w1 H locs hpost hP hD hS => ?_)
  obtain ⟨rfl, rfl⟩ := hpost
  have hP := zr0' hP
  have hD := zr0D' hD
  have hP : va_P D vwCl (x8W u a r q ++ (svW ct r b nx sz S ++ (sobjW a ++ (gridW ct a M ++ (benchW ct a M ++ (logW ct a M ++ (txtW ct q TX tl pl ft wd n1 n2))))))) H := hP
  have hD : va_D (fun q : Nat => s.heap.size ≤ q) (x8W u a r q ++ (svW ct r b nx sz S ++ (sobjW a ++ (gridW ct a M ++ (benchW ct a M ++ (logW ct a M ++ (txtW ct q TX tl pl ft wd n1 n2))))))) := hD
  refine W.eq (g2 := F0 m 985 ls [.int (zI (sp_wh M tl 3))]) rfl ?_
  refine z_canI (show sp_wh M tl 3 = M 6 from rfl) ?_
  refine lv_istore (lv' := [(10, .int (zI (M 6))), (9, .int (zI (M 9))), (0, .ref (ad 67)), (1, .ref u), (2, .int (zI nn)), (4, .int (zI y9)), (5, .int (zI (M 3))), (6, .int (zI (M 4)))]) hx hb dL_law_985 hl (by decide) rfl (fun ls hl => ?_)
  refine lv_aload_n hx hb dL_law_987 rfl (lv_at hl 3 rfl) ?_
  refine lv_aload_n hx hb dL_law_988 rfl (lv_at hl 3 rfl) ?_
  refine z_iconst hx hb dL_law_989 ?_
  refine z_callSW (As := [.ref u, .int (zI 2)]) (rest := [.ref u]) ([] : va_W) ([] : va_W) hx hb hml hown (fun w h => hts w (inL_93 w h)) hl hE hS hA (zr0 ([] : va_W) hP) (zr0D ([] : va_W) hD) (c_L_whole_ok l D ct ad u a r q b nx sz S M TX tl pl ft n1 n2 wd 2 (by assumption) (by omega) (by omega)) gdL_93 rfl k_L_whole ⟨Nat.le_of_ble_eq_true rfl, Nat.le_of_ble_eq_true rfl⟩ rfl (Nat.le_of_ble_eq_true rfl) hc0 dL_law_990 rfl (fun v w1 H locs hpost hP hD hS => ?_)
  obtain ⟨rfl, rfl⟩ := hpost
  have hP := zr0' hP
  have hD := zr0D' hD
  have hP : va_P D vwCl (x8W u a r q ++ (svW ct r b nx sz S ++ (sobjW a ++ (gridW ct a M ++ (benchW ct a M ++ (logW ct a M ++ (txtW ct q TX tl pl ft wd n1 n2))))))) H := hP
  have hD : va_D (fun q : Nat => s.heap.size ≤ q) (x8W u a r q ++ (svW ct r b nx sz S ++ (sobjW a ++ (gridW ct a M ++ (benchW ct a M ++ (logW ct a M ++ (txtW ct q TX tl pl ft wd n1 n2))))))) := hD
  refine W.eq (g2 := F0 m 993 ls [.int (zI (sp_wh M tl 2)), .ref u]) rfl ?_
  refine z_canI (show sp_wh M tl 2 = M 5 from rfl) ?_
  refine z_callSW (As := [.ref u, .int (zI (M 5))]) (rest := []) ([] : va_W) ([] : va_W) hx hb hml hown (fun w h => hts w (inL_136 w h)) hl hE hS hA (zr0 ([] : va_W) hP) (zr0D ([] : va_W) hD) (c_L_shelf_ok l D ct ad u a r q b nx sz S M TX tl pl ft n1 n2 wd (M 5) (by assumption) (by omega) (if_pos (by omega))) gdL_136 rfl k_L_shelf ⟨Nat.le_of_ble_eq_true rfl, Nat.le_of_ble_eq_true rfl⟩ rfl (Nat.le_of_ble_eq_true rfl) hc0 dL_law_993 rfl (fun v w1 H locs hpost hP hD hS => ?_)
  obtain ⟨rfl, rfl⟩ := hpost
  have hP := zr0' hP
  have hD := zr0D' hD
  have hP : va_P D vwCl (x8W u a r q ++ (svW ct r b nx sz S ++ (sobjW a ++ (gridW ct a M ++ (benchW ct a M ++ (logW ct a M ++ (txtW ct q TX tl pl ft wd n1 n2))))))) H := hP
  have hD : va_D (fun q : Nat => s.heap.size ≤ q) (x8W u a r q ++ (svW ct r b nx sz S ++ (sobjW a ++ (gridW ct a M ++ (benchW ct a M ++ (logW ct a M ++ (txtW ct q TX tl pl ft wd n1 n2))))))) := hD
  refine W.eq (g2 := F0 m 996 ls [.int (zI (M (49 + (M 5))))]) rfl ?_
  refine lv_istore (lv' := [(11, .int (zI (M (49 + (M 5))))), (10, .int (zI (M 6))), (9, .int (zI (M 9))), (0, .ref (ad 67)), (1, .ref u), (2, .int (zI nn)), (4, .int (zI y9)), (5, .int (zI (M 3))), (6, .int (zI (M 4)))]) hx hb dL_law_996 hl (by decide) rfl (fun ls hl => ?_)
  refine z_iconst hx hb dL_law_998 ?_
  refine lv_iload hx hb dL_law_999 (lv_at hl 6 rfl) ?_
  refine z_sipush hx hb dL_law_1001 (by decide) ?_
  refine z_callS (As := [.int (zI y9), .int (zI 200)]) (rest := [.int (zI 1)]) ([] : va_W) (x8W u a r q ++ (svW ct r b nx sz S ++ (sobjW a ++ (gridW ct a M ++ (benchW ct a M ++ (logW ct a M ++ (txtW ct q TX tl pl ft wd n1 n2))))))) hx hb hml hown (fun w h => hts w (inL_153 w h)) hl hE hS hA hP hD (c_L_low l D ct ad y9 200 (by omega)) gdL_153 rfl k_L_low ⟨Nat.le_of_ble_eq_true rfl, Nat.le_of_ble_eq_true rfl⟩ rfl (Nat.le_of_ble_eq_true rfl) hc0 dL_law_1004 rfl (fun v w1 H locs hpost hP hD hS => ?_)
  obtain ⟨rfl, rfl⟩ := hpost
  have hP : va_P D vwCl (x8W u a r q ++ (svW ct r b nx sz S ++ (sobjW a ++ (gridW ct a M ++ (benchW ct a M ++ (logW ct a M ++ (txtW ct q TX tl pl ft wd n1 n2))))))) H := hP
  have hD : va_D (fun q : Nat => s.heap.size ≤ q) (x8W u a r q ++ (svW ct r b nx sz S ++ (sobjW a ++ (gridW ct a M ++ (benchW ct a M ++ (logW ct a M ++ (txtW ct q TX tl pl ft wd n1 n2))))))) := hD
  refine W.eq (g2 := F0 m 1007 ls [.int (zI (sp_low y9 200)), .int (zI 1)]) rfl ?_
  refine z_iadd hx hb dL_law_1007 ?_
  obtain ⟨hrs, hhrs⟩ : ∃ z : Int, z = 1 + (sp_low y9 200) := ⟨_, rfl⟩
  refine z_canI (show 1 + (sp_low y9 200) = hrs from hhrs.symm) ?_
  have hck : ck_hours M hrs = 0 := (if_pos (by omega)).trans (if_pos (by omega))
  have hLN : LInv (sp_pass M hrs.toNat) := (LInv_pass hL hck).1
  have e9 : (sp_pass M hrs.toNat) 9 = M 9 + hrs := (LInv_pass hL hck).2
  have h9N : (sp_pass M hrs.toNat) 9 ≤ 200 * nn + 200 := by omega
  have hs2 := hLN.1
  have kN := hs2.2.1.2.1
  have eB9 : -1999999999 ≤ sp_err (sp_pass M hrs.toNat) ∧ sp_err (sp_pass M hrs.toNat) ≤ 2000000000 := by unfold sp_err; omega
  have pc6 : (sp_pass M hrs.toNat) 6 = sp_cw M hrs.toNat := (pass_cs hI hB ha hrs.toNat (by omega)).2.1
  have bt := cw_btw hB hrs.toNat
  refine lv_istore (lv' := [(12, .int (zI hrs)), (11, .int (zI (M (49 + (M 5))))), (10, .int (zI (M 6))), (9, .int (zI (M 9))), (0, .ref (ad 67)), (1, .ref u), (2, .int (zI nn)), (4, .int (zI y9)), (5, .int (zI (M 3))), (6, .int (zI (M 4)))]) hx hb dL_law_1008 hl (by decide) rfl (fun ls hl => ?_)
  refine lv_aload_n hx hb dL_law_1010 rfl (lv_at hl 5 rfl) ?_
  refine lv_iload hx hb dL_law_1011 (lv_at hl 0 rfl) ?_
  refine z_callSW (As := [.ref u, .int (zI hrs)]) (rest := []) ([] : va_W) ([] : va_W) hx hb hml hown (fun w h => hts w (inL_141 w h)) hl hE hS hA (zr0 ([] : va_W) hP) (zr0D ([] : va_W) hD) (c_L_pass_ok l D ct ad u a r q b nx sz S M TX tl pl ft n1 n2 wd hrs (by assumption) (by omega) (by omega) (by omega) hck) gdL_141 rfl k_L_pass ⟨Nat.le_of_ble_eq_true rfl, Nat.le_of_ble_eq_true rfl⟩ rfl (Nat.le_of_ble_eq_true rfl) hc0 dL_law_1013 rfl (fun v w1 H locs hpost hP hD hS => ?_)
  obtain ⟨rfl, rfl⟩ := hpost
  have hP := zr0' hP
  have hD := zr0D' hD
  have hP : va_P D vwCl (x8W u a r q ++ (svW ct r b ((nx + 1) % 4) (min (sz + 1) 4) (updS S nx M) ++ (sobjW a ++ (gridW ct a (sp_pass M hrs.toNat) ++ (benchW ct a (sp_pass M hrs.toNat) ++ (logW ct a (sp_pass M hrs.toNat) ++ (txtW ct q TX tl pl ft wd n1 n2))))))) H := hP
  have hD : va_D (fun q : Nat => s.heap.size ≤ q) (x8W u a r q ++ (svW ct r b ((nx + 1) % 4) (min (sz + 1) 4) (updS S nx M) ++ (sobjW a ++ (gridW ct a (sp_pass M hrs.toNat) ++ (benchW ct a (sp_pass M hrs.toNat) ++ (logW ct a (sp_pass M hrs.toNat) ++ (txtW ct q TX tl pl ft wd n1 n2))))))) := hD
  refine W.eq (g2 := F0 m 1016 ls [.int (zI (sp_err (sp_pass M hrs.toNat)))]) rfl ?_
  refine z_ldc hx hb (-2100000001) hown hf_0 (by decide) dL_law_1016 ?_
  refine z_icmp_eq (tgt := 1079) hx hb dL_law_1018 (by decide) (by omega) (by omega) (fun hc_1018 => ?_) (fun hc_1018 => ?_)
  · have hc_1018 := hc_1018
    omega
  have hc_1018 := hc_1018
  refine lv_aload_n hx hb dL_law_1021 rfl (lv_at hl 5 rfl) ?_
  refine z_bipush hx hb dL_law_1022 (by decide) ?_
  refine z_callSW (As := [.ref u, .int (zI 10)]) (rest := []) ([] : va_W) ([] : va_W) hx hb hml hown (fun w h => hts w (inL_93 w h)) hl hE hS hA (zr0 ([] : va_W) hP) (zr0D ([] : va_W) hD) (c_L_whole_ok l D ct ad u a r q b ((nx + 1) % 4) (min (sz + 1) 4) (updS S nx M) (sp_pass M hrs.toNat) TX tl pl ft n1 n2 wd 10 (by assumption) (by omega) (by omega)) gdL_93 rfl k_L_whole ⟨Nat.le_of_ble_eq_true rfl, Nat.le_of_ble_eq_true rfl⟩ rfl (Nat.le_of_ble_eq_true rfl) hc0 dL_law_1024 rfl (fun v w1 H locs hpost hP hD hS => ?_)
  obtain ⟨rfl, rfl⟩ := hpost
  have hP := zr0' hP
  have hD := zr0D' hD
  have hP : va_P D vwCl (x8W u a r q ++ (svW ct r b ((nx + 1) % 4) (min (sz + 1) 4) (updS S nx M) ++ (sobjW a ++ (gridW ct a (sp_pass M hrs.toNat) ++ (benchW ct a (sp_pass M hrs.toNat) ++ (logW ct a (sp_pass M hrs.toNat) ++ (txtW ct q TX tl pl ft wd n1 n2))))))) H := hP
  have hD : va_D (fun q : Nat => s.heap.size ≤ q) (x8W u a r q ++ (svW ct r b ((nx + 1) % 4) (min (sz + 1) 4) (updS S nx M) ++ (sobjW a ++ (gridW ct a (sp_pass M hrs.toNat) ++ (benchW ct a (sp_pass M hrs.toNat) ++ (logW ct a (sp_pass M hrs.toNat) ++ (txtW ct q TX tl pl ft wd n1 n2))))))) := hD
  refine W.eq (g2 := F0 m 1027 ls [.int (zI (sp_wh (sp_pass M hrs.toNat) tl 10))]) rfl ?_
  refine z_canI (show sp_wh (sp_pass M hrs.toNat) tl 10 = (sp_pass M hrs.toNat) 9 from rfl) ?_
  refine lv_iload hx hb dL_law_1027 (lv_at hl 3 rfl) ?_
  refine lv_iload hx hb dL_law_1029 (lv_at hl 0 rfl) ?_
  refine z_iadd hx hb dL_law_1031 ?_
  refine z_icmp_ne (tgt := 1079) hx hb dL_law_1032 (by decide) (by omega) (by omega) (fun hc_1032 => ?_) (fun hc_1032 => ?_)
  · have hc_1032 := hc_1032
    omega
  have hc_1032 := hc_1032
  refine lv_aload_n hx hb dL_law_1035 rfl (lv_at hl 5 rfl) ?_
  refine z_iconst hx hb dL_law_1036 ?_
  refine z_callSW (As := [.ref u, .int (zI 3)]) (rest := []) ([] : va_W) ([] : va_W) hx hb hml hown (fun w h => hts w (inL_93 w h)) hl hE hS hA (zr0 ([] : va_W) hP) (zr0D ([] : va_W) hD) (c_L_whole_ok l D ct ad u a r q b ((nx + 1) % 4) (min (sz + 1) 4) (updS S nx M) (sp_pass M hrs.toNat) TX tl pl ft n1 n2 wd 3 (by assumption) (by omega) (by omega)) gdL_93 rfl k_L_whole ⟨Nat.le_of_ble_eq_true rfl, Nat.le_of_ble_eq_true rfl⟩ rfl (Nat.le_of_ble_eq_true rfl) hc0 dL_law_1037 rfl (fun v w1 H locs hpost hP hD hS => ?_)
  obtain ⟨rfl, rfl⟩ := hpost
  have hP := zr0' hP
  have hD := zr0D' hD
  have hP : va_P D vwCl (x8W u a r q ++ (svW ct r b ((nx + 1) % 4) (min (sz + 1) 4) (updS S nx M) ++ (sobjW a ++ (gridW ct a (sp_pass M hrs.toNat) ++ (benchW ct a (sp_pass M hrs.toNat) ++ (logW ct a (sp_pass M hrs.toNat) ++ (txtW ct q TX tl pl ft wd n1 n2))))))) H := hP
  have hD : va_D (fun q : Nat => s.heap.size ≤ q) (x8W u a r q ++ (svW ct r b ((nx + 1) % 4) (min (sz + 1) 4) (updS S nx M) ++ (sobjW a ++ (gridW ct a (sp_pass M hrs.toNat) ++ (benchW ct a (sp_pass M hrs.toNat) ++ (logW ct a (sp_pass M hrs.toNat) ++ (txtW ct q TX tl pl ft wd n1 n2))))))) := hD
  refine W.eq (g2 := F0 m 1040 ls [.int (zI (sp_wh (sp_pass M hrs.toNat) tl 3))]) rfl ?_
  refine z_canI (show sp_wh (sp_pass M hrs.toNat) tl 3 = (sp_pass M hrs.toNat) 6 from rfl) ?_
  refine lv_iload hx hb dL_law_1040 (lv_at hl 2 rfl) ?_
  refine lv_iload hx hb dL_law_1042 (lv_at hl 1 rfl) ?_
  refine z_icmp_ge (tgt := 1052) hx hb dL_law_1044 (by decide) (by omega) (by omega) (fun hc_1044 => ?_) (fun hc_1044 => ?_)
  · have hc_1044 := hc_1044
    refine lv_iload hx hb dL_law_1052 (lv_at hl 1 rfl) ?_
    refine z_icmp_lt (tgt := 1079) hx hb dL_law_1054 (by decide) (by omega) (by omega) (fun hc_1054 => ?_) (fun hc_1054 => ?_)
    · have hc_1054 := hc_1054
      omega
    have hc_1054 := hc_1054
    refine lv_aload_n hx hb dL_law_1057 rfl (lv_at hl 5 rfl) ?_
    refine z_iconst hx hb dL_law_1058 ?_
    refine z_callSW (As := [.ref u, .int (zI 3)]) (rest := []) ([] : va_W) ([] : va_W) hx hb hml hown (fun w h => hts w (inL_93 w h)) hl hE hS hA (zr0 ([] : va_W) hP) (zr0D ([] : va_W) hD) (c_L_whole_ok l D ct ad u a r q b ((nx + 1) % 4) (min (sz + 1) 4) (updS S nx M) (sp_pass M hrs.toNat) TX tl pl ft n1 n2 wd 3 (by assumption) (by omega) (by omega)) gdL_93 rfl k_L_whole ⟨Nat.le_of_ble_eq_true rfl, Nat.le_of_ble_eq_true rfl⟩ rfl (Nat.le_of_ble_eq_true rfl) hc0 dL_law_1059 rfl (fun v w1 H locs hpost hP hD hS => ?_)
    obtain ⟨rfl, rfl⟩ := hpost
    have hP := zr0' hP
    have hD := zr0D' hD
    have hP : va_P D vwCl (x8W u a r q ++ (svW ct r b ((nx + 1) % 4) (min (sz + 1) 4) (updS S nx M) ++ (sobjW a ++ (gridW ct a (sp_pass M hrs.toNat) ++ (benchW ct a (sp_pass M hrs.toNat) ++ (logW ct a (sp_pass M hrs.toNat) ++ (txtW ct q TX tl pl ft wd n1 n2))))))) H := hP
    have hD : va_D (fun q : Nat => s.heap.size ≤ q) (x8W u a r q ++ (svW ct r b ((nx + 1) % 4) (min (sz + 1) 4) (updS S nx M) ++ (sobjW a ++ (gridW ct a (sp_pass M hrs.toNat) ++ (benchW ct a (sp_pass M hrs.toNat) ++ (logW ct a (sp_pass M hrs.toNat) ++ (txtW ct q TX tl pl ft wd n1 n2))))))) := hD
    refine W.eq (g2 := F0 m 1062 ls [.int (zI (sp_wh (sp_pass M hrs.toNat) tl 3))]) rfl ?_
    refine z_canI (show sp_wh (sp_pass M hrs.toNat) tl 3 = (sp_pass M hrs.toNat) 6 from rfl) ?_
    refine lv_iload hx hb dL_law_1062 (lv_at hl 2 rfl) ?_
    refine lv_iload hx hb dL_law_1064 (lv_at hl 1 rfl) ?_
    refine z_icmp_ge (tgt := 1074) hx hb dL_law_1066 (by decide) (by omega) (by omega) (fun hc_1066 => ?_) (fun hc_1066 => ?_)
    · have hc_1066 := hc_1066
      refine lv_iload hx hb dL_law_1074 (lv_at hl 2 rfl) ?_
      refine z_icmp_le (tgt := 1081) hx hb dL_law_1076 (by decide) (by omega) (by omega) (fun hc_1076 => ?_) (fun hc_1076 => ?_)
      · have hc_1076 := hc_1076
        refine lv_goto (tgt := 1102) hx hb dL_law_1081 (by decide) ?_
        refine W.widen (k := cells + 1) (n := slots + 6) (Nat.le_add_right _ _) (Nat.le_add_right _ _) ?_
        exact ih ((nx + 1) % 4) (min (sz + 1) 4) (updS S nx M) (sp_pass M hrs.toNat) (by assumption) (by omega) (by omega) (by first | assumption | omega) p e s m below meth c b9 _ _ _ hC hP hD hS (lv_sub hl [4, 5, 6] rfl)
      · have hc_1076 := hc_1076
        omega
    · have hc_1066 := hc_1066
      refine lv_iload hx hb dL_law_1069 (lv_at hl 1 rfl) ?_
      refine lv_goto (tgt := 1076) hx hb dL_law_1071 (by decide) ?_
      refine z_icmp_le (tgt := 1081) hx hb dL_law_1076 (by decide) (by omega) (by omega) (fun hc_1076 => ?_) (fun hc_1076 => ?_)
      · have hc_1076 := hc_1076
        refine lv_goto (tgt := 1102) hx hb dL_law_1081 (by decide) ?_
        refine W.widen (k := cells + 1) (n := slots + 6) (Nat.le_add_right _ _) (Nat.le_add_right _ _) ?_
        exact ih ((nx + 1) % 4) (min (sz + 1) 4) (updS S nx M) (sp_pass M hrs.toNat) (by assumption) (by omega) (by omega) (by first | assumption | omega) p e s m below meth c b9 _ _ _ hC hP hD hS (lv_sub hl [4, 5, 6] rfl)
      · have hc_1076 := hc_1076
        omega
  · have hc_1044 := hc_1044
    refine lv_iload hx hb dL_law_1047 (lv_at hl 2 rfl) ?_
    refine lv_goto (tgt := 1054) hx hb dL_law_1049 (by decide) ?_
    refine z_icmp_lt (tgt := 1079) hx hb dL_law_1054 (by decide) (by omega) (by omega) (fun hc_1054 => ?_) (fun hc_1054 => ?_)
    · have hc_1054 := hc_1054
      omega
    have hc_1054 := hc_1054
    refine lv_aload_n hx hb dL_law_1057 rfl (lv_at hl 5 rfl) ?_
    refine z_iconst hx hb dL_law_1058 ?_
    refine z_callSW (As := [.ref u, .int (zI 3)]) (rest := []) ([] : va_W) ([] : va_W) hx hb hml hown (fun w h => hts w (inL_93 w h)) hl hE hS hA (zr0 ([] : va_W) hP) (zr0D ([] : va_W) hD) (c_L_whole_ok l D ct ad u a r q b ((nx + 1) % 4) (min (sz + 1) 4) (updS S nx M) (sp_pass M hrs.toNat) TX tl pl ft n1 n2 wd 3 (by assumption) (by omega) (by omega)) gdL_93 rfl k_L_whole ⟨Nat.le_of_ble_eq_true rfl, Nat.le_of_ble_eq_true rfl⟩ rfl (Nat.le_of_ble_eq_true rfl) hc0 dL_law_1059 rfl (fun v w1 H locs hpost hP hD hS => ?_)
    obtain ⟨rfl, rfl⟩ := hpost
    have hP := zr0' hP
    have hD := zr0D' hD
    have hP : va_P D vwCl (x8W u a r q ++ (svW ct r b ((nx + 1) % 4) (min (sz + 1) 4) (updS S nx M) ++ (sobjW a ++ (gridW ct a (sp_pass M hrs.toNat) ++ (benchW ct a (sp_pass M hrs.toNat) ++ (logW ct a (sp_pass M hrs.toNat) ++ (txtW ct q TX tl pl ft wd n1 n2))))))) H := hP
    have hD : va_D (fun q : Nat => s.heap.size ≤ q) (x8W u a r q ++ (svW ct r b ((nx + 1) % 4) (min (sz + 1) 4) (updS S nx M) ++ (sobjW a ++ (gridW ct a (sp_pass M hrs.toNat) ++ (benchW ct a (sp_pass M hrs.toNat) ++ (logW ct a (sp_pass M hrs.toNat) ++ (txtW ct q TX tl pl ft wd n1 n2))))))) := hD
    refine W.eq (g2 := F0 m 1062 ls [.int (zI (sp_wh (sp_pass M hrs.toNat) tl 3))]) rfl ?_
    refine z_canI (show sp_wh (sp_pass M hrs.toNat) tl 3 = (sp_pass M hrs.toNat) 6 from rfl) ?_
    refine lv_iload hx hb dL_law_1062 (lv_at hl 2 rfl) ?_
    refine lv_iload hx hb dL_law_1064 (lv_at hl 1 rfl) ?_
    refine z_icmp_ge (tgt := 1074) hx hb dL_law_1066 (by decide) (by omega) (by omega) (fun hc_1066 => ?_) (fun hc_1066 => ?_)
    · have hc_1066 := hc_1066
      refine lv_iload hx hb dL_law_1074 (lv_at hl 2 rfl) ?_
      refine z_icmp_le (tgt := 1081) hx hb dL_law_1076 (by decide) (by omega) (by omega) (fun hc_1076 => ?_) (fun hc_1076 => ?_)
      · have hc_1076 := hc_1076
        refine lv_goto (tgt := 1102) hx hb dL_law_1081 (by decide) ?_
        refine W.widen (k := cells + 1) (n := slots + 6) (Nat.le_add_right _ _) (Nat.le_add_right _ _) ?_
        exact ih ((nx + 1) % 4) (min (sz + 1) 4) (updS S nx M) (sp_pass M hrs.toNat) (by assumption) (by omega) (by omega) (by first | assumption | omega) p e s m below meth c b9 _ _ _ hC hP hD hS (lv_sub hl [4, 5, 6] rfl)
      · have hc_1076 := hc_1076
        omega
    · have hc_1066 := hc_1066
      refine lv_iload hx hb dL_law_1069 (lv_at hl 1 rfl) ?_
      refine lv_goto (tgt := 1076) hx hb dL_law_1071 (by decide) ?_
      refine z_icmp_le (tgt := 1081) hx hb dL_law_1076 (by decide) (by omega) (by omega) (fun hc_1076 => ?_) (fun hc_1076 => ?_)
      · have hc_1076 := hc_1076
        refine lv_goto (tgt := 1102) hx hb dL_law_1081 (by decide) ?_
        refine W.widen (k := cells + 1) (n := slots + 6) (Nat.le_add_right _ _) (Nat.le_add_right _ _) ?_
        exact ih ((nx + 1) % 4) (min (sz + 1) 4) (updS S nx M) (sp_pass M hrs.toNat) (by assumption) (by omega) (by omega) (by first | assumption | omega) p e s m below meth c b9 _ _ _ hC hP hD hS (lv_sub hl [4, 5, 6] rfl)
      · have hc_1076 := hc_1076
        omega
set_option maxHeartbeats 4000000 in
set_option maxRecDepth 100000 in
theorem lp_965 (l : Launch) (D : va_G) (ct ad : Nat → Nat) (u : Nat) (a r q : Nat → Nat) (b : Nat → Nat → Nat) (nx sz : Int) (S : Nat → Int → Int) (M TX : Int → Int) (tl pl ft n1 n2 : Int) (wd : Value) (nn : Int) (cells slots : Nat) (y9 : Int) (how : Int) (r_ : Int) (hL : LInv M) (ht : tInv TX tl) (hn : 0 ≤ nx ∧ nx ≤ 3) (hsz : 0 ≤ sz ∧ sz ≤ 4) (hn9 : 0 ≤ nn ∧ nn < 46) (h9 : M 9 ≤ 200 * nn) (hcap : cells + 41 ≤ 604022 ∧ slots + 250 ≤ 7289401) (ih : ∀ (nx sz : Int) (S : Nat → Int → Int) (M : Int → Int), LInv M → (0 ≤ nx ∧ nx ≤ 3) → (0 ≤ sz ∧ sz ≤ 4) → M 9 ≤ 200 * nn + 200 → LZ l D ct ad (cells + 1) (slots + 6) 1102 (x8W u a r q ++ (svW ct r b nx sz S ++ (sobjW a ++ (gridW ct a M ++ (benchW ct a M ++ (logW ct a M ++ (txtW ct q TX tl pl ft wd n1 n2))))))) [(0, .ref (ad 67)), (1, .ref u), (2, .int (zI nn))] []) (hyr : -2147483648 ≤ y9 ∧ y9 ≤ 2147483647) (hhow : 0 ≤ how ∧ how ≤ 15) (hr9 : 0 ≤ r_ ∧ (0 < M 4 → r_ < M 4)) : LZ l D ct ad cells slots 965 (x8W u a r q ++ (svW ct r b nx sz S ++ (sobjW a ++ (gridW ct a M ++ (benchW ct a M ++ (logW ct a M ++ (txtW ct q TX tl pl ft wd n1 n2))))))) [(0, .ref (ad 67)), (1, .ref u), (2, .int (zI nn)), (4, .int (zI y9)), (5, .int (zI (M 3))), (6, .int (zI (M 4))), (7, .int (zI how)), (8, .int (zI r_))] [] := by
  intro p e s m below meth c b9 H locs ls hC hP hD hS hl
  obtain ⟨hx, hb, hr, hml, hown, hts, hlocks, hE, hst⟩ := id hC
  have hK := hE.1
  have hA : ∀ q : Nat, s.heap.size ≤ q → (fun q : Nat => s.heap.size ≤ q) q := fun _ h => h
  have hc0 : cells ≤ room_1.cells ∧ slots ≤ room_1.slots := by show cells ≤ 604022 ∧ slots ≤ 7289401; omega
  have hs := hL.1
  have hI := hs.1
  have hB := hs.2.1
  have ha := hs.2.2
  have t1 := ht.1
  have hP : va_P D vwCl (x8W u a r q ++ (svW ct r b nx sz S ++ (sobjW a ++ (gridW ct a M ++ (benchW ct a M ++ (logW ct a M ++ (txtW ct q TX tl pl ft wd n1 n2))))))) H := hP
  have hD : va_D (fun q : Nat => s.heap.size ≤ q) (x8W u a r q ++ (svW ct r b nx sz S ++ (sobjW a ++ (gridW ct a M ++ (benchW ct a M ++ (logW ct a M ++ (txtW ct q TX tl pl ft wd n1 n2))))))) := hD
  have hl : lv_has ls 13 [(0, .ref (ad 67)), (1, .ref u), (2, .int (zI nn)), (4, .int (zI y9)), (5, .int (zI (M 3))), (6, .int (zI (M 4))), (7, .int (zI how)), (8, .int (zI r_))] := hl
  refine lv_iload hx hb dL_law_965 (lv_at hl 6 rfl) ?_
  refine z_bipush hx hb dL_law_967 (by decide) ?_
  refine z_icmp_ne (tgt := 1084) hx hb dL_law_969 (by decide) (by omega) (by omega) (fun hc_969 => ?_) (fun hc_969 => ?_)
  · have hc_969 := hc_969
    exact lp_1084 l D ct ad u a r q b nx sz S M TX tl pl ft n1 n2 wd nn cells slots y9 how r_ hL ht hn hsz hn9 h9 hcap ih (show -2147483648 ≤ y9 ∧ y9 ≤ 2147483647 from (by first | assumption | omega)) (show 0 ≤ how ∧ how ≤ 15 from (by first | assumption | omega)) (show 0 ≤ r_ ∧ (0 < M 4 → r_ < M 4) from (by first | assumption | omega)) p e s m below meth c b9 _ _ _ hC hP hD hS (lv_sub hl [0, 1, 2, 3, 4, 5, 6, 7] rfl)
  · have hc_969 := hc_969
    exact lp_972 l D ct ad u a r q b nx sz S M TX tl pl ft n1 n2 wd nn cells slots y9 hL ht hn hsz hn9 h9 hcap ih (show -2147483648 ≤ y9 ∧ y9 ≤ 2147483647 from (by first | assumption | omega)) p e s m below meth c b9 _ _ _ hC hP hD hS (lv_sub hl [0, 1, 2, 3, 4, 5] rfl)
set_option maxHeartbeats 4000000 in
set_option maxRecDepth 100000 in
theorem lp_930 (l : Launch) (D : va_G) (ct ad : Nat → Nat) (u : Nat) (a r q : Nat → Nat) (b : Nat → Nat → Nat) (nx sz : Int) (S : Nat → Int → Int) (M TX : Int → Int) (tl pl ft n1 n2 : Int) (wd : Value) (nn : Int) (cells slots : Nat) (y9 : Int) (hL : LInv M) (ht : tInv TX tl) (hn : 0 ≤ nx ∧ nx ≤ 3) (hsz : 0 ≤ sz ∧ sz ≤ 4) (hn9 : 0 ≤ nn ∧ nn < 46) (h9 : M 9 ≤ 200 * nn) (hcap : cells + 41 ≤ 604022 ∧ slots + 250 ≤ 7289401) (ih : ∀ (nx sz : Int) (S : Nat → Int → Int) (M : Int → Int), LInv M → (0 ≤ nx ∧ nx ≤ 3) → (0 ≤ sz ∧ sz ≤ 4) → M 9 ≤ 200 * nn + 200 → LZ l D ct ad (cells + 1) (slots + 6) 1102 (x8W u a r q ++ (svW ct r b nx sz S ++ (sobjW a ++ (gridW ct a M ++ (benchW ct a M ++ (logW ct a M ++ (txtW ct q TX tl pl ft wd n1 n2))))))) [(0, .ref (ad 67)), (1, .ref u), (2, .int (zI nn))] []) (hyr : -2147483648 ≤ y9 ∧ y9 ≤ 2147483647) : LZ l D ct ad cells slots 930 (x8W u a r q ++ (svW ct r b nx sz S ++ (sobjW a ++ (gridW ct a M ++ (benchW ct a M ++ (logW ct a M ++ (txtW ct q TX tl pl ft wd n1 n2))))))) [(0, .ref (ad 67)), (1, .ref u), (2, .int (zI nn)), (4, .int (zI y9)), (5, .int (zI (M 3))), (6, .int (zI (M 4)))] [] := by
  intro p e s m below meth c b9 H locs ls hC hP hD hS hl
  obtain ⟨hx, hb, hr, hml, hown, hts, hlocks, hE, hst⟩ := id hC
  have hK := hE.1
  have hA : ∀ q : Nat, s.heap.size ≤ q → (fun q : Nat => s.heap.size ≤ q) q := fun _ h => h
  have hc0 : cells ≤ room_1.cells ∧ slots ≤ room_1.slots := by show cells ≤ 604022 ∧ slots ≤ 7289401; omega
  have hs := hL.1
  have hI := hs.1
  have hB := hs.2.1
  have ha := hs.2.2
  have t1 := ht.1
  have hP : va_P D vwCl (x8W u a r q ++ (svW ct r b nx sz S ++ (sobjW a ++ (gridW ct a M ++ (benchW ct a M ++ (logW ct a M ++ (txtW ct q TX tl pl ft wd n1 n2))))))) H := hP
  have hD : va_D (fun q : Nat => s.heap.size ≤ q) (x8W u a r q ++ (svW ct r b nx sz S ++ (sobjW a ++ (gridW ct a M ++ (benchW ct a M ++ (logW ct a M ++ (txtW ct q TX tl pl ft wd n1 n2))))))) := hD
  have hl : lv_has ls 13 [(0, .ref (ad 67)), (1, .ref u), (2, .int (zI nn)), (4, .int (zI y9)), (5, .int (zI (M 3))), (6, .int (zI (M 4)))] := hl
  have lwA := sp_lowB (v := y9) (n := 8) (by decide)
  refine z_iconst hx hb dL_law_930 ?_
  refine lv_istore (lv' := [(9, .int (zI 0)), (0, .ref (ad 67)), (1, .ref u), (2, .int (zI nn)), (4, .int (zI y9)), (5, .int (zI (M 3))), (6, .int (zI (M 4)))]) hx hb dL_law_931 hl (by decide) rfl (fun ls hl => ?_)
  refine z_loop (σ := Int × Int × Int × (Nat → Int → Int) × (Int → Int)) (fun q9 => (8 - q9.1).toNat) (fun q9 => (0 ≤ q9.1 ∧ q9.1 ≤ 8) ∧ (LInv q9.2.2.2.2) ∧ (0 ≤ q9.2.1 ∧ q9.2.1 ≤ 3) ∧ (0 ≤ q9.2.2.1 ∧ q9.2.2.1 ≤ 4) ∧ (q9.2.2.2.2 9 ≤ 200 * nn + q9.1)) (fun q9 => x8W u a r q ++ (svW ct r b q9.2.1 q9.2.2.1 q9.2.2.2.1 ++ (sobjW a ++ (gridW ct a q9.2.2.2.2 ++ (benchW ct a q9.2.2.2.2 ++ (logW ct a q9.2.2.2.2 ++ (txtW ct q TX tl pl ft wd n1 n2))))))) (fun q9 => [(0, .ref (ad 67)), (1, .ref u), (2, .int (zI nn)), (4, .int (zI y9)), (9, .int (zI q9.1))]) (fun q9 => []) (0, nx, sz, S, M) ⟨(show 0 ≤ 0 ∧ 0 ≤ 8 from (by omega)), (show LInv M from (by assumption)), (show 0 ≤ nx ∧ nx ≤ 3 from (by omega)), (show 0 ≤ sz ∧ sz ≤ 4 from (by omega)), (show M 9 ≤ 200 * nn + 0 from (by omega))⟩ hP hD hS (lv_sub hl [1, 2, 3, 4, 0] rfl) rfl ?_
  rintro ⟨k_, nv, sv_, Sv, N⟩ hI_933 ih_933 H locs ls hP hD hS hl
  obtain ⟨hk, hLN, hnv, hsv, h9N⟩ := hI_933
  have hk : 0 ≤ k_ ∧ k_ ≤ 8 := hk
  have hLN : LInv N := hLN
  have hnv : 0 ≤ nv ∧ nv ≤ 3 := hnv
  have hsv : 0 ≤ sv_ ∧ sv_ ≤ 4 := hsv
  have h9N : N 9 ≤ 200 * nn + k_ := h9N
  have hP : va_P D vwCl (x8W u a r q ++ (svW ct r b nv sv_ Sv ++ (sobjW a ++ (gridW ct a N ++ (benchW ct a N ++ (logW ct a N ++ (txtW ct q TX tl pl ft wd n1 n2))))))) H := hP
  have hD : va_D (fun q : Nat => s.heap.size ≤ q) (x8W u a r q ++ (svW ct r b nv sv_ Sv ++ (sobjW a ++ (gridW ct a N ++ (benchW ct a N ++ (logW ct a N ++ (txtW ct q TX tl pl ft wd n1 n2))))))) := hD
  have hl : lv_has ls 13 [(0, .ref (ad 67)), (1, .ref u), (2, .int (zI nn)), (4, .int (zI y9)), (9, .int (zI k_))] := hl
  refine lv_iload hx hb dL_law_933 (lv_at hl 4 rfl) ?_
  refine z_iconst hx hb dL_law_935 ?_
  refine lv_iload hx hb dL_law_936 (lv_at hl 3 rfl) ?_
  refine z_bipush hx hb dL_law_938 (by decide) ?_
  refine z_callS (As := [.int (zI y9), .int (zI 8)]) (rest := [.int (zI 1), .int (zI k_)]) ([] : va_W) (x8W u a r q ++ (svW ct r b nv sv_ Sv ++ (sobjW a ++ (gridW ct a N ++ (benchW ct a N ++ (logW ct a N ++ (txtW ct q TX tl pl ft wd n1 n2))))))) hx hb hml hown (fun w h => hts w (inL_153 w h)) hl hE hS hA hP hD (c_L_low l D ct ad y9 8 (by omega)) gdL_153 rfl k_L_low ⟨Nat.le_of_ble_eq_true rfl, Nat.le_of_ble_eq_true rfl⟩ rfl (Nat.le_of_ble_eq_true rfl) hc0 dL_law_940 rfl (fun v w1 H locs hpost hP hD hS => ?_)
  obtain ⟨rfl, rfl⟩ := hpost
  have hP : va_P D vwCl (x8W u a r q ++ (svW ct r b nv sv_ Sv ++ (sobjW a ++ (gridW ct a N ++ (benchW ct a N ++ (logW ct a N ++ (txtW ct q TX tl pl ft wd n1 n2))))))) H := hP
  have hD : va_D (fun q : Nat => s.heap.size ≤ q) (x8W u a r q ++ (svW ct r b nv sv_ Sv ++ (sobjW a ++ (gridW ct a N ++ (benchW ct a N ++ (logW ct a N ++ (txtW ct q TX tl pl ft wd n1 n2))))))) := hD
  refine W.eq (g2 := F0 m 943 ls [.int (zI (sp_low y9 8)), .int (zI 1), .int (zI k_)]) rfl ?_
  refine z_iadd hx hb dL_law_943 ?_
  refine z_icmp_ge (tgt := 962) hx hb dL_law_944 (by decide) (by omega) (by omega) (fun hc_944 => ?_) (fun hc_944 => ?_)
  · have hc_944 := hc_944
    refine lv_goto (tgt := 1102) hx hb dL_law_962 (by decide) ?_
    refine W.widen (k := cells + 1) (n := slots + 6) (Nat.le_add_right _ _) (Nat.le_add_right _ _) ?_
    exact ih nv sv_ Sv N (by assumption) (by omega) (by omega) (by first | assumption | omega) p e s m below meth c b9 _ _ _ hC hP hD hS (lv_sub hl [0, 1, 2] rfl)
  · have hc_944 := hc_944
    refine lv_aload_n hx hb dL_law_947 rfl (lv_at hl 1 rfl) ?_
    refine z_callS (As := [.ref u]) (rest := []) ([] : va_W) ([] : va_W) hx hb hml hown (fun w h => hts w (inL_212 w h)) hl hE hS hA (zr0 ([] : va_W) hP) (zr0D ([] : va_W) hD) (c_L_hour l D ct ad u a r q b nv sv_ Sv N TX tl pl ft n1 n2 wd (by assumption) (by assumption) (by omega) (by omega) (by omega)) gdL_212 rfl k_L_hour ⟨Nat.le_of_ble_eq_true rfl, Nat.le_of_ble_eq_true rfl⟩ rfl (Nat.le_of_ble_eq_true rfl) hc0 dL_law_948 rfl (fun v w1 H locs hpost hP hD hS => ?_)
    obtain ⟨rfl, rfl⟩ := hpost
    have hP := zr0' hP
    have hD := zr0D' hD
    have hP : va_P D vwCl (x8W u a r q ++ (svW ct r b ((nv + 1) % 4) (min (sv_ + 1) 4) (updS Sv nv N) ++ (sobjW a ++ (gridW ct a (sp_pass N (1 : Int).toNat) ++ (benchW ct a (sp_pass N (1 : Int).toNat) ++ (logW ct a (sp_pass N (1 : Int).toNat) ++ (txtW ct q TX tl pl ft wd n1 n2))))))) H := hP
    have hD : va_D (fun q : Nat => s.heap.size ≤ q) (x8W u a r q ++ (svW ct r b ((nv + 1) % 4) (min (sv_ + 1) 4) (updS Sv nv N) ++ (sobjW a ++ (gridW ct a (sp_pass N (1 : Int).toNat) ++ (benchW ct a (sp_pass N (1 : Int).toNat) ++ (logW ct a (sp_pass N (1 : Int).toNat) ++ (txtW ct q TX tl pl ft wd n1 n2))))))) := hD
    refine W.eq (g2 := F0 m 951 ls [.int (zI 1)]) rfl ?_
    refine z_if_ne (tgt := 956) hx hb dL_law_951 (by decide) (by omega) (fun hc_951 => ?_) (fun hc_951 => ?_)
    · have hc_951 := hc_951
      refine z_iinc (k := 4) (lv' := [(9, .int (zI (k_ + 1))), (0, .ref (ad 67)), (1, .ref u), (2, .int (zI nn)), (4, .int (zI y9))]) hx hb dL_law_956 hl rfl (by decide) rfl (fun ls hl => ?_)
      refine lv_goto (tgt := 933) hx hb dL_law_959 (by decide) ?_
      exact ih_933 (k_ + 1, ((nv + 1) % 4), (min (sv_ + 1) 4), (updS Sv nv N), (sp_pass N (1 : Int).toNat)) ⟨(show 0 ≤ (k_ + 1) ∧ (k_ + 1) ≤ 8 from (by omega)), (show LInv (sp_pass N (1 : Int).toNat) from (by exact (LInv_pass hLN (ck_one (by omega))).1)), (show 0 ≤ ((nv + 1) % 4) ∧ ((nv + 1) % 4) ≤ 3 from (by omega)), (show 0 ≤ (min (sv_ + 1) 4) ∧ (min (sv_ + 1) 4) ≤ 4 from (by omega)), (show (sp_pass N (1 : Int).toNat) 9 ≤ 200 * nn + (k_ + 1) from (by have q9 := (LInv_pass hLN (ck_one (by omega))).2; omega))⟩ (show (8 - (k_ + 1)).toNat < (8 - k_).toNat from (by omega)) _ _ _ hP hD hS (lv_sub hl [1, 2, 3, 4, 0] rfl)
    · have hc_951 := hc_951
      omega
set_option maxHeartbeats 4000000 in
set_option maxRecDepth 100000 in
theorem lp_923 (l : Launch) (D : va_G) (ct ad : Nat → Nat) (u : Nat) (a r q : Nat → Nat) (b : Nat → Nat → Nat) (nx sz : Int) (S : Nat → Int → Int) (M TX : Int → Int) (tl pl ft n1 n2 : Int) (wd : Value) (nn : Int) (cells slots : Nat) (y9 : Int) (how : Int) (r_ : Int) (hL : LInv M) (ht : tInv TX tl) (hn : 0 ≤ nx ∧ nx ≤ 3) (hsz : 0 ≤ sz ∧ sz ≤ 4) (hn9 : 0 ≤ nn ∧ nn < 46) (h9 : M 9 ≤ 200 * nn) (hcap : cells + 41 ≤ 604022 ∧ slots + 250 ≤ 7289401) (ih : ∀ (nx sz : Int) (S : Nat → Int → Int) (M : Int → Int), LInv M → (0 ≤ nx ∧ nx ≤ 3) → (0 ≤ sz ∧ sz ≤ 4) → M 9 ≤ 200 * nn + 200 → LZ l D ct ad (cells + 1) (slots + 6) 1102 (x8W u a r q ++ (svW ct r b nx sz S ++ (sobjW a ++ (gridW ct a M ++ (benchW ct a M ++ (logW ct a M ++ (txtW ct q TX tl pl ft wd n1 n2))))))) [(0, .ref (ad 67)), (1, .ref u), (2, .int (zI nn))] []) (hyr : -2147483648 ≤ y9 ∧ y9 ≤ 2147483647) (hhow : 0 ≤ how ∧ how ≤ 15) (hr9 : 0 ≤ r_ ∧ (0 < M 4 → r_ < M 4)) : LZ l D ct ad cells slots 923 (x8W u a r q ++ (svW ct r b nx sz S ++ (sobjW a ++ (gridW ct a M ++ (benchW ct a M ++ (logW ct a M ++ (txtW ct q TX tl pl ft wd n1 n2))))))) [(0, .ref (ad 67)), (1, .ref u), (2, .int (zI nn)), (4, .int (zI y9)), (5, .int (zI (M 3))), (6, .int (zI (M 4))), (7, .int (zI how)), (8, .int (zI r_))] [] := by
  intro p e s m below meth c b9 H locs ls hC hP hD hS hl
  obtain ⟨hx, hb, hr, hml, hown, hts, hlocks, hE, hst⟩ := id hC
  have hK := hE.1
  have hA : ∀ q : Nat, s.heap.size ≤ q → (fun q : Nat => s.heap.size ≤ q) q := fun _ h => h
  have hc0 : cells ≤ room_1.cells ∧ slots ≤ room_1.slots := by show cells ≤ 604022 ∧ slots ≤ 7289401; omega
  have hs := hL.1
  have hI := hs.1
  have hB := hs.2.1
  have ha := hs.2.2
  have t1 := ht.1
  have hP : va_P D vwCl (x8W u a r q ++ (svW ct r b nx sz S ++ (sobjW a ++ (gridW ct a M ++ (benchW ct a M ++ (logW ct a M ++ (txtW ct q TX tl pl ft wd n1 n2))))))) H := hP
  have hD : va_D (fun q : Nat => s.heap.size ≤ q) (x8W u a r q ++ (svW ct r b nx sz S ++ (sobjW a ++ (gridW ct a M ++ (benchW ct a M ++ (logW ct a M ++ (txtW ct q TX tl pl ft wd n1 n2))))))) := hD
  have hl : lv_has ls 13 [(0, .ref (ad 67)), (1, .ref u), (2, .int (zI nn)), (4, .int (zI y9)), (5, .int (zI (M 3))), (6, .int (zI (M 4))), (7, .int (zI how)), (8, .int (zI r_))] := hl
  refine lv_iload hx hb dL_law_923 (lv_at hl 6 rfl) ?_
  refine z_bipush hx hb dL_law_925 (by decide) ?_
  refine z_icmp_ge (tgt := 965) hx hb dL_law_927 (by decide) (by omega) (by omega) (fun hc_927 => ?_) (fun hc_927 => ?_)
  · have hc_927 := hc_927
    exact lp_965 l D ct ad u a r q b nx sz S M TX tl pl ft n1 n2 wd nn cells slots y9 how r_ hL ht hn hsz hn9 h9 hcap ih (show -2147483648 ≤ y9 ∧ y9 ≤ 2147483647 from (by first | assumption | omega)) (show 0 ≤ how ∧ how ≤ 15 from (by first | assumption | omega)) (show 0 ≤ r_ ∧ (0 < M 4 → r_ < M 4) from (by first | assumption | omega)) p e s m below meth c b9 _ _ _ hC hP hD hS (lv_sub hl [0, 1, 2, 3, 4, 5, 6, 7] rfl)
  · have hc_927 := hc_927
    exact lp_930 l D ct ad u a r q b nx sz S M TX tl pl ft n1 n2 wd nn cells slots y9 hL ht hn hsz hn9 h9 hcap ih (show -2147483648 ≤ y9 ∧ y9 ≤ 2147483647 from (by first | assumption | omega)) p e s m below meth c b9 _ _ _ hC hP hD hS (lv_sub hl [0, 1, 2, 3, 4, 5] rfl)
set_option maxHeartbeats 4000000 in
set_option maxRecDepth 100000 in
theorem lp_839 (l : Launch) (D : va_G) (ct ad : Nat → Nat) (u : Nat) (a r q : Nat → Nat) (b : Nat → Nat → Nat) (nx sz : Int) (S : Nat → Int → Int) (M TX : Int → Int) (tl pl ft n1 n2 : Int) (wd : Value) (nn : Int) (cells slots : Nat) (y9 : Int) (w9 : Int) (to9 : Int) (hL : LInv M) (ht : tInv TX tl) (hn : 0 ≤ nx ∧ nx ≤ 3) (hsz : 0 ≤ sz ∧ sz ≤ 4) (hn9 : 0 ≤ nn ∧ nn < 46) (h9 : M 9 ≤ 200 * nn) (hcap : cells + 41 ≤ 604022 ∧ slots + 250 ≤ 7289401) (ih : ∀ (nx sz : Int) (S : Nat → Int → Int) (M : Int → Int), LInv M → (0 ≤ nx ∧ nx ≤ 3) → (0 ≤ sz ∧ sz ≤ 4) → M 9 ≤ 200 * nn + 200 → LZ l D ct ad (cells + 1) (slots + 6) 1102 (x8W u a r q ++ (svW ct r b nx sz S ++ (sobjW a ++ (gridW ct a M ++ (benchW ct a M ++ (logW ct a M ++ (txtW ct q TX tl pl ft wd n1 n2))))))) [(0, .ref (ad 67)), (1, .ref u), (2, .int (zI nn))] []) (hyr : -2147483648 ≤ y9 ∧ y9 ≤ 2147483647) (hw9 : w9 = 0 ∨ w9 = 1 ∨ w9 = 2) (hto : (w9 = 0 ∧ 100000 ≤ to9 ∧ to9 ≤ 2000000) ∨ (w9 = 1 ∧ 1 ≤ to9 ∧ to9 ≤ 24) ∨ (w9 = 2 ∧ 0 ≤ to9 ∧ to9 ≤ 100)) : LZ l D ct ad cells slots 839 (x8W u a r q ++ (svW ct r b nx sz S ++ (sobjW a ++ (gridW ct a M ++ (benchW ct a M ++ (logW ct a M ++ (txtW ct q TX tl pl ft wd n1 n2))))))) [(0, .ref (ad 67)), (1, .ref u), (2, .int (zI nn)), (4, .int (zI y9)), (9, .int (zI w9))] [.int (zI to9)] := by
  intro p e s m below meth c b9 H locs ls hC hP hD hS hl
  obtain ⟨hx, hb, hr, hml, hown, hts, hlocks, hE, hst⟩ := id hC
  have hK := hE.1
  have hA : ∀ q : Nat, s.heap.size ≤ q → (fun q : Nat => s.heap.size ≤ q) q := fun _ h => h
  have hc0 : cells ≤ room_1.cells ∧ slots ≤ room_1.slots := by show cells ≤ 604022 ∧ slots ≤ 7289401; omega
  have hs := hL.1
  have hI := hs.1
  have hB := hs.2.1
  have ha := hs.2.2
  have t1 := ht.1
  have hP : va_P D vwCl (x8W u a r q ++ (svW ct r b nx sz S ++ (sobjW a ++ (gridW ct a M ++ (benchW ct a M ++ (logW ct a M ++ (txtW ct q TX tl pl ft wd n1 n2))))))) H := hP
  have hD : va_D (fun q : Nat => s.heap.size ≤ q) (x8W u a r q ++ (svW ct r b nx sz S ++ (sobjW a ++ (gridW ct a M ++ (benchW ct a M ++ (logW ct a M ++ (txtW ct q TX tl pl ft wd n1 n2))))))) := hD
  have hl : lv_has ls 13 [(0, .ref (ad 67)), (1, .ref u), (2, .int (zI nn)), (4, .int (zI y9)), (9, .int (zI w9))] := hl
  have j0 := hB.1
  have j1 := hB.2.1
  have lwC := sp_lowB (v := y9 / 1048576) (n := 2) (by decide)
  have hck : ck_set w9 to9 = 0 := if_pos hto
  have hLN : LInv (up M w9 to9) := LInv_set hL hck
  have hs2 := hLN.1
  have h9N : up M w9 to9 9 ≤ 200 * nn + 200 := by rw [up_n (by omega)]; omega
  have qw : 0 ≤ M w9 ∧ M w9 ≤ 2000000 := by rcases hw9 with z | z | z <;> rw [z] <;> omega
  refine lv_istore (lv' := [(10, .int (zI to9)), (0, .ref (ad 67)), (1, .ref u), (2, .int (zI nn)), (4, .int (zI y9)), (9, .int (zI w9))]) hx hb dL_law_839 hl (by decide) rfl (fun ls hl => ?_)
  refine lv_aload_n hx hb dL_law_841 rfl (lv_at hl 2 rfl) ?_
  refine z_bipush hx hb dL_law_842 (by decide) ?_
  refine lv_iload hx hb dL_law_844 (lv_at hl 5 rfl) ?_
  refine z_iadd hx hb dL_law_846 ?_
  refine z_callSW (As := [.ref u, .int (zI (13 + w9))]) (rest := []) ([] : va_W) ([] : va_W) hx hb hml hown (fun w h => hts w (inL_93 w h)) hl hE hS hA (zr0 ([] : va_W) hP) (zr0D ([] : va_W) hD) (c_L_whole_ok l D ct ad u a r q b nx sz S M TX tl pl ft n1 n2 wd (13 + w9) (by assumption) (by omega) (by omega)) gdL_93 rfl k_L_whole ⟨Nat.le_of_ble_eq_true rfl, Nat.le_of_ble_eq_true rfl⟩ rfl (Nat.le_of_ble_eq_true rfl) hc0 dL_law_847 rfl (fun v w1 H locs hpost hP hD hS => ?_)
  obtain ⟨rfl, rfl⟩ := hpost
  have hP := zr0' hP
  have hD := zr0D' hD
  have hP : va_P D vwCl (x8W u a r q ++ (svW ct r b nx sz S ++ (sobjW a ++ (gridW ct a M ++ (benchW ct a M ++ (logW ct a M ++ (txtW ct q TX tl pl ft wd n1 n2))))))) H := hP
  have hD : va_D (fun q : Nat => s.heap.size ≤ q) (x8W u a r q ++ (svW ct r b nx sz S ++ (sobjW a ++ (gridW ct a M ++ (benchW ct a M ++ (logW ct a M ++ (txtW ct q TX tl pl ft wd n1 n2))))))) := hD
  refine W.eq (g2 := F0 m 850 ls [.int (zI (sp_wh M tl (13 + w9)))]) rfl ?_
  refine z_canI (show sp_wh M tl (13 + w9) = M w9 from (wh_set hw9)) ?_
  refine lv_istore (lv' := [(11, .int (zI (M w9))), (10, .int (zI to9)), (0, .ref (ad 67)), (1, .ref u), (2, .int (zI nn)), (4, .int (zI y9)), (9, .int (zI w9))]) hx hb dL_law_850 hl (by decide) rfl (fun ls hl => ?_)
  refine lv_aload_n hx hb dL_law_852 rfl (lv_at hl 3 rfl) ?_
  refine z_iconst hx hb dL_law_853 ?_
  refine z_callSW (As := [.ref u, .int (zI 5)]) (rest := []) ([] : va_W) ([] : va_W) hx hb hml hown (fun w h => hts w (inL_93 w h)) hl hE hS hA (zr0 ([] : va_W) hP) (zr0D ([] : va_W) hD) (c_L_whole_ok l D ct ad u a r q b nx sz S M TX tl pl ft n1 n2 wd 5 (by assumption) (by omega) (by omega)) gdL_93 rfl k_L_whole ⟨Nat.le_of_ble_eq_true rfl, Nat.le_of_ble_eq_true rfl⟩ rfl (Nat.le_of_ble_eq_true rfl) hc0 dL_law_854 rfl (fun v w1 H locs hpost hP hD hS => ?_)
  obtain ⟨rfl, rfl⟩ := hpost
  have hP := zr0' hP
  have hD := zr0D' hD
  have hP : va_P D vwCl (x8W u a r q ++ (svW ct r b nx sz S ++ (sobjW a ++ (gridW ct a M ++ (benchW ct a M ++ (logW ct a M ++ (txtW ct q TX tl pl ft wd n1 n2))))))) H := hP
  have hD : va_D (fun q : Nat => s.heap.size ≤ q) (x8W u a r q ++ (svW ct r b nx sz S ++ (sobjW a ++ (gridW ct a M ++ (benchW ct a M ++ (logW ct a M ++ (txtW ct q TX tl pl ft wd n1 n2))))))) := hD
  refine W.eq (g2 := F0 m 857 ls [.int (zI (sp_wh M tl 5))]) rfl ?_
  refine z_canI (show sp_wh M tl 5 = M 8 from rfl) ?_
  refine lv_istore (lv' := [(12, .int (zI (M 8))), (11, .int (zI (M w9))), (10, .int (zI to9)), (0, .ref (ad 67)), (1, .ref u), (2, .int (zI nn)), (4, .int (zI y9)), (9, .int (zI w9))]) hx hb dL_law_857 hl (by decide) rfl (fun ls hl => ?_)
  refine lv_aload_n hx hb dL_law_859 rfl (lv_at hl 4 rfl) ?_
  refine lv_iload hx hb dL_law_860 (lv_at hl 7 rfl) ?_
  refine lv_iload hx hb dL_law_862 (lv_at hl 2 rfl) ?_
  refine z_callSW (As := [.ref u, .int (zI w9), .int (zI to9)]) (rest := []) ([] : va_W) ([] : va_W) hx hb hml hown (fun w h => hts w (inL_185 w h)) hl hE hS hA (zr0 ([] : va_W) hP) (zr0D ([] : va_W) hD) (c_L_set_ok l D ct ad u a r q b nx sz S M TX tl pl ft n1 n2 wd w9 to9 (by assumption) (by omega) (by omega) (by omega) (by omega) hck) gdL_185 rfl k_L_set ⟨Nat.le_of_ble_eq_true rfl, Nat.le_of_ble_eq_true rfl⟩ rfl (Nat.le_of_ble_eq_true rfl) hc0 dL_law_864 rfl (fun v w1 H locs hpost hP hD hS => ?_)
  obtain ⟨rfl, rfl⟩ := hpost
  have hP := zr0' hP
  have hD := zr0D' hD
  have hP : va_P D vwCl (x8W u a r q ++ (svW ct r b ((nx + 1) % 4) (min (sz + 1) 4) (updS S nx M) ++ (sobjW a ++ (gridW ct a (up M w9 to9) ++ (benchW ct a (up M w9 to9) ++ (logW ct a (up M w9 to9) ++ (txtW ct q TX tl pl ft wd n1 n2))))))) H := hP
  have hD : va_D (fun q : Nat => s.heap.size ≤ q) (x8W u a r q ++ (svW ct r b ((nx + 1) % 4) (min (sz + 1) 4) (updS S nx M) ++ (sobjW a ++ (gridW ct a (up M w9 to9) ++ (benchW ct a (up M w9 to9) ++ (logW ct a (up M w9 to9) ++ (txtW ct q TX tl pl ft wd n1 n2))))))) := hD
  refine W.eq (g2 := F0 m 867 ls [.int (zI (M w9))]) rfl ?_
  refine lv_iload hx hb dL_law_867 (lv_at hl 1 rfl) ?_
  refine z_icmp_ne (tgt := 918) hx hb dL_law_869 (by decide) (by omega) (by omega) (fun hc_869 => ?_) (fun hc_869 => ?_)
  · have hc_869 := hc_869
    omega
  have hc_869 := hc_869
  refine lv_aload_n hx hb dL_law_872 rfl (lv_at hl 4 rfl) ?_
  refine z_bipush hx hb dL_law_873 (by decide) ?_
  refine lv_iload hx hb dL_law_875 (lv_at hl 7 rfl) ?_
  refine z_iadd hx hb dL_law_877 ?_
  refine z_callSW (As := [.ref u, .int (zI (13 + w9))]) (rest := []) ([] : va_W) ([] : va_W) hx hb hml hown (fun w h => hts w (inL_93 w h)) hl hE hS hA (zr0 ([] : va_W) hP) (zr0D ([] : va_W) hD) (c_L_whole_ok l D ct ad u a r q b ((nx + 1) % 4) (min (sz + 1) 4) (updS S nx M) (up M w9 to9) TX tl pl ft n1 n2 wd (13 + w9) (by assumption) (by omega) (by omega)) gdL_93 rfl k_L_whole ⟨Nat.le_of_ble_eq_true rfl, Nat.le_of_ble_eq_true rfl⟩ rfl (Nat.le_of_ble_eq_true rfl) hc0 dL_law_878 rfl (fun v w1 H locs hpost hP hD hS => ?_)
  obtain ⟨rfl, rfl⟩ := hpost
  have hP := zr0' hP
  have hD := zr0D' hD
  have hP : va_P D vwCl (x8W u a r q ++ (svW ct r b ((nx + 1) % 4) (min (sz + 1) 4) (updS S nx M) ++ (sobjW a ++ (gridW ct a (up M w9 to9) ++ (benchW ct a (up M w9 to9) ++ (logW ct a (up M w9 to9) ++ (txtW ct q TX tl pl ft wd n1 n2))))))) H := hP
  have hD : va_D (fun q : Nat => s.heap.size ≤ q) (x8W u a r q ++ (svW ct r b ((nx + 1) % 4) (min (sz + 1) 4) (updS S nx M) ++ (sobjW a ++ (gridW ct a (up M w9 to9) ++ (benchW ct a (up M w9 to9) ++ (logW ct a (up M w9 to9) ++ (txtW ct q TX tl pl ft wd n1 n2))))))) := hD
  refine W.eq (g2 := F0 m 881 ls [.int (zI (sp_wh (up M w9 to9) tl (13 + w9)))]) rfl ?_
  refine z_canI (show sp_wh (up M w9 to9) tl (13 + w9) = to9 from ((wh_set hw9).trans up_s)) ?_
  refine lv_iload hx hb dL_law_881 (lv_at hl 2 rfl) ?_
  refine z_icmp_ne (tgt := 918) hx hb dL_law_883 (by decide) (by omega) (by omega) (fun hc_883 => ?_) (fun hc_883 => ?_)
  · have hc_883 := hc_883
    omega
  have hc_883 := hc_883
  refine lv_iload hx hb dL_law_886 (lv_at hl 6 rfl) ?_
  refine z_bipush hx hb dL_law_888 (by decide) ?_
  refine z_ishr (n := 20) (d := 1048576) hx hb dL_law_890 (by omega) (by decide) (by decide) ?_
  refine z_iconst hx hb dL_law_891 ?_
  refine z_callS (As := [.int (zI (y9 / 1048576)), .int (zI 2)]) (rest := []) ([] : va_W) (x8W u a r q ++ (svW ct r b ((nx + 1) % 4) (min (sz + 1) 4) (updS S nx M) ++ (sobjW a ++ (gridW ct a (up M w9 to9) ++ (benchW ct a (up M w9 to9) ++ (logW ct a (up M w9 to9) ++ (txtW ct q TX tl pl ft wd n1 n2))))))) hx hb hml hown (fun w h => hts w (inL_153 w h)) hl hE hS hA hP hD (c_L_low l D ct ad (y9 / 1048576) 2 (by omega)) gdL_153 rfl k_L_low ⟨Nat.le_of_ble_eq_true rfl, Nat.le_of_ble_eq_true rfl⟩ rfl (Nat.le_of_ble_eq_true rfl) hc0 dL_law_892 rfl (fun v w1 H locs hpost hP hD hS => ?_)
  obtain ⟨rfl, rfl⟩ := hpost
  have hP : va_P D vwCl (x8W u a r q ++ (svW ct r b ((nx + 1) % 4) (min (sz + 1) 4) (updS S nx M) ++ (sobjW a ++ (gridW ct a (up M w9 to9) ++ (benchW ct a (up M w9 to9) ++ (logW ct a (up M w9 to9) ++ (txtW ct q TX tl pl ft wd n1 n2))))))) H := hP
  have hD : va_D (fun q : Nat => s.heap.size ≤ q) (x8W u a r q ++ (svW ct r b ((nx + 1) % 4) (min (sz + 1) 4) (updS S nx M) ++ (sobjW a ++ (gridW ct a (up M w9 to9) ++ (benchW ct a (up M w9 to9) ++ (logW ct a (up M w9 to9) ++ (txtW ct q TX tl pl ft wd n1 n2))))))) := hD
  refine W.eq (g2 := F0 m 895 ls [.int (zI (sp_low (y9 / 1048576) 2))]) rfl ?_
  refine z_if_ne (tgt := 920) hx hb dL_law_895 (by decide) (by omega) (fun hc_895 => ?_) (fun hc_895 => ?_)
  · have hc_895 := hc_895
    refine lv_goto (tgt := 1102) hx hb dL_law_920 (by decide) ?_
    refine W.widen (k := cells + 1) (n := slots + 6) (Nat.le_add_right _ _) (Nat.le_add_right _ _) ?_
    exact ih ((nx + 1) % 4) (min (sz + 1) 4) (updS S nx M) (up M w9 to9) (by assumption) (by omega) (by omega) (by first | assumption | omega) p e s m below meth c b9 _ _ _ hC hP hD hS (lv_sub hl [3, 4, 5] rfl)
  · have hc_895 := hc_895
    refine lv_aload_n hx hb dL_law_898 rfl (lv_at hl 4 rfl) ?_
    refine z_callV (C := RX8) (q0 := 0) (ci := 6) (As := []) (rest := []) ([] : va_W) ([] : va_W) hx hb hml hown (fun w h => hts w (inL_209 w h)) hl hE hS hA (zr0 ([] : va_W) hP) (zr0D ([] : va_W) hD) (c_X8_wind l D ct ad u a r q b ((nx + 1) % 4) (min (sz + 1) 4) (updS S nx M) (up M w9 to9) TX tl pl ft n1 n2 wd (by assumption) (by omega) (by omega)) gdL_209 rfl rfl k_X8_wind ⟨Nat.le_of_ble_eq_true rfl, Nat.le_of_ble_eq_true rfl⟩ rfl rfl rfl rfl (Nat.le_of_ble_eq_true rfl) hc0 dL_law_899 rfl (fun v w1 H locs hpost hP hD hS => ?_)
    obtain ⟨rfl, rfl⟩ := hpost
    have hP := zr0' hP
    have hD := zr0D' hD
    have hP : va_P D vwCl (x8W u a r q ++ (svW ct r b ((((nx + 1) % 4) + 1) % 4) (min ((min (sz + 1) 4) + 1) 4) (updS (updS S nx M) ((nx + 1) % 4) (up M w9 to9)) ++ (sobjW a ++ (gridW ct a (up (up M w9 to9) 8 192) ++ (benchW ct a (up (up M w9 to9) 8 192) ++ (logW ct a (up (up M w9 to9) 8 192) ++ (txtW ct q TX tl pl ft wd n1 n2))))))) H := hP
    have hD : va_D (fun q : Nat => s.heap.size ≤ q) (x8W u a r q ++ (svW ct r b ((((nx + 1) % 4) + 1) % 4) (min ((min (sz + 1) 4) + 1) 4) (updS (updS S nx M) ((nx + 1) % 4) (up M w9 to9)) ++ (sobjW a ++ (gridW ct a (up (up M w9 to9) 8 192) ++ (benchW ct a (up (up M w9 to9) 8 192) ++ (logW ct a (up (up M w9 to9) 8 192) ++ (txtW ct q TX tl pl ft wd n1 n2))))))) := hD
    refine W.eq (g2 := F0 m 902 ls [.int (zI ((up M w9 to9) 8))]) rfl ?_
    refine z_canI (show (up M w9 to9) 8 = M 8 from (up_n (by omega))) ?_
    have hLN2 : LInv (up (up M w9 to9) 8 192) := LInv_wind hLN
    have hs3 := hLN2.1
    have h9N2 : (up (up M w9 to9) 8 192) 9 ≤ 200 * nn + 200 := by rw [up_n (by omega)]; exact h9N
    refine lv_iload hx hb dL_law_902 (lv_at hl 0 rfl) ?_
    refine z_icmp_ne (tgt := 918) hx hb dL_law_904 (by decide) (by omega) (by omega) (fun hc_904 => ?_) (fun hc_904 => ?_)
    · have hc_904 := hc_904
      omega
    have hc_904 := hc_904
    refine lv_aload_n hx hb dL_law_907 rfl (lv_at hl 4 rfl) ?_
    refine z_iconst hx hb dL_law_908 ?_
    refine z_callSW (As := [.ref u, .int (zI 5)]) (rest := []) ([] : va_W) ([] : va_W) hx hb hml hown (fun w h => hts w (inL_93 w h)) hl hE hS hA (zr0 ([] : va_W) hP) (zr0D ([] : va_W) hD) (c_L_whole_ok l D ct ad u a r q b ((((nx + 1) % 4) + 1) % 4) (min ((min (sz + 1) 4) + 1) 4) (updS (updS S nx M) ((nx + 1) % 4) (up M w9 to9)) (up (up M w9 to9) 8 192) TX tl pl ft n1 n2 wd 5 (by assumption) (by omega) (by omega)) gdL_93 rfl k_L_whole ⟨Nat.le_of_ble_eq_true rfl, Nat.le_of_ble_eq_true rfl⟩ rfl (Nat.le_of_ble_eq_true rfl) hc0 dL_law_909 rfl (fun v w1 H locs hpost hP hD hS => ?_)
    obtain ⟨rfl, rfl⟩ := hpost
    have hP := zr0' hP
    have hD := zr0D' hD
    have hP : va_P D vwCl (x8W u a r q ++ (svW ct r b ((((nx + 1) % 4) + 1) % 4) (min ((min (sz + 1) 4) + 1) 4) (updS (updS S nx M) ((nx + 1) % 4) (up M w9 to9)) ++ (sobjW a ++ (gridW ct a (up (up M w9 to9) 8 192) ++ (benchW ct a (up (up M w9 to9) 8 192) ++ (logW ct a (up (up M w9 to9) 8 192) ++ (txtW ct q TX tl pl ft wd n1 n2))))))) H := hP
    have hD : va_D (fun q : Nat => s.heap.size ≤ q) (x8W u a r q ++ (svW ct r b ((((nx + 1) % 4) + 1) % 4) (min ((min (sz + 1) 4) + 1) 4) (updS (updS S nx M) ((nx + 1) % 4) (up M w9 to9)) ++ (sobjW a ++ (gridW ct a (up (up M w9 to9) 8 192) ++ (benchW ct a (up (up M w9 to9) 8 192) ++ (logW ct a (up (up M w9 to9) 8 192) ++ (txtW ct q TX tl pl ft wd n1 n2))))))) := hD
    refine W.eq (g2 := F0 m 912 ls [.int (zI (sp_wh (up (up M w9 to9) 8 192) tl 5))]) rfl ?_
    refine z_canI (show sp_wh (up (up M w9 to9) 8 192) tl 5 = 192 from (show (up (up M w9 to9) 8 192) 8 = 192 from by rw [up_s])) ?_
    refine z_sipush hx hb dL_law_912 (by decide) ?_
    refine z_icmp_eq (tgt := 920) hx hb dL_law_915 (by decide) (by omega) (by omega) (fun hc_915 => ?_) (fun hc_915 => ?_)
    · have hc_915 := hc_915
      refine lv_goto (tgt := 1102) hx hb dL_law_920 (by decide) ?_
      refine W.widen (k := cells + 1) (n := slots + 6) (Nat.le_add_right _ _) (Nat.le_add_right _ _) ?_
      exact ih ((((nx + 1) % 4) + 1) % 4) (min ((min (sz + 1) 4) + 1) 4) (updS (updS S nx M) ((nx + 1) % 4) (up M w9 to9)) (up (up M w9 to9) 8 192) (by assumption) (by omega) (by omega) (by first | assumption | omega) p e s m below meth c b9 _ _ _ hC hP hD hS (lv_sub hl [3, 4, 5] rfl)
    · have hc_915 := hc_915
      omega
set_option maxHeartbeats 4000000 in
set_option maxRecDepth 100000 in
theorem lp_782 (l : Launch) (D : va_G) (ct ad : Nat → Nat) (u : Nat) (a r q : Nat → Nat) (b : Nat → Nat → Nat) (nx sz : Int) (S : Nat → Int → Int) (M TX : Int → Int) (tl pl ft n1 n2 : Int) (wd : Value) (nn : Int) (cells slots : Nat) (y9 : Int) (hL : LInv M) (ht : tInv TX tl) (hn : 0 ≤ nx ∧ nx ≤ 3) (hsz : 0 ≤ sz ∧ sz ≤ 4) (hn9 : 0 ≤ nn ∧ nn < 46) (h9 : M 9 ≤ 200 * nn) (hcap : cells + 41 ≤ 604022 ∧ slots + 250 ≤ 7289401) (ih : ∀ (nx sz : Int) (S : Nat → Int → Int) (M : Int → Int), LInv M → (0 ≤ nx ∧ nx ≤ 3) → (0 ≤ sz ∧ sz ≤ 4) → M 9 ≤ 200 * nn + 200 → LZ l D ct ad (cells + 1) (slots + 6) 1102 (x8W u a r q ++ (svW ct r b nx sz S ++ (sobjW a ++ (gridW ct a M ++ (benchW ct a M ++ (logW ct a M ++ (txtW ct q TX tl pl ft wd n1 n2))))))) [(0, .ref (ad 67)), (1, .ref u), (2, .int (zI nn))] []) (hyr : -2147483648 ≤ y9 ∧ y9 ≤ 2147483647) : LZ l D ct ad cells slots 782 (x8W u a r q ++ (svW ct r b nx sz S ++ (sobjW a ++ (gridW ct a M ++ (benchW ct a M ++ (logW ct a M ++ (txtW ct q TX tl pl ft wd n1 n2))))))) [(0, .ref (ad 67)), (1, .ref u), (2, .int (zI nn)), (4, .int (zI y9)), (5, .int (zI (M 3))), (6, .int (zI (M 4)))] [] := by
  intro p e s m below meth c b9 H locs ls hC hP hD hS hl
  obtain ⟨hx, hb, hr, hml, hown, hts, hlocks, hE, hst⟩ := id hC
  have hK := hE.1
  have hA : ∀ q : Nat, s.heap.size ≤ q → (fun q : Nat => s.heap.size ≤ q) q := fun _ h => h
  have hc0 : cells ≤ room_1.cells ∧ slots ≤ room_1.slots := by show cells ≤ 604022 ∧ slots ≤ 7289401; omega
  have hs := hL.1
  have hI := hs.1
  have hB := hs.2.1
  have ha := hs.2.2
  have t1 := ht.1
  have hP : va_P D vwCl (x8W u a r q ++ (svW ct r b nx sz S ++ (sobjW a ++ (gridW ct a M ++ (benchW ct a M ++ (logW ct a M ++ (txtW ct q TX tl pl ft wd n1 n2))))))) H := hP
  have hD : va_D (fun q : Nat => s.heap.size ≤ q) (x8W u a r q ++ (svW ct r b nx sz S ++ (sobjW a ++ (gridW ct a M ++ (benchW ct a M ++ (logW ct a M ++ (txtW ct q TX tl pl ft wd n1 n2))))))) := hD
  have hf_0 : (Cond.constant RL 207 (100000)).before #[Value.ref b9] s = true := hts _ (zin [972] (by decide +kernel) _ (List.mem_singleton.mpr rfl))
  have hf_1 : (Cond.constant RL 208 (1900001)).before #[Value.ref b9] s = true := hts _ (zin [973] (by decide +kernel) _ (List.mem_singleton.mpr rfl))
  have hl : lv_has ls 13 [(0, .ref (ad 67)), (1, .ref u), (2, .int (zI nn)), (4, .int (zI y9)), (5, .int (zI (M 3))), (6, .int (zI (M 4)))] := hl
  have lwA := sp_lowB (v := y9) (n := 3) (by decide)
  have lw0 := sp_lowB (v := y9 / 4) (n := 1900001) (by decide)
  have lw1 := sp_lowB (v := y9 / 4) (n := 24) (by decide)
  have lw2 := sp_lowB (v := y9 / 4) (n := 101) (by decide)
  refine lv_iload hx hb dL_law_782 (lv_at hl 3 rfl) ?_
  refine z_iconst hx hb dL_law_784 ?_
  refine z_callS (As := [.int (zI y9), .int (zI 3)]) (rest := []) ([] : va_W) (x8W u a r q ++ (svW ct r b nx sz S ++ (sobjW a ++ (gridW ct a M ++ (benchW ct a M ++ (logW ct a M ++ (txtW ct q TX tl pl ft wd n1 n2))))))) hx hb hml hown (fun w h => hts w (inL_153 w h)) hl hE hS hA hP hD (c_L_low l D ct ad y9 3 (by omega)) gdL_153 rfl k_L_low ⟨Nat.le_of_ble_eq_true rfl, Nat.le_of_ble_eq_true rfl⟩ rfl (Nat.le_of_ble_eq_true rfl) hc0 dL_law_785 rfl (fun v w1 H locs hpost hP hD hS => ?_)
  obtain ⟨rfl, rfl⟩ := hpost
  have hP : va_P D vwCl (x8W u a r q ++ (svW ct r b nx sz S ++ (sobjW a ++ (gridW ct a M ++ (benchW ct a M ++ (logW ct a M ++ (txtW ct q TX tl pl ft wd n1 n2))))))) H := hP
  have hD : va_D (fun q : Nat => s.heap.size ≤ q) (x8W u a r q ++ (svW ct r b nx sz S ++ (sobjW a ++ (gridW ct a M ++ (benchW ct a M ++ (logW ct a M ++ (txtW ct q TX tl pl ft wd n1 n2))))))) := hD
  refine W.eq (g2 := F0 m 788 ls [.int (zI (sp_low y9 3))]) rfl ?_
  obtain ⟨w9, hw9⟩ : ∃ z : Int, z = sp_low y9 3 := ⟨_, rfl⟩
  refine z_canI (show sp_low y9 3 = w9 from hw9.symm) ?_
  refine lv_istore (lv' := [(9, .int (zI w9)), (0, .ref (ad 67)), (1, .ref u), (2, .int (zI nn)), (4, .int (zI y9)), (5, .int (zI (M 3))), (6, .int (zI (M 4)))]) hx hb dL_law_788 hl (by decide) rfl (fun ls hl => ?_)
  refine lv_iload hx hb dL_law_790 (lv_at hl 0 rfl) ?_
  refine z_if_ne (tgt := 810) hx hb dL_law_792 (by decide) (by omega) (fun hc_792 => ?_) (fun hc_792 => ?_)
  · have hc_792 := hc_792
    refine lv_iload hx hb dL_law_810 (lv_at hl 0 rfl) ?_
    refine z_iconst hx hb dL_law_812 ?_
    refine z_icmp_ne (tgt := 830) hx hb dL_law_813 (by decide) (by omega) (by omega) (fun hc_813 => ?_) (fun hc_813 => ?_)
    · have hc_813 := hc_813
      refine lv_iload hx hb dL_law_830 (lv_at hl 4 rfl) ?_
      refine z_iconst hx hb dL_law_832 ?_
      refine z_ishr (n := 2) (d := 4) hx hb dL_law_833 (by omega) (by decide) (by decide) ?_
      refine z_bipush hx hb dL_law_834 (by decide) ?_
      refine z_callS (As := [.int (zI (y9 / 4)), .int (zI 101)]) (rest := []) ([] : va_W) (x8W u a r q ++ (svW ct r b nx sz S ++ (sobjW a ++ (gridW ct a M ++ (benchW ct a M ++ (logW ct a M ++ (txtW ct q TX tl pl ft wd n1 n2))))))) hx hb hml hown (fun w h => hts w (inL_153 w h)) hl hE hS hA hP hD (c_L_low l D ct ad (y9 / 4) 101 (by omega)) gdL_153 rfl k_L_low ⟨Nat.le_of_ble_eq_true rfl, Nat.le_of_ble_eq_true rfl⟩ rfl (Nat.le_of_ble_eq_true rfl) hc0 dL_law_836 rfl (fun v w1 H locs hpost hP hD hS => ?_)
      obtain ⟨rfl, rfl⟩ := hpost
      have hP : va_P D vwCl (x8W u a r q ++ (svW ct r b nx sz S ++ (sobjW a ++ (gridW ct a M ++ (benchW ct a M ++ (logW ct a M ++ (txtW ct q TX tl pl ft wd n1 n2))))))) H := hP
      have hD : va_D (fun q : Nat => s.heap.size ≤ q) (x8W u a r q ++ (svW ct r b nx sz S ++ (sobjW a ++ (gridW ct a M ++ (benchW ct a M ++ (logW ct a M ++ (txtW ct q TX tl pl ft wd n1 n2))))))) := hD
      refine W.eq (g2 := F0 m 839 ls [.int (zI (sp_low (y9 / 4) 101))]) rfl ?_
      exact lp_839 l D ct ad u a r q b nx sz S M TX tl pl ft n1 n2 wd nn cells slots y9 w9 (sp_low (y9 / 4) 101) hL ht hn hsz hn9 h9 hcap ih (show -2147483648 ≤ y9 ∧ y9 ≤ 2147483647 from (by first | assumption | omega)) (show w9 = 0 ∨ w9 = 1 ∨ w9 = 2 from (by first | assumption | omega)) (show (w9 = 0 ∧ 100000 ≤ (sp_low (y9 / 4) 101) ∧ (sp_low (y9 / 4) 101) ≤ 2000000) ∨ (w9 = 1 ∧ 1 ≤ (sp_low (y9 / 4) 101) ∧ (sp_low (y9 / 4) 101) ≤ 24) ∨ (w9 = 2 ∧ 0 ≤ (sp_low (y9 / 4) 101) ∧ (sp_low (y9 / 4) 101) ≤ 100) from (by first | assumption | omega)) p e s m below meth c b9 _ _ _ hC hP hD hS (lv_sub hl [1, 2, 3, 4, 0] rfl)
    · have hc_813 := hc_813
      refine z_iconst hx hb dL_law_816 ?_
      refine lv_iload hx hb dL_law_817 (lv_at hl 4 rfl) ?_
      refine z_iconst hx hb dL_law_819 ?_
      refine z_ishr (n := 2) (d := 4) hx hb dL_law_820 (by omega) (by decide) (by decide) ?_
      refine z_bipush hx hb dL_law_821 (by decide) ?_
      refine z_callS (As := [.int (zI (y9 / 4)), .int (zI 24)]) (rest := [.int (zI 1)]) ([] : va_W) (x8W u a r q ++ (svW ct r b nx sz S ++ (sobjW a ++ (gridW ct a M ++ (benchW ct a M ++ (logW ct a M ++ (txtW ct q TX tl pl ft wd n1 n2))))))) hx hb hml hown (fun w h => hts w (inL_153 w h)) hl hE hS hA hP hD (c_L_low l D ct ad (y9 / 4) 24 (by omega)) gdL_153 rfl k_L_low ⟨Nat.le_of_ble_eq_true rfl, Nat.le_of_ble_eq_true rfl⟩ rfl (Nat.le_of_ble_eq_true rfl) hc0 dL_law_823 rfl (fun v w1 H locs hpost hP hD hS => ?_)
      obtain ⟨rfl, rfl⟩ := hpost
      have hP : va_P D vwCl (x8W u a r q ++ (svW ct r b nx sz S ++ (sobjW a ++ (gridW ct a M ++ (benchW ct a M ++ (logW ct a M ++ (txtW ct q TX tl pl ft wd n1 n2))))))) H := hP
      have hD : va_D (fun q : Nat => s.heap.size ≤ q) (x8W u a r q ++ (svW ct r b nx sz S ++ (sobjW a ++ (gridW ct a M ++ (benchW ct a M ++ (logW ct a M ++ (txtW ct q TX tl pl ft wd n1 n2))))))) := hD
      refine W.eq (g2 := F0 m 826 ls [.int (zI (sp_low (y9 / 4) 24)), .int (zI 1)]) rfl ?_
      refine z_iadd hx hb dL_law_826 ?_
      refine lv_goto (tgt := 839) hx hb dL_law_827 (by decide) ?_
      exact lp_839 l D ct ad u a r q b nx sz S M TX tl pl ft n1 n2 wd nn cells slots y9 w9 (1 + (sp_low (y9 / 4) 24)) hL ht hn hsz hn9 h9 hcap ih (show -2147483648 ≤ y9 ∧ y9 ≤ 2147483647 from (by first | assumption | omega)) (show w9 = 0 ∨ w9 = 1 ∨ w9 = 2 from (by first | assumption | omega)) (show (w9 = 0 ∧ 100000 ≤ (1 + (sp_low (y9 / 4) 24)) ∧ (1 + (sp_low (y9 / 4) 24)) ≤ 2000000) ∨ (w9 = 1 ∧ 1 ≤ (1 + (sp_low (y9 / 4) 24)) ∧ (1 + (sp_low (y9 / 4) 24)) ≤ 24) ∨ (w9 = 2 ∧ 0 ≤ (1 + (sp_low (y9 / 4) 24)) ∧ (1 + (sp_low (y9 / 4) 24)) ≤ 100) from (by first | assumption | omega)) p e s m below meth c b9 _ _ _ hC hP hD hS (lv_sub hl [1, 2, 3, 4, 0] rfl)
  · have hc_792 := hc_792
    refine z_ldc hx hb 100000 hown hf_0 (by decide) dL_law_795 ?_
    refine lv_iload hx hb dL_law_797 (lv_at hl 4 rfl) ?_
    refine z_iconst hx hb dL_law_799 ?_
    refine z_ishr (n := 2) (d := 4) hx hb dL_law_800 (by omega) (by decide) (by decide) ?_
    refine z_ldc hx hb 1900001 hown hf_1 (by decide) dL_law_801 ?_
    refine z_callS (As := [.int (zI (y9 / 4)), .int (zI 1900001)]) (rest := [.int (zI 100000)]) ([] : va_W) (x8W u a r q ++ (svW ct r b nx sz S ++ (sobjW a ++ (gridW ct a M ++ (benchW ct a M ++ (logW ct a M ++ (txtW ct q TX tl pl ft wd n1 n2))))))) hx hb hml hown (fun w h => hts w (inL_153 w h)) hl hE hS hA hP hD (c_L_low l D ct ad (y9 / 4) 1900001 (by omega)) gdL_153 rfl k_L_low ⟨Nat.le_of_ble_eq_true rfl, Nat.le_of_ble_eq_true rfl⟩ rfl (Nat.le_of_ble_eq_true rfl) hc0 dL_law_803 rfl (fun v w1 H locs hpost hP hD hS => ?_)
    obtain ⟨rfl, rfl⟩ := hpost
    have hP : va_P D vwCl (x8W u a r q ++ (svW ct r b nx sz S ++ (sobjW a ++ (gridW ct a M ++ (benchW ct a M ++ (logW ct a M ++ (txtW ct q TX tl pl ft wd n1 n2))))))) H := hP
    have hD : va_D (fun q : Nat => s.heap.size ≤ q) (x8W u a r q ++ (svW ct r b nx sz S ++ (sobjW a ++ (gridW ct a M ++ (benchW ct a M ++ (logW ct a M ++ (txtW ct q TX tl pl ft wd n1 n2))))))) := hD
    refine W.eq (g2 := F0 m 806 ls [.int (zI (sp_low (y9 / 4) 1900001)), .int (zI 100000)]) rfl ?_
    refine z_iadd hx hb dL_law_806 ?_
    refine lv_goto (tgt := 839) hx hb dL_law_807 (by decide) ?_
    exact lp_839 l D ct ad u a r q b nx sz S M TX tl pl ft n1 n2 wd nn cells slots y9 w9 (100000 + (sp_low (y9 / 4) 1900001)) hL ht hn hsz hn9 h9 hcap ih (show -2147483648 ≤ y9 ∧ y9 ≤ 2147483647 from (by first | assumption | omega)) (show w9 = 0 ∨ w9 = 1 ∨ w9 = 2 from (by first | assumption | omega)) (show (w9 = 0 ∧ 100000 ≤ (100000 + (sp_low (y9 / 4) 1900001)) ∧ (100000 + (sp_low (y9 / 4) 1900001)) ≤ 2000000) ∨ (w9 = 1 ∧ 1 ≤ (100000 + (sp_low (y9 / 4) 1900001)) ∧ (100000 + (sp_low (y9 / 4) 1900001)) ≤ 24) ∨ (w9 = 2 ∧ 0 ≤ (100000 + (sp_low (y9 / 4) 1900001)) ∧ (100000 + (sp_low (y9 / 4) 1900001)) ≤ 100) from (by first | assumption | omega)) p e s m below meth c b9 _ _ _ hC hP hD hS (lv_sub hl [1, 2, 3, 4, 0] rfl)
set_option maxHeartbeats 4000000 in
set_option maxRecDepth 100000 in
theorem lp_775 (l : Launch) (D : va_G) (ct ad : Nat → Nat) (u : Nat) (a r q : Nat → Nat) (b : Nat → Nat → Nat) (nx sz : Int) (S : Nat → Int → Int) (M TX : Int → Int) (tl pl ft n1 n2 : Int) (wd : Value) (nn : Int) (cells slots : Nat) (y9 : Int) (how : Int) (r_ : Int) (hL : LInv M) (ht : tInv TX tl) (hn : 0 ≤ nx ∧ nx ≤ 3) (hsz : 0 ≤ sz ∧ sz ≤ 4) (hn9 : 0 ≤ nn ∧ nn < 46) (h9 : M 9 ≤ 200 * nn) (hcap : cells + 41 ≤ 604022 ∧ slots + 250 ≤ 7289401) (ih : ∀ (nx sz : Int) (S : Nat → Int → Int) (M : Int → Int), LInv M → (0 ≤ nx ∧ nx ≤ 3) → (0 ≤ sz ∧ sz ≤ 4) → M 9 ≤ 200 * nn + 200 → LZ l D ct ad (cells + 1) (slots + 6) 1102 (x8W u a r q ++ (svW ct r b nx sz S ++ (sobjW a ++ (gridW ct a M ++ (benchW ct a M ++ (logW ct a M ++ (txtW ct q TX tl pl ft wd n1 n2))))))) [(0, .ref (ad 67)), (1, .ref u), (2, .int (zI nn))] []) (hyr : -2147483648 ≤ y9 ∧ y9 ≤ 2147483647) (hhow : 0 ≤ how ∧ how ≤ 15) (hr9 : 0 ≤ r_ ∧ (0 < M 4 → r_ < M 4)) : LZ l D ct ad cells slots 775 (x8W u a r q ++ (svW ct r b nx sz S ++ (sobjW a ++ (gridW ct a M ++ (benchW ct a M ++ (logW ct a M ++ (txtW ct q TX tl pl ft wd n1 n2))))))) [(0, .ref (ad 67)), (1, .ref u), (2, .int (zI nn)), (4, .int (zI y9)), (5, .int (zI (M 3))), (6, .int (zI (M 4))), (7, .int (zI how)), (8, .int (zI r_))] [] := by
  intro p e s m below meth c b9 H locs ls hC hP hD hS hl
  obtain ⟨hx, hb, hr, hml, hown, hts, hlocks, hE, hst⟩ := id hC
  have hK := hE.1
  have hA : ∀ q : Nat, s.heap.size ≤ q → (fun q : Nat => s.heap.size ≤ q) q := fun _ h => h
  have hc0 : cells ≤ room_1.cells ∧ slots ≤ room_1.slots := by show cells ≤ 604022 ∧ slots ≤ 7289401; omega
  have hs := hL.1
  have hI := hs.1
  have hB := hs.2.1
  have ha := hs.2.2
  have t1 := ht.1
  have hP : va_P D vwCl (x8W u a r q ++ (svW ct r b nx sz S ++ (sobjW a ++ (gridW ct a M ++ (benchW ct a M ++ (logW ct a M ++ (txtW ct q TX tl pl ft wd n1 n2))))))) H := hP
  have hD : va_D (fun q : Nat => s.heap.size ≤ q) (x8W u a r q ++ (svW ct r b nx sz S ++ (sobjW a ++ (gridW ct a M ++ (benchW ct a M ++ (logW ct a M ++ (txtW ct q TX tl pl ft wd n1 n2))))))) := hD
  have hl : lv_has ls 13 [(0, .ref (ad 67)), (1, .ref u), (2, .int (zI nn)), (4, .int (zI y9)), (5, .int (zI (M 3))), (6, .int (zI (M 4))), (7, .int (zI how)), (8, .int (zI r_))] := hl
  refine lv_iload hx hb dL_law_775 (lv_at hl 6 rfl) ?_
  refine z_bipush hx hb dL_law_777 (by decide) ?_
  refine z_icmp_ne (tgt := 923) hx hb dL_law_779 (by decide) (by omega) (by omega) (fun hc_779 => ?_) (fun hc_779 => ?_)
  · have hc_779 := hc_779
    exact lp_923 l D ct ad u a r q b nx sz S M TX tl pl ft n1 n2 wd nn cells slots y9 how r_ hL ht hn hsz hn9 h9 hcap ih (show -2147483648 ≤ y9 ∧ y9 ≤ 2147483647 from (by first | assumption | omega)) (show 0 ≤ how ∧ how ≤ 15 from (by first | assumption | omega)) (show 0 ≤ r_ ∧ (0 < M 4 → r_ < M 4) from (by first | assumption | omega)) p e s m below meth c b9 _ _ _ hC hP hD hS (lv_sub hl [0, 1, 2, 3, 4, 5, 6, 7] rfl)
  · have hc_779 := hc_779
    exact lp_782 l D ct ad u a r q b nx sz S M TX tl pl ft n1 n2 wd nn cells slots y9 hL ht hn hsz hn9 h9 hcap ih (show -2147483648 ≤ y9 ∧ y9 ≤ 2147483647 from (by first | assumption | omega)) p e s m below meth c b9 _ _ _ hC hP hD hS (lv_sub hl [0, 1, 2, 3, 4, 5] rfl)
set_option maxHeartbeats 4000000 in
set_option maxRecDepth 100000 in
theorem lp_721 (l : Launch) (D : va_G) (ct ad : Nat → Nat) (u : Nat) (a r q : Nat → Nat) (b : Nat → Nat → Nat) (nx sz : Int) (S : Nat → Int → Int) (M TX : Int → Int) (tl pl ft n1 n2 : Int) (wd : Value) (nn : Int) (cells slots : Nat) (by9 : Int) (may : Int) (hL : LInv M) (ht : tInv TX tl) (hn : 0 ≤ nx ∧ nx ≤ 3) (hsz : 0 ≤ sz ∧ sz ≤ 4) (hn9 : 0 ≤ nn ∧ nn < 46) (h9 : M 9 ≤ 200 * nn) (hcap : cells + 41 ≤ 604022 ∧ slots + 250 ≤ 7289401) (ih : ∀ (nx sz : Int) (S : Nat → Int → Int) (M : Int → Int), LInv M → (0 ≤ nx ∧ nx ≤ 3) → (0 ≤ sz ∧ sz ≤ 4) → M 9 ≤ 200 * nn + 200 → LZ l D ct ad (cells + 1) (slots + 6) 1102 (x8W u a r q ++ (svW ct r b nx sz S ++ (sobjW a ++ (gridW ct a M ++ (benchW ct a M ++ (logW ct a M ++ (txtW ct q TX tl pl ft wd n1 n2))))))) [(0, .ref (ad 67)), (1, .ref u), (2, .int (zI nn))] []) (hb9 : -700 ≤ by9 ∧ by9 ≤ 700) (hmay : (may = 1 ∧ -500 ≤ M 7 + by9 ∧ M 7 + by9 ≤ 500) ∨ (may = 0 ∧ ¬ (-500 ≤ M 7 + by9 ∧ M 7 + by9 ≤ 500))) : LZ l D ct ad cells slots 721 (x8W u a r q ++ (svW ct r b nx sz S ++ (sobjW a ++ (gridW ct a M ++ (benchW ct a M ++ (logW ct a M ++ (txtW ct q TX tl pl ft wd n1 n2))))))) [(0, .ref (ad 67)), (1, .ref u), (2, .int (zI nn)), (9, .int (zI (M 7))), (10, .int (zI by9))] [.int (zI may)] := by
  intro p e s m below meth c b9 H locs ls hC hP hD hS hl
  obtain ⟨hx, hb, hr, hml, hown, hts, hlocks, hE, hst⟩ := id hC
  have hK := hE.1
  have hA : ∀ q : Nat, s.heap.size ≤ q → (fun q : Nat => s.heap.size ≤ q) q := fun _ h => h
  have hc0 : cells ≤ room_1.cells ∧ slots ≤ room_1.slots := by show cells ≤ 604022 ∧ slots ≤ 7289401; omega
  have hs := hL.1
  have hI := hs.1
  have hB := hs.2.1
  have ha := hs.2.2
  have t1 := ht.1
  have hP : va_P D vwCl (x8W u a r q ++ (svW ct r b nx sz S ++ (sobjW a ++ (gridW ct a M ++ (benchW ct a M ++ (logW ct a M ++ (txtW ct q TX tl pl ft wd n1 n2))))))) H := hP
  have hD : va_D (fun q : Nat => s.heap.size ≤ q) (x8W u a r q ++ (svW ct r b nx sz S ++ (sobjW a ++ (gridW ct a M ++ (benchW ct a M ++ (logW ct a M ++ (txtW ct q TX tl pl ft wd n1 n2))))))) := hD
  have hf_0 : (Cond.constant RL 20 (-2100000002)).before #[Value.ref b9] s = true := hts _ (zin [657] (by decide +kernel) _ (List.mem_singleton.mpr rfl))
  have hl : lv_has ls 13 [(0, .ref (ad 67)), (1, .ref u), (2, .int (zI nn)), (9, .int (zI (M 7))), (10, .int (zI by9))] := hl
  have j1 := hB.2.1
  refine lv_istore (lv' := [(11, .int (zI may)), (0, .ref (ad 67)), (1, .ref u), (2, .int (zI nn)), (9, .int (zI (M 7))), (10, .int (zI by9))]) hx hb dL_law_721 hl (by decide) rfl (fun ls hl => ?_)
  refine lv_aload_n hx hb dL_law_723 rfl (lv_at hl 2 rfl) ?_
  refine lv_iload hx hb dL_law_724 (lv_at hl 5 rfl) ?_
  by_cases hm : may = 1
  · skip
    have hck : ck_turn M by9 = 0 := (if_pos (by omega)).trans (if_pos (by omega))
    have hLN : LInv (up M 7 (M 7 + by9)) := LInv_turn hL hck
    have hs2 := hLN.1
    have h9N : (up M 7 (M 7 + by9)) 9 ≤ 200 * nn + 200 := by rw [up_n (by omega)]; omega
    refine z_callSW (As := [.ref u, .int (zI by9)]) (rest := []) ([] : va_W) ([] : va_W) hx hb hml hown (fun w h => hts w (inL_162 w h)) hl hE hS hA (zr0 ([] : va_W) hP) (zr0D ([] : va_W) hD) (c_L_turnNut_ok l D ct ad u a r q b nx sz S M TX tl pl ft n1 n2 wd by9 (by assumption) (by omega) (by omega) (by omega) hck) gdL_162 rfl k_L_turnNut ⟨Nat.le_of_ble_eq_true rfl, Nat.le_of_ble_eq_true rfl⟩ rfl (Nat.le_of_ble_eq_true rfl) hc0 dL_law_726 rfl (fun v w1 H locs hpost hP hD hS => ?_)
    obtain ⟨rfl, rfl⟩ := hpost
    have hP := zr0' hP
    have hD := zr0D' hD
    have hP : va_P D vwCl (x8W u a r q ++ (svW ct r b ((nx + 1) % 4) (min (sz + 1) 4) (updS S nx M) ++ (sobjW a ++ (gridW ct a (up M 7 (M 7 + by9)) ++ (benchW ct a (up M 7 (M 7 + by9)) ++ (logW ct a (up M 7 (M 7 + by9)) ++ (txtW ct q TX tl pl ft wd n1 n2))))))) H := hP
    have hD : va_D (fun q : Nat => s.heap.size ≤ q) (x8W u a r q ++ (svW ct r b ((nx + 1) % 4) (min (sz + 1) 4) (updS S nx M) ++ (sobjW a ++ (gridW ct a (up M 7 (M 7 + by9)) ++ (benchW ct a (up M 7 (M 7 + by9)) ++ (logW ct a (up M 7 (M 7 + by9)) ++ (txtW ct q TX tl pl ft wd n1 n2))))))) := hD
    refine W.eq (g2 := F0 m 729 ls [.int (zI (M 7 + by9))]) rfl ?_
    refine lv_iload hx hb dL_law_729 (lv_at hl 0 rfl) ?_
    refine z_if_eq (tgt := 742) hx hb dL_law_731 (by decide) (by omega) (fun hc_731 => ?_) (fun hc_731 => ?_)
    · have hc_731 := hc_731
      omega
    have hc_731 := hc_731
    refine lv_iload hx hb dL_law_734 (lv_at hl 4 rfl) ?_
    refine lv_iload hx hb dL_law_736 (lv_at hl 5 rfl) ?_
    refine z_iadd hx hb dL_law_738 ?_
    refine lv_goto (tgt := 744) hx hb dL_law_739 (by decide) ?_
    refine z_icmp_ne (tgt := 770) hx hb dL_law_744 (by decide) (by omega) (by omega) (fun hc_744 => ?_) (fun hc_744 => ?_)
    · have hc_744 := hc_744
      omega
    have hc_744 := hc_744
    refine lv_aload_n hx hb dL_law_747 rfl (lv_at hl 2 rfl) ?_
    refine z_iconst hx hb dL_law_748 ?_
    refine z_callSW (As := [.ref u, .int (zI 4)]) (rest := []) ([] : va_W) ([] : va_W) hx hb hml hown (fun w h => hts w (inL_93 w h)) hl hE hS hA (zr0 ([] : va_W) hP) (zr0D ([] : va_W) hD) (c_L_whole_ok l D ct ad u a r q b ((nx + 1) % 4) (min (sz + 1) 4) (updS S nx M) (up M 7 (M 7 + by9)) TX tl pl ft n1 n2 wd 4 (by assumption) (by omega) (by omega)) gdL_93 rfl k_L_whole ⟨Nat.le_of_ble_eq_true rfl, Nat.le_of_ble_eq_true rfl⟩ rfl (Nat.le_of_ble_eq_true rfl) hc0 dL_law_749 rfl (fun v w1 H locs hpost hP hD hS => ?_)
    obtain ⟨rfl, rfl⟩ := hpost
    have hP := zr0' hP
    have hD := zr0D' hD
    have hP : va_P D vwCl (x8W u a r q ++ (svW ct r b ((nx + 1) % 4) (min (sz + 1) 4) (updS S nx M) ++ (sobjW a ++ (gridW ct a (up M 7 (M 7 + by9)) ++ (benchW ct a (up M 7 (M 7 + by9)) ++ (logW ct a (up M 7 (M 7 + by9)) ++ (txtW ct q TX tl pl ft wd n1 n2))))))) H := hP
    have hD : va_D (fun q : Nat => s.heap.size ≤ q) (x8W u a r q ++ (svW ct r b ((nx + 1) % 4) (min (sz + 1) 4) (updS S nx M) ++ (sobjW a ++ (gridW ct a (up M 7 (M 7 + by9)) ++ (benchW ct a (up M 7 (M 7 + by9)) ++ (logW ct a (up M 7 (M 7 + by9)) ++ (txtW ct q TX tl pl ft wd n1 n2))))))) := hD
    refine W.eq (g2 := F0 m 752 ls [.int (zI (sp_wh (up M 7 (M 7 + by9)) tl 4))]) rfl ?_
    refine z_canI (show sp_wh (up M 7 (M 7 + by9)) tl 4 = M 7 + by9 from (show (up M 7 (M 7 + by9)) 7 = M 7 + by9 from by rw [up_s])) ?_
    refine lv_iload hx hb dL_law_752 (lv_at hl 0 rfl) ?_
    refine z_if_eq (tgt := 765) hx hb dL_law_754 (by decide) (by omega) (fun hc_754 => ?_) (fun hc_754 => ?_)
    · have hc_754 := hc_754
      omega
    have hc_754 := hc_754
    refine lv_iload hx hb dL_law_757 (lv_at hl 4 rfl) ?_
    refine lv_iload hx hb dL_law_759 (lv_at hl 5 rfl) ?_
    refine z_iadd hx hb dL_law_761 ?_
    refine lv_goto (tgt := 767) hx hb dL_law_762 (by decide) ?_
    refine z_icmp_eq (tgt := 772) hx hb dL_law_767 (by decide) (by omega) (by omega) (fun hc_767 => ?_) (fun hc_767 => ?_)
    · have hc_767 := hc_767
      refine lv_goto (tgt := 1102) hx hb dL_law_772 (by decide) ?_
      refine W.widen (k := cells + 1) (n := slots + 6) (Nat.le_add_right _ _) (Nat.le_add_right _ _) ?_
      exact ih ((nx + 1) % 4) (min (sz + 1) 4) (updS S nx M) (up M 7 (M 7 + by9)) (by assumption) (by omega) (by omega) (by first | assumption | omega) p e s m below meth c b9 _ _ _ hC hP hD hS (lv_sub hl [1, 2, 3] rfl)
    · have hc_767 := hc_767
      omega
  · skip
    have hck : ck_turn M by9 = 3 := (if_pos (by omega)).trans (if_neg (by omega))
    refine z_callSW (As := [.ref u, .int (zI by9)]) (rest := []) ([] : va_W) ([] : va_W) hx hb hml hown (fun w h => hts w (inL_162 w h)) hl hE hS hA (zr0 ([] : va_W) hP) (zr0D ([] : va_W) hD) (c_L_turnNut_no l D ct ad u a r q b nx sz S M TX tl pl ft n1 n2 wd by9 (by assumption) hst (by omega) (by rw [hck]; decide)) gdL_162 rfl k_L_turnNut ⟨Nat.le_of_ble_eq_true rfl, Nat.le_of_ble_eq_true rfl⟩ rfl (Nat.le_of_ble_eq_true rfl) (show cells + 1 ≤ 604022 ∧ slots + 6 ≤ 7289401 by omega) dL_law_726 rfl (fun v w1 H locs hpost hP hD hS => ?_)
    obtain ⟨rfl, rfl⟩ := hpost
    have hP := zr0' hP
    have hD := zr0D' hD
    have hP : va_P D vwCl (x8W u a r q ++ (svW ct r b nx sz S ++ (sobjW a ++ (gridW ct a M ++ (benchW ct a M ++ (logW ct a M ++ (txtW ct q TX tl pl ft wd n1 n2))))))) H := hP
    have hD : va_D (fun q : Nat => s.heap.size ≤ q) (x8W u a r q ++ (svW ct r b nx sz S ++ (sobjW a ++ (gridW ct a M ++ (benchW ct a M ++ (logW ct a M ++ (txtW ct q TX tl pl ft wd n1 n2))))))) := hD
    refine W.eq (g2 := F0 m 729 ls [.int (zI (exK (ck_turn M by9)))]) rfl ?_
    refine z_canI (show exK (ck_turn M by9) = (-2100000002) from (by rw [hck]; rfl)) ?_
    refine lv_iload hx hb dL_law_729 (lv_at hl 0 rfl) ?_
    refine z_if_eq (tgt := 742) hx hb dL_law_731 (by decide) (by omega) (fun hc_731 => ?_) (fun hc_731 => ?_)
    · have hc_731 := hc_731
      refine z_ldc hx hb (-2100000002) hown hf_0 (by decide) dL_law_742 ?_
      refine z_icmp_ne (tgt := 770) hx hb dL_law_744 (by decide) (by omega) (by omega) (fun hc_744 => ?_) (fun hc_744 => ?_)
      · have hc_744 := hc_744
        omega
      have hc_744 := hc_744
      refine lv_aload_n hx hb dL_law_747 rfl (lv_at hl 2 rfl) ?_
      refine z_iconst hx hb dL_law_748 ?_
      refine z_callSW (As := [.ref u, .int (zI 4)]) (rest := []) ([] : va_W) ([] : va_W) hx hb hml hown (fun w h => hts w (inL_93 w h)) hl hE hS hA (zr0 ([] : va_W) hP) (zr0D ([] : va_W) hD) (c_L_whole_ok l D ct ad u a r q b nx sz S M TX tl pl ft n1 n2 wd 4 (by assumption) (by omega) (by omega)) gdL_93 rfl k_L_whole ⟨Nat.le_of_ble_eq_true rfl, Nat.le_of_ble_eq_true rfl⟩ rfl (Nat.le_of_ble_eq_true rfl) (show cells + 1 ≤ 604022 ∧ slots + 6 ≤ 7289401 by omega) dL_law_749 rfl (fun v w1 H locs hpost hP hD hS => ?_)
      obtain ⟨rfl, rfl⟩ := hpost
      have hP := zr0' hP
      have hD := zr0D' hD
      have hP : va_P D vwCl (x8W u a r q ++ (svW ct r b nx sz S ++ (sobjW a ++ (gridW ct a M ++ (benchW ct a M ++ (logW ct a M ++ (txtW ct q TX tl pl ft wd n1 n2))))))) H := hP
      have hD : va_D (fun q : Nat => s.heap.size ≤ q) (x8W u a r q ++ (svW ct r b nx sz S ++ (sobjW a ++ (gridW ct a M ++ (benchW ct a M ++ (logW ct a M ++ (txtW ct q TX tl pl ft wd n1 n2))))))) := hD
      refine W.eq (g2 := F0 m 752 ls [.int (zI (sp_wh M tl 4))]) rfl ?_
      refine z_canI (show sp_wh M tl 4 = M 7 from rfl) ?_
      refine lv_iload hx hb dL_law_752 (lv_at hl 0 rfl) ?_
      refine z_if_eq (tgt := 765) hx hb dL_law_754 (by decide) (by omega) (fun hc_754 => ?_) (fun hc_754 => ?_)
      · have hc_754 := hc_754
        refine lv_iload hx hb dL_law_765 (lv_at hl 4 rfl) ?_
        refine z_icmp_eq (tgt := 772) hx hb dL_law_767 (by decide) (by omega) (by omega) (fun hc_767 => ?_) (fun hc_767 => ?_)
        · have hc_767 := hc_767
          refine lv_goto (tgt := 1102) hx hb dL_law_772 (by decide) ?_
          exact ih nx sz S M (by assumption) (by omega) (by omega) (by first | assumption | omega) p e s m below meth c b9 _ _ _ hC hP hD hS (lv_sub hl [1, 2, 3] rfl)
        · have hc_767 := hc_767
          omega
      · have hc_754 := hc_754
        omega
    · have hc_731 := hc_731
      omega
set_option maxHeartbeats 4000000 in
set_option maxRecDepth 100000 in
theorem lp_673 (l : Launch) (D : va_G) (ct ad : Nat → Nat) (u : Nat) (a r q : Nat → Nat) (b : Nat → Nat → Nat) (nx sz : Int) (S : Nat → Int → Int) (M TX : Int → Int) (tl pl ft n1 n2 : Int) (wd : Value) (nn : Int) (cells slots : Nat) (y9 : Int) (hL : LInv M) (ht : tInv TX tl) (hn : 0 ≤ nx ∧ nx ≤ 3) (hsz : 0 ≤ sz ∧ sz ≤ 4) (hn9 : 0 ≤ nn ∧ nn < 46) (h9 : M 9 ≤ 200 * nn) (hcap : cells + 41 ≤ 604022 ∧ slots + 250 ≤ 7289401) (ih : ∀ (nx sz : Int) (S : Nat → Int → Int) (M : Int → Int), LInv M → (0 ≤ nx ∧ nx ≤ 3) → (0 ≤ sz ∧ sz ≤ 4) → M 9 ≤ 200 * nn + 200 → LZ l D ct ad (cells + 1) (slots + 6) 1102 (x8W u a r q ++ (svW ct r b nx sz S ++ (sobjW a ++ (gridW ct a M ++ (benchW ct a M ++ (logW ct a M ++ (txtW ct q TX tl pl ft wd n1 n2))))))) [(0, .ref (ad 67)), (1, .ref u), (2, .int (zI nn))] []) (hyr : -2147483648 ≤ y9 ∧ y9 ≤ 2147483647) : LZ l D ct ad cells slots 673 (x8W u a r q ++ (svW ct r b nx sz S ++ (sobjW a ++ (gridW ct a M ++ (benchW ct a M ++ (logW ct a M ++ (txtW ct q TX tl pl ft wd n1 n2))))))) [(0, .ref (ad 67)), (1, .ref u), (2, .int (zI nn)), (4, .int (zI y9)), (5, .int (zI (M 3))), (6, .int (zI (M 4)))] [] := by
  intro p e s m below meth c b9 H locs ls hC hP hD hS hl
  obtain ⟨hx, hb, hr, hml, hown, hts, hlocks, hE, hst⟩ := id hC
  have hK := hE.1
  have hA : ∀ q : Nat, s.heap.size ≤ q → (fun q : Nat => s.heap.size ≤ q) q := fun _ h => h
  have hc0 : cells ≤ room_1.cells ∧ slots ≤ room_1.slots := by show cells ≤ 604022 ∧ slots ≤ 7289401; omega
  have hs := hL.1
  have hI := hs.1
  have hB := hs.2.1
  have ha := hs.2.2
  have t1 := ht.1
  have hP : va_P D vwCl (x8W u a r q ++ (svW ct r b nx sz S ++ (sobjW a ++ (gridW ct a M ++ (benchW ct a M ++ (logW ct a M ++ (txtW ct q TX tl pl ft wd n1 n2))))))) H := hP
  have hD : va_D (fun q : Nat => s.heap.size ≤ q) (x8W u a r q ++ (svW ct r b nx sz S ++ (sobjW a ++ (gridW ct a M ++ (benchW ct a M ++ (logW ct a M ++ (txtW ct q TX tl pl ft wd n1 n2))))))) := hD
  have hl : lv_has ls 13 [(0, .ref (ad 67)), (1, .ref u), (2, .int (zI nn)), (4, .int (zI y9)), (5, .int (zI (M 3))), (6, .int (zI (M 4)))] := hl
  have j1 := hB.2.1
  have lwA := sp_lowB (v := y9) (n := 1401) (by decide)
  refine lv_aload_n hx hb dL_law_673 rfl (lv_at hl 1 rfl) ?_
  refine z_iconst hx hb dL_law_674 ?_
  refine z_callSW (As := [.ref u, .int (zI 4)]) (rest := []) ([] : va_W) ([] : va_W) hx hb hml hown (fun w h => hts w (inL_93 w h)) hl hE hS hA (zr0 ([] : va_W) hP) (zr0D ([] : va_W) hD) (c_L_whole_ok l D ct ad u a r q b nx sz S M TX tl pl ft n1 n2 wd 4 (by assumption) (by omega) (by omega)) gdL_93 rfl k_L_whole ⟨Nat.le_of_ble_eq_true rfl, Nat.le_of_ble_eq_true rfl⟩ rfl (Nat.le_of_ble_eq_true rfl) hc0 dL_law_675 rfl (fun v w1 H locs hpost hP hD hS => ?_)
  obtain ⟨rfl, rfl⟩ := hpost
  have hP := zr0' hP
  have hD := zr0D' hD
  have hP : va_P D vwCl (x8W u a r q ++ (svW ct r b nx sz S ++ (sobjW a ++ (gridW ct a M ++ (benchW ct a M ++ (logW ct a M ++ (txtW ct q TX tl pl ft wd n1 n2))))))) H := hP
  have hD : va_D (fun q : Nat => s.heap.size ≤ q) (x8W u a r q ++ (svW ct r b nx sz S ++ (sobjW a ++ (gridW ct a M ++ (benchW ct a M ++ (logW ct a M ++ (txtW ct q TX tl pl ft wd n1 n2))))))) := hD
  refine W.eq (g2 := F0 m 678 ls [.int (zI (sp_wh M tl 4))]) rfl ?_
  refine z_canI (show sp_wh M tl 4 = M 7 from rfl) ?_
  refine lv_istore (lv' := [(9, .int (zI (M 7))), (0, .ref (ad 67)), (1, .ref u), (2, .int (zI nn)), (4, .int (zI y9)), (5, .int (zI (M 3))), (6, .int (zI (M 4)))]) hx hb dL_law_678 hl (by decide) rfl (fun ls hl => ?_)
  refine lv_iload hx hb dL_law_680 (lv_at hl 4 rfl) ?_
  refine z_sipush hx hb dL_law_682 (by decide) ?_
  refine z_callS (As := [.int (zI y9), .int (zI 1401)]) (rest := []) ([] : va_W) (x8W u a r q ++ (svW ct r b nx sz S ++ (sobjW a ++ (gridW ct a M ++ (benchW ct a M ++ (logW ct a M ++ (txtW ct q TX tl pl ft wd n1 n2))))))) hx hb hml hown (fun w h => hts w (inL_153 w h)) hl hE hS hA hP hD (c_L_low l D ct ad y9 1401 (by omega)) gdL_153 rfl k_L_low ⟨Nat.le_of_ble_eq_true rfl, Nat.le_of_ble_eq_true rfl⟩ rfl (Nat.le_of_ble_eq_true rfl) hc0 dL_law_685 rfl (fun v w1 H locs hpost hP hD hS => ?_)
  obtain ⟨rfl, rfl⟩ := hpost
  have hP : va_P D vwCl (x8W u a r q ++ (svW ct r b nx sz S ++ (sobjW a ++ (gridW ct a M ++ (benchW ct a M ++ (logW ct a M ++ (txtW ct q TX tl pl ft wd n1 n2))))))) H := hP
  have hD : va_D (fun q : Nat => s.heap.size ≤ q) (x8W u a r q ++ (svW ct r b nx sz S ++ (sobjW a ++ (gridW ct a M ++ (benchW ct a M ++ (logW ct a M ++ (txtW ct q TX tl pl ft wd n1 n2))))))) := hD
  refine W.eq (g2 := F0 m 688 ls [.int (zI (sp_low y9 1401))]) rfl ?_
  refine z_sipush hx hb dL_law_688 (by decide) ?_
  refine z_isub hx hb dL_law_691 ?_
  obtain ⟨by9, hby9⟩ : ∃ z : Int, z = (sp_low y9 1401) - 700 := ⟨_, rfl⟩
  refine z_canI (show (sp_low y9 1401) - 700 = by9 from hby9.symm) ?_
  refine lv_istore (lv' := [(10, .int (zI by9)), (9, .int (zI (M 7))), (0, .ref (ad 67)), (1, .ref u), (2, .int (zI nn)), (4, .int (zI y9)), (5, .int (zI (M 3))), (6, .int (zI (M 4)))]) hx hb dL_law_692 hl (by decide) rfl (fun ls hl => ?_)
  refine lv_iload hx hb dL_law_694 (lv_at hl 1 rfl) ?_
  refine lv_iload hx hb dL_law_696 (lv_at hl 0 rfl) ?_
  refine z_iadd hx hb dL_law_698 ?_
  refine z_sipush hx hb dL_law_699 (by decide) ?_
  refine z_icmp_lt (tgt := 720) hx hb dL_law_702 (by decide) (by omega) (by omega) (fun hc_702 => ?_) (fun hc_702 => ?_)
  · have hc_702 := hc_702
    refine z_iconst hx hb dL_law_720 ?_
    exact lp_721 l D ct ad u a r q b nx sz S M TX tl pl ft n1 n2 wd nn cells slots by9 0 hL ht hn hsz hn9 h9 hcap ih (show -700 ≤ by9 ∧ by9 ≤ 700 from (by first | assumption | omega)) (show (0 = 1 ∧ -500 ≤ M 7 + by9 ∧ M 7 + by9 ≤ 500) ∨ (0 = 0 ∧ ¬ (-500 ≤ M 7 + by9 ∧ M 7 + by9 ≤ 500)) from (by first | assumption | omega)) p e s m below meth c b9 _ _ _ hC hP hD hS (lv_sub hl [2, 3, 4, 1, 0] rfl)
  · have hc_702 := hc_702
    refine lv_iload hx hb dL_law_705 (lv_at hl 1 rfl) ?_
    refine lv_iload hx hb dL_law_707 (lv_at hl 0 rfl) ?_
    refine z_iadd hx hb dL_law_709 ?_
    refine z_sipush hx hb dL_law_710 (by decide) ?_
    refine z_icmp_gt (tgt := 720) hx hb dL_law_713 (by decide) (by omega) (by omega) (fun hc_713 => ?_) (fun hc_713 => ?_)
    · have hc_713 := hc_713
      refine z_iconst hx hb dL_law_720 ?_
      exact lp_721 l D ct ad u a r q b nx sz S M TX tl pl ft n1 n2 wd nn cells slots by9 0 hL ht hn hsz hn9 h9 hcap ih (show -700 ≤ by9 ∧ by9 ≤ 700 from (by first | assumption | omega)) (show (0 = 1 ∧ -500 ≤ M 7 + by9 ∧ M 7 + by9 ≤ 500) ∨ (0 = 0 ∧ ¬ (-500 ≤ M 7 + by9 ∧ M 7 + by9 ≤ 500)) from (by first | assumption | omega)) p e s m below meth c b9 _ _ _ hC hP hD hS (lv_sub hl [2, 3, 4, 1, 0] rfl)
    · have hc_713 := hc_713
      refine z_iconst hx hb dL_law_716 ?_
      refine lv_goto (tgt := 721) hx hb dL_law_717 (by decide) ?_
      exact lp_721 l D ct ad u a r q b nx sz S M TX tl pl ft n1 n2 wd nn cells slots by9 1 hL ht hn hsz hn9 h9 hcap ih (show -700 ≤ by9 ∧ by9 ≤ 700 from (by first | assumption | omega)) (show (1 = 1 ∧ -500 ≤ M 7 + by9 ∧ M 7 + by9 ≤ 500) ∨ (1 = 0 ∧ ¬ (-500 ≤ M 7 + by9 ∧ M 7 + by9 ≤ 500)) from (by first | assumption | omega)) p e s m below meth c b9 _ _ _ hC hP hD hS (lv_sub hl [2, 3, 4, 1, 0] rfl)
set_option maxHeartbeats 4000000 in
set_option maxRecDepth 100000 in
theorem lp_666 (l : Launch) (D : va_G) (ct ad : Nat → Nat) (u : Nat) (a r q : Nat → Nat) (b : Nat → Nat → Nat) (nx sz : Int) (S : Nat → Int → Int) (M TX : Int → Int) (tl pl ft n1 n2 : Int) (wd : Value) (nn : Int) (cells slots : Nat) (y9 : Int) (how : Int) (r_ : Int) (hL : LInv M) (ht : tInv TX tl) (hn : 0 ≤ nx ∧ nx ≤ 3) (hsz : 0 ≤ sz ∧ sz ≤ 4) (hn9 : 0 ≤ nn ∧ nn < 46) (h9 : M 9 ≤ 200 * nn) (hcap : cells + 41 ≤ 604022 ∧ slots + 250 ≤ 7289401) (ih : ∀ (nx sz : Int) (S : Nat → Int → Int) (M : Int → Int), LInv M → (0 ≤ nx ∧ nx ≤ 3) → (0 ≤ sz ∧ sz ≤ 4) → M 9 ≤ 200 * nn + 200 → LZ l D ct ad (cells + 1) (slots + 6) 1102 (x8W u a r q ++ (svW ct r b nx sz S ++ (sobjW a ++ (gridW ct a M ++ (benchW ct a M ++ (logW ct a M ++ (txtW ct q TX tl pl ft wd n1 n2))))))) [(0, .ref (ad 67)), (1, .ref u), (2, .int (zI nn))] []) (hyr : -2147483648 ≤ y9 ∧ y9 ≤ 2147483647) (hhow : 0 ≤ how ∧ how ≤ 15) (hr9 : 0 ≤ r_ ∧ (0 < M 4 → r_ < M 4)) : LZ l D ct ad cells slots 666 (x8W u a r q ++ (svW ct r b nx sz S ++ (sobjW a ++ (gridW ct a M ++ (benchW ct a M ++ (logW ct a M ++ (txtW ct q TX tl pl ft wd n1 n2))))))) [(0, .ref (ad 67)), (1, .ref u), (2, .int (zI nn)), (4, .int (zI y9)), (5, .int (zI (M 3))), (6, .int (zI (M 4))), (7, .int (zI how)), (8, .int (zI r_))] [] := by
  intro p e s m below meth c b9 H locs ls hC hP hD hS hl
  obtain ⟨hx, hb, hr, hml, hown, hts, hlocks, hE, hst⟩ := id hC
  have hK := hE.1
  have hA : ∀ q : Nat, s.heap.size ≤ q → (fun q : Nat => s.heap.size ≤ q) q := fun _ h => h
  have hc0 : cells ≤ room_1.cells ∧ slots ≤ room_1.slots := by show cells ≤ 604022 ∧ slots ≤ 7289401; omega
  have hs := hL.1
  have hI := hs.1
  have hB := hs.2.1
  have ha := hs.2.2
  have t1 := ht.1
  have hP : va_P D vwCl (x8W u a r q ++ (svW ct r b nx sz S ++ (sobjW a ++ (gridW ct a M ++ (benchW ct a M ++ (logW ct a M ++ (txtW ct q TX tl pl ft wd n1 n2))))))) H := hP
  have hD : va_D (fun q : Nat => s.heap.size ≤ q) (x8W u a r q ++ (svW ct r b nx sz S ++ (sobjW a ++ (gridW ct a M ++ (benchW ct a M ++ (logW ct a M ++ (txtW ct q TX tl pl ft wd n1 n2))))))) := hD
  have hl : lv_has ls 13 [(0, .ref (ad 67)), (1, .ref u), (2, .int (zI nn)), (4, .int (zI y9)), (5, .int (zI (M 3))), (6, .int (zI (M 4))), (7, .int (zI how)), (8, .int (zI r_))] := hl
  refine lv_iload hx hb dL_law_666 (lv_at hl 6 rfl) ?_
  refine z_bipush hx hb dL_law_668 (by decide) ?_
  refine z_icmp_ne (tgt := 775) hx hb dL_law_670 (by decide) (by omega) (by omega) (fun hc_670 => ?_) (fun hc_670 => ?_)
  · have hc_670 := hc_670
    exact lp_775 l D ct ad u a r q b nx sz S M TX tl pl ft n1 n2 wd nn cells slots y9 how r_ hL ht hn hsz hn9 h9 hcap ih (show -2147483648 ≤ y9 ∧ y9 ≤ 2147483647 from (by first | assumption | omega)) (show 0 ≤ how ∧ how ≤ 15 from (by first | assumption | omega)) (show 0 ≤ r_ ∧ (0 < M 4 → r_ < M 4) from (by first | assumption | omega)) p e s m below meth c b9 _ _ _ hC hP hD hS (lv_sub hl [0, 1, 2, 3, 4, 5, 6, 7] rfl)
  · have hc_670 := hc_670
    exact lp_673 l D ct ad u a r q b nx sz S M TX tl pl ft n1 n2 wd nn cells slots y9 hL ht hn hsz hn9 h9 hcap ih (show -2147483648 ≤ y9 ∧ y9 ≤ 2147483647 from (by first | assumption | omega)) p e s m below meth c b9 _ _ _ hC hP hD hS (lv_sub hl [0, 1, 2, 3, 4, 5] rfl)
set_option maxHeartbeats 4000000 in
set_option maxRecDepth 100000 in
theorem lp_565 (l : Launch) (D : va_G) (ct ad : Nat → Nat) (u : Nat) (a r q : Nat → Nat) (b : Nat → Nat → Nat) (nx sz : Int) (S : Nat → Int → Int) (M TX : Int → Int) (tl pl ft n1 n2 : Int) (wd : Value) (nn : Int) (cells slots : Nat) (y9 : Int) (hL : LInv M) (ht : tInv TX tl) (hn : 0 ≤ nx ∧ nx ≤ 3) (hsz : 0 ≤ sz ∧ sz ≤ 4) (hn9 : 0 ≤ nn ∧ nn < 46) (h9 : M 9 ≤ 200 * nn) (hcap : cells + 41 ≤ 604022 ∧ slots + 250 ≤ 7289401) (ih : ∀ (nx sz : Int) (S : Nat → Int → Int) (M : Int → Int), LInv M → (0 ≤ nx ∧ nx ≤ 3) → (0 ≤ sz ∧ sz ≤ 4) → M 9 ≤ 200 * nn + 200 → LZ l D ct ad (cells + 1) (slots + 6) 1102 (x8W u a r q ++ (svW ct r b nx sz S ++ (sobjW a ++ (gridW ct a M ++ (benchW ct a M ++ (logW ct a M ++ (txtW ct q TX tl pl ft wd n1 n2))))))) [(0, .ref (ad 67)), (1, .ref u), (2, .int (zI nn))] []) (hyr : -2147483648 ≤ y9 ∧ y9 ≤ 2147483647) : LZ l D ct ad cells slots 565 (x8W u a r q ++ (svW ct r b nx sz S ++ (sobjW a ++ (gridW ct a M ++ (benchW ct a M ++ (logW ct a M ++ (txtW ct q TX tl pl ft wd n1 n2))))))) [(0, .ref (ad 67)), (1, .ref u), (2, .int (zI nn)), (4, .int (zI y9)), (5, .int (zI (M 3))), (6, .int (zI (M 4)))] [] := by
  intro p e s m below meth c b9 H locs ls hC hP hD hS hl
  obtain ⟨hx, hb, hr, hml, hown, hts, hlocks, hE, hst⟩ := id hC
  have hK := hE.1
  have hA : ∀ q : Nat, s.heap.size ≤ q → (fun q : Nat => s.heap.size ≤ q) q := fun _ h => h
  have hc0 : cells ≤ room_1.cells ∧ slots ≤ room_1.slots := by show cells ≤ 604022 ∧ slots ≤ 7289401; omega
  have hs := hL.1
  have hI := hs.1
  have hB := hs.2.1
  have ha := hs.2.2
  have t1 := ht.1
  have hP : va_P D vwCl (x8W u a r q ++ (svW ct r b nx sz S ++ (sobjW a ++ (gridW ct a M ++ (benchW ct a M ++ (logW ct a M ++ (txtW ct q TX tl pl ft wd n1 n2))))))) H := hP
  have hD : va_D (fun q : Nat => s.heap.size ≤ q) (x8W u a r q ++ (svW ct r b nx sz S ++ (sobjW a ++ (gridW ct a M ++ (benchW ct a M ++ (logW ct a M ++ (txtW ct q TX tl pl ft wd n1 n2))))))) := hD
  have hl : lv_has ls 13 [(0, .ref (ad 67)), (1, .ref u), (2, .int (zI nn)), (4, .int (zI y9)), (5, .int (zI (M 3))), (6, .int (zI (M 4)))] := hl
  have j1 := hB.2.1
  have lwA := sp_lowB (v := y9) (n := 5) (by decide)
  have lwB := sp_lowB (v := y9 / 8) (n := 901) (by decide)
  have lwC := sp_lowB (v := y9 / 8192) (n := 2) (by decide)
  refine lv_iload hx hb dL_law_565 (lv_at hl 3 rfl) ?_
  refine z_iconst hx hb dL_law_567 ?_
  refine z_callS (As := [.int (zI y9), .int (zI 5)]) (rest := []) ([] : va_W) (x8W u a r q ++ (svW ct r b nx sz S ++ (sobjW a ++ (gridW ct a M ++ (benchW ct a M ++ (logW ct a M ++ (txtW ct q TX tl pl ft wd n1 n2))))))) hx hb hml hown (fun w h => hts w (inL_153 w h)) hl hE hS hA hP hD (c_L_low l D ct ad y9 5 (by omega)) gdL_153 rfl k_L_low ⟨Nat.le_of_ble_eq_true rfl, Nat.le_of_ble_eq_true rfl⟩ rfl (Nat.le_of_ble_eq_true rfl) hc0 dL_law_568 rfl (fun v w1 H locs hpost hP hD hS => ?_)
  obtain ⟨rfl, rfl⟩ := hpost
  have hP : va_P D vwCl (x8W u a r q ++ (svW ct r b nx sz S ++ (sobjW a ++ (gridW ct a M ++ (benchW ct a M ++ (logW ct a M ++ (txtW ct q TX tl pl ft wd n1 n2))))))) H := hP
  have hD : va_D (fun q : Nat => s.heap.size ≤ q) (x8W u a r q ++ (svW ct r b nx sz S ++ (sobjW a ++ (gridW ct a M ++ (benchW ct a M ++ (logW ct a M ++ (txtW ct q TX tl pl ft wd n1 n2))))))) := hD
  refine W.eq (g2 := F0 m 571 ls [.int (zI (sp_low y9 5))]) rfl ?_
  obtain ⟨k9, hk9⟩ : ∃ z : Int, z = sp_low y9 5 := ⟨_, rfl⟩
  refine z_canI (show sp_low y9 5 = k9 from hk9.symm) ?_
  have qs := hB.2.2.2.1 k9 (by omega) (by omega)
  refine lv_istore (lv' := [(9, .int (zI k9)), (0, .ref (ad 67)), (1, .ref u), (2, .int (zI nn)), (4, .int (zI y9)), (5, .int (zI (M 3))), (6, .int (zI (M 4)))]) hx hb dL_law_571 hl (by decide) rfl (fun ls hl => ?_)
  refine lv_aload_n hx hb dL_law_573 rfl (lv_at hl 2 rfl) ?_
  refine lv_iload hx hb dL_law_574 (lv_at hl 0 rfl) ?_
  refine z_callSW (As := [.ref u, .int (zI k9)]) (rest := []) ([] : va_W) ([] : va_W) hx hb hml hown (fun w h => hts w (inL_136 w h)) hl hE hS hA (zr0 ([] : va_W) hP) (zr0D ([] : va_W) hD) (c_L_shelf_ok l D ct ad u a r q b nx sz S M TX tl pl ft n1 n2 wd k9 (by assumption) (by omega) (if_pos (by omega))) gdL_136 rfl k_L_shelf ⟨Nat.le_of_ble_eq_true rfl, Nat.le_of_ble_eq_true rfl⟩ rfl (Nat.le_of_ble_eq_true rfl) hc0 dL_law_576 rfl (fun v w1 H locs hpost hP hD hS => ?_)
  obtain ⟨rfl, rfl⟩ := hpost
  have hP := zr0' hP
  have hD := zr0D' hD
  have hP : va_P D vwCl (x8W u a r q ++ (svW ct r b nx sz S ++ (sobjW a ++ (gridW ct a M ++ (benchW ct a M ++ (logW ct a M ++ (txtW ct q TX tl pl ft wd n1 n2))))))) H := hP
  have hD : va_D (fun q : Nat => s.heap.size ≤ q) (x8W u a r q ++ (svW ct r b nx sz S ++ (sobjW a ++ (gridW ct a M ++ (benchW ct a M ++ (logW ct a M ++ (txtW ct q TX tl pl ft wd n1 n2))))))) := hD
  refine W.eq (g2 := F0 m 579 ls [.int (zI (M (49 + k9)))]) rfl ?_
  refine lv_istore (lv' := [(10, .int (zI (M (49 + k9)))), (9, .int (zI k9)), (0, .ref (ad 67)), (1, .ref u), (2, .int (zI nn)), (4, .int (zI y9)), (5, .int (zI (M 3))), (6, .int (zI (M 4)))]) hx hb dL_law_579 hl (by decide) rfl (fun ls hl => ?_)
  refine lv_iload hx hb dL_law_581 (lv_at hl 5 rfl) ?_
  refine z_iconst hx hb dL_law_583 ?_
  refine z_ishr (n := 3) (d := 8) hx hb dL_law_584 (by omega) (by decide) (by decide) ?_
  refine z_sipush hx hb dL_law_585 (by decide) ?_
  refine z_callS (As := [.int (zI (y9 / 8)), .int (zI 901)]) (rest := []) ([] : va_W) (x8W u a r q ++ (svW ct r b nx sz S ++ (sobjW a ++ (gridW ct a M ++ (benchW ct a M ++ (logW ct a M ++ (txtW ct q TX tl pl ft wd n1 n2))))))) hx hb hml hown (fun w h => hts w (inL_153 w h)) hl hE hS hA hP hD (c_L_low l D ct ad (y9 / 8) 901 (by omega)) gdL_153 rfl k_L_low ⟨Nat.le_of_ble_eq_true rfl, Nat.le_of_ble_eq_true rfl⟩ rfl (Nat.le_of_ble_eq_true rfl) hc0 dL_law_588 rfl (fun v w1 H locs hpost hP hD hS => ?_)
  obtain ⟨rfl, rfl⟩ := hpost
  have hP : va_P D vwCl (x8W u a r q ++ (svW ct r b nx sz S ++ (sobjW a ++ (gridW ct a M ++ (benchW ct a M ++ (logW ct a M ++ (txtW ct q TX tl pl ft wd n1 n2))))))) H := hP
  have hD : va_D (fun q : Nat => s.heap.size ≤ q) (x8W u a r q ++ (svW ct r b nx sz S ++ (sobjW a ++ (gridW ct a M ++ (benchW ct a M ++ (logW ct a M ++ (txtW ct q TX tl pl ft wd n1 n2))))))) := hD
  refine W.eq (g2 := F0 m 591 ls [.int (zI (sp_low (y9 / 8) 901))]) rfl ?_
  refine z_sipush hx hb dL_law_591 (by decide) ?_
  refine z_isub hx hb dL_law_594 ?_
  obtain ⟨to9, hto9⟩ : ∃ z : Int, z = (sp_low (y9 / 8) 901) - 300 := ⟨_, rfl⟩
  refine z_canI (show (sp_low (y9 / 8) 901) - 300 = to9 from hto9.symm) ?_
  have hck : ck_warm k9 to9 = 0 := (if_pos (by omega)).trans (if_pos (by omega))
  have hLN : LInv (up M (49 + k9) to9) := LInv_warm hL hck
  have hs2 := hLN.1
  have h9N : (up M (49 + k9) to9) 9 ≤ 200 * nn + 200 := by rw [up_n (by omega)]; omega
  refine lv_istore (lv' := [(11, .int (zI to9)), (10, .int (zI (M (49 + k9)))), (9, .int (zI k9)), (0, .ref (ad 67)), (1, .ref u), (2, .int (zI nn)), (4, .int (zI y9)), (5, .int (zI (M 3))), (6, .int (zI (M 4)))]) hx hb dL_law_595 hl (by decide) rfl (fun ls hl => ?_)
  refine lv_aload_n hx hb dL_law_597 rfl (lv_at hl 4 rfl) ?_
  refine z_iconst hx hb dL_law_598 ?_
  refine z_callSW (As := [.ref u, .int (zI 2)]) (rest := []) ([] : va_W) ([] : va_W) hx hb hml hown (fun w h => hts w (inL_93 w h)) hl hE hS hA (zr0 ([] : va_W) hP) (zr0D ([] : va_W) hD) (c_L_whole_ok l D ct ad u a r q b nx sz S M TX tl pl ft n1 n2 wd 2 (by assumption) (by omega) (by omega)) gdL_93 rfl k_L_whole ⟨Nat.le_of_ble_eq_true rfl, Nat.le_of_ble_eq_true rfl⟩ rfl (Nat.le_of_ble_eq_true rfl) hc0 dL_law_599 rfl (fun v w1 H locs hpost hP hD hS => ?_)
  obtain ⟨rfl, rfl⟩ := hpost
  have hP := zr0' hP
  have hD := zr0D' hD
  have hP : va_P D vwCl (x8W u a r q ++ (svW ct r b nx sz S ++ (sobjW a ++ (gridW ct a M ++ (benchW ct a M ++ (logW ct a M ++ (txtW ct q TX tl pl ft wd n1 n2))))))) H := hP
  have hD : va_D (fun q : Nat => s.heap.size ≤ q) (x8W u a r q ++ (svW ct r b nx sz S ++ (sobjW a ++ (gridW ct a M ++ (benchW ct a M ++ (logW ct a M ++ (txtW ct q TX tl pl ft wd n1 n2))))))) := hD
  refine W.eq (g2 := F0 m 602 ls [.int (zI (sp_wh M tl 2))]) rfl ?_
  refine z_canI (show sp_wh M tl 2 = M 5 from rfl) ?_
  refine lv_istore (lv' := [(12, .int (zI (M 5))), (11, .int (zI to9)), (10, .int (zI (M (49 + k9)))), (9, .int (zI k9)), (0, .ref (ad 67)), (1, .ref u), (2, .int (zI nn)), (4, .int (zI y9)), (5, .int (zI (M 3))), (6, .int (zI (M 4)))]) hx hb dL_law_602 hl (by decide) rfl (fun ls hl => ?_)
  refine lv_aload_n hx hb dL_law_604 rfl (lv_at hl 5 rfl) ?_
  refine lv_iload hx hb dL_law_605 (lv_at hl 3 rfl) ?_
  refine lv_iload hx hb dL_law_607 (lv_at hl 1 rfl) ?_
  refine z_callSW (As := [.ref u, .int (zI k9), .int (zI to9)]) (rest := []) ([] : va_W) ([] : va_W) hx hb hml hown (fun w h => hts w (inL_181 w h)) hl hE hS hA (zr0 ([] : va_W) hP) (zr0D ([] : va_W) hD) (c_L_setShelf_ok l D ct ad u a r q b nx sz S M TX tl pl ft n1 n2 wd k9 to9 (by assumption) (by omega) (by omega) (by omega) (by omega) hck) gdL_181 rfl k_L_setShelf ⟨Nat.le_of_ble_eq_true rfl, Nat.le_of_ble_eq_true rfl⟩ rfl (Nat.le_of_ble_eq_true rfl) hc0 dL_law_609 rfl (fun v w1 H locs hpost hP hD hS => ?_)
  obtain ⟨rfl, rfl⟩ := hpost
  have hP := zr0' hP
  have hD := zr0D' hD
  have hP : va_P D vwCl (x8W u a r q ++ (svW ct r b ((nx + 1) % 4) (min (sz + 1) 4) (updS S nx M) ++ (sobjW a ++ (gridW ct a (up M (49 + k9) to9) ++ (benchW ct a (up M (49 + k9) to9) ++ (logW ct a (up M (49 + k9) to9) ++ (txtW ct q TX tl pl ft wd n1 n2))))))) H := hP
  have hD : va_D (fun q : Nat => s.heap.size ≤ q) (x8W u a r q ++ (svW ct r b ((nx + 1) % 4) (min (sz + 1) 4) (updS S nx M) ++ (sobjW a ++ (gridW ct a (up M (49 + k9) to9) ++ (benchW ct a (up M (49 + k9) to9) ++ (logW ct a (up M (49 + k9) to9) ++ (txtW ct q TX tl pl ft wd n1 n2))))))) := hD
  refine W.eq (g2 := F0 m 612 ls [.int (zI (M (49 + k9)))]) rfl ?_
  refine lv_iload hx hb dL_law_612 (lv_at hl 2 rfl) ?_
  refine z_icmp_ne (tgt := 661) hx hb dL_law_614 (by decide) (by omega) (by omega) (fun hc_614 => ?_) (fun hc_614 => ?_)
  · have hc_614 := hc_614
    omega
  have hc_614 := hc_614
  refine lv_aload_n hx hb dL_law_617 rfl (lv_at hl 5 rfl) ?_
  refine lv_iload hx hb dL_law_618 (lv_at hl 3 rfl) ?_
  refine z_callSW (As := [.ref u, .int (zI k9)]) (rest := []) ([] : va_W) ([] : va_W) hx hb hml hown (fun w h => hts w (inL_136 w h)) hl hE hS hA (zr0 ([] : va_W) hP) (zr0D ([] : va_W) hD) (c_L_shelf_ok l D ct ad u a r q b ((nx + 1) % 4) (min (sz + 1) 4) (updS S nx M) (up M (49 + k9) to9) TX tl pl ft n1 n2 wd k9 (by assumption) (by omega) (if_pos (by omega))) gdL_136 rfl k_L_shelf ⟨Nat.le_of_ble_eq_true rfl, Nat.le_of_ble_eq_true rfl⟩ rfl (Nat.le_of_ble_eq_true rfl) hc0 dL_law_620 rfl (fun v w1 H locs hpost hP hD hS => ?_)
  obtain ⟨rfl, rfl⟩ := hpost
  have hP := zr0' hP
  have hD := zr0D' hD
  have hP : va_P D vwCl (x8W u a r q ++ (svW ct r b ((nx + 1) % 4) (min (sz + 1) 4) (updS S nx M) ++ (sobjW a ++ (gridW ct a (up M (49 + k9) to9) ++ (benchW ct a (up M (49 + k9) to9) ++ (logW ct a (up M (49 + k9) to9) ++ (txtW ct q TX tl pl ft wd n1 n2))))))) H := hP
  have hD : va_D (fun q : Nat => s.heap.size ≤ q) (x8W u a r q ++ (svW ct r b ((nx + 1) % 4) (min (sz + 1) 4) (updS S nx M) ++ (sobjW a ++ (gridW ct a (up M (49 + k9) to9) ++ (benchW ct a (up M (49 + k9) to9) ++ (logW ct a (up M (49 + k9) to9) ++ (txtW ct q TX tl pl ft wd n1 n2))))))) := hD
  refine W.eq (g2 := F0 m 623 ls [.int (zI ((up M (49 + k9) to9) (49 + k9)))]) rfl ?_
  refine z_canI (show (up M (49 + k9) to9) (49 + k9) = to9 from (show (up M (49 + k9) to9) (49 + k9) = to9 from by rw [up_s])) ?_
  refine lv_iload hx hb dL_law_623 (lv_at hl 1 rfl) ?_
  refine z_icmp_ne (tgt := 661) hx hb dL_law_625 (by decide) (by omega) (by omega) (fun hc_625 => ?_) (fun hc_625 => ?_)
  · have hc_625 := hc_625
    omega
  have hc_625 := hc_625
  refine lv_iload hx hb dL_law_628 (lv_at hl 7 rfl) ?_
  refine z_bipush hx hb dL_law_630 (by decide) ?_
  refine z_ishr (n := 13) (d := 8192) hx hb dL_law_632 (by omega) (by decide) (by decide) ?_
  refine z_iconst hx hb dL_law_633 ?_
  refine z_callS (As := [.int (zI (y9 / 8192)), .int (zI 2)]) (rest := []) ([] : va_W) (x8W u a r q ++ (svW ct r b ((nx + 1) % 4) (min (sz + 1) 4) (updS S nx M) ++ (sobjW a ++ (gridW ct a (up M (49 + k9) to9) ++ (benchW ct a (up M (49 + k9) to9) ++ (logW ct a (up M (49 + k9) to9) ++ (txtW ct q TX tl pl ft wd n1 n2))))))) hx hb hml hown (fun w h => hts w (inL_153 w h)) hl hE hS hA hP hD (c_L_low l D ct ad (y9 / 8192) 2 (by omega)) gdL_153 rfl k_L_low ⟨Nat.le_of_ble_eq_true rfl, Nat.le_of_ble_eq_true rfl⟩ rfl (Nat.le_of_ble_eq_true rfl) hc0 dL_law_634 rfl (fun v w1 H locs hpost hP hD hS => ?_)
  obtain ⟨rfl, rfl⟩ := hpost
  have hP : va_P D vwCl (x8W u a r q ++ (svW ct r b ((nx + 1) % 4) (min (sz + 1) 4) (updS S nx M) ++ (sobjW a ++ (gridW ct a (up M (49 + k9) to9) ++ (benchW ct a (up M (49 + k9) to9) ++ (logW ct a (up M (49 + k9) to9) ++ (txtW ct q TX tl pl ft wd n1 n2))))))) H := hP
  have hD : va_D (fun q : Nat => s.heap.size ≤ q) (x8W u a r q ++ (svW ct r b ((nx + 1) % 4) (min (sz + 1) 4) (updS S nx M) ++ (sobjW a ++ (gridW ct a (up M (49 + k9) to9) ++ (benchW ct a (up M (49 + k9) to9) ++ (logW ct a (up M (49 + k9) to9) ++ (txtW ct q TX tl pl ft wd n1 n2))))))) := hD
  refine W.eq (g2 := F0 m 637 ls [.int (zI (sp_low (y9 / 8192) 2))]) rfl ?_
  refine z_if_ne (tgt := 663) hx hb dL_law_637 (by decide) (by omega) (fun hc_637 => ?_) (fun hc_637 => ?_)
  · have hc_637 := hc_637
    refine lv_goto (tgt := 1102) hx hb dL_law_663 (by decide) ?_
    refine W.widen (k := cells + 1) (n := slots + 6) (Nat.le_add_right _ _) (Nat.le_add_right _ _) ?_
    exact ih ((nx + 1) % 4) (min (sz + 1) 4) (updS S nx M) (up M (49 + k9) to9) (by assumption) (by omega) (by omega) (by first | assumption | omega) p e s m below meth c b9 _ _ _ hC hP hD hS (lv_sub hl [4, 5, 6] rfl)
  · have hc_637 := hc_637
    refine lv_aload_n hx hb dL_law_640 rfl (lv_at hl 5 rfl) ?_
    refine lv_iload hx hb dL_law_641 (lv_at hl 3 rfl) ?_
    refine z_callSW (As := [.ref u, .int (zI k9)]) (rest := []) ([] : va_W) ([] : va_W) hx hb hml hown (fun w h => hts w (inL_183 w h)) hl hE hS hA (zr0 ([] : va_W) hP) (zr0D ([] : va_W) hD) (c_L_hang_ok l D ct ad u a r q b ((nx + 1) % 4) (min (sz + 1) 4) (updS S nx M) (up M (49 + k9) to9) TX tl pl ft n1 n2 wd k9 (by assumption) (by omega) (by omega) (by omega) (if_pos (by omega))) gdL_183 rfl k_L_hang ⟨Nat.le_of_ble_eq_true rfl, Nat.le_of_ble_eq_true rfl⟩ rfl (Nat.le_of_ble_eq_true rfl) hc0 dL_law_643 rfl (fun v w1 H locs hpost hP hD hS => ?_)
    obtain ⟨rfl, rfl⟩ := hpost
    have hP := zr0' hP
    have hD := zr0D' hD
    have hP : va_P D vwCl (x8W u a r q ++ (svW ct r b ((((nx + 1) % 4) + 1) % 4) (min ((min (sz + 1) 4) + 1) 4) (updS (updS S nx M) ((nx + 1) % 4) (up M (49 + k9) to9)) ++ (sobjW a ++ (gridW ct a (up (up M (49 + k9) to9) 5 k9) ++ (benchW ct a (up (up M (49 + k9) to9) 5 k9) ++ (logW ct a (up (up M (49 + k9) to9) 5 k9) ++ (txtW ct q TX tl pl ft wd n1 n2))))))) H := hP
    have hD : va_D (fun q : Nat => s.heap.size ≤ q) (x8W u a r q ++ (svW ct r b ((((nx + 1) % 4) + 1) % 4) (min ((min (sz + 1) 4) + 1) 4) (updS (updS S nx M) ((nx + 1) % 4) (up M (49 + k9) to9)) ++ (sobjW a ++ (gridW ct a (up (up M (49 + k9) to9) 5 k9) ++ (benchW ct a (up (up M (49 + k9) to9) 5 k9) ++ (logW ct a (up (up M (49 + k9) to9) 5 k9) ++ (txtW ct q TX tl pl ft wd n1 n2))))))) := hD
    refine W.eq (g2 := F0 m 646 ls [.int (zI ((up M (49 + k9) to9) 5))]) rfl ?_
    refine z_canI (show (up M (49 + k9) to9) 5 = M 5 from (up_n (by omega))) ?_
    have hLN2 : LInv (up (up M (49 + k9) to9) 5 k9) := LInv_shelf hLN (if_pos (by omega))
    have hs3 := hLN2.1
    have h9N2 : (up (up M (49 + k9) to9) 5 k9) 9 ≤ 200 * nn + 200 := by rw [up_n (by omega)]; exact h9N
    refine lv_iload hx hb dL_law_646 (lv_at hl 0 rfl) ?_
    refine z_icmp_ne (tgt := 661) hx hb dL_law_648 (by decide) (by omega) (by omega) (fun hc_648 => ?_) (fun hc_648 => ?_)
    · have hc_648 := hc_648
      omega
    have hc_648 := hc_648
    refine lv_aload_n hx hb dL_law_651 rfl (lv_at hl 5 rfl) ?_
    refine z_iconst hx hb dL_law_652 ?_
    refine z_callSW (As := [.ref u, .int (zI 2)]) (rest := []) ([] : va_W) ([] : va_W) hx hb hml hown (fun w h => hts w (inL_93 w h)) hl hE hS hA (zr0 ([] : va_W) hP) (zr0D ([] : va_W) hD) (c_L_whole_ok l D ct ad u a r q b ((((nx + 1) % 4) + 1) % 4) (min ((min (sz + 1) 4) + 1) 4) (updS (updS S nx M) ((nx + 1) % 4) (up M (49 + k9) to9)) (up (up M (49 + k9) to9) 5 k9) TX tl pl ft n1 n2 wd 2 (by assumption) (by omega) (by omega)) gdL_93 rfl k_L_whole ⟨Nat.le_of_ble_eq_true rfl, Nat.le_of_ble_eq_true rfl⟩ rfl (Nat.le_of_ble_eq_true rfl) hc0 dL_law_653 rfl (fun v w1 H locs hpost hP hD hS => ?_)
    obtain ⟨rfl, rfl⟩ := hpost
    have hP := zr0' hP
    have hD := zr0D' hD
    have hP : va_P D vwCl (x8W u a r q ++ (svW ct r b ((((nx + 1) % 4) + 1) % 4) (min ((min (sz + 1) 4) + 1) 4) (updS (updS S nx M) ((nx + 1) % 4) (up M (49 + k9) to9)) ++ (sobjW a ++ (gridW ct a (up (up M (49 + k9) to9) 5 k9) ++ (benchW ct a (up (up M (49 + k9) to9) 5 k9) ++ (logW ct a (up (up M (49 + k9) to9) 5 k9) ++ (txtW ct q TX tl pl ft wd n1 n2))))))) H := hP
    have hD : va_D (fun q : Nat => s.heap.size ≤ q) (x8W u a r q ++ (svW ct r b ((((nx + 1) % 4) + 1) % 4) (min ((min (sz + 1) 4) + 1) 4) (updS (updS S nx M) ((nx + 1) % 4) (up M (49 + k9) to9)) ++ (sobjW a ++ (gridW ct a (up (up M (49 + k9) to9) 5 k9) ++ (benchW ct a (up (up M (49 + k9) to9) 5 k9) ++ (logW ct a (up (up M (49 + k9) to9) 5 k9) ++ (txtW ct q TX tl pl ft wd n1 n2))))))) := hD
    refine W.eq (g2 := F0 m 656 ls [.int (zI (sp_wh (up (up M (49 + k9) to9) 5 k9) tl 2))]) rfl ?_
    refine z_canI (show sp_wh (up (up M (49 + k9) to9) 5 k9) tl 2 = k9 from (show (up (up M (49 + k9) to9) 5 k9) 5 = k9 from by rw [up_s])) ?_
    refine lv_iload hx hb dL_law_656 (lv_at hl 3 rfl) ?_
    refine z_icmp_eq (tgt := 663) hx hb dL_law_658 (by decide) (by omega) (by omega) (fun hc_658 => ?_) (fun hc_658 => ?_)
    · have hc_658 := hc_658
      refine lv_goto (tgt := 1102) hx hb dL_law_663 (by decide) ?_
      refine W.widen (k := cells + 1) (n := slots + 6) (Nat.le_add_right _ _) (Nat.le_add_right _ _) ?_
      exact ih ((((nx + 1) % 4) + 1) % 4) (min ((min (sz + 1) 4) + 1) 4) (updS (updS S nx M) ((nx + 1) % 4) (up M (49 + k9) to9)) (up (up M (49 + k9) to9) 5 k9) (by assumption) (by omega) (by omega) (by first | assumption | omega) p e s m below meth c b9 _ _ _ hC hP hD hS (lv_sub hl [4, 5, 6] rfl)
    · have hc_658 := hc_658
      omega
