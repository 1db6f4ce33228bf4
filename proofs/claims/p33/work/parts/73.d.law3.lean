set_option maxHeartbeats 4000000 in
set_option maxRecDepth 100000 in
theorem lp_1102 (l : Launch) (D : va_G) (ct ad : Nat → Nat) (u : Nat) (a r q : Nat → Nat) (b : Nat → Nat → Nat) (nx sz : Int) (S : Nat → Int → Int) (M TX : Int → Int) (tl pl ft n1 n2 : Int) (wd : Value) (nn : Int) (cells slots : Nat)  (hL : LInv M) (ht : tInv TX tl) (hn : 0 ≤ nx ∧ nx ≤ 3) (hsz : 0 ≤ sz ∧ sz ≤ 4) (hn9 : 0 ≤ nn ∧ nn ≤ 46) (h9 : M 9 ≤ 200 * nn + 200) (hcap : cells + 40 ≤ 604022 ∧ slots + 244 ≤ 7289401) (k49 : LZ l D ct ad cells slots 49 (x8W u a r q ++ (svW ct r b nx sz S ++ (sobjW a ++ (gridW ct a M ++ (benchW ct a M ++ (logW ct a M ++ (txtW ct q TX tl pl ft wd n1 n2))))))) [(0, .ref (ad 67)), (1, .ref u), (2, .int (zI (nn + 1)))] []) : LZ l D ct ad cells slots 1102 (x8W u a r q ++ (svW ct r b nx sz S ++ (sobjW a ++ (gridW ct a M ++ (benchW ct a M ++ (logW ct a M ++ (txtW ct q TX tl pl ft wd n1 n2))))))) [(0, .ref (ad 67)), (1, .ref u), (2, .int (zI nn))] [] := by
  intro p e s m below meth c b9 H locs ls hC hP hD hS hl
  obtain ⟨hx, hb, hr, hml, hown, hts, hlocks, hE, hst⟩ := id hC
  have hK := hE.1
  have hA : ∀ q : Nat, s.heap.size ≤ q → (fun q : Nat => s.heap.size ≤ q) q := fun _ h => h
  have hc0 : cells ≤ room_1.cells ∧ slots ≤ room_1.slots := by show cells ≤ 604022 ∧ slots ≤ 7289401; omega
  have hs := hL.1
  have hI := hs.1
  have hB := hs.2.1
  have ha := hs.2.2
  have t1 := ht.1
  have hP : va_P D vwCl (x8W u a r q ++ (svW ct r b nx sz S ++ (sobjW a ++ (gridW ct a M ++ (benchW ct a M ++ (logW ct a M ++ (txtW ct q TX tl pl ft wd n1 n2))))))) H := hP
  have hD : va_D (fun q : Nat => s.heap.size ≤ q) (x8W u a r q ++ (svW ct r b nx sz S ++ (sobjW a ++ (gridW ct a M ++ (benchW ct a M ++ (logW ct a M ++ (txtW ct q TX tl pl ft wd n1 n2))))))) := hD
  have hl : lv_has ls 13 [(0, .ref (ad 67)), (1, .ref u), (2, .int (zI nn))] := hl
  refine lv_aload_n hx hb dL_law_1102 rfl (lv_at hl 1 rfl) ?_
  refine z_callS (As := [.ref u]) (rest := []) ([] : va_W) ([] : va_W) hx hb hml hown (fun w h => hts w (inL_197 w h)) hl hE hS hA (zr0 ([] : va_W) hP) (zr0D ([] : va_W) hD) (c_L_sound l D ct ad u a r q b nx sz S M TX tl pl ft n1 n2 wd (by assumption) (by assumption)) gdL_197 rfl k_L_sound ⟨Nat.le_of_ble_eq_true rfl, Nat.le_of_ble_eq_true rfl⟩ rfl (Nat.le_of_ble_eq_true rfl) hc0 dL_law_1103 rfl (fun v w1 H locs hpost hP hD hS => ?_)
  obtain ⟨rfl, rfl⟩ := hpost
  have hP := zr0' hP
  have hD := zr0D' hD
  have hP : va_P D vwCl (x8W u a r q ++ (svW ct r b nx sz S ++ (sobjW a ++ (gridW ct a M ++ (benchW ct a M ++ (logW ct a M ++ (txtW ct q TX tl pl ft wd n1 n2))))))) H := hP
  have hD : va_D (fun q : Nat => s.heap.size ≤ q) (x8W u a r q ++ (svW ct r b nx sz S ++ (sobjW a ++ (gridW ct a M ++ (benchW ct a M ++ (logW ct a M ++ (txtW ct q TX tl pl ft wd n1 n2))))))) := hD
  refine W.eq (g2 := F0 m 1106 ls [.int (zI 1)]) rfl ?_
  refine z_if_ne (tgt := 1111) hx hb dL_law_1106 (by decide) (by omega) (fun hc_1106 => ?_) (fun hc_1106 => ?_)
  · have hc_1106 := hc_1106
    refine z_iinc (k := 2) (lv' := [(2, .int (zI (nn + 1))), (0, .ref (ad 67)), (1, .ref u)]) hx hb dL_law_1111 hl rfl (by decide) rfl (fun ls hl => ?_)
    refine lv_goto (tgt := 49) hx hb dL_law_1114 (by decide) ?_
    exact k49 p e s m below meth c b9 _ _ _ hC hP hD hS (lv_sub hl [1, 2, 0] rfl)
  · have hc_1106 := hc_1106
    omega
set_option maxHeartbeats 4000000 in
set_option maxRecDepth 100000 in
theorem lp_49 (l : Launch) (D : va_G) (ct ad : Nat → Nat) (u : Nat) (a r q : Nat → Nat) (b : Nat → Nat → Nat) (nx sz : Int) (S : Nat → Int → Int) (M TX : Int → Int) (tl pl ft n1 n2 : Int) (wd : Value) (nn : Int) (cells slots : Nat)  (hL : LInv M) (ht : tInv TX tl) (hn : 0 ≤ nx ∧ nx ≤ 3) (hsz : 0 ≤ sz ∧ sz ≤ 4) (hn9 : 0 ≤ nn ∧ nn ≤ 46) (h9 : M 9 ≤ 200 * nn + 200) (hcap : cells + 40 ≤ 604022 ∧ slots + 244 ≤ 7289401) (h55 : nn < 46 → LZ l D ct ad cells slots 55 (x8W u a r q ++ (svW ct r b nx sz S ++ (sobjW a ++ (gridW ct a M ++ (benchW ct a M ++ (logW ct a M ++ (txtW ct q TX tl pl ft wd n1 n2))))))) [(0, .ref (ad 67)), (1, .ref u), (2, .int (zI (nn)))] []) (h1117 : 46 ≤ nn → LZ l D ct ad cells slots 1117 (x8W u a r q ++ (svW ct r b nx sz S ++ (sobjW a ++ (gridW ct a M ++ (benchW ct a M ++ (logW ct a M ++ (txtW ct q TX tl pl ft wd n1 n2))))))) [(0, .ref (ad 67)), (1, .ref u), (2, .int (zI (nn)))] []) : LZ l D ct ad cells slots 49 (x8W u a r q ++ (svW ct r b nx sz S ++ (sobjW a ++ (gridW ct a M ++ (benchW ct a M ++ (logW ct a M ++ (txtW ct q TX tl pl ft wd n1 n2))))))) [(0, .ref (ad 67)), (1, .ref u), (2, .int (zI nn))] [] := by
  intro p e s m below meth c b9 H locs ls hC hP hD hS hl
  obtain ⟨hx, hb, hr, hml, hown, hts, hlocks, hE, hst⟩ := id hC
  have hK := hE.1
  have hA : ∀ q : Nat, s.heap.size ≤ q → (fun q : Nat => s.heap.size ≤ q) q := fun _ h => h
  have hc0 : cells ≤ room_1.cells ∧ slots ≤ room_1.slots := by show cells ≤ 604022 ∧ slots ≤ 7289401; omega
  have hs := hL.1
  have hI := hs.1
  have hB := hs.2.1
  have ha := hs.2.2
  have t1 := ht.1
  have hP : va_P D vwCl (x8W u a r q ++ (svW ct r b nx sz S ++ (sobjW a ++ (gridW ct a M ++ (benchW ct a M ++ (logW ct a M ++ (txtW ct q TX tl pl ft wd n1 n2))))))) H := hP
  have hD : va_D (fun q : Nat => s.heap.size ≤ q) (x8W u a r q ++ (svW ct r b nx sz S ++ (sobjW a ++ (gridW ct a M ++ (benchW ct a M ++ (logW ct a M ++ (txtW ct q TX tl pl ft wd n1 n2))))))) := hD
  have hl : lv_has ls 13 [(0, .ref (ad 67)), (1, .ref u), (2, .int (zI nn))] := hl
  refine lv_iload_n hx hb dL_law_49 rfl (lv_at hl 2 rfl) ?_
  refine z_bipush hx hb dL_law_50 (by decide) ?_
  refine z_icmp_ge (tgt := 1117) hx hb dL_law_52 (by decide) (by omega) (by omega) (fun hc_52 => ?_) (fun hc_52 => ?_)
  · have hc_52 := hc_52
    exact h1117 (by omega) p e s m below meth c b9 _ _ _ hC hP hD hS (lv_sub hl [0, 1, 2] rfl)
  · have hc_52 := hc_52
    exact h55 (by omega) p e s m below meth c b9 _ _ _ hC hP hD hS (lv_sub hl [0, 1, 2] rfl)
set_option maxHeartbeats 4000000 in
set_option maxRecDepth 100000 in
theorem lp_1117 (l : Launch) (D : va_G) (ct ad : Nat → Nat) (u : Nat) (a r q : Nat → Nat) (b : Nat → Nat → Nat) (nx sz : Int) (S : Nat → Int → Int) (M TX : Int → Int) (tl pl ft n1 n2 : Int) (wd : Value) (nn : Int) (cells slots : Nat)  (hL : LInv M) (ht : tInv TX tl) (hn : 0 ≤ nx ∧ nx ≤ 3) (hsz : 0 ≤ sz ∧ sz ≤ 4) (hn9 : 0 ≤ nn ∧ nn ≤ 46) (h9 : M 9 ≤ 200 * nn + 200) (hcap : cells + 40 ≤ 604022 ∧ slots + 244 ≤ 7289401) : LZ l D ct ad cells slots 1117 (x8W u a r q ++ (svW ct r b nx sz S ++ (sobjW a ++ (gridW ct a M ++ (benchW ct a M ++ (logW ct a M ++ (txtW ct q TX tl pl ft wd n1 n2))))))) [(0, .ref (ad 67)), (1, .ref u), (2, .int (zI nn))] [] := by
  intro p e s m below meth c b9 H locs ls hC hP hD hS hl
  obtain ⟨hx, hb, hr, hml, hown, hts, hlocks, hE, hst⟩ := id hC
  have hK := hE.1
  have hA : ∀ q : Nat, s.heap.size ≤ q → (fun q : Nat => s.heap.size ≤ q) q := fun _ h => h
  have hc0 : cells ≤ room_1.cells ∧ slots ≤ room_1.slots := by show cells ≤ 604022 ∧ slots ≤ 7289401; omega
  have hs := hL.1
  have hI := hs.1
  have hB := hs.2.1
  have ha := hs.2.2
  have t1 := ht.1
  have hP : va_P D vwCl (x8W u a r q ++ (svW ct r b nx sz S ++ (sobjW a ++ (gridW ct a M ++ (benchW ct a M ++ (logW ct a M ++ (txtW ct q TX tl pl ft wd n1 n2))))))) H := hP
  have hD : va_D (fun q : Nat => s.heap.size ≤ q) (x8W u a r q ++ (svW ct r b nx sz S ++ (sobjW a ++ (gridW ct a M ++ (benchW ct a M ++ (logW ct a M ++ (txtW ct q TX tl pl ft wd n1 n2))))))) := hD
  have hl : lv_has ls 13 [(0, .ref (ad 67)), (1, .ref u), (2, .int (zI nn))] := hl
  refine lv_aload_n hx hb dL_law_1117 rfl (lv_at hl 1 rfl) ?_
  refine z_callS (As := [.ref u]) (rest := []) ([] : va_W) ([] : va_W) hx hb hml hown (fun w h => hts w (inL_193 w h)) hl hE hS hA (zr0 ([] : va_W) hP) (zr0D ([] : va_W) hD) (c_L_refuses l D ct ad u a r q b nx sz S M TX tl pl ft n1 n2 wd (by assumption) (by assumption) (by omega) (by omega) hst) gdL_193 rfl k_L_refuses ⟨Nat.le_of_ble_eq_true rfl, Nat.le_of_ble_eq_true rfl⟩ rfl (Nat.le_of_ble_eq_true rfl) (show cells + 30 ≤ 604022 ∧ slots + 180 ≤ 7289401 by omega) dL_law_1118 rfl (fun v w1 H locs hpost hP hD hS => ?_)
  obtain ⟨rfl, rfl⟩ := hpost
  have hP := zr0' hP
  have hD := zr0D' hD
  have hP : va_P D vwCl (x8W u a r q ++ (svW ct r b nx sz S ++ (sobjW a ++ (gridW ct a M ++ (benchW ct a M ++ (logW ct a M ++ (txtW ct q TX tl pl ft wd n1 n2))))))) H := hP
  have hD : va_D (fun q : Nat => s.heap.size ≤ q) (x8W u a r q ++ (svW ct r b nx sz S ++ (sobjW a ++ (gridW ct a M ++ (benchW ct a M ++ (logW ct a M ++ (txtW ct q TX tl pl ft wd n1 n2))))))) := hD
  refine W.eq (g2 := F0 m 1121 ls [.int (zI 1)]) rfl ?_
  refine z_if_eq (tgt := 1141) hx hb dL_law_1121 (by decide) (by omega) (fun hc_1121 => ?_) (fun hc_1121 => ?_)
  · have hc_1121 := hc_1121
    omega
  have hc_1121 := hc_1121
  refine lv_aload_n hx hb dL_law_1124 rfl (lv_at hl 1 rfl) ?_
  refine lv_aload_n hx hb dL_law_1125 rfl (lv_at hl 0 rfl) ?_
  refine z_bipush hx hb dL_law_1126 (by decide) ?_
  refine z_callS (As := [.ref (ad 67), .int (zI 93)]) (rest := [.ref u]) ([] : va_W) (x8W u a r q ++ (svW ct r b nx sz S ++ (sobjW a ++ (gridW ct a M ++ (benchW ct a M ++ (logW ct a M ++ (txtW ct q TX tl pl ft wd n1 n2))))))) hx hb hml hown (fun w h => hts w (inL_203 w h)) hl hE hS hA hP hD (c_L_lot l D ct ad 93 (by omega)) gdL_203 rfl k_L_lot ⟨Nat.le_of_ble_eq_true rfl, Nat.le_of_ble_eq_true rfl⟩ rfl (Nat.le_of_ble_eq_true rfl) (show cells + 30 ≤ 604022 ∧ slots + 180 ≤ 7289401 by omega) dL_law_1128 rfl (fun v w1 H locs hpost hP hD hS => ?_)
  obtain ⟨x9, hx0_1128, rfl, rfl⟩ := hpost
  have hP : va_P D vwCl (x8W u a r q ++ (svW ct r b nx sz S ++ (sobjW a ++ (gridW ct a M ++ (benchW ct a M ++ (logW ct a M ++ (txtW ct q TX tl pl ft wd n1 n2))))))) H := hP
  have hD : va_D (fun q : Nat => s.heap.size ≤ q) (x8W u a r q ++ (svW ct r b nx sz S ++ (sobjW a ++ (gridW ct a M ++ (benchW ct a M ++ (logW ct a M ++ (txtW ct q TX tl pl ft wd n1 n2))))))) := hD
  refine W.eq (g2 := F0 m 1131 ls [.int (zI x9), .ref u]) rfl ?_
  refine z_callS (As := [.ref u, .int (zI x9)]) (rest := []) ([] : va_W) ([] : va_W) hx hb hml hown (fun w h => hts w (inL_215 w h)) hl hE hS hA (zr0 ([] : va_W) hP) (zr0D ([] : va_W) hD) (c_L_thoughts l D ct ad u a r q b nx sz S M TX tl pl ft n1 n2 wd x9 (by assumption) (by assumption) (by omega) (by omega) (by omega) (by omega)) gdL_215 rfl k_L_thoughts ⟨Nat.le_of_ble_eq_true rfl, Nat.le_of_ble_eq_true rfl⟩ rfl (Nat.le_of_ble_eq_true rfl) (show cells + 30 ≤ 604022 ∧ slots + 180 ≤ 7289401 by omega) dL_law_1131 rfl (fun v w1 H locs hpost hP hD hS => ?_)
  obtain ⟨nx2_1131, sz2_1131, S2_1131, ⟨hx0_1131, hx1_1131⟩, rfl, rfl⟩ := hpost
  have hP := zr0' hP
  have hD := zr0D' hD
  have hP : va_P D vwCl (x8W u a r q ++ (svW ct r b nx2_1131 sz2_1131 S2_1131 ++ (sobjW a ++ (gridW ct a M ++ (benchW ct a M ++ (logW ct a M ++ (txtW ct q TX tl pl ft wd n1 n2))))))) H := hP
  have hD : va_D (fun q : Nat => s.heap.size ≤ q) (x8W u a r q ++ (svW ct r b nx2_1131 sz2_1131 S2_1131 ++ (sobjW a ++ (gridW ct a M ++ (benchW ct a M ++ (logW ct a M ++ (txtW ct q TX tl pl ft wd n1 n2))))))) := hD
  refine W.eq (g2 := F0 m 1134 ls [.int (zI 1)]) rfl ?_
  refine z_if_eq (tgt := 1141) hx hb dL_law_1134 (by decide) (by omega) (fun hc_1134 => ?_) (fun hc_1134 => ?_)
  · have hc_1134 := hc_1134
    omega
  have hc_1134 := hc_1134
  refine z_iconst hx hb dL_law_1137 ?_
  refine lv_goto (tgt := 1142) hx hb dL_law_1138 (by decide) ?_
  exact lw_end hx hb hr hlocks hS (show cells + 30 ≤ 604022 ∧ slots + 180 ≤ 7289401 by omega)
theorem law_loop (l : Launch) (D : va_G) (ct ad : Nat → Nat) (u : Nat) (a r q : Nat → Nat) (b : Nat → Nat → Nat) (TX : Int → Int) (tl pl ft n1 n2 : Int) (wd : Value) (ht : tInv TX tl) : ∀ (k : Nat) (nn : Int) (cells slots : Nat) (nx sz : Int) (S : Nat → Int → Int) (M : Int → Int), nn + k = 46 → 0 ≤ nn → LInv M → (0 ≤ nx ∧ nx ≤ 3) → (0 ≤ sz ∧ sz ≤ 4) → M 9 ≤ 200 * nn → (cells + k + 41 ≤ 604022 ∧ slots + 6 * k + 250 ≤ 7289401) → LZ l D ct ad cells slots 49 (x8W u a r q ++ (svW ct r b nx sz S ++ (sobjW a ++ (gridW ct a M ++ (benchW ct a M ++ (logW ct a M ++ (txtW ct q TX tl pl ft wd n1 n2))))))) [(0, .ref (ad 67)), (1, .ref u), (2, .int (zI (nn)))] []
  | 0, nn, cells, slots, nx, sz, S, M, hk, h0, hL, hn, hsz, h9, hcap => lp_49 l D ct ad u a r q b nx sz S M TX tl pl ft n1 n2 wd nn cells slots hL ht hn hsz (by omega) (by omega) (by omega) (fun h => (show False by omega).elim) (fun _ => lp_1117 l D ct ad u a r q b nx sz S M TX tl pl ft n1 n2 wd nn cells slots hL ht hn hsz (by omega) (by omega) (by omega))
  | k + 1, nn, cells, slots, nx, sz, S, M, hk, h0, hL, hn, hsz, h9, hcap => lp_49 l D ct ad u a r q b nx sz S M TX tl pl ft n1 n2 wd nn cells slots hL ht hn hsz (by omega) (by omega) (by omega) (fun _ => lp_55 l D ct ad u a r q b nx sz S M TX tl pl ft n1 n2 wd nn cells slots hL ht hn hsz (by omega) h9 (by omega) (fun nx2 sz2 S2 M2 hL2 hn2 hsz2 h92 => lp_1102 l D ct ad u a r q b nx2 sz2 S2 M2 TX tl pl ft n1 n2 wd nn (cells + 1) (slots + 6) hL2 ht hn2 hsz2 (by omega) h92 (by omega) (law_loop l D ct ad u a r q b TX tl pl ft n1 n2 wd ht k (nn + 1) (cells + 1) (slots + 6) nx2 sz2 S2 M2 (by omega) (by omega) hL2 hn2 hsz2 (by omega) (by omega)))) (fun h => (show False by omega).elim)
