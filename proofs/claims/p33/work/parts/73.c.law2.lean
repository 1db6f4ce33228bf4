set_option maxHeartbeats 4000000 in
set_option maxRecDepth 100000 in
theorem lp_558 (l : Launch) (D : va_G) (ct ad : Nat → Nat) (u : Nat) (a r q : Nat → Nat) (b : Nat → Nat → Nat) (nx sz : Int) (S : Nat → Int → Int) (M TX : Int → Int) (tl pl ft n1 n2 : Int) (wd : Value) (nn : Int) (cells slots : Nat) (y9 : Int) (how : Int) (r_ : Int) (hL : LInv M) (ht : tInv TX tl) (hn : 0 ≤ nx ∧ nx ≤ 3) (hsz : 0 ≤ sz ∧ sz ≤ 4) (hn9 : 0 ≤ nn ∧ nn < 46) (h9 : M 9 ≤ 200 * nn) (hcap : cells + 41 ≤ 604022 ∧ slots + 250 ≤ 7289401) (ih : ∀ (nx sz : Int) (S : Nat → Int → Int) (M : Int → Int), LInv M → (0 ≤ nx ∧ nx ≤ 3) → (0 ≤ sz ∧ sz ≤ 4) → M 9 ≤ 200 * nn + 200 → LZ l D ct ad (cells + 1) (slots + 6) 1102 (x8W u a r q ++ (svW ct r b nx sz S ++ (sobjW a ++ (gridW ct a M ++ (benchW ct a M ++ (logW ct a M ++ (txtW ct q TX tl pl ft wd n1 n2))))))) [(0, .ref (ad 67)), (1, .ref u), (2, .int (zI nn))] []) (hyr : -2147483648 ≤ y9 ∧ y9 ≤ 2147483647) (hhow : 0 ≤ how ∧ how ≤ 15) (hr9 : 0 ≤ r_ ∧ (0 < M 4 → r_ < M 4)) : LZ l D ct ad cells slots 558 (x8W u a r q ++ (svW ct r b nx sz S ++ (sobjW a ++ (gridW ct a M ++ (benchW ct a M ++ (logW ct a M ++ (txtW ct q TX tl pl ft wd n1 n2))))))) [(0, .ref (ad 67)), (1, .ref u), (2, .int (zI nn)), (4, .int (zI y9)), (5, .int (zI (M 3))), (6, .int (zI (M 4))), (7, .int (zI how)), (8, .int (zI r_))] [] := by
  intro p e s m below meth c b9 H locs ls hC hP hD hS hl
  obtain ⟨hx, hb, hr, hml, hown, hts, hlocks, hE, hst⟩ := id hC
  have hK := hE.1
  have hA : ∀ q : Nat, s.heap.size ≤ q → (fun q : Nat => s.heap.size ≤ q) q := fun _ h => h
  have hc0 : cells ≤ room_1.cells ∧ slots ≤ room_1.slots := by show cells ≤ 604022 ∧ slots ≤ 7289401; omega
  have hs := hL.1
  have hI := hs.1
  have hB := hs.2.1
  have ha := hs.2.2
  have t1 := ht.1
  have hP : va_P D vwCl (x8W u a r q ++ (svW ct r b nx sz S ++ (sobjW a ++ (gridW ct a M ++ (benchW ct a M ++ (logW ct a M ++ (txtW ct q TX tl pl ft wd n1 n2))))))) H := hP
  have hD : va_D (fun q : Nat => s.heap.size ≤ q) (x8W u a r q ++ (svW ct r b nx sz S ++ (sobjW a ++ (gridW ct a M ++ (benchW ct a M ++ (logW ct a M ++ (txtW ct q TX tl pl ft wd n1 n2))))))) := hD
  have hl : lv_has ls 13 [(0, .ref (ad 67)), (1, .ref u), (2, .int (zI nn)), (4, .int (zI y9)), (5, .int (zI (M 3))), (6, .int (zI (M 4))), (7, .int (zI how)), (8, .int (zI r_))] := hl
  refine lv_iload hx hb dL_law_558 (lv_at hl 6 rfl) ?_
  refine z_bipush hx hb dL_law_560 (by decide) ?_
  refine z_icmp_ge (tgt := 666) hx hb dL_law_562 (by decide) (by omega) (by omega) (fun hc_562 => ?_) (fun hc_562 => ?_)
  · have hc_562 := hc_562
    exact lp_666 l D ct ad u a r q b nx sz S M TX tl pl ft n1 n2 wd nn cells slots y9 how r_ hL ht hn hsz hn9 h9 hcap ih (show -2147483648 ≤ y9 ∧ y9 ≤ 2147483647 from (by first | assumption | omega)) (show 0 ≤ how ∧ how ≤ 15 from (by first | assumption | omega)) (show 0 ≤ r_ ∧ (0 < M 4 → r_ < M 4) from (by first | assumption | omega)) p e s m below meth c b9 _ _ _ hC hP hD hS (lv_sub hl [0, 1, 2, 3, 4, 5, 6, 7] rfl)
  · have hc_562 := hc_562
    exact lp_565 l D ct ad u a r q b nx sz S M TX tl pl ft n1 n2 wd nn cells slots y9 hL ht hn hsz hn9 h9 hcap ih (show -2147483648 ≤ y9 ∧ y9 ≤ 2147483647 from (by first | assumption | omega)) p e s m below meth c b9 _ _ _ hC hP hD hS (lv_sub hl [0, 1, 2, 3, 4, 5] rfl)
set_option maxHeartbeats 4000000 in
set_option maxRecDepth 100000 in
theorem lp_497 (l : Launch) (D : va_G) (ct ad : Nat → Nat) (u : Nat) (a r q : Nat → Nat) (b : Nat → Nat → Nat) (nx sz : Int) (S : Nat → Int → Int) (M TX : Int → Int) (tl pl ft n1 n2 : Int) (wd : Value) (nn : Int) (cells slots : Nat) (y9 : Int) (how : Int) (r_ : Int) (hL : LInv M) (ht : tInv TX tl) (hn : 0 ≤ nx ∧ nx ≤ 3) (hsz : 0 ≤ sz ∧ sz ≤ 4) (hn9 : 0 ≤ nn ∧ nn < 46) (h9 : M 9 ≤ 200 * nn) (hcap : cells + 41 ≤ 604022 ∧ slots + 250 ≤ 7289401) (ih : ∀ (nx sz : Int) (S : Nat → Int → Int) (M : Int → Int), LInv M → (0 ≤ nx ∧ nx ≤ 3) → (0 ≤ sz ∧ sz ≤ 4) → M 9 ≤ 200 * nn + 200 → LZ l D ct ad (cells + 1) (slots + 6) 1102 (x8W u a r q ++ (svW ct r b nx sz S ++ (sobjW a ++ (gridW ct a M ++ (benchW ct a M ++ (logW ct a M ++ (txtW ct q TX tl pl ft wd n1 n2))))))) [(0, .ref (ad 67)), (1, .ref u), (2, .int (zI nn))] []) (hyr : -2147483648 ≤ y9 ∧ y9 ≤ 2147483647) (hhow : 0 ≤ how ∧ how ≤ 15) (hr9 : 0 ≤ r_ ∧ (0 < M 4 → r_ < M 4)) : LZ l D ct ad cells slots 497 (x8W u a r q ++ (svW ct r b nx sz S ++ (sobjW a ++ (gridW ct a M ++ (benchW ct a M ++ (logW ct a M ++ (txtW ct q TX tl pl ft wd n1 n2))))))) [(0, .ref (ad 67)), (1, .ref u), (2, .int (zI nn)), (4, .int (zI y9)), (5, .int (zI (M 3))), (6, .int (zI (M 4))), (7, .int (zI how)), (8, .int (zI r_))] [] := by
  intro p e s m below meth c b9 H locs ls hC hP hD hS hl
  obtain ⟨hx, hb, hr, hml, hown, hts, hlocks, hE, hst⟩ := id hC
  have hK := hE.1
  have hA : ∀ q : Nat, s.heap.size ≤ q → (fun q : Nat => s.heap.size ≤ q) q := fun _ h => h
  have hc0 : cells ≤ room_1.cells ∧ slots ≤ room_1.slots := by show cells ≤ 604022 ∧ slots ≤ 7289401; omega
  have hs := hL.1
  have hI := hs.1
  have hB := hs.2.1
  have ha := hs.2.2
  have t1 := ht.1
  have hP : va_P D vwCl (x8W u a r q ++ (svW ct r b nx sz S ++ (sobjW a ++ (gridW ct a M ++ (benchW ct a M ++ (logW ct a M ++ (txtW ct q TX tl pl ft wd n1 n2))))))) H := hP
  have hD : va_D (fun q : Nat => s.heap.size ≤ q) (x8W u a r q ++ (svW ct r b nx sz S ++ (sobjW a ++ (gridW ct a M ++ (benchW ct a M ++ (logW ct a M ++ (txtW ct q TX tl pl ft wd n1 n2))))))) := hD
  have hf_0 : (Cond.constant RL 169 (1000000)).before #[Value.ref b9] s = true := hts _ (zin [950] (by decide +kernel) _ (List.mem_singleton.mpr rfl))
  have hl : lv_has ls 13 [(0, .ref (ad 67)), (1, .ref u), (2, .int (zI nn)), (4, .int (zI y9)), (5, .int (zI (M 3))), (6, .int (zI (M 4))), (7, .int (zI how)), (8, .int (zI r_))] := hl
  have i4 := hI.2.1
  have lwA := sp_lowB (v := y9) (n := 1000000) (by decide)
  refine lv_iload hx hb dL_law_497 (lv_at hl 6 rfl) ?_
  refine z_iconst hx hb dL_law_499 ?_
  refine z_icmp_ne (tgt := 558) hx hb dL_law_500 (by decide) (by omega) (by omega) (fun hc_500 => ?_) (fun hc_500 => ?_)
  · have hc_500 := hc_500
    exact lp_558 l D ct ad u a r q b nx sz S M TX tl pl ft n1 n2 wd nn cells slots y9 how r_ hL ht hn hsz hn9 h9 hcap ih (show -2147483648 ≤ y9 ∧ y9 ≤ 2147483647 from (by first | assumption | omega)) (show 0 ≤ how ∧ how ≤ 15 from (by first | assumption | omega)) (show 0 ≤ r_ ∧ (0 < M 4 → r_ < M 4) from (by first | assumption | omega)) p e s m below meth c b9 _ _ _ hC hP hD hS (lv_sub hl [0, 1, 2, 3, 4, 5, 6, 7] rfl)
  · have hc_500 := hc_500
    refine lv_iload hx hb dL_law_503 (lv_at hl 5 rfl) ?_
    refine z_if_le (tgt := 558) hx hb dL_law_505 (by decide) (by omega) (fun hc_505 => ?_) (fun hc_505 => ?_)
    · have hc_505 := hc_505
      exact lp_558 l D ct ad u a r q b nx sz S M TX tl pl ft n1 n2 wd nn cells slots y9 how r_ hL ht hn hsz hn9 h9 hcap ih (show -2147483648 ≤ y9 ∧ y9 ≤ 2147483647 from (by first | assumption | omega)) (show 0 ≤ how ∧ how ≤ 15 from (by first | assumption | omega)) (show 0 ≤ r_ ∧ (0 < M 4 → r_ < M 4) from (by first | assumption | omega)) p e s m below meth c b9 _ _ _ hC hP hD hS (lv_sub hl [0, 1, 2, 3, 4, 5, 6, 7] rfl)
    · have hc_505 := hc_505
      refine lv_aload_n hx hb dL_law_508 rfl (lv_at hl 1 rfl) ?_
      refine lv_iload hx hb dL_law_509 (lv_at hl 7 rfl) ?_
      refine z_iconst hx hb dL_law_511 ?_
      refine z_callSW (As := [.ref u, .int (zI r_), .int (zI 2)]) (rest := []) ([] : va_W) ([] : va_W) hx hb hml hown (fun w h => hts w (inL_98 w h)) hl hE hS hA (zr0 ([] : va_W) hP) (zr0D ([] : va_W) hD) (c_L_rod_ok l D ct ad u a r q b nx sz S M TX tl pl ft n1 n2 wd r_ 2 (by assumption) (by omega) (by omega) (by omega)) gdL_98 rfl k_L_rod ⟨Nat.le_of_ble_eq_true rfl, Nat.le_of_ble_eq_true rfl⟩ rfl (Nat.le_of_ble_eq_true rfl) hc0 dL_law_512 rfl (fun v w1 H locs hpost hP hD hS => ?_)
      obtain ⟨rfl, rfl⟩ := hpost
      have hP := zr0' hP
      have hD := zr0D' hD
      have hP : va_P D vwCl (x8W u a r q ++ (svW ct r b nx sz S ++ (sobjW a ++ (gridW ct a M ++ (benchW ct a M ++ (logW ct a M ++ (txtW ct q TX tl pl ft wd n1 n2))))))) H := hP
      have hD : va_D (fun q : Nat => s.heap.size ≤ q) (x8W u a r q ++ (svW ct r b nx sz S ++ (sobjW a ++ (gridW ct a M ++ (benchW ct a M ++ (logW ct a M ++ (txtW ct q TX tl pl ft wd n1 n2))))))) := hD
      refine W.eq (g2 := F0 m 515 ls [.int (zI (sp_rodv M r_ 2 (M 6)))]) rfl ?_
      refine z_canI (show sp_rodv M r_ 2 (M 6) = M (24 + 3 * r_) from rfl) ?_
      refine lv_istore (lv' := [(9, .int (zI (M (24 + 3 * r_)))), (0, .ref (ad 67)), (1, .ref u), (2, .int (zI nn)), (4, .int (zI y9)), (5, .int (zI (M 3))), (6, .int (zI (M 4))), (7, .int (zI how)), (8, .int (zI r_))]) hx hb dL_law_515 hl (by decide) rfl (fun ls hl => ?_)
      refine z_iconst hx hb dL_law_517 ?_
      refine lv_iload hx hb dL_law_518 (lv_at hl 4 rfl) ?_
      refine z_ldc hx hb 1000000 hown hf_0 (by decide) dL_law_520 ?_
      refine z_callS (As := [.int (zI y9), .int (zI 1000000)]) (rest := [.int (zI 1)]) ([] : va_W) (x8W u a r q ++ (svW ct r b nx sz S ++ (sobjW a ++ (gridW ct a M ++ (benchW ct a M ++ (logW ct a M ++ (txtW ct q TX tl pl ft wd n1 n2))))))) hx hb hml hown (fun w h => hts w (inL_153 w h)) hl hE hS hA hP hD (c_L_low l D ct ad y9 1000000 (by omega)) gdL_153 rfl k_L_low ⟨Nat.le_of_ble_eq_true rfl, Nat.le_of_ble_eq_true rfl⟩ rfl (Nat.le_of_ble_eq_true rfl) hc0 dL_law_522 rfl (fun v w1 H locs hpost hP hD hS => ?_)
      obtain ⟨rfl, rfl⟩ := hpost
      have hP : va_P D vwCl (x8W u a r q ++ (svW ct r b nx sz S ++ (sobjW a ++ (gridW ct a M ++ (benchW ct a M ++ (logW ct a M ++ (txtW ct q TX tl pl ft wd n1 n2))))))) H := hP
      have hD : va_D (fun q : Nat => s.heap.size ≤ q) (x8W u a r q ++ (svW ct r b nx sz S ++ (sobjW a ++ (gridW ct a M ++ (benchW ct a M ++ (logW ct a M ++ (txtW ct q TX tl pl ft wd n1 n2))))))) := hD
      refine W.eq (g2 := F0 m 525 ls [.int (zI (sp_low y9 1000000)), .int (zI 1)]) rfl ?_
      refine z_iadd hx hb dL_law_525 ?_
      obtain ⟨len9, hlen9⟩ : ∃ z : Int, z = 1 + (sp_low y9 1000000) := ⟨_, rfl⟩
      refine z_canI (show 1 + (sp_low y9 1000000) = len9 from hlen9.symm) ?_
      have hck : ck_length M r_ len9 = 0 := (if_pos (by omega)).trans (if_pos (by omega))
      have hLN : LInv (up M (24 + 3 * r_) len9) := LInv_len hL hck
      have hs2 := hLN.1
      have h9N : (up M (24 + 3 * r_) len9) 9 ≤ 200 * nn + 200 := by rw [up_n (by omega)]; omega
      have e4 : (up M (24 + 3 * r_) len9) 4 = M 4 := up_n (by omega)
      have qn := hI.2.2.2.1 r_ (by omega) (by omega)
      refine lv_istore (lv' := [(10, .int (zI len9)), (9, .int (zI (M (24 + 3 * r_)))), (0, .ref (ad 67)), (1, .ref u), (2, .int (zI nn)), (4, .int (zI y9)), (5, .int (zI (M 3))), (6, .int (zI (M 4))), (7, .int (zI how)), (8, .int (zI r_))]) hx hb dL_law_526 hl (by decide) rfl (fun ls hl => ?_)
      refine lv_aload_n hx hb dL_law_528 rfl (lv_at hl 3 rfl) ?_
      refine lv_iload hx hb dL_law_529 (lv_at hl 9 rfl) ?_
      refine lv_iload hx hb dL_law_531 (lv_at hl 0 rfl) ?_
      refine z_callSW (As := [.ref u, .int (zI r_), .int (zI len9)]) (rest := []) ([] : va_W) ([] : va_W) hx hb hml hown (fun w h => hts w (inL_170 w h)) hl hE hS hA (zr0 ([] : va_W) hP) (zr0D ([] : va_W) hD) (c_L_setLength_ok l D ct ad u a r q b nx sz S M TX tl pl ft n1 n2 wd r_ len9 (by assumption) (by omega) (by omega) (by omega) (by omega) hck) gdL_170 rfl k_L_setLength ⟨Nat.le_of_ble_eq_true rfl, Nat.le_of_ble_eq_true rfl⟩ rfl (Nat.le_of_ble_eq_true rfl) hc0 dL_law_533 rfl (fun v w1 H locs hpost hP hD hS => ?_)
      obtain ⟨rfl, rfl⟩ := hpost
      have hP := zr0' hP
      have hD := zr0D' hD
      have hP : va_P D vwCl (x8W u a r q ++ (svW ct r b ((nx + 1) % 4) (min (sz + 1) 4) (updS S nx M) ++ (sobjW a ++ (gridW ct a (up M (24 + 3 * r_) len9) ++ (benchW ct a (up M (24 + 3 * r_) len9) ++ (logW ct a (up M (24 + 3 * r_) len9) ++ (txtW ct q TX tl pl ft wd n1 n2))))))) H := hP
      have hD : va_D (fun q : Nat => s.heap.size ≤ q) (x8W u a r q ++ (svW ct r b ((nx + 1) % 4) (min (sz + 1) 4) (updS S nx M) ++ (sobjW a ++ (gridW ct a (up M (24 + 3 * r_) len9) ++ (benchW ct a (up M (24 + 3 * r_) len9) ++ (logW ct a (up M (24 + 3 * r_) len9) ++ (txtW ct q TX tl pl ft wd n1 n2))))))) := hD
      refine W.eq (g2 := F0 m 536 ls [.int (zI (M (24 + 3 * r_)))]) rfl ?_
      refine lv_iload hx hb dL_law_536 (lv_at hl 1 rfl) ?_
      refine z_icmp_ne (tgt := 553) hx hb dL_law_538 (by decide) (by omega) (by omega) (fun hc_538 => ?_) (fun hc_538 => ?_)
      · have hc_538 := hc_538
        omega
      have hc_538 := hc_538
      refine lv_aload_n hx hb dL_law_541 rfl (lv_at hl 3 rfl) ?_
      refine lv_iload hx hb dL_law_542 (lv_at hl 9 rfl) ?_
      refine z_iconst hx hb dL_law_544 ?_
      refine z_callSW (As := [.ref u, .int (zI r_), .int (zI 2)]) (rest := []) ([] : va_W) ([] : va_W) hx hb hml hown (fun w h => hts w (inL_98 w h)) hl hE hS hA (zr0 ([] : va_W) hP) (zr0D ([] : va_W) hD) (c_L_rod_ok l D ct ad u a r q b ((nx + 1) % 4) (min (sz + 1) 4) (updS S nx M) (up M (24 + 3 * r_) len9) TX tl pl ft n1 n2 wd r_ 2 (by assumption) (by omega) (by omega) (by omega)) gdL_98 rfl k_L_rod ⟨Nat.le_of_ble_eq_true rfl, Nat.le_of_ble_eq_true rfl⟩ rfl (Nat.le_of_ble_eq_true rfl) hc0 dL_law_545 rfl (fun v w1 H locs hpost hP hD hS => ?_)
      obtain ⟨rfl, rfl⟩ := hpost
      have hP := zr0' hP
      have hD := zr0D' hD
      have hP : va_P D vwCl (x8W u a r q ++ (svW ct r b ((nx + 1) % 4) (min (sz + 1) 4) (updS S nx M) ++ (sobjW a ++ (gridW ct a (up M (24 + 3 * r_) len9) ++ (benchW ct a (up M (24 + 3 * r_) len9) ++ (logW ct a (up M (24 + 3 * r_) len9) ++ (txtW ct q TX tl pl ft wd n1 n2))))))) H := hP
      have hD : va_D (fun q : Nat => s.heap.size ≤ q) (x8W u a r q ++ (svW ct r b ((nx + 1) % 4) (min (sz + 1) 4) (updS S nx M) ++ (sobjW a ++ (gridW ct a (up M (24 + 3 * r_) len9) ++ (benchW ct a (up M (24 + 3 * r_) len9) ++ (logW ct a (up M (24 + 3 * r_) len9) ++ (txtW ct q TX tl pl ft wd n1 n2))))))) := hD
      refine W.eq (g2 := F0 m 548 ls [.int (zI (sp_rodv (up M (24 + 3 * r_) len9) r_ 2 ((up M (24 + 3 * r_) len9) 6)))]) rfl ?_
      refine z_canI (show sp_rodv (up M (24 + 3 * r_) len9) r_ 2 ((up M (24 + 3 * r_) len9) 6) = len9 from (show (up M (24 + 3 * r_) len9) (24 + 3 * r_) = len9 from by rw [up_s])) ?_
      refine lv_iload hx hb dL_law_548 (lv_at hl 0 rfl) ?_
      refine z_icmp_eq (tgt := 555) hx hb dL_law_550 (by decide) (by omega) (by omega) (fun hc_550 => ?_) (fun hc_550 => ?_)
      · have hc_550 := hc_550
        refine lv_goto (tgt := 1102) hx hb dL_law_555 (by decide) ?_
        refine W.widen (k := cells + 1) (n := slots + 6) (Nat.le_add_right _ _) (Nat.le_add_right _ _) ?_
        exact ih ((nx + 1) % 4) (min (sz + 1) 4) (updS S nx M) (up M (24 + 3 * r_) len9) (by assumption) (by omega) (by omega) (by first | assumption | omega) p e s m below meth c b9 _ _ _ hC hP hD hS (lv_sub hl [2, 3, 4] rfl)
      · have hc_550 := hc_550
        omega
set_option maxHeartbeats 4000000 in
set_option maxRecDepth 100000 in
theorem lp_456 (l : Launch) (D : va_G) (ct ad : Nat → Nat) (u : Nat) (a r q : Nat → Nat) (b : Nat → Nat → Nat) (nx sz : Int) (S : Nat → Int → Int) (M TX : Int → Int) (tl pl ft n1 n2 : Int) (wd : Value) (nn : Int) (cells slots : Nat) (r_ : Int) (nx9 : Int) (hL : LInv M) (ht : tInv TX tl) (hn : 0 ≤ nx ∧ nx ≤ 3) (hsz : 0 ≤ sz ∧ sz ≤ 4) (hn9 : 0 ≤ nn ∧ nn < 46) (h9 : M 9 ≤ 200 * nn) (hcap : cells + 41 ≤ 604022 ∧ slots + 250 ≤ 7289401) (ih : ∀ (nx sz : Int) (S : Nat → Int → Int) (M : Int → Int), LInv M → (0 ≤ nx ∧ nx ≤ 3) → (0 ≤ sz ∧ sz ≤ 4) → M 9 ≤ 200 * nn + 200 → LZ l D ct ad (cells + 1) (slots + 6) 1102 (x8W u a r q ++ (svW ct r b nx sz S ++ (sobjW a ++ (gridW ct a M ++ (benchW ct a M ++ (logW ct a M ++ (txtW ct q TX tl pl ft wd n1 n2))))))) [(0, .ref (ad 67)), (1, .ref u), (2, .int (zI nn))] []) (hr8 : 0 ≤ r_ ∧ r_ < M 4) (hnx : r_ + 1 < M 4 → nx9 = M (24 + 3 * (r_ + 1))) (hnxr : -2147483648 ≤ nx9 ∧ nx9 ≤ 2147483647) : LZ l D ct ad cells slots 456 (x8W u a r q ++ (svW ct r b nx sz S ++ (sobjW a ++ (gridW ct a M ++ (benchW ct a M ++ (logW ct a M ++ (txtW ct q TX tl pl ft wd n1 n2))))))) [(0, .ref (ad 67)), (1, .ref u), (2, .int (zI nn)), (6, .int (zI (M 4))), (8, .int (zI r_))] [.int (zI nx9)] := by
  intro p e s m below meth c b9 H locs ls hC hP hD hS hl
  obtain ⟨hx, hb, hr, hml, hown, hts, hlocks, hE, hst⟩ := id hC
  have hK := hE.1
  have hA : ∀ q : Nat, s.heap.size ≤ q → (fun q : Nat => s.heap.size ≤ q) q := fun _ h => h
  have hc0 : cells ≤ room_1.cells ∧ slots ≤ room_1.slots := by show cells ≤ 604022 ∧ slots ≤ 7289401; omega
  have hs := hL.1
  have hI := hs.1
  have hB := hs.2.1
  have ha := hs.2.2
  have t1 := ht.1
  have hP : va_P D vwCl (x8W u a r q ++ (svW ct r b nx sz S ++ (sobjW a ++ (gridW ct a M ++ (benchW ct a M ++ (logW ct a M ++ (txtW ct q TX tl pl ft wd n1 n2))))))) H := hP
  have hD : va_D (fun q : Nat => s.heap.size ≤ q) (x8W u a r q ++ (svW ct r b nx sz S ++ (sobjW a ++ (gridW ct a M ++ (benchW ct a M ++ (logW ct a M ++ (txtW ct q TX tl pl ft wd n1 n2))))))) := hD
  have hl : lv_has ls 13 [(0, .ref (ad 67)), (1, .ref u), (2, .int (zI nn)), (6, .int (zI (M 4))), (8, .int (zI r_))] := hl
  have i4 := hI.2.1
  refine lv_istore (lv' := [(9, .int (zI nx9)), (0, .ref (ad 67)), (1, .ref u), (2, .int (zI nn)), (6, .int (zI (M 4))), (8, .int (zI r_))]) hx hb dL_law_456 hl (by decide) rfl (fun ls hl => ?_)
  refine lv_aload_n hx hb dL_law_458 rfl (lv_at hl 2 rfl) ?_
  refine lv_iload hx hb dL_law_459 (lv_at hl 5 rfl) ?_
  have hLN : LInv (st_drop M r_) := LInv_drop hL (by omega)
  have hs2 := hLN.1
  have h9N : (st_drop M r_) 9 ≤ 200 * nn + 200 := by rw [drop_n (by omega) (by omega) (by omega) (by omega)]; omega
  refine z_callSW (As := [.ref u, .int (zI r_)]) (rest := []) ([] : va_W) ([] : va_W) hx hb hml hown (fun w h => hts w (inL_179 w h)) hl hE hS hA (zr0 ([] : va_W) hP) (zr0D ([] : va_W) hD) (c_L_removeRod_ok l D ct ad u a r q b nx sz S M TX tl pl ft n1 n2 wd r_ (by assumption) (by omega) (by omega) (by omega) (by omega)) gdL_179 rfl k_L_removeRod ⟨Nat.le_of_ble_eq_true rfl, Nat.le_of_ble_eq_true rfl⟩ rfl (Nat.le_of_ble_eq_true rfl) hc0 dL_law_461 rfl (fun v w1 H locs hpost hP hD hS => ?_)
  obtain ⟨rfl, rfl⟩ := hpost
  have hP := zr0' hP
  have hD := zr0D' hD
  have hP : va_P D vwCl (x8W u a r q ++ (svW ct r b ((nx + 1) % 4) (min (sz + 1) 4) (updS S nx M) ++ (sobjW a ++ (gridW ct a (st_drop M r_) ++ (benchW ct a (st_drop M r_) ++ (logW ct a (st_drop M r_) ++ (txtW ct q TX tl pl ft wd n1 n2))))))) H := hP
  have hD : va_D (fun q : Nat => s.heap.size ≤ q) (x8W u a r q ++ (svW ct r b ((nx + 1) % 4) (min (sz + 1) 4) (updS S nx M) ++ (sobjW a ++ (gridW ct a (st_drop M r_) ++ (benchW ct a (st_drop M r_) ++ (logW ct a (st_drop M r_) ++ (txtW ct q TX tl pl ft wd n1 n2))))))) := hD
  refine W.eq (g2 := F0 m 464 ls [.int (zI (M 4 - 1))]) rfl ?_
  refine lv_iload hx hb dL_law_464 (lv_at hl 4 rfl) ?_
  refine z_iconst hx hb dL_law_466 ?_
  refine z_isub hx hb dL_law_467 ?_
  refine z_icmp_ne (tgt := 492) hx hb dL_law_468 (by decide) (by omega) (by omega) (fun hc_468 => ?_) (fun hc_468 => ?_)
  · have hc_468 := hc_468
    omega
  have hc_468 := hc_468
  refine lv_iload hx hb dL_law_471 (lv_at hl 5 rfl) ?_
  refine z_iconst hx hb dL_law_473 ?_
  refine z_iadd hx hb dL_law_474 ?_
  refine lv_iload hx hb dL_law_475 (lv_at hl 4 rfl) ?_
  refine z_icmp_ge (tgt := 494) hx hb dL_law_477 (by decide) (by omega) (by omega) (fun hc_477 => ?_) (fun hc_477 => ?_)
  · have hc_477 := hc_477
    refine lv_goto (tgt := 1102) hx hb dL_law_494 (by decide) ?_
    refine W.widen (k := cells + 1) (n := slots + 6) (Nat.le_add_right _ _) (Nat.le_add_right _ _) ?_
    exact ih ((nx + 1) % 4) (min (sz + 1) 4) (updS S nx M) (st_drop M r_) (by assumption) (by omega) (by omega) (by first | assumption | omega) p e s m below meth c b9 _ _ _ hC hP hD hS (lv_sub hl [1, 2, 3] rfl)
  · have hc_477 := hc_477
    have dl := drop_len (M := M) (r := r_) (by omega)
    have qn := hI.2.2.2.1 (r_ + 1) (by omega) (by omega)
    refine lv_aload_n hx hb dL_law_480 rfl (lv_at hl 2 rfl) ?_
    refine lv_iload hx hb dL_law_481 (lv_at hl 5 rfl) ?_
    refine z_iconst hx hb dL_law_483 ?_
    refine z_callSW (As := [.ref u, .int (zI r_), .int (zI 2)]) (rest := []) ([] : va_W) ([] : va_W) hx hb hml hown (fun w h => hts w (inL_98 w h)) hl hE hS hA (zr0 ([] : va_W) hP) (zr0D ([] : va_W) hD) (c_L_rod_ok l D ct ad u a r q b ((nx + 1) % 4) (min (sz + 1) 4) (updS S nx M) (st_drop M r_) TX tl pl ft n1 n2 wd r_ 2 (by assumption) (by omega) (by omega) (by omega)) gdL_98 rfl k_L_rod ⟨Nat.le_of_ble_eq_true rfl, Nat.le_of_ble_eq_true rfl⟩ rfl (Nat.le_of_ble_eq_true rfl) hc0 dL_law_484 rfl (fun v w1 H locs hpost hP hD hS => ?_)
    obtain ⟨rfl, rfl⟩ := hpost
    have hP := zr0' hP
    have hD := zr0D' hD
    have hP : va_P D vwCl (x8W u a r q ++ (svW ct r b ((nx + 1) % 4) (min (sz + 1) 4) (updS S nx M) ++ (sobjW a ++ (gridW ct a (st_drop M r_) ++ (benchW ct a (st_drop M r_) ++ (logW ct a (st_drop M r_) ++ (txtW ct q TX tl pl ft wd n1 n2))))))) H := hP
    have hD : va_D (fun q : Nat => s.heap.size ≤ q) (x8W u a r q ++ (svW ct r b ((nx + 1) % 4) (min (sz + 1) 4) (updS S nx M) ++ (sobjW a ++ (gridW ct a (st_drop M r_) ++ (benchW ct a (st_drop M r_) ++ (logW ct a (st_drop M r_) ++ (txtW ct q TX tl pl ft wd n1 n2))))))) := hD
    refine W.eq (g2 := F0 m 487 ls [.int (zI (sp_rodv (st_drop M r_) r_ 2 ((st_drop M r_) 6)))]) rfl ?_
    refine z_canI (show sp_rodv (st_drop M r_) r_ 2 ((st_drop M r_) 6) = (st_drop M r_) (24 + 3 * r_) from rfl) ?_
    refine z_canI (show (st_drop M r_) (24 + 3 * r_) = M (24 + 3 * (r_ + 1)) from dl.1) ?_
    refine lv_iload hx hb dL_law_487 (lv_at hl 0 rfl) ?_
    refine z_icmp_eq (tgt := 494) hx hb dL_law_489 (by decide) (by omega) (by omega) (fun hc_489 => ?_) (fun hc_489 => ?_)
    · have hc_489 := hc_489
      refine lv_goto (tgt := 1102) hx hb dL_law_494 (by decide) ?_
      refine W.widen (k := cells + 1) (n := slots + 6) (Nat.le_add_right _ _) (Nat.le_add_right _ _) ?_
      exact ih ((nx + 1) % 4) (min (sz + 1) 4) (updS S nx M) (st_drop M r_) (by assumption) (by omega) (by omega) (by first | assumption | omega) p e s m below meth c b9 _ _ _ hC hP hD hS (lv_sub hl [1, 2, 3] rfl)
    · have hc_489 := hc_489
      omega
set_option maxHeartbeats 4000000 in
set_option maxRecDepth 100000 in
theorem lp_414 (l : Launch) (D : va_G) (ct ad : Nat → Nat) (u : Nat) (a r q : Nat → Nat) (b : Nat → Nat → Nat) (nx sz : Int) (S : Nat → Int → Int) (M TX : Int → Int) (tl pl ft n1 n2 : Int) (wd : Value) (nn : Int) (cells slots : Nat) (y9 : Int) (how : Int) (r_ : Int) (hL : LInv M) (ht : tInv TX tl) (hn : 0 ≤ nx ∧ nx ≤ 3) (hsz : 0 ≤ sz ∧ sz ≤ 4) (hn9 : 0 ≤ nn ∧ nn < 46) (h9 : M 9 ≤ 200 * nn) (hcap : cells + 41 ≤ 604022 ∧ slots + 250 ≤ 7289401) (ih : ∀ (nx sz : Int) (S : Nat → Int → Int) (M : Int → Int), LInv M → (0 ≤ nx ∧ nx ≤ 3) → (0 ≤ sz ∧ sz ≤ 4) → M 9 ≤ 200 * nn + 200 → LZ l D ct ad (cells + 1) (slots + 6) 1102 (x8W u a r q ++ (svW ct r b nx sz S ++ (sobjW a ++ (gridW ct a M ++ (benchW ct a M ++ (logW ct a M ++ (txtW ct q TX tl pl ft wd n1 n2))))))) [(0, .ref (ad 67)), (1, .ref u), (2, .int (zI nn))] []) (hyr : -2147483648 ≤ y9 ∧ y9 ≤ 2147483647) (hhow : 0 ≤ how ∧ how ≤ 15) (hr9 : 0 ≤ r_ ∧ (0 < M 4 → r_ < M 4)) : LZ l D ct ad cells slots 414 (x8W u a r q ++ (svW ct r b nx sz S ++ (sobjW a ++ (gridW ct a M ++ (benchW ct a M ++ (logW ct a M ++ (txtW ct q TX tl pl ft wd n1 n2))))))) [(0, .ref (ad 67)), (1, .ref u), (2, .int (zI nn)), (4, .int (zI y9)), (5, .int (zI (M 3))), (6, .int (zI (M 4))), (7, .int (zI how)), (8, .int (zI r_))] [] := by
  intro p e s m below meth c b9 H locs ls hC hP hD hS hl
  obtain ⟨hx, hb, hr, hml, hown, hts, hlocks, hE, hst⟩ := id hC
  have hK := hE.1
  have hA : ∀ q : Nat, s.heap.size ≤ q → (fun q : Nat => s.heap.size ≤ q) q := fun _ h => h
  have hc0 : cells ≤ room_1.cells ∧ slots ≤ room_1.slots := by show cells ≤ 604022 ∧ slots ≤ 7289401; omega
  have hs := hL.1
  have hI := hs.1
  have hB := hs.2.1
  have ha := hs.2.2
  have t1 := ht.1
  have hP : va_P D vwCl (x8W u a r q ++ (svW ct r b nx sz S ++ (sobjW a ++ (gridW ct a M ++ (benchW ct a M ++ (logW ct a M ++ (txtW ct q TX tl pl ft wd n1 n2))))))) H := hP
  have hD : va_D (fun q : Nat => s.heap.size ≤ q) (x8W u a r q ++ (svW ct r b nx sz S ++ (sobjW a ++ (gridW ct a M ++ (benchW ct a M ++ (logW ct a M ++ (txtW ct q TX tl pl ft wd n1 n2))))))) := hD
  have hl : lv_has ls 13 [(0, .ref (ad 67)), (1, .ref u), (2, .int (zI nn)), (4, .int (zI y9)), (5, .int (zI (M 3))), (6, .int (zI (M 4))), (7, .int (zI how)), (8, .int (zI r_))] := hl
  have i4 := hI.2.1
  have lwA := sp_lowB (v := y9) (n := 3) (by decide)
  refine lv_iload hx hb dL_law_414 (lv_at hl 6 rfl) ?_
  refine z_iconst hx hb dL_law_416 ?_
  refine z_icmp_ne (tgt := 497) hx hb dL_law_417 (by decide) (by omega) (by omega) (fun hc_417 => ?_) (fun hc_417 => ?_)
  · have hc_417 := hc_417
    exact lp_497 l D ct ad u a r q b nx sz S M TX tl pl ft n1 n2 wd nn cells slots y9 how r_ hL ht hn hsz hn9 h9 hcap ih (show -2147483648 ≤ y9 ∧ y9 ≤ 2147483647 from (by first | assumption | omega)) (show 0 ≤ how ∧ how ≤ 15 from (by first | assumption | omega)) (show 0 ≤ r_ ∧ (0 < M 4 → r_ < M 4) from (by first | assumption | omega)) p e s m below meth c b9 _ _ _ hC hP hD hS (lv_sub hl [0, 1, 2, 3, 4, 5, 6, 7] rfl)
  · have hc_417 := hc_417
    refine lv_iload hx hb dL_law_420 (lv_at hl 5 rfl) ?_
    refine z_if_le (tgt := 497) hx hb dL_law_422 (by decide) (by omega) (fun hc_422 => ?_) (fun hc_422 => ?_)
    · have hc_422 := hc_422
      exact lp_497 l D ct ad u a r q b nx sz S M TX tl pl ft n1 n2 wd nn cells slots y9 how r_ hL ht hn hsz hn9 h9 hcap ih (show -2147483648 ≤ y9 ∧ y9 ≤ 2147483647 from (by first | assumption | omega)) (show 0 ≤ how ∧ how ≤ 15 from (by first | assumption | omega)) (show 0 ≤ r_ ∧ (0 < M 4 → r_ < M 4) from (by first | assumption | omega)) p e s m below meth c b9 _ _ _ hC hP hD hS (lv_sub hl [0, 1, 2, 3, 4, 5, 6, 7] rfl)
    · have hc_422 := hc_422
      refine lv_iload hx hb dL_law_425 (lv_at hl 3 rfl) ?_
      refine z_iconst hx hb dL_law_427 ?_
      refine z_callS (As := [.int (zI y9), .int (zI 3)]) (rest := []) ([] : va_W) (x8W u a r q ++ (svW ct r b nx sz S ++ (sobjW a ++ (gridW ct a M ++ (benchW ct a M ++ (logW ct a M ++ (txtW ct q TX tl pl ft wd n1 n2))))))) hx hb hml hown (fun w h => hts w (inL_153 w h)) hl hE hS hA hP hD (c_L_low l D ct ad y9 3 (by omega)) gdL_153 rfl k_L_low ⟨Nat.le_of_ble_eq_true rfl, Nat.le_of_ble_eq_true rfl⟩ rfl (Nat.le_of_ble_eq_true rfl) hc0 dL_law_428 rfl (fun v w1 H locs hpost hP hD hS => ?_)
      obtain ⟨rfl, rfl⟩ := hpost
      have hP : va_P D vwCl (x8W u a r q ++ (svW ct r b nx sz S ++ (sobjW a ++ (gridW ct a M ++ (benchW ct a M ++ (logW ct a M ++ (txtW ct q TX tl pl ft wd n1 n2))))))) H := hP
      have hD : va_D (fun q : Nat => s.heap.size ≤ q) (x8W u a r q ++ (svW ct r b nx sz S ++ (sobjW a ++ (gridW ct a M ++ (benchW ct a M ++ (logW ct a M ++ (txtW ct q TX tl pl ft wd n1 n2))))))) := hD
      refine W.eq (g2 := F0 m 431 ls [.int (zI (sp_low y9 3))]) rfl ?_
      refine z_if_ne (tgt := 497) hx hb dL_law_431 (by decide) (by omega) (fun hc_431 => ?_) (fun hc_431 => ?_)
      · have hc_431 := hc_431
        exact lp_497 l D ct ad u a r q b nx sz S M TX tl pl ft n1 n2 wd nn cells slots y9 how r_ hL ht hn hsz hn9 h9 hcap ih (show -2147483648 ≤ y9 ∧ y9 ≤ 2147483647 from (by first | assumption | omega)) (show 0 ≤ how ∧ how ≤ 15 from (by first | assumption | omega)) (show 0 ≤ r_ ∧ (0 < M 4 → r_ < M 4) from (by first | assumption | omega)) p e s m below meth c b9 _ _ _ hC hP hD hS (lv_sub hl [0, 1, 2, 3, 4, 5, 6, 7] rfl)
      · have hc_431 := hc_431
        refine lv_iload hx hb dL_law_434 (lv_at hl 7 rfl) ?_
        refine z_iconst hx hb dL_law_436 ?_
        refine z_iadd hx hb dL_law_437 ?_
        refine lv_iload hx hb dL_law_438 (lv_at hl 5 rfl) ?_
        refine z_icmp_ge (tgt := 455) hx hb dL_law_440 (by decide) (by omega) (by omega) (fun hc_440 => ?_) (fun hc_440 => ?_)
        · have hc_440 := hc_440
          refine z_iconst hx hb dL_law_455 ?_
          exact lp_456 l D ct ad u a r q b nx sz S M TX tl pl ft n1 n2 wd nn cells slots r_ 0 hL ht hn hsz hn9 h9 hcap ih (show 0 ≤ r_ ∧ r_ < M 4 from (by first | assumption | omega)) (show r_ + 1 < M 4 → 0 = M (24 + 3 * (r_ + 1)) from (by first | assumption | omega)) (show -2147483648 ≤ 0 ∧ 0 ≤ 2147483647 from (by first | omega | (have q9 := hI.2.2.2.1 (r_ + 1) (by omega) (by omega); omega))) p e s m below meth c b9 _ _ _ hC hP hD hS (lv_sub hl [0, 1, 2, 5, 7] rfl)
        · have hc_440 := hc_440
          refine lv_aload_n hx hb dL_law_443 rfl (lv_at hl 1 rfl) ?_
          refine lv_iload hx hb dL_law_444 (lv_at hl 7 rfl) ?_
          refine z_iconst hx hb dL_law_446 ?_
          refine z_iadd hx hb dL_law_447 ?_
          refine z_iconst hx hb dL_law_448 ?_
          refine z_callSW (As := [.ref u, .int (zI (r_ + 1)), .int (zI 2)]) (rest := []) ([] : va_W) ([] : va_W) hx hb hml hown (fun w h => hts w (inL_98 w h)) hl hE hS hA (zr0 ([] : va_W) hP) (zr0D ([] : va_W) hD) (c_L_rod_ok l D ct ad u a r q b nx sz S M TX tl pl ft n1 n2 wd (r_ + 1) 2 (by assumption) (by omega) (by omega) (by omega)) gdL_98 rfl k_L_rod ⟨Nat.le_of_ble_eq_true rfl, Nat.le_of_ble_eq_true rfl⟩ rfl (Nat.le_of_ble_eq_true rfl) hc0 dL_law_449 rfl (fun v w1 H locs hpost hP hD hS => ?_)
          obtain ⟨rfl, rfl⟩ := hpost
          have hP := zr0' hP
          have hD := zr0D' hD
          have hP : va_P D vwCl (x8W u a r q ++ (svW ct r b nx sz S ++ (sobjW a ++ (gridW ct a M ++ (benchW ct a M ++ (logW ct a M ++ (txtW ct q TX tl pl ft wd n1 n2))))))) H := hP
          have hD : va_D (fun q : Nat => s.heap.size ≤ q) (x8W u a r q ++ (svW ct r b nx sz S ++ (sobjW a ++ (gridW ct a M ++ (benchW ct a M ++ (logW ct a M ++ (txtW ct q TX tl pl ft wd n1 n2))))))) := hD
          refine W.eq (g2 := F0 m 452 ls [.int (zI (sp_rodv M (r_ + 1) 2 (M 6)))]) rfl ?_
          refine z_canI (show sp_rodv M (r_ + 1) 2 (M 6) = M (24 + 3 * (r_ + 1)) from rfl) ?_
          refine lv_goto (tgt := 456) hx hb dL_law_452 (by decide) ?_
          exact lp_456 l D ct ad u a r q b nx sz S M TX tl pl ft n1 n2 wd nn cells slots r_ (M (24 + 3 * (r_ + 1))) hL ht hn hsz hn9 h9 hcap ih (show 0 ≤ r_ ∧ r_ < M 4 from (by first | assumption | omega)) (show r_ + 1 < M 4 → (M (24 + 3 * (r_ + 1))) = M (24 + 3 * (r_ + 1)) from (by first | assumption | omega)) (show -2147483648 ≤ (M (24 + 3 * (r_ + 1))) ∧ (M (24 + 3 * (r_ + 1))) ≤ 2147483647 from (by first | omega | (have q9 := hI.2.2.2.1 (r_ + 1) (by omega) (by omega); omega))) p e s m below meth c b9 _ _ _ hC hP hD hS (lv_sub hl [0, 1, 2, 5, 7] rfl)
set_option maxHeartbeats 4000000 in
set_option maxRecDepth 100000 in
theorem lp_322 (l : Launch) (D : va_G) (ct ad : Nat → Nat) (u : Nat) (a r q : Nat → Nat) (b : Nat → Nat → Nat) (nx sz : Int) (S : Nat → Int → Int) (M TX : Int → Int) (tl pl ft n1 n2 : Int) (wd : Value) (nn : Int) (cells slots : Nat) (y9 : Int) (hL : LInv M) (ht : tInv TX tl) (hn : 0 ≤ nx ∧ nx ≤ 3) (hsz : 0 ≤ sz ∧ sz ≤ 4) (hn9 : 0 ≤ nn ∧ nn < 46) (h9 : M 9 ≤ 200 * nn) (hcap : cells + 41 ≤ 604022 ∧ slots + 250 ≤ 7289401) (ih : ∀ (nx sz : Int) (S : Nat → Int → Int) (M : Int → Int), LInv M → (0 ≤ nx ∧ nx ≤ 3) → (0 ≤ sz ∧ sz ≤ 4) → M 9 ≤ 200 * nn + 200 → LZ l D ct ad (cells + 1) (slots + 6) 1102 (x8W u a r q ++ (svW ct r b nx sz S ++ (sobjW a ++ (gridW ct a M ++ (benchW ct a M ++ (logW ct a M ++ (txtW ct q TX tl pl ft wd n1 n2))))))) [(0, .ref (ad 67)), (1, .ref u), (2, .int (zI nn))] []) (hyr : -2147483648 ≤ y9 ∧ y9 ≤ 2147483647) : LZ l D ct ad cells slots 322 (x8W u a r q ++ (svW ct r b nx sz S ++ (sobjW a ++ (gridW ct a M ++ (benchW ct a M ++ (logW ct a M ++ (txtW ct q TX tl pl ft wd n1 n2))))))) [(0, .ref (ad 67)), (1, .ref u), (2, .int (zI nn)), (4, .int (zI y9)), (5, .int (zI (M 3))), (6, .int (zI (M 4)))] [] := by
  intro p e s m below meth c b9 H locs ls hC hP hD hS hl
  obtain ⟨hx, hb, hr, hml, hown, hts, hlocks, hE, hst⟩ := id hC
  have hK := hE.1
  have hA : ∀ q : Nat, s.heap.size ≤ q → (fun q : Nat => s.heap.size ≤ q) q := fun _ h => h
  have hc0 : cells ≤ room_1.cells ∧ slots ≤ room_1.slots := by show cells ≤ 604022 ∧ slots ≤ 7289401; omega
  have hs := hL.1
  have hI := hs.1
  have hB := hs.2.1
  have ha := hs.2.2
  have t1 := ht.1
  have hP : va_P D vwCl (x8W u a r q ++ (svW ct r b nx sz S ++ (sobjW a ++ (gridW ct a M ++ (benchW ct a M ++ (logW ct a M ++ (txtW ct q TX tl pl ft wd n1 n2))))))) H := hP
  have hD : va_D (fun q : Nat => s.heap.size ≤ q) (x8W u a r q ++ (svW ct r b nx sz S ++ (sobjW a ++ (gridW ct a M ++ (benchW ct a M ++ (logW ct a M ++ (txtW ct q TX tl pl ft wd n1 n2))))))) := hD
  have hl : lv_has ls 13 [(0, .ref (ad 67)), (1, .ref u), (2, .int (zI nn)), (4, .int (zI y9)), (5, .int (zI (M 3))), (6, .int (zI (M 4)))] := hl
  have i3 := hI.1
  have lwA := sp_lowB (v := y9) (n := M 3) (by omega)
  have lwB := sp_lowB (v := y9 / 8) (n := 501) (by decide)
  have lwC := sp_lowB (v := y9 / 4096) (n := 2) (by decide)
  refine lv_iload hx hb dL_law_322 (lv_at hl 3 rfl) ?_
  refine lv_iload hx hb dL_law_324 (lv_at hl 4 rfl) ?_
  refine z_callS (As := [.int (zI y9), .int (zI (M 3))]) (rest := []) ([] : va_W) (x8W u a r q ++ (svW ct r b nx sz S ++ (sobjW a ++ (gridW ct a M ++ (benchW ct a M ++ (logW ct a M ++ (txtW ct q TX tl pl ft wd n1 n2))))))) hx hb hml hown (fun w h => hts w (inL_153 w h)) hl hE hS hA hP hD (c_L_low l D ct ad y9 (M 3) (by omega)) gdL_153 rfl k_L_low ⟨Nat.le_of_ble_eq_true rfl, Nat.le_of_ble_eq_true rfl⟩ rfl (Nat.le_of_ble_eq_true rfl) hc0 dL_law_326 rfl (fun v w1 H locs hpost hP hD hS => ?_)
  obtain ⟨rfl, rfl⟩ := hpost
  have hP : va_P D vwCl (x8W u a r q ++ (svW ct r b nx sz S ++ (sobjW a ++ (gridW ct a M ++ (benchW ct a M ++ (logW ct a M ++ (txtW ct q TX tl pl ft wd n1 n2))))))) H := hP
  have hD : va_D (fun q : Nat => s.heap.size ≤ q) (x8W u a r q ++ (svW ct r b nx sz S ++ (sobjW a ++ (gridW ct a M ++ (benchW ct a M ++ (logW ct a M ++ (txtW ct q TX tl pl ft wd n1 n2))))))) := hD
  refine W.eq (g2 := F0 m 329 ls [.int (zI (sp_low y9 (M 3)))]) rfl ?_
  obtain ⟨k9, hk9⟩ : ∃ z : Int, z = sp_low y9 (M 3) := ⟨_, rfl⟩
  refine z_canI (show sp_low y9 (M 3) = k9 from hk9.symm) ?_
  have qk := hI.2.2.1 k9 (by omega) (by omega)
  refine lv_istore (lv' := [(9, .int (zI k9)), (0, .ref (ad 67)), (1, .ref u), (2, .int (zI nn)), (4, .int (zI y9)), (5, .int (zI (M 3))), (6, .int (zI (M 4)))]) hx hb dL_law_329 hl (by decide) rfl (fun ls hl => ?_)
  refine lv_aload_n hx hb dL_law_331 rfl (lv_at hl 2 rfl) ?_
  refine lv_iload hx hb dL_law_332 (lv_at hl 0 rfl) ?_
  refine z_callSW (As := [.ref u, .int (zI k9)]) (rest := []) ([] : va_W) ([] : va_W) hx hb hml hown (fun w h => hts w (inL_101 w h)) hl hE hS hA (zr0 ([] : va_W) hP) (zr0D ([] : va_W) hD) (c_L_stretch_ok l D ct ad u a r q b nx sz S M TX tl pl ft n1 n2 wd k9 (by assumption) (by omega) (by omega)) gdL_101 rfl k_L_stretch ⟨Nat.le_of_ble_eq_true rfl, Nat.le_of_ble_eq_true rfl⟩ rfl (Nat.le_of_ble_eq_true rfl) hc0 dL_law_334 rfl (fun v w1 H locs hpost hP hD hS => ?_)
  obtain ⟨rfl, rfl⟩ := hpost
  have hP := zr0' hP
  have hD := zr0D' hD
  have hP : va_P D vwCl (x8W u a r q ++ (svW ct r b nx sz S ++ (sobjW a ++ (gridW ct a M ++ (benchW ct a M ++ (logW ct a M ++ (txtW ct q TX tl pl ft wd n1 n2))))))) H := hP
  have hD : va_D (fun q : Nat => s.heap.size ≤ q) (x8W u a r q ++ (svW ct r b nx sz S ++ (sobjW a ++ (gridW ct a M ++ (benchW ct a M ++ (logW ct a M ++ (txtW ct q TX tl pl ft wd n1 n2))))))) := hD
  refine W.eq (g2 := F0 m 337 ls [.int (zI (M (16 + k9)))]) rfl ?_
  refine lv_istore (lv' := [(10, .int (zI (M (16 + k9)))), (9, .int (zI k9)), (0, .ref (ad 67)), (1, .ref u), (2, .int (zI nn)), (4, .int (zI y9)), (5, .int (zI (M 3))), (6, .int (zI (M 4)))]) hx hb dL_law_337 hl (by decide) rfl (fun ls hl => ?_)
  refine lv_aload_n hx hb dL_law_339 rfl (lv_at hl 3 rfl) ?_
  refine lv_iload hx hb dL_law_340 (lv_at hl 1 rfl) ?_
  refine lv_iload hx hb dL_law_342 (lv_at hl 5 rfl) ?_
  refine z_iconst hx hb dL_law_344 ?_
  refine z_ishr (n := 3) (d := 8) hx hb dL_law_345 (by omega) (by decide) (by decide) ?_
  refine z_sipush hx hb dL_law_346 (by decide) ?_
  refine z_callS (As := [.int (zI (y9 / 8)), .int (zI 501)]) (rest := [.int (zI k9), .ref u]) ([] : va_W) (x8W u a r q ++ (svW ct r b nx sz S ++ (sobjW a ++ (gridW ct a M ++ (benchW ct a M ++ (logW ct a M ++ (txtW ct q TX tl pl ft wd n1 n2))))))) hx hb hml hown (fun w h => hts w (inL_153 w h)) hl hE hS hA hP hD (c_L_low l D ct ad (y9 / 8) 501 (by omega)) gdL_153 rfl k_L_low ⟨Nat.le_of_ble_eq_true rfl, Nat.le_of_ble_eq_true rfl⟩ rfl (Nat.le_of_ble_eq_true rfl) hc0 dL_law_349 rfl (fun v w1 H locs hpost hP hD hS => ?_)
  obtain ⟨rfl, rfl⟩ := hpost
  have hP : va_P D vwCl (x8W u a r q ++ (svW ct r b nx sz S ++ (sobjW a ++ (gridW ct a M ++ (benchW ct a M ++ (logW ct a M ++ (txtW ct q TX tl pl ft wd n1 n2))))))) H := hP
  have hD : va_D (fun q : Nat => s.heap.size ≤ q) (x8W u a r q ++ (svW ct r b nx sz S ++ (sobjW a ++ (gridW ct a M ++ (benchW ct a M ++ (logW ct a M ++ (txtW ct q TX tl pl ft wd n1 n2))))))) := hD
  refine W.eq (g2 := F0 m 352 ls [.int (zI (sp_low (y9 / 8) 501)), .int (zI k9), .ref u]) rfl ?_
  obtain ⟨v9, hv9⟩ : ∃ z : Int, z = sp_low (y9 / 8) 501 := ⟨_, rfl⟩
  refine z_canI (show sp_low (y9 / 8) 501 = v9 from hv9.symm) ?_
  have hck : ck_stretch M k9 v9 = 0 := (if_pos (by omega)).trans (if_pos (by omega))
  have hLN : LInv (up M (16 + k9) v9) := LInv_stretch hL hck
  have hs2 := hLN.1
  have h9N : (up M (16 + k9) v9) 9 ≤ 200 * nn + 200 := by rw [up_n (by omega)]; omega
  have e3 : (up M (16 + k9) v9) 3 = M 3 := up_n (by omega)
  refine z_callSW (As := [.ref u, .int (zI k9), .int (zI v9)]) (rest := []) ([] : va_W) ([] : va_W) hx hb hml hown (fun w h => hts w (inL_174 w h)) hl hE hS hA (zr0 ([] : va_W) hP) (zr0D ([] : va_W) hD) (c_L_setStretch_ok l D ct ad u a r q b nx sz S M TX tl pl ft n1 n2 wd k9 v9 (by assumption) (by omega) (by omega) (by omega) (by omega) hck) gdL_174 rfl k_L_setStretch ⟨Nat.le_of_ble_eq_true rfl, Nat.le_of_ble_eq_true rfl⟩ rfl (Nat.le_of_ble_eq_true rfl) hc0 dL_law_352 rfl (fun v w1 H locs hpost hP hD hS => ?_)
  obtain ⟨rfl, rfl⟩ := hpost
  have hP := zr0' hP
  have hD := zr0D' hD
  have hP : va_P D vwCl (x8W u a r q ++ (svW ct r b ((nx + 1) % 4) (min (sz + 1) 4) (updS S nx M) ++ (sobjW a ++ (gridW ct a (up M (16 + k9) v9) ++ (benchW ct a (up M (16 + k9) v9) ++ (logW ct a (up M (16 + k9) v9) ++ (txtW ct q TX tl pl ft wd n1 n2))))))) H := hP
  have hD : va_D (fun q : Nat => s.heap.size ≤ q) (x8W u a r q ++ (svW ct r b ((nx + 1) % 4) (min (sz + 1) 4) (updS S nx M) ++ (sobjW a ++ (gridW ct a (up M (16 + k9) v9) ++ (benchW ct a (up M (16 + k9) v9) ++ (logW ct a (up M (16 + k9) v9) ++ (txtW ct q TX tl pl ft wd n1 n2))))))) := hD
  refine W.eq (g2 := F0 m 355 ls [.int (zI (M (16 + k9)))]) rfl ?_
  refine lv_iload hx hb dL_law_355 (lv_at hl 0 rfl) ?_
  refine z_icmp_ne (tgt := 409) hx hb dL_law_357 (by decide) (by omega) (by omega) (fun hc_357 => ?_) (fun hc_357 => ?_)
  · have hc_357 := hc_357
    omega
  have hc_357 := hc_357
  refine lv_aload_n hx hb dL_law_360 rfl (lv_at hl 3 rfl) ?_
  refine lv_iload hx hb dL_law_361 (lv_at hl 1 rfl) ?_
  refine z_callSW (As := [.ref u, .int (zI k9)]) (rest := []) ([] : va_W) ([] : va_W) hx hb hml hown (fun w h => hts w (inL_101 w h)) hl hE hS hA (zr0 ([] : va_W) hP) (zr0D ([] : va_W) hD) (c_L_stretch_ok l D ct ad u a r q b ((nx + 1) % 4) (min (sz + 1) 4) (updS S nx M) (up M (16 + k9) v9) TX tl pl ft n1 n2 wd k9 (by assumption) (by omega) (by omega)) gdL_101 rfl k_L_stretch ⟨Nat.le_of_ble_eq_true rfl, Nat.le_of_ble_eq_true rfl⟩ rfl (Nat.le_of_ble_eq_true rfl) hc0 dL_law_363 rfl (fun v w1 H locs hpost hP hD hS => ?_)
  obtain ⟨rfl, rfl⟩ := hpost
  have hP := zr0' hP
  have hD := zr0D' hD
  have hP : va_P D vwCl (x8W u a r q ++ (svW ct r b ((nx + 1) % 4) (min (sz + 1) 4) (updS S nx M) ++ (sobjW a ++ (gridW ct a (up M (16 + k9) v9) ++ (benchW ct a (up M (16 + k9) v9) ++ (logW ct a (up M (16 + k9) v9) ++ (txtW ct q TX tl pl ft wd n1 n2))))))) H := hP
  have hD : va_D (fun q : Nat => s.heap.size ≤ q) (x8W u a r q ++ (svW ct r b ((nx + 1) % 4) (min (sz + 1) 4) (updS S nx M) ++ (sobjW a ++ (gridW ct a (up M (16 + k9) v9) ++ (benchW ct a (up M (16 + k9) v9) ++ (logW ct a (up M (16 + k9) v9) ++ (txtW ct q TX tl pl ft wd n1 n2))))))) := hD
  refine W.eq (g2 := F0 m 366 ls [.int (zI ((up M (16 + k9) v9) (16 + k9)))]) rfl ?_
  refine z_canI (show (up M (16 + k9) v9) (16 + k9) = v9 from (show (up M (16 + k9) v9) (16 + k9) = v9 from by rw [up_s])) ?_
  refine lv_iload hx hb dL_law_366 (lv_at hl 5 rfl) ?_
  refine z_iconst hx hb dL_law_368 ?_
  refine z_ishr (n := 3) (d := 8) hx hb dL_law_369 (by omega) (by decide) (by decide) ?_
  refine z_sipush hx hb dL_law_370 (by decide) ?_
  refine z_callS (As := [.int (zI (y9 / 8)), .int (zI 501)]) (rest := [.int (zI v9)]) ([] : va_W) (x8W u a r q ++ (svW ct r b ((nx + 1) % 4) (min (sz + 1) 4) (updS S nx M) ++ (sobjW a ++ (gridW ct a (up M (16 + k9) v9) ++ (benchW ct a (up M (16 + k9) v9) ++ (logW ct a (up M (16 + k9) v9) ++ (txtW ct q TX tl pl ft wd n1 n2))))))) hx hb hml hown (fun w h => hts w (inL_153 w h)) hl hE hS hA hP hD (c_L_low l D ct ad (y9 / 8) 501 (by omega)) gdL_153 rfl k_L_low ⟨Nat.le_of_ble_eq_true rfl, Nat.le_of_ble_eq_true rfl⟩ rfl (Nat.le_of_ble_eq_true rfl) hc0 dL_law_373 rfl (fun v w1 H locs hpost hP hD hS => ?_)
  obtain ⟨rfl, rfl⟩ := hpost
  have hP : va_P D vwCl (x8W u a r q ++ (svW ct r b ((nx + 1) % 4) (min (sz + 1) 4) (updS S nx M) ++ (sobjW a ++ (gridW ct a (up M (16 + k9) v9) ++ (benchW ct a (up M (16 + k9) v9) ++ (logW ct a (up M (16 + k9) v9) ++ (txtW ct q TX tl pl ft wd n1 n2))))))) H := hP
  have hD : va_D (fun q : Nat => s.heap.size ≤ q) (x8W u a r q ++ (svW ct r b ((nx + 1) % 4) (min (sz + 1) 4) (updS S nx M) ++ (sobjW a ++ (gridW ct a (up M (16 + k9) v9) ++ (benchW ct a (up M (16 + k9) v9) ++ (logW ct a (up M (16 + k9) v9) ++ (txtW ct q TX tl pl ft wd n1 n2))))))) := hD
  refine W.eq (g2 := F0 m 376 ls [.int (zI (sp_low (y9 / 8) 501)), .int (zI v9)]) rfl ?_
  refine z_canI (show sp_low (y9 / 8) 501 = v9 from hv9.symm) ?_
  refine z_icmp_ne (tgt := 409) hx hb dL_law_376 (by decide) (by omega) (by omega) (fun hc_376 => ?_) (fun hc_376 => ?_)
  · have hc_376 := hc_376
    omega
  have hc_376 := hc_376
  refine lv_iload hx hb dL_law_379 (lv_at hl 5 rfl) ?_
  refine z_bipush hx hb dL_law_381 (by decide) ?_
  refine z_ishr (n := 12) (d := 4096) hx hb dL_law_383 (by omega) (by decide) (by decide) ?_
  refine z_iconst hx hb dL_law_384 ?_
  refine z_callS (As := [.int (zI (y9 / 4096)), .int (zI 2)]) (rest := []) ([] : va_W) (x8W u a r q ++ (svW ct r b ((nx + 1) % 4) (min (sz + 1) 4) (updS S nx M) ++ (sobjW a ++ (gridW ct a (up M (16 + k9) v9) ++ (benchW ct a (up M (16 + k9) v9) ++ (logW ct a (up M (16 + k9) v9) ++ (txtW ct q TX tl pl ft wd n1 n2))))))) hx hb hml hown (fun w h => hts w (inL_153 w h)) hl hE hS hA hP hD (c_L_low l D ct ad (y9 / 4096) 2 (by omega)) gdL_153 rfl k_L_low ⟨Nat.le_of_ble_eq_true rfl, Nat.le_of_ble_eq_true rfl⟩ rfl (Nat.le_of_ble_eq_true rfl) hc0 dL_law_385 rfl (fun v w1 H locs hpost hP hD hS => ?_)
  obtain ⟨rfl, rfl⟩ := hpost
  have hP : va_P D vwCl (x8W u a r q ++ (svW ct r b ((nx + 1) % 4) (min (sz + 1) 4) (updS S nx M) ++ (sobjW a ++ (gridW ct a (up M (16 + k9) v9) ++ (benchW ct a (up M (16 + k9) v9) ++ (logW ct a (up M (16 + k9) v9) ++ (txtW ct q TX tl pl ft wd n1 n2))))))) H := hP
  have hD : va_D (fun q : Nat => s.heap.size ≤ q) (x8W u a r q ++ (svW ct r b ((nx + 1) % 4) (min (sz + 1) 4) (updS S nx M) ++ (sobjW a ++ (gridW ct a (up M (16 + k9) v9) ++ (benchW ct a (up M (16 + k9) v9) ++ (logW ct a (up M (16 + k9) v9) ++ (txtW ct q TX tl pl ft wd n1 n2))))))) := hD
  refine W.eq (g2 := F0 m 388 ls [.int (zI (sp_low (y9 / 4096) 2))]) rfl ?_
  refine z_if_ne (tgt := 411) hx hb dL_law_388 (by decide) (by omega) (fun hc_388 => ?_) (fun hc_388 => ?_)
  · have hc_388 := hc_388
    refine lv_goto (tgt := 1102) hx hb dL_law_411 (by decide) ?_
    refine W.widen (k := cells + 1) (n := slots + 6) (Nat.le_add_right _ _) (Nat.le_add_right _ _) ?_
    exact ih ((nx + 1) % 4) (min (sz + 1) 4) (updS S nx M) (up M (16 + k9) v9) (by assumption) (by omega) (by omega) (by first | assumption | omega) p e s m below meth c b9 _ _ _ hC hP hD hS (lv_sub hl [2, 3, 4] rfl)
  · have hc_388 := hc_388
    refine lv_aload_n hx hb dL_law_391 rfl (lv_at hl 3 rfl) ?_
    refine z_callSW (As := [.ref u]) (rest := []) ([] : va_W) ([] : va_W) hx hb hml hown (fun w h => hts w (inL_164 w h)) hl hE hS hA (zr0 ([] : va_W) hP) (zr0D ([] : va_W) hD) (c_L_undo_ok l D ct ad u a r q b ((nx + 1) % 4) (min (sz + 1) 4) (updS S nx M) (up M (16 + k9) v9) TX tl pl ft n1 n2 wd (by assumption) (by omega) (by omega)) gdL_164 rfl k_L_undo ⟨Nat.le_of_ble_eq_true rfl, Nat.le_of_ble_eq_true rfl⟩ rfl (Nat.le_of_ble_eq_true rfl) hc0 dL_law_392 rfl (fun v w1 H locs hpost hP hD hS => ?_)
    obtain ⟨rfl, rfl⟩ := hpost
    have hP := zr0' hP
    have hD := zr0D' hD
    have hP : va_P D vwCl (x8W u a r q ++ (svW ct r b ((((nx + 1) % 4) + 3) % 4) ((min (sz + 1) 4) - 1) (updS S nx M) ++ (sobjW a ++ (gridW ct a ((updS S nx M) ((((nx + 1) % 4) + 3) % 4).toNat) ++ (benchW ct a ((updS S nx M) ((((nx + 1) % 4) + 3) % 4).toNat) ++ (logW ct a ((updS S nx M) ((((nx + 1) % 4) + 3) % 4).toNat) ++ (txtW ct q TX tl pl ft wd n1 n2))))))) H := hP
    have hD : va_D (fun q : Nat => s.heap.size ≤ q) (x8W u a r q ++ (svW ct r b ((((nx + 1) % 4) + 3) % 4) ((min (sz + 1) 4) - 1) (updS S nx M) ++ (sobjW a ++ (gridW ct a ((updS S nx M) ((((nx + 1) % 4) + 3) % 4).toNat) ++ (benchW ct a ((updS S nx M) ((((nx + 1) % 4) + 3) % 4).toNat) ++ (logW ct a ((updS S nx M) ((((nx + 1) % 4) + 3) % 4).toNat) ++ (txtW ct q TX tl pl ft wd n1 n2))))))) := hD
    refine W.eq (g2 := F0 m 395 ls [.int (zI ((min (sz + 1) 4) - 1))]) rfl ?_
    have eW9 : ((updS S nx M) ((((nx + 1) % 4) + 3) % 4).toNat) = M := (updS_back (by omega))
    rw [eW9] at hP hD
    have hP : va_P D vwCl (x8W u a r q ++ (svW ct r b ((((nx + 1) % 4) + 3) % 4) ((min (sz + 1) 4) - 1) (updS S nx M) ++ (sobjW a ++ (gridW ct a M ++ (benchW ct a M ++ (logW ct a M ++ (txtW ct q TX tl pl ft wd n1 n2))))))) H := hP
    have hD : va_D (fun q : Nat => s.heap.size ≤ q) (x8W u a r q ++ (svW ct r b ((((nx + 1) % 4) + 3) % 4) ((min (sz + 1) 4) - 1) (updS S nx M) ++ (sobjW a ++ (gridW ct a M ++ (benchW ct a M ++ (logW ct a M ++ (txtW ct q TX tl pl ft wd n1 n2))))))) := hD
    refine z_if_lt (tgt := 409) hx hb dL_law_395 (by decide) (by omega) (fun hc_395 => ?_) (fun hc_395 => ?_)
    · have hc_395 := hc_395
      omega
    have hc_395 := hc_395
    refine lv_aload_n hx hb dL_law_398 rfl (lv_at hl 3 rfl) ?_
    refine lv_iload hx hb dL_law_399 (lv_at hl 1 rfl) ?_
    refine z_callSW (As := [.ref u, .int (zI k9)]) (rest := []) ([] : va_W) ([] : va_W) hx hb hml hown (fun w h => hts w (inL_101 w h)) hl hE hS hA (zr0 ([] : va_W) hP) (zr0D ([] : va_W) hD) (c_L_stretch_ok l D ct ad u a r q b ((((nx + 1) % 4) + 3) % 4) ((min (sz + 1) 4) - 1) (updS S nx M) M TX tl pl ft n1 n2 wd k9 (by assumption) (by omega) (by omega)) gdL_101 rfl k_L_stretch ⟨Nat.le_of_ble_eq_true rfl, Nat.le_of_ble_eq_true rfl⟩ rfl (Nat.le_of_ble_eq_true rfl) hc0 dL_law_401 rfl (fun v w1 H locs hpost hP hD hS => ?_)
    obtain ⟨rfl, rfl⟩ := hpost
    have hP := zr0' hP
    have hD := zr0D' hD
    have hP : va_P D vwCl (x8W u a r q ++ (svW ct r b ((((nx + 1) % 4) + 3) % 4) ((min (sz + 1) 4) - 1) (updS S nx M) ++ (sobjW a ++ (gridW ct a M ++ (benchW ct a M ++ (logW ct a M ++ (txtW ct q TX tl pl ft wd n1 n2))))))) H := hP
    have hD : va_D (fun q : Nat => s.heap.size ≤ q) (x8W u a r q ++ (svW ct r b ((((nx + 1) % 4) + 3) % 4) ((min (sz + 1) 4) - 1) (updS S nx M) ++ (sobjW a ++ (gridW ct a M ++ (benchW ct a M ++ (logW ct a M ++ (txtW ct q TX tl pl ft wd n1 n2))))))) := hD
    refine W.eq (g2 := F0 m 404 ls [.int (zI (M (16 + k9)))]) rfl ?_
    refine lv_iload hx hb dL_law_404 (lv_at hl 0 rfl) ?_
    refine z_icmp_eq (tgt := 411) hx hb dL_law_406 (by decide) (by omega) (by omega) (fun hc_406 => ?_) (fun hc_406 => ?_)
    · have hc_406 := hc_406
      refine lv_goto (tgt := 1102) hx hb dL_law_411 (by decide) ?_
      refine W.widen (k := cells + 1) (n := slots + 6) (Nat.le_add_right _ _) (Nat.le_add_right _ _) ?_
      exact ih ((((nx + 1) % 4) + 3) % 4) ((min (sz + 1) 4) - 1) (updS S nx M) M (by assumption) (by omega) (by omega) (by first | assumption | omega) p e s m below meth c b9 _ _ _ hC hP hD hS (lv_sub hl [2, 3, 4] rfl)
    · have hc_406 := hc_406
      omega
set_option maxHeartbeats 4000000 in
set_option maxRecDepth 100000 in
theorem lp_316 (l : Launch) (D : va_G) (ct ad : Nat → Nat) (u : Nat) (a r q : Nat → Nat) (b : Nat → Nat → Nat) (nx sz : Int) (S : Nat → Int → Int) (M TX : Int → Int) (tl pl ft n1 n2 : Int) (wd : Value) (nn : Int) (cells slots : Nat) (y9 : Int) (how : Int) (r_ : Int) (hL : LInv M) (ht : tInv TX tl) (hn : 0 ≤ nx ∧ nx ≤ 3) (hsz : 0 ≤ sz ∧ sz ≤ 4) (hn9 : 0 ≤ nn ∧ nn < 46) (h9 : M 9 ≤ 200 * nn) (hcap : cells + 41 ≤ 604022 ∧ slots + 250 ≤ 7289401) (ih : ∀ (nx sz : Int) (S : Nat → Int → Int) (M : Int → Int), LInv M → (0 ≤ nx ∧ nx ≤ 3) → (0 ≤ sz ∧ sz ≤ 4) → M 9 ≤ 200 * nn + 200 → LZ l D ct ad (cells + 1) (slots + 6) 1102 (x8W u a r q ++ (svW ct r b nx sz S ++ (sobjW a ++ (gridW ct a M ++ (benchW ct a M ++ (logW ct a M ++ (txtW ct q TX tl pl ft wd n1 n2))))))) [(0, .ref (ad 67)), (1, .ref u), (2, .int (zI nn))] []) (hyr : -2147483648 ≤ y9 ∧ y9 ≤ 2147483647) (hhow : 0 ≤ how ∧ how ≤ 15) (hr9 : 0 ≤ r_ ∧ (0 < M 4 → r_ < M 4)) : LZ l D ct ad cells slots 316 (x8W u a r q ++ (svW ct r b nx sz S ++ (sobjW a ++ (gridW ct a M ++ (benchW ct a M ++ (logW ct a M ++ (txtW ct q TX tl pl ft wd n1 n2))))))) [(0, .ref (ad 67)), (1, .ref u), (2, .int (zI nn)), (4, .int (zI y9)), (5, .int (zI (M 3))), (6, .int (zI (M 4))), (7, .int (zI how)), (8, .int (zI r_))] [] := by
  intro p e s m below meth c b9 H locs ls hC hP hD hS hl
  obtain ⟨hx, hb, hr, hml, hown, hts, hlocks, hE, hst⟩ := id hC
  have hK := hE.1
  have hA : ∀ q : Nat, s.heap.size ≤ q → (fun q : Nat => s.heap.size ≤ q) q := fun _ h => h
  have hc0 : cells ≤ room_1.cells ∧ slots ≤ room_1.slots := by show cells ≤ 604022 ∧ slots ≤ 7289401; omega
  have hs := hL.1
  have hI := hs.1
  have hB := hs.2.1
  have ha := hs.2.2
  have t1 := ht.1
  have hP : va_P D vwCl (x8W u a r q ++ (svW ct r b nx sz S ++ (sobjW a ++ (gridW ct a M ++ (benchW ct a M ++ (logW ct a M ++ (txtW ct q TX tl pl ft wd n1 n2))))))) H := hP
  have hD : va_D (fun q : Nat => s.heap.size ≤ q) (x8W u a r q ++ (svW ct r b nx sz S ++ (sobjW a ++ (gridW ct a M ++ (benchW ct a M ++ (logW ct a M ++ (txtW ct q TX tl pl ft wd n1 n2))))))) := hD
  have hl : lv_has ls 13 [(0, .ref (ad 67)), (1, .ref u), (2, .int (zI nn)), (4, .int (zI y9)), (5, .int (zI (M 3))), (6, .int (zI (M 4))), (7, .int (zI how)), (8, .int (zI r_))] := hl
  refine lv_iload hx hb dL_law_316 (lv_at hl 6 rfl) ?_
  refine z_iconst hx hb dL_law_318 ?_
  refine z_icmp_ne (tgt := 414) hx hb dL_law_319 (by decide) (by omega) (by omega) (fun hc_319 => ?_) (fun hc_319 => ?_)
  · have hc_319 := hc_319
    exact lp_414 l D ct ad u a r q b nx sz S M TX tl pl ft n1 n2 wd nn cells slots y9 how r_ hL ht hn hsz hn9 h9 hcap ih (show -2147483648 ≤ y9 ∧ y9 ≤ 2147483647 from (by first | assumption | omega)) (show 0 ≤ how ∧ how ≤ 15 from (by first | assumption | omega)) (show 0 ≤ r_ ∧ (0 < M 4 → r_ < M 4) from (by first | assumption | omega)) p e s m below meth c b9 _ _ _ hC hP hD hS (lv_sub hl [0, 1, 2, 3, 4, 5, 6, 7] rfl)
  · have hc_319 := hc_319
    exact lp_322 l D ct ad u a r q b nx sz S M TX tl pl ft n1 n2 wd nn cells slots y9 hL ht hn hsz hn9 h9 hcap ih (show -2147483648 ≤ y9 ∧ y9 ≤ 2147483647 from (by first | assumption | omega)) p e s m below meth c b9 _ _ _ hC hP hD hS (lv_sub hl [0, 1, 2, 3, 4, 5] rfl)
set_option maxHeartbeats 4000000 in
set_option maxRecDepth 100000 in
theorem lp_256 (l : Launch) (D : va_G) (ct ad : Nat → Nat) (u : Nat) (a r q : Nat → Nat) (b : Nat → Nat → Nat) (nx sz : Int) (S : Nat → Int → Int) (M TX : Int → Int) (tl pl ft n1 n2 : Int) (wd : Value) (nn : Int) (cells slots : Nat) (y9 : Int) (hL : LInv M) (ht : tInv TX tl) (hn : 0 ≤ nx ∧ nx ≤ 3) (hsz : 0 ≤ sz ∧ sz ≤ 4) (hn9 : 0 ≤ nn ∧ nn < 46) (h9 : M 9 ≤ 200 * nn) (hcap : cells + 41 ≤ 604022 ∧ slots + 250 ≤ 7289401) (ih : ∀ (nx sz : Int) (S : Nat → Int → Int) (M : Int → Int), LInv M → (0 ≤ nx ∧ nx ≤ 3) → (0 ≤ sz ∧ sz ≤ 4) → M 9 ≤ 200 * nn + 200 → LZ l D ct ad (cells + 1) (slots + 6) 1102 (x8W u a r q ++ (svW ct r b nx sz S ++ (sobjW a ++ (gridW ct a M ++ (benchW ct a M ++ (logW ct a M ++ (txtW ct q TX tl pl ft wd n1 n2))))))) [(0, .ref (ad 67)), (1, .ref u), (2, .int (zI nn))] []) (hyr : -2147483648 ≤ y9 ∧ y9 ≤ 2147483647) : LZ l D ct ad cells slots 256 (x8W u a r q ++ (svW ct r b nx sz S ++ (sobjW a ++ (gridW ct a M ++ (benchW ct a M ++ (logW ct a M ++ (txtW ct q TX tl pl ft wd n1 n2))))))) [(0, .ref (ad 67)), (1, .ref u), (2, .int (zI nn)), (4, .int (zI y9)), (5, .int (zI (M 3))), (6, .int (zI (M 4)))] [] := by
  intro p e s m below meth c b9 H locs ls hC hP hD hS hl
  obtain ⟨hx, hb, hr, hml, hown, hts, hlocks, hE, hst⟩ := id hC
  have hK := hE.1
  have hA : ∀ q : Nat, s.heap.size ≤ q → (fun q : Nat => s.heap.size ≤ q) q := fun _ h => h
  have hc0 : cells ≤ room_1.cells ∧ slots ≤ room_1.slots := by show cells ≤ 604022 ∧ slots ≤ 7289401; omega
  have hs := hL.1
  have hI := hs.1
  have hB := hs.2.1
  have ha := hs.2.2
  have t1 := ht.1
  have hP : va_P D vwCl (x8W u a r q ++ (svW ct r b nx sz S ++ (sobjW a ++ (gridW ct a M ++ (benchW ct a M ++ (logW ct a M ++ (txtW ct q TX tl pl ft wd n1 n2))))))) H := hP
  have hD : va_D (fun q : Nat => s.heap.size ≤ q) (x8W u a r q ++ (svW ct r b nx sz S ++ (sobjW a ++ (gridW ct a M ++ (benchW ct a M ++ (logW ct a M ++ (txtW ct q TX tl pl ft wd n1 n2))))))) := hD
  have hf_0 : (Cond.constant RL 20 (-2100000002)).before #[Value.ref b9] s = true := hts _ (zin [657] (by decide +kernel) _ (List.mem_singleton.mpr rfl))
  have hl : lv_has ls 13 [(0, .ref (ad 67)), (1, .ref u), (2, .int (zI nn)), (4, .int (zI y9)), (5, .int (zI (M 3))), (6, .int (zI (M 4)))] := hl
  have i3 := hI.1
  have lwA := sp_lowB (v := y9) (n := 501) (by decide)
  refine lv_aload_n hx hb dL_law_256 rfl (lv_at hl 1 rfl) ?_
  refine lv_iload hx hb dL_law_257 (lv_at hl 3 rfl) ?_
  refine z_sipush hx hb dL_law_259 (by decide) ?_
  refine z_callS (As := [.int (zI y9), .int (zI 501)]) (rest := [.ref u]) ([] : va_W) (x8W u a r q ++ (svW ct r b nx sz S ++ (sobjW a ++ (gridW ct a M ++ (benchW ct a M ++ (logW ct a M ++ (txtW ct q TX tl pl ft wd n1 n2))))))) hx hb hml hown (fun w h => hts w (inL_153 w h)) hl hE hS hA hP hD (c_L_low l D ct ad y9 501 (by omega)) gdL_153 rfl k_L_low ⟨Nat.le_of_ble_eq_true rfl, Nat.le_of_ble_eq_true rfl⟩ rfl (Nat.le_of_ble_eq_true rfl) hc0 dL_law_262 rfl (fun v w1 H locs hpost hP hD hS => ?_)
  obtain ⟨rfl, rfl⟩ := hpost
  have hP : va_P D vwCl (x8W u a r q ++ (svW ct r b nx sz S ++ (sobjW a ++ (gridW ct a M ++ (benchW ct a M ++ (logW ct a M ++ (txtW ct q TX tl pl ft wd n1 n2))))))) H := hP
  have hD : va_D (fun q : Nat => s.heap.size ≤ q) (x8W u a r q ++ (svW ct r b nx sz S ++ (sobjW a ++ (gridW ct a M ++ (benchW ct a M ++ (logW ct a M ++ (txtW ct q TX tl pl ft wd n1 n2))))))) := hD
  refine W.eq (g2 := F0 m 265 ls [.int (zI (sp_low y9 501)), .ref u]) rfl ?_
  obtain ⟨v9, hv9⟩ : ∃ z : Int, z = sp_low y9 501 := ⟨_, rfl⟩
  refine z_canI (show sp_low y9 501 = v9 from hv9.symm) ?_
  by_cases h36 : M 3 < 6
  · skip
    have hck : ck_metal M v9 = 0 := (if_pos (by omega)).trans (if_pos h36)
    have hLN : LInv (st_metal M v9) := LInv_metal hL hck
    have hs2 := hLN.1
    have mv := metal_v (M := M) (v := v9) (by omega)
    have h9N : (st_metal M v9) 9 ≤ 200 * nn + 200 := by rw [metal_n (by omega) (by omega) (by omega)]; omega
    refine z_callSW (As := [.ref u, .int (zI v9)]) (rest := []) ([] : va_W) ([] : va_W) hx hb hml hown (fun w h => hts w (inL_172 w h)) hl hE hS hA (zr0 ([] : va_W) hP) (zr0D ([] : va_W) hD) (c_L_addMetal_ok l D ct ad u a r q b nx sz S M TX tl pl ft n1 n2 wd v9 (by assumption) (by omega) (by omega) (by omega) hck) gdL_172 rfl k_L_addMetal ⟨Nat.le_of_ble_eq_true rfl, Nat.le_of_ble_eq_true rfl⟩ rfl (Nat.le_of_ble_eq_true rfl) hc0 dL_law_265 rfl (fun v w1 H locs hpost hP hD hS => ?_)
    obtain ⟨rfl, rfl⟩ := hpost
    have hP := zr0' hP
    have hD := zr0D' hD
    have hP : va_P D vwCl (x8W u a r q ++ (svW ct r b ((nx + 1) % 4) (min (sz + 1) 4) (updS S nx M) ++ (sobjW a ++ (gridW ct a (st_metal M v9) ++ (benchW ct a (st_metal M v9) ++ (logW ct a (st_metal M v9) ++ (txtW ct q TX tl pl ft wd n1 n2))))))) H := hP
    have hD : va_D (fun q : Nat => s.heap.size ≤ q) (x8W u a r q ++ (svW ct r b ((nx + 1) % 4) (min (sz + 1) 4) (updS S nx M) ++ (sobjW a ++ (gridW ct a (st_metal M v9) ++ (benchW ct a (st_metal M v9) ++ (logW ct a (st_metal M v9) ++ (txtW ct q TX tl pl ft wd n1 n2))))))) := hD
    refine W.eq (g2 := F0 m 268 ls [.int (zI (M 3))]) rfl ?_
    refine lv_istore (lv' := [(9, .int (zI (M 3))), (0, .ref (ad 67)), (1, .ref u), (2, .int (zI nn)), (4, .int (zI y9)), (5, .int (zI (M 3))), (6, .int (zI (M 4)))]) hx hb dL_law_268 hl (by decide) rfl (fun ls hl => ?_)
    refine lv_iload hx hb dL_law_270 (lv_at hl 0 rfl) ?_
    refine lv_iload hx hb dL_law_272 (lv_at hl 5 rfl) ?_
    refine z_bipush hx hb dL_law_274 (by decide) ?_
    refine z_icmp_ne (tgt := 284) hx hb dL_law_276 (by decide) (by omega) (by omega) (fun hc_276 => ?_) (fun hc_276 => ?_)
    · have hc_276 := hc_276
      refine lv_iload hx hb dL_law_284 (lv_at hl 5 rfl) ?_
      refine z_icmp_ne (tgt := 311) hx hb dL_law_286 (by decide) (by omega) (by omega) (fun hc_286 => ?_) (fun hc_286 => ?_)
      · have hc_286 := hc_286
        omega
      have hc_286 := hc_286
      refine lv_iload hx hb dL_law_289 (lv_at hl 0 rfl) ?_
      refine z_if_lt (tgt := 313) hx hb dL_law_291 (by decide) (by omega) (fun hc_291 => ?_) (fun hc_291 => ?_)
      · have hc_291 := hc_291
        omega
      have hc_291 := hc_291
      refine lv_aload_n hx hb dL_law_294 rfl (lv_at hl 2 rfl) ?_
      refine lv_iload hx hb dL_law_295 (lv_at hl 0 rfl) ?_
      refine z_callSW (As := [.ref u, .int (zI (M 3))]) (rest := []) ([] : va_W) ([] : va_W) hx hb hml hown (fun w h => hts w (inL_101 w h)) hl hE hS hA (zr0 ([] : va_W) hP) (zr0D ([] : va_W) hD) (c_L_stretch_ok l D ct ad u a r q b ((nx + 1) % 4) (min (sz + 1) 4) (updS S nx M) (st_metal M v9) TX tl pl ft n1 n2 wd (M 3) (by assumption) (by omega) (by omega)) gdL_101 rfl k_L_stretch ⟨Nat.le_of_ble_eq_true rfl, Nat.le_of_ble_eq_true rfl⟩ rfl (Nat.le_of_ble_eq_true rfl) hc0 dL_law_297 rfl (fun v w1 H locs hpost hP hD hS => ?_)
      obtain ⟨rfl, rfl⟩ := hpost
      have hP := zr0' hP
      have hD := zr0D' hD
      have hP : va_P D vwCl (x8W u a r q ++ (svW ct r b ((nx + 1) % 4) (min (sz + 1) 4) (updS S nx M) ++ (sobjW a ++ (gridW ct a (st_metal M v9) ++ (benchW ct a (st_metal M v9) ++ (logW ct a (st_metal M v9) ++ (txtW ct q TX tl pl ft wd n1 n2))))))) H := hP
      have hD : va_D (fun q : Nat => s.heap.size ≤ q) (x8W u a r q ++ (svW ct r b ((nx + 1) % 4) (min (sz + 1) 4) (updS S nx M) ++ (sobjW a ++ (gridW ct a (st_metal M v9) ++ (benchW ct a (st_metal M v9) ++ (logW ct a (st_metal M v9) ++ (txtW ct q TX tl pl ft wd n1 n2))))))) := hD
      refine W.eq (g2 := F0 m 300 ls [.int (zI ((st_metal M v9) (16 + (M 3))))]) rfl ?_
      refine z_canI (show (st_metal M v9) (16 + (M 3)) = v9 from mv.2) ?_
      refine lv_iload hx hb dL_law_300 (lv_at hl 4 rfl) ?_
      refine z_sipush hx hb dL_law_302 (by decide) ?_
      refine z_callS (As := [.int (zI y9), .int (zI 501)]) (rest := [.int (zI v9)]) ([] : va_W) (x8W u a r q ++ (svW ct r b ((nx + 1) % 4) (min (sz + 1) 4) (updS S nx M) ++ (sobjW a ++ (gridW ct a (st_metal M v9) ++ (benchW ct a (st_metal M v9) ++ (logW ct a (st_metal M v9) ++ (txtW ct q TX tl pl ft wd n1 n2))))))) hx hb hml hown (fun w h => hts w (inL_153 w h)) hl hE hS hA hP hD (c_L_low l D ct ad y9 501 (by omega)) gdL_153 rfl k_L_low ⟨Nat.le_of_ble_eq_true rfl, Nat.le_of_ble_eq_true rfl⟩ rfl (Nat.le_of_ble_eq_true rfl) hc0 dL_law_305 rfl (fun v w1 H locs hpost hP hD hS => ?_)
      obtain ⟨rfl, rfl⟩ := hpost
      have hP : va_P D vwCl (x8W u a r q ++ (svW ct r b ((nx + 1) % 4) (min (sz + 1) 4) (updS S nx M) ++ (sobjW a ++ (gridW ct a (st_metal M v9) ++ (benchW ct a (st_metal M v9) ++ (logW ct a (st_metal M v9) ++ (txtW ct q TX tl pl ft wd n1 n2))))))) H := hP
      have hD : va_D (fun q : Nat => s.heap.size ≤ q) (x8W u a r q ++ (svW ct r b ((nx + 1) % 4) (min (sz + 1) 4) (updS S nx M) ++ (sobjW a ++ (gridW ct a (st_metal M v9) ++ (benchW ct a (st_metal M v9) ++ (logW ct a (st_metal M v9) ++ (txtW ct q TX tl pl ft wd n1 n2))))))) := hD
      refine W.eq (g2 := F0 m 308 ls [.int (zI (sp_low y9 501)), .int (zI v9)]) rfl ?_
      refine z_canI (show sp_low y9 501 = v9 from hv9.symm) ?_
      refine z_icmp_eq (tgt := 313) hx hb dL_law_308 (by decide) (by omega) (by omega) (fun hc_308 => ?_) (fun hc_308 => ?_)
      · have hc_308 := hc_308
        refine lv_goto (tgt := 1102) hx hb dL_law_313 (by decide) ?_
        refine W.widen (k := cells + 1) (n := slots + 6) (Nat.le_add_right _ _) (Nat.le_add_right _ _) ?_
        exact ih ((nx + 1) % 4) (min (sz + 1) 4) (updS S nx M) (st_metal M v9) (by assumption) (by omega) (by omega) (by first | assumption | omega) p e s m below meth c b9 _ _ _ hC hP hD hS (lv_sub hl [1, 2, 3] rfl)
      · have hc_308 := hc_308
        omega
    · have hc_276 := hc_276
      omega
  · skip
    have hck : ck_metal M v9 = 3 := (if_pos (by omega)).trans (if_neg h36)
    refine z_callSW (As := [.ref u, .int (zI v9)]) (rest := []) ([] : va_W) ([] : va_W) hx hb hml hown (fun w h => hts w (inL_172 w h)) hl hE hS hA (zr0 ([] : va_W) hP) (zr0D ([] : va_W) hD) (c_L_addMetal_no l D ct ad u a r q b nx sz S M TX tl pl ft n1 n2 wd v9 (by assumption) hst (by omega) (by rw [hck]; decide)) gdL_172 rfl k_L_addMetal ⟨Nat.le_of_ble_eq_true rfl, Nat.le_of_ble_eq_true rfl⟩ rfl (Nat.le_of_ble_eq_true rfl) (show cells + 1 ≤ 604022 ∧ slots + 6 ≤ 7289401 by omega) dL_law_265 rfl (fun v w1 H locs hpost hP hD hS => ?_)
    obtain ⟨rfl, rfl⟩ := hpost
    have hP := zr0' hP
    have hD := zr0D' hD
    have hP : va_P D vwCl (x8W u a r q ++ (svW ct r b nx sz S ++ (sobjW a ++ (gridW ct a M ++ (benchW ct a M ++ (logW ct a M ++ (txtW ct q TX tl pl ft wd n1 n2))))))) H := hP
    have hD : va_D (fun q : Nat => s.heap.size ≤ q) (x8W u a r q ++ (svW ct r b nx sz S ++ (sobjW a ++ (gridW ct a M ++ (benchW ct a M ++ (logW ct a M ++ (txtW ct q TX tl pl ft wd n1 n2))))))) := hD
    refine W.eq (g2 := F0 m 268 ls [.int (zI (exK (ck_metal M v9)))]) rfl ?_
    refine z_canI (show exK (ck_metal M v9) = (-2100000002) from (by rw [hck]; rfl)) ?_
    refine lv_istore (lv' := [(9, .int (zI (-2100000002))), (0, .ref (ad 67)), (1, .ref u), (2, .int (zI nn)), (4, .int (zI y9)), (5, .int (zI (M 3))), (6, .int (zI (M 4)))]) hx hb dL_law_268 hl (by decide) rfl (fun ls hl => ?_)
    refine lv_iload hx hb dL_law_270 (lv_at hl 0 rfl) ?_
    refine lv_iload hx hb dL_law_272 (lv_at hl 5 rfl) ?_
    refine z_bipush hx hb dL_law_274 (by decide) ?_
    refine z_icmp_ne (tgt := 284) hx hb dL_law_276 (by decide) (by omega) (by omega) (fun hc_276 => ?_) (fun hc_276 => ?_)
    · have hc_276 := hc_276
      omega
    have hc_276 := hc_276
    refine z_ldc hx hb (-2100000002) hown hf_0 (by decide) dL_law_279 ?_
    refine lv_goto (tgt := 286) hx hb dL_law_281 (by decide) ?_
    refine z_icmp_ne (tgt := 311) hx hb dL_law_286 (by decide) (by omega) (by omega) (fun hc_286 => ?_) (fun hc_286 => ?_)
    · have hc_286 := hc_286
      omega
    have hc_286 := hc_286
    refine lv_iload hx hb dL_law_289 (lv_at hl 0 rfl) ?_
    refine z_if_lt (tgt := 313) hx hb dL_law_291 (by decide) (by omega) (fun hc_291 => ?_) (fun hc_291 => ?_)
    · have hc_291 := hc_291
      refine lv_goto (tgt := 1102) hx hb dL_law_313 (by decide) ?_
      exact ih nx sz S M (by assumption) (by omega) (by omega) (by first | assumption | omega) p e s m below meth c b9 _ _ _ hC hP hD hS (lv_sub hl [1, 2, 3] rfl)
    · have hc_291 := hc_291
      omega
set_option maxHeartbeats 4000000 in
set_option maxRecDepth 100000 in
theorem lp_250 (l : Launch) (D : va_G) (ct ad : Nat → Nat) (u : Nat) (a r q : Nat → Nat) (b : Nat → Nat → Nat) (nx sz : Int) (S : Nat → Int → Int) (M TX : Int → Int) (tl pl ft n1 n2 : Int) (wd : Value) (nn : Int) (cells slots : Nat) (y9 : Int) (how : Int) (r_ : Int) (hL : LInv M) (ht : tInv TX tl) (hn : 0 ≤ nx ∧ nx ≤ 3) (hsz : 0 ≤ sz ∧ sz ≤ 4) (hn9 : 0 ≤ nn ∧ nn < 46) (h9 : M 9 ≤ 200 * nn) (hcap : cells + 41 ≤ 604022 ∧ slots + 250 ≤ 7289401) (ih : ∀ (nx sz : Int) (S : Nat → Int → Int) (M : Int → Int), LInv M → (0 ≤ nx ∧ nx ≤ 3) → (0 ≤ sz ∧ sz ≤ 4) → M 9 ≤ 200 * nn + 200 → LZ l D ct ad (cells + 1) (slots + 6) 1102 (x8W u a r q ++ (svW ct r b nx sz S ++ (sobjW a ++ (gridW ct a M ++ (benchW ct a M ++ (logW ct a M ++ (txtW ct q TX tl pl ft wd n1 n2))))))) [(0, .ref (ad 67)), (1, .ref u), (2, .int (zI nn))] []) (hyr : -2147483648 ≤ y9 ∧ y9 ≤ 2147483647) (hhow : 0 ≤ how ∧ how ≤ 15) (hr9 : 0 ≤ r_ ∧ (0 < M 4 → r_ < M 4)) : LZ l D ct ad cells slots 250 (x8W u a r q ++ (svW ct r b nx sz S ++ (sobjW a ++ (gridW ct a M ++ (benchW ct a M ++ (logW ct a M ++ (txtW ct q TX tl pl ft wd n1 n2))))))) [(0, .ref (ad 67)), (1, .ref u), (2, .int (zI nn)), (4, .int (zI y9)), (5, .int (zI (M 3))), (6, .int (zI (M 4))), (7, .int (zI how)), (8, .int (zI r_))] [] := by
  intro p e s m below meth c b9 H locs ls hC hP hD hS hl
  obtain ⟨hx, hb, hr, hml, hown, hts, hlocks, hE, hst⟩ := id hC
  have hK := hE.1
  have hA : ∀ q : Nat, s.heap.size ≤ q → (fun q : Nat => s.heap.size ≤ q) q := fun _ h => h
  have hc0 : cells ≤ room_1.cells ∧ slots ≤ room_1.slots := by show cells ≤ 604022 ∧ slots ≤ 7289401; omega
  have hs := hL.1
  have hI := hs.1
  have hB := hs.2.1
  have ha := hs.2.2
  have t1 := ht.1
  have hP : va_P D vwCl (x8W u a r q ++ (svW ct r b nx sz S ++ (sobjW a ++ (gridW ct a M ++ (benchW ct a M ++ (logW ct a M ++ (txtW ct q TX tl pl ft wd n1 n2))))))) H := hP
  have hD : va_D (fun q : Nat => s.heap.size ≤ q) (x8W u a r q ++ (svW ct r b nx sz S ++ (sobjW a ++ (gridW ct a M ++ (benchW ct a M ++ (logW ct a M ++ (txtW ct q TX tl pl ft wd n1 n2))))))) := hD
  have hl : lv_has ls 13 [(0, .ref (ad 67)), (1, .ref u), (2, .int (zI nn)), (4, .int (zI y9)), (5, .int (zI (M 3))), (6, .int (zI (M 4))), (7, .int (zI how)), (8, .int (zI r_))] := hl
  refine lv_iload hx hb dL_law_250 (lv_at hl 6 rfl) ?_
  refine z_iconst hx hb dL_law_252 ?_
  refine z_icmp_ne (tgt := 316) hx hb dL_law_253 (by decide) (by omega) (by omega) (fun hc_253 => ?_) (fun hc_253 => ?_)
  · have hc_253 := hc_253
    exact lp_316 l D ct ad u a r q b nx sz S M TX tl pl ft n1 n2 wd nn cells slots y9 how r_ hL ht hn hsz hn9 h9 hcap ih (show -2147483648 ≤ y9 ∧ y9 ≤ 2147483647 from (by first | assumption | omega)) (show 0 ≤ how ∧ how ≤ 15 from (by first | assumption | omega)) (show 0 ≤ r_ ∧ (0 < M 4 → r_ < M 4) from (by first | assumption | omega)) p e s m below meth c b9 _ _ _ hC hP hD hS (lv_sub hl [0, 1, 2, 3, 4, 5, 6, 7] rfl)
  · have hc_253 := hc_253
    exact lp_256 l D ct ad u a r q b nx sz S M TX tl pl ft n1 n2 wd nn cells slots y9 hL ht hn hsz hn9 h9 hcap ih (show -2147483648 ≤ y9 ∧ y9 ≤ 2147483647 from (by first | assumption | omega)) p e s m below meth c b9 _ _ _ hC hP hD hS (lv_sub hl [0, 1, 2, 3, 4, 5] rfl)
set_option maxHeartbeats 4000000 in
set_option maxRecDepth 100000 in
theorem lp_144 (l : Launch) (D : va_G) (ct ad : Nat → Nat) (u : Nat) (a r q : Nat → Nat) (b : Nat → Nat → Nat) (nx sz : Int) (S : Nat → Int → Int) (M TX : Int → Int) (tl pl ft n1 n2 : Int) (wd : Value) (nn : Int) (cells slots : Nat) (y9 : Int) (d_ : Int) (hL : LInv M) (ht : tInv TX tl) (hn : 0 ≤ nx ∧ nx ≤ 3) (hsz : 0 ≤ sz ∧ sz ≤ 4) (hn9 : 0 ≤ nn ∧ nn < 46) (h9 : M 9 ≤ 200 * nn) (hcap : cells + 41 ≤ 604022 ∧ slots + 250 ≤ 7289401) (ih : ∀ (nx sz : Int) (S : Nat → Int → Int) (M : Int → Int), LInv M → (0 ≤ nx ∧ nx ≤ 3) → (0 ≤ sz ∧ sz ≤ 4) → M 9 ≤ 200 * nn + 200 → LZ l D ct ad (cells + 1) (slots + 6) 1102 (x8W u a r q ++ (svW ct r b nx sz S ++ (sobjW a ++ (gridW ct a M ++ (benchW ct a M ++ (logW ct a M ++ (txtW ct q TX tl pl ft wd n1 n2))))))) [(0, .ref (ad 67)), (1, .ref u), (2, .int (zI nn))] []) (hyr : -2147483648 ≤ y9 ∧ y9 ≤ 2147483647) (hd : d_ = 1 ∨ d_ = -1) : LZ l D ct ad cells slots 144 (x8W u a r q ++ (svW ct r b nx sz S ++ (sobjW a ++ (gridW ct a M ++ (benchW ct a M ++ (logW ct a M ++ (txtW ct q TX tl pl ft wd n1 n2))))))) [(0, .ref (ad 67)), (1, .ref u), (2, .int (zI nn)), (4, .int (zI y9)), (5, .int (zI (M 3))), (6, .int (zI (M 4)))] [.int (zI d_)] := by
  intro p e s m below meth c b9 H locs ls hC hP hD hS hl
  obtain ⟨hx, hb, hr, hml, hown, hts, hlocks, hE, hst⟩ := id hC
  have hK := hE.1
  have hA : ∀ q : Nat, s.heap.size ≤ q → (fun q : Nat => s.heap.size ≤ q) q := fun _ h => h
  have hc0 : cells ≤ room_1.cells ∧ slots ≤ room_1.slots := by show cells ≤ 604022 ∧ slots ≤ 7289401; omega
  have hs := hL.1
  have hI := hs.1
  have hB := hs.2.1
  have ha := hs.2.2
  have t1 := ht.1
  have hP : va_P D vwCl (x8W u a r q ++ (svW ct r b nx sz S ++ (sobjW a ++ (gridW ct a M ++ (benchW ct a M ++ (logW ct a M ++ (txtW ct q TX tl pl ft wd n1 n2))))))) H := hP
  have hD : va_D (fun q : Nat => s.heap.size ≤ q) (x8W u a r q ++ (svW ct r b nx sz S ++ (sobjW a ++ (gridW ct a M ++ (benchW ct a M ++ (logW ct a M ++ (txtW ct q TX tl pl ft wd n1 n2))))))) := hD
  have hf_0 : (Cond.constant RL 169 (1000000)).before #[Value.ref b9] s = true := hts _ (zin [950] (by decide +kernel) _ (List.mem_singleton.mpr rfl))
  have hf_1 : (Cond.constant RL 20 (-2100000002)).before #[Value.ref b9] s = true := hts _ (zin [657] (by decide +kernel) _ (List.mem_singleton.mpr rfl))
  have hl : lv_has ls 13 [(0, .ref (ad 67)), (1, .ref u), (2, .int (zI nn)), (4, .int (zI y9)), (5, .int (zI (M 3))), (6, .int (zI (M 4)))] := hl
  have i3 := hI.1
  have i4 := hI.2.1
  have lwA := sp_lowB (v := y9 / 8) (n := 1000000) (by decide)
  have lwB := sp_lowB (v := y9 / 2) (n := M 3) (by omega)
  refine lv_istore (lv' := [(9, .int (zI d_)), (0, .ref (ad 67)), (1, .ref u), (2, .int (zI nn)), (4, .int (zI y9)), (5, .int (zI (M 3))), (6, .int (zI (M 4)))]) hx hb dL_law_144 hl (by decide) rfl (fun ls hl => ?_)
  refine z_iconst hx hb dL_law_146 ?_
  refine lv_iload hx hb dL_law_147 (lv_at hl 4 rfl) ?_
  refine z_iconst hx hb dL_law_149 ?_
  refine z_ishr (n := 3) (d := 8) hx hb dL_law_150 (by omega) (by decide) (by decide) ?_
  refine z_ldc hx hb 1000000 hown hf_0 (by decide) dL_law_151 ?_
  refine z_callS (As := [.int (zI (y9 / 8)), .int (zI 1000000)]) (rest := [.int (zI 1)]) ([] : va_W) (x8W u a r q ++ (svW ct r b nx sz S ++ (sobjW a ++ (gridW ct a M ++ (benchW ct a M ++ (logW ct a M ++ (txtW ct q TX tl pl ft wd n1 n2))))))) hx hb hml hown (fun w h => hts w (inL_153 w h)) hl hE hS hA hP hD (c_L_low l D ct ad (y9 / 8) 1000000 (by omega)) gdL_153 rfl k_L_low ⟨Nat.le_of_ble_eq_true rfl, Nat.le_of_ble_eq_true rfl⟩ rfl (Nat.le_of_ble_eq_true rfl) hc0 dL_law_153 rfl (fun v w1 H locs hpost hP hD hS => ?_)
  obtain ⟨rfl, rfl⟩ := hpost
  have hP : va_P D vwCl (x8W u a r q ++ (svW ct r b nx sz S ++ (sobjW a ++ (gridW ct a M ++ (benchW ct a M ++ (logW ct a M ++ (txtW ct q TX tl pl ft wd n1 n2))))))) H := hP
  have hD : va_D (fun q : Nat => s.heap.size ≤ q) (x8W u a r q ++ (svW ct r b nx sz S ++ (sobjW a ++ (gridW ct a M ++ (benchW ct a M ++ (logW ct a M ++ (txtW ct q TX tl pl ft wd n1 n2))))))) := hD
  refine W.eq (g2 := F0 m 156 ls [.int (zI (sp_low (y9 / 8) 1000000)), .int (zI 1)]) rfl ?_
  refine z_iadd hx hb dL_law_156 ?_
  obtain ⟨len9, hlen9⟩ : ∃ z : Int, z = 1 + (sp_low (y9 / 8) 1000000) := ⟨_, rfl⟩
  refine z_canI (show 1 + (sp_low (y9 / 8) 1000000) = len9 from hlen9.symm) ?_
  refine lv_istore (lv' := [(10, .int (zI len9)), (9, .int (zI d_)), (0, .ref (ad 67)), (1, .ref u), (2, .int (zI nn)), (4, .int (zI y9)), (5, .int (zI (M 3))), (6, .int (zI (M 4)))]) hx hb dL_law_157 hl (by decide) rfl (fun ls hl => ?_)
  refine lv_aload_n hx hb dL_law_159 rfl (lv_at hl 3 rfl) ?_
  refine lv_iload hx hb dL_law_160 (lv_at hl 5 rfl) ?_
  refine z_iconst hx hb dL_law_162 ?_
  refine z_ishr (n := 1) (d := 2) hx hb dL_law_163 (by omega) (by decide) (by decide) ?_
  refine lv_iload hx hb dL_law_164 (lv_at hl 6 rfl) ?_
  refine z_callS (As := [.int (zI (y9 / 2)), .int (zI (M 3))]) (rest := [.ref u]) ([] : va_W) (x8W u a r q ++ (svW ct r b nx sz S ++ (sobjW a ++ (gridW ct a M ++ (benchW ct a M ++ (logW ct a M ++ (txtW ct q TX tl pl ft wd n1 n2))))))) hx hb hml hown (fun w h => hts w (inL_153 w h)) hl hE hS hA hP hD (c_L_low l D ct ad (y9 / 2) (M 3) (by omega)) gdL_153 rfl k_L_low ⟨Nat.le_of_ble_eq_true rfl, Nat.le_of_ble_eq_true rfl⟩ rfl (Nat.le_of_ble_eq_true rfl) hc0 dL_law_166 rfl (fun v w1 H locs hpost hP hD hS => ?_)
  obtain ⟨rfl, rfl⟩ := hpost
  have hP : va_P D vwCl (x8W u a r q ++ (svW ct r b nx sz S ++ (sobjW a ++ (gridW ct a M ++ (benchW ct a M ++ (logW ct a M ++ (txtW ct q TX tl pl ft wd n1 n2))))))) H := hP
  have hD : va_D (fun q : Nat => s.heap.size ≤ q) (x8W u a r q ++ (svW ct r b nx sz S ++ (sobjW a ++ (gridW ct a M ++ (benchW ct a M ++ (logW ct a M ++ (txtW ct q TX tl pl ft wd n1 n2))))))) := hD
  refine W.eq (g2 := F0 m 169 ls [.int (zI (sp_low (y9 / 2) (M 3))), .ref u]) rfl ?_
  obtain ⟨k9, hk9⟩ : ∃ z : Int, z = sp_low (y9 / 2) (M 3) := ⟨_, rfl⟩
  refine z_canI (show sp_low (y9 / 2) (M 3) = k9 from hk9.symm) ?_
  refine lv_iload hx hb dL_law_169 (lv_at hl 1 rfl) ?_
  refine lv_iload hx hb dL_law_171 (lv_at hl 0 rfl) ?_
  by_cases h49 : M 4 < 9
  · skip
    have hck : ck_rod M k9 d_ len9 = 0 := (if_pos (by omega)).trans ((if_pos (by omega)).trans (if_pos h49))
    have hLN : LInv (st_rod M k9 d_ len9) := LInv_rod hL hck
    have hs2 := hLN.1
    have rv := rod_v (M := M) (k := k9) (d := d_) (n := len9) (by omega)
    have h9N : (st_rod M k9 d_ len9) 9 ≤ 200 * nn + 200 := by rw [rod_n (by omega) (by omega) (by omega)]; omega
    refine z_callSW (As := [.ref u, .int (zI k9), .int (zI d_), .int (zI len9)]) (rest := []) ([] : va_W) ([] : va_W) hx hb hml hown (fun w h => hts w (inL_176 w h)) hl hE hS hA (zr0 ([] : va_W) hP) (zr0D ([] : va_W) hD) (c_L_addRod_ok l D ct ad u a r q b nx sz S M TX tl pl ft n1 n2 wd k9 d_ len9 (by assumption) (by omega) (by omega) (by omega) (by omega) (by omega) hck) gdL_176 rfl k_L_addRod ⟨Nat.le_of_ble_eq_true rfl, Nat.le_of_ble_eq_true rfl⟩ rfl (Nat.le_of_ble_eq_true rfl) hc0 dL_law_173 rfl (fun v w1 H locs hpost hP hD hS => ?_)
    obtain ⟨rfl, rfl⟩ := hpost
    have hP := zr0' hP
    have hD := zr0D' hD
    have hP : va_P D vwCl (x8W u a r q ++ (svW ct r b ((nx + 1) % 4) (min (sz + 1) 4) (updS S nx M) ++ (sobjW a ++ (gridW ct a (st_rod M k9 d_ len9) ++ (benchW ct a (st_rod M k9 d_ len9) ++ (logW ct a (st_rod M k9 d_ len9) ++ (txtW ct q TX tl pl ft wd n1 n2))))))) H := hP
    have hD : va_D (fun q : Nat => s.heap.size ≤ q) (x8W u a r q ++ (svW ct r b ((nx + 1) % 4) (min (sz + 1) 4) (updS S nx M) ++ (sobjW a ++ (gridW ct a (st_rod M k9 d_ len9) ++ (benchW ct a (st_rod M k9 d_ len9) ++ (logW ct a (st_rod M k9 d_ len9) ++ (txtW ct q TX tl pl ft wd n1 n2))))))) := hD
    refine W.eq (g2 := F0 m 176 ls [.int (zI (M 4))]) rfl ?_
    refine lv_istore (lv' := [(11, .int (zI (M 4))), (10, .int (zI len9)), (9, .int (zI d_)), (0, .ref (ad 67)), (1, .ref u), (2, .int (zI nn)), (4, .int (zI y9)), (5, .int (zI (M 3))), (6, .int (zI (M 4)))]) hx hb dL_law_176 hl (by decide) rfl (fun ls hl => ?_)
    refine lv_iload hx hb dL_law_178 (lv_at hl 0 rfl) ?_
    refine lv_iload hx hb dL_law_180 (lv_at hl 8 rfl) ?_
    refine z_bipush hx hb dL_law_182 (by decide) ?_
    refine z_icmp_ne (tgt := 192) hx hb dL_law_184 (by decide) (by omega) (by omega) (fun hc_184 => ?_) (fun hc_184 => ?_)
    · have hc_184 := hc_184
      refine lv_iload hx hb dL_law_192 (lv_at hl 8 rfl) ?_
      refine z_icmp_ne (tgt := 245) hx hb dL_law_194 (by decide) (by omega) (by omega) (fun hc_194 => ?_) (fun hc_194 => ?_)
      · have hc_194 := hc_194
        omega
      have hc_194 := hc_194
      refine lv_iload hx hb dL_law_197 (lv_at hl 0 rfl) ?_
      refine z_if_lt (tgt := 247) hx hb dL_law_199 (by decide) (by omega) (fun hc_199 => ?_) (fun hc_199 => ?_)
      · have hc_199 := hc_199
        omega
      have hc_199 := hc_199
      refine lv_aload_n hx hb dL_law_202 rfl (lv_at hl 4 rfl) ?_
      refine lv_iload hx hb dL_law_203 (lv_at hl 0 rfl) ?_
      refine z_iconst hx hb dL_law_205 ?_
      refine z_callSW (As := [.ref u, .int (zI (M 4)), .int (zI 0)]) (rest := []) ([] : va_W) ([] : va_W) hx hb hml hown (fun w h => hts w (inL_98 w h)) hl hE hS hA (zr0 ([] : va_W) hP) (zr0D ([] : va_W) hD) (c_L_rod_ok l D ct ad u a r q b ((nx + 1) % 4) (min (sz + 1) 4) (updS S nx M) (st_rod M k9 d_ len9) TX tl pl ft n1 n2 wd (M 4) 0 (by assumption) (by omega) (by omega) (by omega)) gdL_98 rfl k_L_rod ⟨Nat.le_of_ble_eq_true rfl, Nat.le_of_ble_eq_true rfl⟩ rfl (Nat.le_of_ble_eq_true rfl) hc0 dL_law_206 rfl (fun v w1 H locs hpost hP hD hS => ?_)
      obtain ⟨rfl, rfl⟩ := hpost
      have hP := zr0' hP
      have hD := zr0D' hD
      have hP : va_P D vwCl (x8W u a r q ++ (svW ct r b ((nx + 1) % 4) (min (sz + 1) 4) (updS S nx M) ++ (sobjW a ++ (gridW ct a (st_rod M k9 d_ len9) ++ (benchW ct a (st_rod M k9 d_ len9) ++ (logW ct a (st_rod M k9 d_ len9) ++ (txtW ct q TX tl pl ft wd n1 n2))))))) H := hP
      have hD : va_D (fun q : Nat => s.heap.size ≤ q) (x8W u a r q ++ (svW ct r b ((nx + 1) % 4) (min (sz + 1) 4) (updS S nx M) ++ (sobjW a ++ (gridW ct a (st_rod M k9 d_ len9) ++ (benchW ct a (st_rod M k9 d_ len9) ++ (logW ct a (st_rod M k9 d_ len9) ++ (txtW ct q TX tl pl ft wd n1 n2))))))) := hD
      refine W.eq (g2 := F0 m 209 ls [.int (zI (sp_rodv (st_rod M k9 d_ len9) (M 4) 0 ((st_rod M k9 d_ len9) 6)))]) rfl ?_
      refine z_canI (show sp_rodv (st_rod M k9 d_ len9) (M 4) 0 ((st_rod M k9 d_ len9) 6) = (st_rod M k9 d_ len9) (22 + 3 * (M 4)) from rfl) ?_
      refine z_canI (show (st_rod M k9 d_ len9) (22 + 3 * (M 4)) = k9 from rv.2.1) ?_
      refine lv_iload hx hb dL_law_209 (lv_at hl 6 rfl) ?_
      refine z_iconst hx hb dL_law_211 ?_
      refine z_ishr (n := 1) (d := 2) hx hb dL_law_212 (by omega) (by decide) (by decide) ?_
      refine lv_iload hx hb dL_law_213 (lv_at hl 7 rfl) ?_
      refine z_callS (As := [.int (zI (y9 / 2)), .int (zI (M 3))]) (rest := [.int (zI k9)]) ([] : va_W) (x8W u a r q ++ (svW ct r b ((nx + 1) % 4) (min (sz + 1) 4) (updS S nx M) ++ (sobjW a ++ (gridW ct a (st_rod M k9 d_ len9) ++ (benchW ct a (st_rod M k9 d_ len9) ++ (logW ct a (st_rod M k9 d_ len9) ++ (txtW ct q TX tl pl ft wd n1 n2))))))) hx hb hml hown (fun w h => hts w (inL_153 w h)) hl hE hS hA hP hD (c_L_low l D ct ad (y9 / 2) (M 3) (by omega)) gdL_153 rfl k_L_low ⟨Nat.le_of_ble_eq_true rfl, Nat.le_of_ble_eq_true rfl⟩ rfl (Nat.le_of_ble_eq_true rfl) hc0 dL_law_215 rfl (fun v w1 H locs hpost hP hD hS => ?_)
      obtain ⟨rfl, rfl⟩ := hpost
      have hP : va_P D vwCl (x8W u a r q ++ (svW ct r b ((nx + 1) % 4) (min (sz + 1) 4) (updS S nx M) ++ (sobjW a ++ (gridW ct a (st_rod M k9 d_ len9) ++ (benchW ct a (st_rod M k9 d_ len9) ++ (logW ct a (st_rod M k9 d_ len9) ++ (txtW ct q TX tl pl ft wd n1 n2))))))) H := hP
      have hD : va_D (fun q : Nat => s.heap.size ≤ q) (x8W u a r q ++ (svW ct r b ((nx + 1) % 4) (min (sz + 1) 4) (updS S nx M) ++ (sobjW a ++ (gridW ct a (st_rod M k9 d_ len9) ++ (benchW ct a (st_rod M k9 d_ len9) ++ (logW ct a (st_rod M k9 d_ len9) ++ (txtW ct q TX tl pl ft wd n1 n2))))))) := hD
      refine W.eq (g2 := F0 m 218 ls [.int (zI (sp_low (y9 / 2) (M 3))), .int (zI k9)]) rfl ?_
      refine z_canI (show sp_low (y9 / 2) (M 3) = k9 from hk9.symm) ?_
      refine z_icmp_ne (tgt := 245) hx hb dL_law_218 (by decide) (by omega) (by omega) (fun hc_218 => ?_) (fun hc_218 => ?_)
      · have hc_218 := hc_218
        omega
      have hc_218 := hc_218
      refine lv_aload_n hx hb dL_law_221 rfl (lv_at hl 4 rfl) ?_
      refine lv_iload hx hb dL_law_222 (lv_at hl 0 rfl) ?_
      refine z_iconst hx hb dL_law_224 ?_
      refine z_callSW (As := [.ref u, .int (zI (M 4)), .int (zI 1)]) (rest := []) ([] : va_W) ([] : va_W) hx hb hml hown (fun w h => hts w (inL_98 w h)) hl hE hS hA (zr0 ([] : va_W) hP) (zr0D ([] : va_W) hD) (c_L_rod_ok l D ct ad u a r q b ((nx + 1) % 4) (min (sz + 1) 4) (updS S nx M) (st_rod M k9 d_ len9) TX tl pl ft n1 n2 wd (M 4) 1 (by assumption) (by omega) (by omega) (by omega)) gdL_98 rfl k_L_rod ⟨Nat.le_of_ble_eq_true rfl, Nat.le_of_ble_eq_true rfl⟩ rfl (Nat.le_of_ble_eq_true rfl) hc0 dL_law_225 rfl (fun v w1 H locs hpost hP hD hS => ?_)
      obtain ⟨rfl, rfl⟩ := hpost
      have hP := zr0' hP
      have hD := zr0D' hD
      have hP : va_P D vwCl (x8W u a r q ++ (svW ct r b ((nx + 1) % 4) (min (sz + 1) 4) (updS S nx M) ++ (sobjW a ++ (gridW ct a (st_rod M k9 d_ len9) ++ (benchW ct a (st_rod M k9 d_ len9) ++ (logW ct a (st_rod M k9 d_ len9) ++ (txtW ct q TX tl pl ft wd n1 n2))))))) H := hP
      have hD : va_D (fun q : Nat => s.heap.size ≤ q) (x8W u a r q ++ (svW ct r b ((nx + 1) % 4) (min (sz + 1) 4) (updS S nx M) ++ (sobjW a ++ (gridW ct a (st_rod M k9 d_ len9) ++ (benchW ct a (st_rod M k9 d_ len9) ++ (logW ct a (st_rod M k9 d_ len9) ++ (txtW ct q TX tl pl ft wd n1 n2))))))) := hD
      refine W.eq (g2 := F0 m 228 ls [.int (zI (sp_rodv (st_rod M k9 d_ len9) (M 4) 1 ((st_rod M k9 d_ len9) 6)))]) rfl ?_
      refine z_canI (show sp_rodv (st_rod M k9 d_ len9) (M 4) 1 ((st_rod M k9 d_ len9) 6) = (st_rod M k9 d_ len9) (23 + 3 * (M 4)) from rfl) ?_
      refine z_canI (show (st_rod M k9 d_ len9) (23 + 3 * (M 4)) = d_ from rv.2.2.1) ?_
      refine lv_iload hx hb dL_law_228 (lv_at hl 2 rfl) ?_
      refine z_icmp_ne (tgt := 245) hx hb dL_law_230 (by decide) (by omega) (by omega) (fun hc_230 => ?_) (fun hc_230 => ?_)
      · have hc_230 := hc_230
        omega
      have hc_230 := hc_230
      refine lv_aload_n hx hb dL_law_233 rfl (lv_at hl 4 rfl) ?_
      refine lv_iload hx hb dL_law_234 (lv_at hl 0 rfl) ?_
      refine z_iconst hx hb dL_law_236 ?_
      refine z_callSW (As := [.ref u, .int (zI (M 4)), .int (zI 2)]) (rest := []) ([] : va_W) ([] : va_W) hx hb hml hown (fun w h => hts w (inL_98 w h)) hl hE hS hA (zr0 ([] : va_W) hP) (zr0D ([] : va_W) hD) (c_L_rod_ok l D ct ad u a r q b ((nx + 1) % 4) (min (sz + 1) 4) (updS S nx M) (st_rod M k9 d_ len9) TX tl pl ft n1 n2 wd (M 4) 2 (by assumption) (by omega) (by omega) (by omega)) gdL_98 rfl k_L_rod ⟨Nat.le_of_ble_eq_true rfl, Nat.le_of_ble_eq_true rfl⟩ rfl (Nat.le_of_ble_eq_true rfl) hc0 dL_law_237 rfl (fun v w1 H locs hpost hP hD hS => ?_)
      obtain ⟨rfl, rfl⟩ := hpost
      have hP := zr0' hP
      have hD := zr0D' hD
      have hP : va_P D vwCl (x8W u a r q ++ (svW ct r b ((nx + 1) % 4) (min (sz + 1) 4) (updS S nx M) ++ (sobjW a ++ (gridW ct a (st_rod M k9 d_ len9) ++ (benchW ct a (st_rod M k9 d_ len9) ++ (logW ct a (st_rod M k9 d_ len9) ++ (txtW ct q TX tl pl ft wd n1 n2))))))) H := hP
      have hD : va_D (fun q : Nat => s.heap.size ≤ q) (x8W u a r q ++ (svW ct r b ((nx + 1) % 4) (min (sz + 1) 4) (updS S nx M) ++ (sobjW a ++ (gridW ct a (st_rod M k9 d_ len9) ++ (benchW ct a (st_rod M k9 d_ len9) ++ (logW ct a (st_rod M k9 d_ len9) ++ (txtW ct q TX tl pl ft wd n1 n2))))))) := hD
      refine W.eq (g2 := F0 m 240 ls [.int (zI (sp_rodv (st_rod M k9 d_ len9) (M 4) 2 ((st_rod M k9 d_ len9) 6)))]) rfl ?_
      refine z_canI (show sp_rodv (st_rod M k9 d_ len9) (M 4) 2 ((st_rod M k9 d_ len9) 6) = (st_rod M k9 d_ len9) (24 + 3 * (M 4)) from rfl) ?_
      refine z_canI (show (st_rod M k9 d_ len9) (24 + 3 * (M 4)) = len9 from rv.2.2.2) ?_
      refine lv_iload hx hb dL_law_240 (lv_at hl 1 rfl) ?_
      refine z_icmp_eq (tgt := 247) hx hb dL_law_242 (by decide) (by omega) (by omega) (fun hc_242 => ?_) (fun hc_242 => ?_)
      · have hc_242 := hc_242
        refine lv_goto (tgt := 1102) hx hb dL_law_247 (by decide) ?_
        refine W.widen (k := cells + 1) (n := slots + 6) (Nat.le_add_right _ _) (Nat.le_add_right _ _) ?_
        exact ih ((nx + 1) % 4) (min (sz + 1) 4) (updS S nx M) (st_rod M k9 d_ len9) (by assumption) (by omega) (by omega) (by first | assumption | omega) p e s m below meth c b9 _ _ _ hC hP hD hS (lv_sub hl [3, 4, 5] rfl)
      · have hc_242 := hc_242
        omega
    · have hc_184 := hc_184
      omega
  · skip
    have hck : ck_rod M k9 d_ len9 = 3 := (if_pos (by omega)).trans ((if_pos (by omega)).trans (if_neg h49))
    refine z_callSW (As := [.ref u, .int (zI k9), .int (zI d_), .int (zI len9)]) (rest := []) ([] : va_W) ([] : va_W) hx hb hml hown (fun w h => hts w (inL_176 w h)) hl hE hS hA (zr0 ([] : va_W) hP) (zr0D ([] : va_W) hD) (c_L_addRod_no l D ct ad u a r q b nx sz S M TX tl pl ft n1 n2 wd k9 d_ len9 (by assumption) hst (by omega) (by omega) (by omega) (by rw [hck]; decide)) gdL_176 rfl k_L_addRod ⟨Nat.le_of_ble_eq_true rfl, Nat.le_of_ble_eq_true rfl⟩ rfl (Nat.le_of_ble_eq_true rfl) (show cells + 1 ≤ 604022 ∧ slots + 6 ≤ 7289401 by omega) dL_law_173 rfl (fun v w1 H locs hpost hP hD hS => ?_)
    obtain ⟨rfl, rfl⟩ := hpost
    have hP := zr0' hP
    have hD := zr0D' hD
    have hP : va_P D vwCl (x8W u a r q ++ (svW ct r b nx sz S ++ (sobjW a ++ (gridW ct a M ++ (benchW ct a M ++ (logW ct a M ++ (txtW ct q TX tl pl ft wd n1 n2))))))) H := hP
    have hD : va_D (fun q : Nat => s.heap.size ≤ q) (x8W u a r q ++ (svW ct r b nx sz S ++ (sobjW a ++ (gridW ct a M ++ (benchW ct a M ++ (logW ct a M ++ (txtW ct q TX tl pl ft wd n1 n2))))))) := hD
    refine W.eq (g2 := F0 m 176 ls [.int (zI (exK (ck_rod M k9 d_ len9)))]) rfl ?_
    refine z_canI (show exK (ck_rod M k9 d_ len9) = (-2100000002) from (by rw [hck]; rfl)) ?_
    refine lv_istore (lv' := [(11, .int (zI (-2100000002))), (10, .int (zI len9)), (9, .int (zI d_)), (0, .ref (ad 67)), (1, .ref u), (2, .int (zI nn)), (4, .int (zI y9)), (5, .int (zI (M 3))), (6, .int (zI (M 4)))]) hx hb dL_law_176 hl (by decide) rfl (fun ls hl => ?_)
    refine lv_iload hx hb dL_law_178 (lv_at hl 0 rfl) ?_
    refine lv_iload hx hb dL_law_180 (lv_at hl 8 rfl) ?_
    refine z_bipush hx hb dL_law_182 (by decide) ?_
    refine z_icmp_ne (tgt := 192) hx hb dL_law_184 (by decide) (by omega) (by omega) (fun hc_184 => ?_) (fun hc_184 => ?_)
    · have hc_184 := hc_184
      omega
    have hc_184 := hc_184
    refine z_ldc hx hb (-2100000002) hown hf_1 (by decide) dL_law_187 ?_
    refine lv_goto (tgt := 194) hx hb dL_law_189 (by decide) ?_
    refine z_icmp_ne (tgt := 245) hx hb dL_law_194 (by decide) (by omega) (by omega) (fun hc_194 => ?_) (fun hc_194 => ?_)
    · have hc_194 := hc_194
      omega
    have hc_194 := hc_194
    refine lv_iload hx hb dL_law_197 (lv_at hl 0 rfl) ?_
    refine z_if_lt (tgt := 247) hx hb dL_law_199 (by decide) (by omega) (fun hc_199 => ?_) (fun hc_199 => ?_)
    · have hc_199 := hc_199
      refine lv_goto (tgt := 1102) hx hb dL_law_247 (by decide) ?_
      exact ih nx sz S M (by assumption) (by omega) (by omega) (by first | assumption | omega) p e s m below meth c b9 _ _ _ hC hP hD hS (lv_sub hl [3, 4, 5] rfl)
    · have hc_199 := hc_199
      omega
set_option maxHeartbeats 4000000 in
set_option maxRecDepth 100000 in
theorem lp_130 (l : Launch) (D : va_G) (ct ad : Nat → Nat) (u : Nat) (a r q : Nat → Nat) (b : Nat → Nat → Nat) (nx sz : Int) (S : Nat → Int → Int) (M TX : Int → Int) (tl pl ft n1 n2 : Int) (wd : Value) (nn : Int) (cells slots : Nat) (y9 : Int) (hL : LInv M) (ht : tInv TX tl) (hn : 0 ≤ nx ∧ nx ≤ 3) (hsz : 0 ≤ sz ∧ sz ≤ 4) (hn9 : 0 ≤ nn ∧ nn < 46) (h9 : M 9 ≤ 200 * nn) (hcap : cells + 41 ≤ 604022 ∧ slots + 250 ≤ 7289401) (ih : ∀ (nx sz : Int) (S : Nat → Int → Int) (M : Int → Int), LInv M → (0 ≤ nx ∧ nx ≤ 3) → (0 ≤ sz ∧ sz ≤ 4) → M 9 ≤ 200 * nn + 200 → LZ l D ct ad (cells + 1) (slots + 6) 1102 (x8W u a r q ++ (svW ct r b nx sz S ++ (sobjW a ++ (gridW ct a M ++ (benchW ct a M ++ (logW ct a M ++ (txtW ct q TX tl pl ft wd n1 n2))))))) [(0, .ref (ad 67)), (1, .ref u), (2, .int (zI nn))] []) (hyr : -2147483648 ≤ y9 ∧ y9 ≤ 2147483647) : LZ l D ct ad cells slots 130 (x8W u a r q ++ (svW ct r b nx sz S ++ (sobjW a ++ (gridW ct a M ++ (benchW ct a M ++ (logW ct a M ++ (txtW ct q TX tl pl ft wd n1 n2))))))) [(0, .ref (ad 67)), (1, .ref u), (2, .int (zI nn)), (4, .int (zI y9)), (5, .int (zI (M 3))), (6, .int (zI (M 4)))] [] := by
  intro p e s m below meth c b9 H locs ls hC hP hD hS hl
  obtain ⟨hx, hb, hr, hml, hown, hts, hlocks, hE, hst⟩ := id hC
  have hK := hE.1
  have hA : ∀ q : Nat, s.heap.size ≤ q → (fun q : Nat => s.heap.size ≤ q) q := fun _ h => h
  have hc0 : cells ≤ room_1.cells ∧ slots ≤ room_1.slots := by show cells ≤ 604022 ∧ slots ≤ 7289401; omega
  have hs := hL.1
  have hI := hs.1
  have hB := hs.2.1
  have ha := hs.2.2
  have t1 := ht.1
  have hP : va_P D vwCl (x8W u a r q ++ (svW ct r b nx sz S ++ (sobjW a ++ (gridW ct a M ++ (benchW ct a M ++ (logW ct a M ++ (txtW ct q TX tl pl ft wd n1 n2))))))) H := hP
  have hD : va_D (fun q : Nat => s.heap.size ≤ q) (x8W u a r q ++ (svW ct r b nx sz S ++ (sobjW a ++ (gridW ct a M ++ (benchW ct a M ++ (logW ct a M ++ (txtW ct q TX tl pl ft wd n1 n2))))))) := hD
  have hl : lv_has ls 13 [(0, .ref (ad 67)), (1, .ref u), (2, .int (zI nn)), (4, .int (zI y9)), (5, .int (zI (M 3))), (6, .int (zI (M 4)))] := hl
  have lwC := sp_lowB (v := y9) (n := 2) (by decide)
  refine lv_iload hx hb dL_law_130 (lv_at hl 3 rfl) ?_
  refine z_iconst hx hb dL_law_132 ?_
  refine z_callS (As := [.int (zI y9), .int (zI 2)]) (rest := []) ([] : va_W) (x8W u a r q ++ (svW ct r b nx sz S ++ (sobjW a ++ (gridW ct a M ++ (benchW ct a M ++ (logW ct a M ++ (txtW ct q TX tl pl ft wd n1 n2))))))) hx hb hml hown (fun w h => hts w (inL_153 w h)) hl hE hS hA hP hD (c_L_low l D ct ad y9 2 (by omega)) gdL_153 rfl k_L_low ⟨Nat.le_of_ble_eq_true rfl, Nat.le_of_ble_eq_true rfl⟩ rfl (Nat.le_of_ble_eq_true rfl) hc0 dL_law_133 rfl (fun v w1 H locs hpost hP hD hS => ?_)
  obtain ⟨rfl, rfl⟩ := hpost
  have hP : va_P D vwCl (x8W u a r q ++ (svW ct r b nx sz S ++ (sobjW a ++ (gridW ct a M ++ (benchW ct a M ++ (logW ct a M ++ (txtW ct q TX tl pl ft wd n1 n2))))))) H := hP
  have hD : va_D (fun q : Nat => s.heap.size ≤ q) (x8W u a r q ++ (svW ct r b nx sz S ++ (sobjW a ++ (gridW ct a M ++ (benchW ct a M ++ (logW ct a M ++ (txtW ct q TX tl pl ft wd n1 n2))))))) := hD
  refine W.eq (g2 := F0 m 136 ls [.int (zI (sp_low y9 2))]) rfl ?_
  refine z_if_ne (tgt := 143) hx hb dL_law_136 (by decide) (by omega) (fun hc_136 => ?_) (fun hc_136 => ?_)
  · have hc_136 := hc_136
    refine z_iconst hx hb dL_law_143 ?_
    exact lp_144 l D ct ad u a r q b nx sz S M TX tl pl ft n1 n2 wd nn cells slots y9 (-1) hL ht hn hsz hn9 h9 hcap ih (show -2147483648 ≤ y9 ∧ y9 ≤ 2147483647 from (by first | assumption | omega)) (show (-1) = 1 ∨ (-1) = -1 from (by first | assumption | omega)) p e s m below meth c b9 _ _ _ hC hP hD hS (lv_sub hl [0, 1, 2, 3, 4, 5] rfl)
  · have hc_136 := hc_136
    refine z_iconst hx hb dL_law_139 ?_
    refine lv_goto (tgt := 144) hx hb dL_law_140 (by decide) ?_
    exact lp_144 l D ct ad u a r q b nx sz S M TX tl pl ft n1 n2 wd nn cells slots y9 1 hL ht hn hsz hn9 h9 hcap ih (show -2147483648 ≤ y9 ∧ y9 ≤ 2147483647 from (by first | assumption | omega)) (show 1 = 1 ∨ 1 = -1 from (by first | assumption | omega)) p e s m below meth c b9 _ _ _ hC hP hD hS (lv_sub hl [0, 1, 2, 3, 4, 5] rfl)
set_option maxHeartbeats 4000000 in
set_option maxRecDepth 100000 in
theorem lp_122 (l : Launch) (D : va_G) (ct ad : Nat → Nat) (u : Nat) (a r q : Nat → Nat) (b : Nat → Nat → Nat) (nx sz : Int) (S : Nat → Int → Int) (M TX : Int → Int) (tl pl ft n1 n2 : Int) (wd : Value) (nn : Int) (cells slots : Nat) (y9 : Int) (how : Int) (r_ : Int) (hL : LInv M) (ht : tInv TX tl) (hn : 0 ≤ nx ∧ nx ≤ 3) (hsz : 0 ≤ sz ∧ sz ≤ 4) (hn9 : 0 ≤ nn ∧ nn < 46) (h9 : M 9 ≤ 200 * nn) (hcap : cells + 41 ≤ 604022 ∧ slots + 250 ≤ 7289401) (ih : ∀ (nx sz : Int) (S : Nat → Int → Int) (M : Int → Int), LInv M → (0 ≤ nx ∧ nx ≤ 3) → (0 ≤ sz ∧ sz ≤ 4) → M 9 ≤ 200 * nn + 200 → LZ l D ct ad (cells + 1) (slots + 6) 1102 (x8W u a r q ++ (svW ct r b nx sz S ++ (sobjW a ++ (gridW ct a M ++ (benchW ct a M ++ (logW ct a M ++ (txtW ct q TX tl pl ft wd n1 n2))))))) [(0, .ref (ad 67)), (1, .ref u), (2, .int (zI nn))] []) (hyr : -2147483648 ≤ y9 ∧ y9 ≤ 2147483647) (hhow : 0 ≤ how ∧ how ≤ 15) (hr9 : 0 ≤ r_ ∧ (0 < M 4 → r_ < M 4)) : LZ l D ct ad cells slots 122 (x8W u a r q ++ (svW ct r b nx sz S ++ (sobjW a ++ (gridW ct a M ++ (benchW ct a M ++ (logW ct a M ++ (txtW ct q TX tl pl ft wd n1 n2))))))) [(0, .ref (ad 67)), (1, .ref u), (2, .int (zI nn)), (4, .int (zI y9)), (5, .int (zI (M 3))), (6, .int (zI (M 4))), (7, .int (zI how))] [.int (zI r_)] := by
  intro p e s m below meth c b9 H locs ls hC hP hD hS hl
  obtain ⟨hx, hb, hr, hml, hown, hts, hlocks, hE, hst⟩ := id hC
  have hK := hE.1
  have hA : ∀ q : Nat, s.heap.size ≤ q → (fun q : Nat => s.heap.size ≤ q) q := fun _ h => h
  have hc0 : cells ≤ room_1.cells ∧ slots ≤ room_1.slots := by show cells ≤ 604022 ∧ slots ≤ 7289401; omega
  have hs := hL.1
  have hI := hs.1
  have hB := hs.2.1
  have ha := hs.2.2
  have t1 := ht.1
  have hP : va_P D vwCl (x8W u a r q ++ (svW ct r b nx sz S ++ (sobjW a ++ (gridW ct a M ++ (benchW ct a M ++ (logW ct a M ++ (txtW ct q TX tl pl ft wd n1 n2))))))) H := hP
  have hD : va_D (fun q : Nat => s.heap.size ≤ q) (x8W u a r q ++ (svW ct r b nx sz S ++ (sobjW a ++ (gridW ct a M ++ (benchW ct a M ++ (logW ct a M ++ (txtW ct q TX tl pl ft wd n1 n2))))))) := hD
  have hl : lv_has ls 13 [(0, .ref (ad 67)), (1, .ref u), (2, .int (zI nn)), (4, .int (zI y9)), (5, .int (zI (M 3))), (6, .int (zI (M 4))), (7, .int (zI how))] := hl
  have i3 := hI.1
  have i4 := hI.2.1
  refine lv_istore (lv' := [(8, .int (zI r_)), (0, .ref (ad 67)), (1, .ref u), (2, .int (zI nn)), (4, .int (zI y9)), (5, .int (zI (M 3))), (6, .int (zI (M 4))), (7, .int (zI how))]) hx hb dL_law_122 hl (by decide) rfl (fun ls hl => ?_)
  refine lv_iload hx hb dL_law_124 (lv_at hl 7 rfl) ?_
  refine z_iconst hx hb dL_law_126 ?_
  refine z_icmp_ge (tgt := 250) hx hb dL_law_127 (by decide) (by omega) (by omega) (fun hc_127 => ?_) (fun hc_127 => ?_)
  · have hc_127 := hc_127
    exact lp_250 l D ct ad u a r q b nx sz S M TX tl pl ft n1 n2 wd nn cells slots y9 how r_ hL ht hn hsz hn9 h9 hcap ih (show -2147483648 ≤ y9 ∧ y9 ≤ 2147483647 from (by first | assumption | omega)) (show 0 ≤ how ∧ how ≤ 15 from (by first | assumption | omega)) (show 0 ≤ r_ ∧ (0 < M 4 → r_ < M 4) from (by first | assumption | omega)) p e s m below meth c b9 _ _ _ hC hP hD hS (lv_sub hl [1, 2, 3, 4, 5, 6, 7, 0] rfl)
  · have hc_127 := hc_127
    exact lp_130 l D ct ad u a r q b nx sz S M TX tl pl ft n1 n2 wd nn cells slots y9 hL ht hn hsz hn9 h9 hcap ih (show -2147483648 ≤ y9 ∧ y9 ≤ 2147483647 from (by first | assumption | omega)) p e s m below meth c b9 _ _ _ hC hP hD hS (lv_sub hl [1, 2, 3, 4, 5, 6] rfl)
set_option maxHeartbeats 4000000 in
set_option maxRecDepth 100000 in
theorem lp_103 (l : Launch) (D : va_G) (ct ad : Nat → Nat) (u : Nat) (a r q : Nat → Nat) (b : Nat → Nat → Nat) (nx sz : Int) (S : Nat → Int → Int) (M TX : Int → Int) (tl pl ft n1 n2 : Int) (wd : Value) (nn : Int) (cells slots : Nat) (x9 : Int) (y9 : Int) (how : Int) (hL : LInv M) (ht : tInv TX tl) (hn : 0 ≤ nx ∧ nx ≤ 3) (hsz : 0 ≤ sz ∧ sz ≤ 4) (hn9 : 0 ≤ nn ∧ nn < 46) (h9 : M 9 ≤ 200 * nn) (hcap : cells + 41 ≤ 604022 ∧ slots + 250 ≤ 7289401) (ih : ∀ (nx sz : Int) (S : Nat → Int → Int) (M : Int → Int), LInv M → (0 ≤ nx ∧ nx ≤ 3) → (0 ≤ sz ∧ sz ≤ 4) → M 9 ≤ 200 * nn + 200 → LZ l D ct ad (cells + 1) (slots + 6) 1102 (x8W u a r q ++ (svW ct r b nx sz S ++ (sobjW a ++ (gridW ct a M ++ (benchW ct a M ++ (logW ct a M ++ (txtW ct q TX tl pl ft wd n1 n2))))))) [(0, .ref (ad 67)), (1, .ref u), (2, .int (zI nn))] []) (hxr : -2147483648 ≤ x9 ∧ x9 ≤ 2147483647) (hyr : -2147483648 ≤ y9 ∧ y9 ≤ 2147483647) (hhow : 0 ≤ how ∧ how ≤ 15) : LZ l D ct ad cells slots 103 (x8W u a r q ++ (svW ct r b nx sz S ++ (sobjW a ++ (gridW ct a M ++ (benchW ct a M ++ (logW ct a M ++ (txtW ct q TX tl pl ft wd n1 n2))))))) [(0, .ref (ad 67)), (1, .ref u), (2, .int (zI nn)), (3, .int (zI x9)), (4, .int (zI y9)), (5, .int (zI (M 3))), (6, .int (zI (M 4)))] [.int (zI how)] := by
  intro p e s m below meth c b9 H locs ls hC hP hD hS hl
  obtain ⟨hx, hb, hr, hml, hown, hts, hlocks, hE, hst⟩ := id hC
  have hK := hE.1
  have hA : ∀ q : Nat, s.heap.size ≤ q → (fun q : Nat => s.heap.size ≤ q) q := fun _ h => h
  have hc0 : cells ≤ room_1.cells ∧ slots ≤ room_1.slots := by show cells ≤ 604022 ∧ slots ≤ 7289401; omega
  have hs := hL.1
  have hI := hs.1
  have hB := hs.2.1
  have ha := hs.2.2
  have t1 := ht.1
  have hP : va_P D vwCl (x8W u a r q ++ (svW ct r b nx sz S ++ (sobjW a ++ (gridW ct a M ++ (benchW ct a M ++ (logW ct a M ++ (txtW ct q TX tl pl ft wd n1 n2))))))) H := hP
  have hD : va_D (fun q : Nat => s.heap.size ≤ q) (x8W u a r q ++ (svW ct r b nx sz S ++ (sobjW a ++ (gridW ct a M ++ (benchW ct a M ++ (logW ct a M ++ (txtW ct q TX tl pl ft wd n1 n2))))))) := hD
  have hl : lv_has ls 13 [(0, .ref (ad 67)), (1, .ref u), (2, .int (zI nn)), (3, .int (zI x9)), (4, .int (zI y9)), (5, .int (zI (M 3))), (6, .int (zI (M 4)))] := hl
  have i3 := hI.1
  have i4 := hI.2.1
  refine lv_istore (lv' := [(7, .int (zI how)), (0, .ref (ad 67)), (1, .ref u), (2, .int (zI nn)), (3, .int (zI x9)), (4, .int (zI y9)), (5, .int (zI (M 3))), (6, .int (zI (M 4)))]) hx hb dL_law_103 hl (by decide) rfl (fun ls hl => ?_)
  refine lv_iload hx hb dL_law_105 (lv_at hl 7 rfl) ?_
  refine z_if_ne (tgt := 114) hx hb dL_law_107 (by decide) (by omega) (fun hc_107 => ?_) (fun hc_107 => ?_)
  · have hc_107 := hc_107
    refine lv_iload_n hx hb dL_law_114 rfl (lv_at hl 4 rfl) ?_
    refine z_iconst hx hb dL_law_115 ?_
    refine z_ishr (n := 5) (d := 32) hx hb dL_law_116 (by omega) (by decide) (by decide) ?_
    refine lv_iload hx hb dL_law_117 (lv_at hl 7 rfl) ?_
    refine z_callS (As := [.int (zI (x9 / 32)), .int (zI (M 4))]) (rest := []) ([] : va_W) (x8W u a r q ++ (svW ct r b nx sz S ++ (sobjW a ++ (gridW ct a M ++ (benchW ct a M ++ (logW ct a M ++ (txtW ct q TX tl pl ft wd n1 n2))))))) hx hb hml hown (fun w h => hts w (inL_153 w h)) hl hE hS hA hP hD (c_L_low l D ct ad (x9 / 32) (M 4) (by omega)) gdL_153 rfl k_L_low ⟨Nat.le_of_ble_eq_true rfl, Nat.le_of_ble_eq_true rfl⟩ rfl (Nat.le_of_ble_eq_true rfl) hc0 dL_law_119 rfl (fun v w1 H locs hpost hP hD hS => ?_)
    obtain ⟨rfl, rfl⟩ := hpost
    have hP : va_P D vwCl (x8W u a r q ++ (svW ct r b nx sz S ++ (sobjW a ++ (gridW ct a M ++ (benchW ct a M ++ (logW ct a M ++ (txtW ct q TX tl pl ft wd n1 n2))))))) H := hP
    have hD : va_D (fun q : Nat => s.heap.size ≤ q) (x8W u a r q ++ (svW ct r b nx sz S ++ (sobjW a ++ (gridW ct a M ++ (benchW ct a M ++ (logW ct a M ++ (txtW ct q TX tl pl ft wd n1 n2))))))) := hD
    refine W.eq (g2 := F0 m 122 ls [.int (zI (sp_low (x9 / 32) (M 4)))]) rfl ?_
    exact lp_122 l D ct ad u a r q b nx sz S M TX tl pl ft n1 n2 wd nn cells slots y9 how (sp_low (x9 / 32) (M 4)) hL ht hn hsz hn9 h9 hcap ih (show -2147483648 ≤ y9 ∧ y9 ≤ 2147483647 from (by first | assumption | omega)) (show 0 ≤ how ∧ how ≤ 15 from (by first | assumption | omega)) (show 0 ≤ (sp_low (x9 / 32) (M 4)) ∧ (0 < M 4 → (sp_low (x9 / 32) (M 4)) < M 4) from (by first | omega | (have q9 := sp_lowB (v := x9 / 32) (n := M 4) (by omega); omega))) p e s m below meth c b9 _ _ _ hC hP hD hS (lv_sub hl [1, 2, 3, 5, 6, 7, 0] rfl)
  · have hc_107 := hc_107
    refine z_iconst hx hb dL_law_110 ?_
    refine lv_goto (tgt := 122) hx hb dL_law_111 (by decide) ?_
    exact lp_122 l D ct ad u a r q b nx sz S M TX tl pl ft n1 n2 wd nn cells slots y9 how 0 hL ht hn hsz hn9 h9 hcap ih (show -2147483648 ≤ y9 ∧ y9 ≤ 2147483647 from (by first | assumption | omega)) (show 0 ≤ how ∧ how ≤ 15 from (by first | assumption | omega)) (show 0 ≤ 0 ∧ (0 < M 4 → 0 < M 4) from (by first | omega | (have q9 := sp_lowB (v := x9 / 32) (n := M 4) (by omega); omega))) p e s m below meth c b9 _ _ _ hC hP hD hS (lv_sub hl [1, 2, 3, 5, 6, 7, 0] rfl)
set_option maxHeartbeats 4000000 in
set_option maxRecDepth 100000 in
theorem lp_55 (l : Launch) (D : va_G) (ct ad : Nat → Nat) (u : Nat) (a r q : Nat → Nat) (b : Nat → Nat → Nat) (nx sz : Int) (S : Nat → Int → Int) (M TX : Int → Int) (tl pl ft n1 n2 : Int) (wd : Value) (nn : Int) (cells slots : Nat)  (hL : LInv M) (ht : tInv TX tl) (hn : 0 ≤ nx ∧ nx ≤ 3) (hsz : 0 ≤ sz ∧ sz ≤ 4) (hn9 : 0 ≤ nn ∧ nn < 46) (h9 : M 9 ≤ 200 * nn) (hcap : cells + 41 ≤ 604022 ∧ slots + 250 ≤ 7289401) (ih : ∀ (nx sz : Int) (S : Nat → Int → Int) (M : Int → Int), LInv M → (0 ≤ nx ∧ nx ≤ 3) → (0 ≤ sz ∧ sz ≤ 4) → M 9 ≤ 200 * nn + 200 → LZ l D ct ad (cells + 1) (slots + 6) 1102 (x8W u a r q ++ (svW ct r b nx sz S ++ (sobjW a ++ (gridW ct a M ++ (benchW ct a M ++ (logW ct a M ++ (txtW ct q TX tl pl ft wd n1 n2))))))) [(0, .ref (ad 67)), (1, .ref u), (2, .int (zI nn))] [])  : LZ l D ct ad cells slots 55 (x8W u a r q ++ (svW ct r b nx sz S ++ (sobjW a ++ (gridW ct a M ++ (benchW ct a M ++ (logW ct a M ++ (txtW ct q TX tl pl ft wd n1 n2))))))) [(0, .ref (ad 67)), (1, .ref u), (2, .int (zI nn))] [] := by
  intro p e s m below meth c b9 H locs ls hC hP hD hS hl
  obtain ⟨hx, hb, hr, hml, hown, hts, hlocks, hE, hst⟩ := id hC
  have hK := hE.1
  have hA : ∀ q : Nat, s.heap.size ≤ q → (fun q : Nat => s.heap.size ≤ q) q := fun _ h => h
  have hc0 : cells ≤ room_1.cells ∧ slots ≤ room_1.slots := by show cells ≤ 604022 ∧ slots ≤ 7289401; omega
  have hs := hL.1
  have hI := hs.1
  have hB := hs.2.1
  have ha := hs.2.2
  have t1 := ht.1
  have hP : va_P D vwCl (x8W u a r q ++ (svW ct r b nx sz S ++ (sobjW a ++ (gridW ct a M ++ (benchW ct a M ++ (logW ct a M ++ (txtW ct q TX tl pl ft wd n1 n2))))))) H := hP
  have hD : va_D (fun q : Nat => s.heap.size ≤ q) (x8W u a r q ++ (svW ct r b nx sz S ++ (sobjW a ++ (gridW ct a M ++ (benchW ct a M ++ (logW ct a M ++ (txtW ct q TX tl pl ft wd n1 n2))))))) := hD
  have hl : lv_has ls 13 [(0, .ref (ad 67)), (1, .ref u), (2, .int (zI nn))] := hl
  have i3 := hI.1
  have i4 := hI.2.1
  refine lv_aload_n hx hb dL_law_55 rfl (lv_at hl 0 rfl) ?_
  refine z_iconst hx hb dL_law_56 ?_
  refine lv_iload_n hx hb dL_law_57 rfl (lv_at hl 2 rfl) ?_
  refine z_imul hx hb dL_law_58 ?_
  refine z_callS (As := [.ref (ad 67), .int (zI (2 * nn))]) (rest := []) ([] : va_W) (x8W u a r q ++ (svW ct r b nx sz S ++ (sobjW a ++ (gridW ct a M ++ (benchW ct a M ++ (logW ct a M ++ (txtW ct q TX tl pl ft wd n1 n2))))))) hx hb hml hown (fun w h => hts w (inL_203 w h)) hl hE hS hA hP hD (c_L_lot l D ct ad (2 * nn) (by omega)) gdL_203 rfl k_L_lot ⟨Nat.le_of_ble_eq_true rfl, Nat.le_of_ble_eq_true rfl⟩ rfl (Nat.le_of_ble_eq_true rfl) hc0 dL_law_59 rfl (fun v w1 H locs hpost hP hD hS => ?_)
  obtain ⟨x9, hx0_59, rfl, rfl⟩ := hpost
  have hP : va_P D vwCl (x8W u a r q ++ (svW ct r b nx sz S ++ (sobjW a ++ (gridW ct a M ++ (benchW ct a M ++ (logW ct a M ++ (txtW ct q TX tl pl ft wd n1 n2))))))) H := hP
  have hD : va_D (fun q : Nat => s.heap.size ≤ q) (x8W u a r q ++ (svW ct r b nx sz S ++ (sobjW a ++ (gridW ct a M ++ (benchW ct a M ++ (logW ct a M ++ (txtW ct q TX tl pl ft wd n1 n2))))))) := hD
  refine W.eq (g2 := F0 m 62 ls [.int (zI x9)]) rfl ?_
  refine lv_istore_n (lv' := [(3, .int (zI x9)), (0, .ref (ad 67)), (1, .ref u), (2, .int (zI nn))]) hx hb dL_law_62 rfl hl (by decide) rfl (fun ls hl => ?_)
  refine lv_aload_n hx hb dL_law_63 rfl (lv_at hl 1 rfl) ?_
  refine z_iconst hx hb dL_law_64 ?_
  refine lv_iload_n hx hb dL_law_65 rfl (lv_at hl 3 rfl) ?_
  refine z_imul hx hb dL_law_66 ?_
  refine z_iconst hx hb dL_law_67 ?_
  refine z_iadd hx hb dL_law_68 ?_
  refine z_callS (As := [.ref (ad 67), .int (zI ((2 * nn) + 1))]) (rest := []) ([] : va_W) (x8W u a r q ++ (svW ct r b nx sz S ++ (sobjW a ++ (gridW ct a M ++ (benchW ct a M ++ (logW ct a M ++ (txtW ct q TX tl pl ft wd n1 n2))))))) hx hb hml hown (fun w h => hts w (inL_203 w h)) hl hE hS hA hP hD (c_L_lot l D ct ad ((2 * nn) + 1) (by omega)) gdL_203 rfl k_L_lot ⟨Nat.le_of_ble_eq_true rfl, Nat.le_of_ble_eq_true rfl⟩ rfl (Nat.le_of_ble_eq_true rfl) hc0 dL_law_69 rfl (fun v w1 H locs hpost hP hD hS => ?_)
  obtain ⟨y9, hx0_69, rfl, rfl⟩ := hpost
  have hP : va_P D vwCl (x8W u a r q ++ (svW ct r b nx sz S ++ (sobjW a ++ (gridW ct a M ++ (benchW ct a M ++ (logW ct a M ++ (txtW ct q TX tl pl ft wd n1 n2))))))) H := hP
  have hD : va_D (fun q : Nat => s.heap.size ≤ q) (x8W u a r q ++ (svW ct r b nx sz S ++ (sobjW a ++ (gridW ct a M ++ (benchW ct a M ++ (logW ct a M ++ (txtW ct q TX tl pl ft wd n1 n2))))))) := hD
  refine W.eq (g2 := F0 m 72 ls [.int (zI y9)]) rfl ?_
  refine lv_istore (lv' := [(4, .int (zI y9)), (3, .int (zI x9)), (0, .ref (ad 67)), (1, .ref u), (2, .int (zI nn))]) hx hb dL_law_72 hl (by decide) rfl (fun ls hl => ?_)
  refine lv_aload_n hx hb dL_law_74 rfl (lv_at hl 3 rfl) ?_
  refine z_iconst hx hb dL_law_75 ?_
  refine z_callSW (As := [.ref u, .int (zI 0)]) (rest := []) ([] : va_W) ([] : va_W) hx hb hml hown (fun w h => hts w (inL_93 w h)) hl hE hS hA (zr0 ([] : va_W) hP) (zr0D ([] : va_W) hD) (c_L_whole_ok l D ct ad u a r q b nx sz S M TX tl pl ft n1 n2 wd 0 (by assumption) (by omega) (by omega)) gdL_93 rfl k_L_whole ⟨Nat.le_of_ble_eq_true rfl, Nat.le_of_ble_eq_true rfl⟩ rfl (Nat.le_of_ble_eq_true rfl) hc0 dL_law_76 rfl (fun v w1 H locs hpost hP hD hS => ?_)
  obtain ⟨rfl, rfl⟩ := hpost
  have hP := zr0' hP
  have hD := zr0D' hD
  have hP : va_P D vwCl (x8W u a r q ++ (svW ct r b nx sz S ++ (sobjW a ++ (gridW ct a M ++ (benchW ct a M ++ (logW ct a M ++ (txtW ct q TX tl pl ft wd n1 n2))))))) H := hP
  have hD : va_D (fun q : Nat => s.heap.size ≤ q) (x8W u a r q ++ (svW ct r b nx sz S ++ (sobjW a ++ (gridW ct a M ++ (benchW ct a M ++ (logW ct a M ++ (txtW ct q TX tl pl ft wd n1 n2))))))) := hD
  refine W.eq (g2 := F0 m 79 ls [.int (zI (sp_wh M tl 0))]) rfl ?_
  refine z_canI (show sp_wh M tl 0 = M 3 from rfl) ?_
  refine lv_istore (lv' := [(5, .int (zI (M 3))), (4, .int (zI y9)), (3, .int (zI x9)), (0, .ref (ad 67)), (1, .ref u), (2, .int (zI nn))]) hx hb dL_law_79 hl (by decide) rfl (fun ls hl => ?_)
  refine lv_aload_n hx hb dL_law_81 rfl (lv_at hl 4 rfl) ?_
  refine z_iconst hx hb dL_law_82 ?_
  refine z_callSW (As := [.ref u, .int (zI 1)]) (rest := []) ([] : va_W) ([] : va_W) hx hb hml hown (fun w h => hts w (inL_93 w h)) hl hE hS hA (zr0 ([] : va_W) hP) (zr0D ([] : va_W) hD) (c_L_whole_ok l D ct ad u a r q b nx sz S M TX tl pl ft n1 n2 wd 1 (by assumption) (by omega) (by omega)) gdL_93 rfl k_L_whole ⟨Nat.le_of_ble_eq_true rfl, Nat.le_of_ble_eq_true rfl⟩ rfl (Nat.le_of_ble_eq_true rfl) hc0 dL_law_83 rfl (fun v w1 H locs hpost hP hD hS => ?_)
  obtain ⟨rfl, rfl⟩ := hpost
  have hP := zr0' hP
  have hD := zr0D' hD
  have hP : va_P D vwCl (x8W u a r q ++ (svW ct r b nx sz S ++ (sobjW a ++ (gridW ct a M ++ (benchW ct a M ++ (logW ct a M ++ (txtW ct q TX tl pl ft wd n1 n2))))))) H := hP
  have hD : va_D (fun q : Nat => s.heap.size ≤ q) (x8W u a r q ++ (svW ct r b nx sz S ++ (sobjW a ++ (gridW ct a M ++ (benchW ct a M ++ (logW ct a M ++ (txtW ct q TX tl pl ft wd n1 n2))))))) := hD
  refine W.eq (g2 := F0 m 86 ls [.int (zI (sp_wh M tl 1))]) rfl ?_
  refine z_canI (show sp_wh M tl 1 = M 4 from rfl) ?_
  refine lv_istore (lv' := [(6, .int (zI (M 4))), (5, .int (zI (M 3))), (4, .int (zI y9)), (3, .int (zI x9)), (0, .ref (ad 67)), (1, .ref u), (2, .int (zI nn))]) hx hb dL_law_86 hl (by decide) rfl (fun ls hl => ?_)
  refine lv_iload_n hx hb dL_law_88 rfl (lv_at hl 6 rfl) ?_
  refine z_iconst hx hb dL_law_89 ?_
  refine z_icmp_ge (tgt := 97) hx hb dL_law_90 (by decide) (by omega) (by omega) (fun hc_90 => ?_) (fun hc_90 => ?_)
  · have hc_90 := hc_90
    refine lv_iload_n hx hb dL_law_97 rfl (lv_at hl 3 rfl) ?_
    refine z_bipush hx hb dL_law_98 (by decide) ?_
    refine z_callS (As := [.int (zI x9), .int (zI 16)]) (rest := []) ([] : va_W) (x8W u a r q ++ (svW ct r b nx sz S ++ (sobjW a ++ (gridW ct a M ++ (benchW ct a M ++ (logW ct a M ++ (txtW ct q TX tl pl ft wd n1 n2))))))) hx hb hml hown (fun w h => hts w (inL_153 w h)) hl hE hS hA hP hD (c_L_low l D ct ad x9 16 (by omega)) gdL_153 rfl k_L_low ⟨Nat.le_of_ble_eq_true rfl, Nat.le_of_ble_eq_true rfl⟩ rfl (Nat.le_of_ble_eq_true rfl) hc0 dL_law_100 rfl (fun v w1 H locs hpost hP hD hS => ?_)
    obtain ⟨rfl, rfl⟩ := hpost
    have hP : va_P D vwCl (x8W u a r q ++ (svW ct r b nx sz S ++ (sobjW a ++ (gridW ct a M ++ (benchW ct a M ++ (logW ct a M ++ (txtW ct q TX tl pl ft wd n1 n2))))))) H := hP
    have hD : va_D (fun q : Nat => s.heap.size ≤ q) (x8W u a r q ++ (svW ct r b nx sz S ++ (sobjW a ++ (gridW ct a M ++ (benchW ct a M ++ (logW ct a M ++ (txtW ct q TX tl pl ft wd n1 n2))))))) := hD
    refine W.eq (g2 := F0 m 103 ls [.int (zI (sp_low x9 16))]) rfl ?_
    exact lp_103 l D ct ad u a r q b nx sz S M TX tl pl ft n1 n2 wd nn cells slots x9 y9 (sp_low x9 16) hL ht hn hsz hn9 h9 hcap ih (show -2147483648 ≤ x9 ∧ x9 ≤ 2147483647 from (by exact hx0_59)) (show -2147483648 ≤ y9 ∧ y9 ≤ 2147483647 from (by exact hx0_69)) (show 0 ≤ (sp_low x9 16) ∧ (sp_low x9 16) ≤ 15 from (by first | omega | (have q9 := sp_lowB (v := x9) (n := 16) (by decide); omega))) p e s m below meth c b9 _ _ _ hC hP hD hS (lv_sub hl [4, 5, 6, 3, 2, 1, 0] rfl)
  · have hc_90 := hc_90
    refine z_iconst hx hb dL_law_93 ?_
    refine lv_goto (tgt := 103) hx hb dL_law_94 (by decide) ?_
    exact lp_103 l D ct ad u a r q b nx sz S M TX tl pl ft n1 n2 wd nn cells slots x9 y9 0 hL ht hn hsz hn9 h9 hcap ih (show -2147483648 ≤ x9 ∧ x9 ≤ 2147483647 from (by exact hx0_59)) (show -2147483648 ≤ y9 ∧ y9 ≤ 2147483647 from (by exact hx0_69)) (show 0 ≤ 0 ∧ 0 ≤ 15 from (by first | omega | (have q9 := sp_lowB (v := x9) (n := 16) (by decide); omega))) p e s m below meth c b9 _ _ _ hC hP hD hS (lv_sub hl [4, 5, 6, 3, 2, 1, 0] rfl)
