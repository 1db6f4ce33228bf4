theorem k_X8_addMetal : yX8_addMetal.cls ≠ "java/lang/invoke/MethodHandle" ∧ yX8_addMetal.cls ≠ "java/lang/invoke/VarHandle" ∧ (parseMethodDescriptor yX8_addMetal.desc).map (fun d => d.parameters.length) = some 1 := by decide +kernel
set_option maxHeartbeats 4000000 in
set_option maxRecDepth 100000 in
theorem c_L_addMetal_ok (l : Launch) (D : va_G) (ct ad : Nat → Nat) (u : Nat) (a r q : Nat → Nat) (b : Nat → Nat → Nat) (nx sz : Int) (S : Nat → Int → Int) (M TX : Int → Int) (tl pl ft n1 n2 : Int) (wd : Value) (o0 : Nat) (O : Int → Int) (v : Int) (hs : sInv M) (hn : 0 ≤ nx ∧ nx ≤ 3) (hsz : 0 ≤ sz ∧ sz ≤ 4) (h2 : -2147483648 ≤ v ∧ v ≤ 2147483647) (hok : ck_metal M v = 0) (hv : -2147483648 ≤ M 3 ∧ M 3 ≤ 2147483647) : ZM l yL_addMetal wsL_addMetal ({ frames := 5, cells := 0, slots := 0, locals := 103 } : Room) D ct ad [.ref u, .int (zI v), .ref o0] (x8W u a r q ++ (svW ct r b nx sz S ++ (sobjW a ++ (gridW ct a M ++ (benchW ct a M ++ (logW ct a M ++ (txtW ct q TX tl pl ft wd n1 n2 ++ (jrW ct o0 1 O)))))))) (zD (some (.int (zI 0))) (x8W u a r q ++ (svW ct r b ((nx + 1) % 4) (min (sz + 1) 4) (updS S nx M) ++ (sobjW a ++ (gridW ct a (st_metal M v) ++ (benchW ct a (st_metal M v) ++ (logW ct a (st_metal M v) ++ (txtW ct q TX tl pl ft wd n1 n2 ++ (jrW ct o0 1 (up O 0 (M 3))))))))))) := by
  refine ZM.ofH (cc := cL_addMetal) (maxL := 4) (ret := (some .int)) (by decide +kernel) rfl (Nat.le_of_ble_eq_true rfl) ?_
  intro p e s m below meth c A ls hx hb hr hts hown hlocks hml hTab hE hP hD hA hS hl
  have hK := hE.1
  have hl : lv_has ls 4 [(0, .ref u), (1, .int (zI v)), (2, .ref o0)] := hl
  refine lv_aload_n hx hb dL_addMetal_0 rfl (lv_at hl 2 rfl) ?_
  refine z_iconst hx hb dL_addMetal_1 ?_
  refine lv_aload_n hx hb dL_addMetal_2 rfl (lv_at hl 0 rfl) ?_
  refine lv_iload_n hx hb dL_addMetal_3 rfl (lv_at hl 1 rfl) ?_
  refine z_callV (C := RX8) (q0 := 0) (ci := 6) (As := [.int (zI v)]) (rest := [.int (zI 0), .ref o0]) ([] : va_W) (jrW ct o0 1 O) hx hb hml hown hts hl hE hS hA hP hD (c_X8_addMetal l D ct ad u a r q b nx sz S M TX tl pl ft n1 n2 wd v (by assumption) (by omega) (by omega) (by omega) (by omega)) gL_addMetal_X8_addMetal rfl rfl k_X8_addMetal ⟨Nat.le_of_ble_eq_true rfl, Nat.le_of_ble_eq_true rfl⟩ rfl rfl rfl rfl (Nat.le_of_ble_eq_true rfl) ⟨Nat.le_of_ble_eq_true rfl, Nat.le_of_ble_eq_true rfl⟩ dL_addMetal_4 rfl (fun v w1 H locs hpost hP hD hS => ?_)
  obtain ⟨rfl, rfl⟩ := hpost
  have hP : va_P D vwCl (x8W u a r q ++ (svW ct r b ((nx + 1) % 4) (min (sz + 1) 4) (updS S nx M) ++ (sobjW a ++ (gridW ct a (st_metal M v) ++ (benchW ct a (st_metal M v) ++ (logW ct a (st_metal M v) ++ (txtW ct q TX tl pl ft wd n1 n2 ++ (jrW ct o0 1 O)))))))) H := hP
  have hD : va_D A (x8W u a r q ++ (svW ct r b ((nx + 1) % 4) (min (sz + 1) 4) (updS S nx M) ++ (sobjW a ++ (gridW ct a (st_metal M v) ++ (benchW ct a (st_metal M v) ++ (logW ct a (st_metal M v) ++ (txtW ct q TX tl pl ft wd n1 n2 ++ (jrW ct o0 1 O)))))))) := hD
  refine W.eq (g2 := F0 m 7 ls [.int (zI (M 3)), .int (zI 0), .ref o0]) rfl ?_
  refine z_i2l hx hb dL_addMetal_7 (by omega) ?_
  refine z_last (g := O) (w2 := x8W u a r q ++ (svW ct r b ((nx + 1) % 4) (min (sz + 1) 4) (updS S nx M) ++ (sobjW a ++ (gridW ct a (st_metal M v) ++ (benchW ct a (st_metal M v) ++ (logW ct a (st_metal M v) ++ (txtW ct q TX tl pl ft wd n1 n2 ++ (jrW ct o0 1 (up O 0 (M 3)))))))))) hx hb hK hP hD hS 60 rfl (by decide) (by omega) dL_addMetal_8 (rfl) (fun H locs hP hD hS => ?_)
  refine lv_goto (tgt := 18) hx hb dL_addMetal_9 (by decide) ?_
  refine z_iconst hx hb dL_addMetal_18 ?_
  exact z_iret hx hb hr hlocks hP hD hS ⟨Nat.le_of_ble_eq_true rfl, Nat.le_of_ble_eq_true rfl⟩ dL_addMetal_19 (⟨congrArg (fun z => some (Value.int (zI z))) (rfl), rfl⟩)
set_option maxHeartbeats 4000000 in
set_option maxRecDepth 100000 in
theorem c_L_addMetal_no (l : Launch) (D : va_G) (ct ad : Nat → Nat) (u : Nat) (a r q : Nat → Nat) (b : Nat → Nat → Nat) (nx sz : Int) (S : Nat → Int → Int) (M TX : Int → Int) (tl pl ft n1 n2 : Int) (wd : Value) (o0 : Nat) (O : Int → Int) (v : Int) (hs : sInv M) (hst : l.stackTraces = false) (h2 : -2147483648 ≤ v ∧ v ≤ 2147483647) (hno : ck_metal M v ≠ 0) : ZM l yL_addMetal wsL_addMetal ({ frames := 8, cells := 1, slots := 6, locals := 123 } : Room) D ct ad [.ref u, .int (zI v), .ref o0] (x8W u a r q ++ (svW ct r b nx sz S ++ (sobjW a ++ (gridW ct a M ++ (benchW ct a M ++ (logW ct a M ++ (txtW ct q TX tl pl ft wd n1 n2 ++ (jrW ct o0 1 O)))))))) (zD (some (.int (zI (ck1 (ck_metal M v))))) (x8W u a r q ++ (svW ct r b nx sz S ++ (sobjW a ++ (gridW ct a M ++ (benchW ct a M ++ (logW ct a M ++ (txtW ct q TX tl pl ft wd n1 n2 ++ (jrW ct o0 1 O))))))))) := by
  refine ZM.ofH (cc := cL_addMetal) (maxL := 4) (ret := (some .int)) (by decide +kernel) rfl (Nat.le_of_ble_eq_true rfl) ?_
  intro p e s m below meth c A ls hx hb hr hts hown hlocks hml hTab hE hP hD hA hS hl
  have hK := hE.1
  have hf_0 := hts (.classLink RL 13 "java/lang/IllegalArgumentException") (by decide +kernel)
  have hf_1 := hts (.classLink RL 15 "java/lang/IllegalStateException") (by decide +kernel)
  have hl : lv_has ls 4 [(0, .ref u), (1, .int (zI v)), (2, .ref o0)] := hl
  refine lv_aload_n hx hb dL_addMetal_0 rfl (lv_at hl 2 rfl) ?_
  refine z_iconst hx hb dL_addMetal_1 ?_
  refine lv_aload_n hx hb dL_addMetal_2 rfl (lv_at hl 0 rfl) ?_
  refine lv_iload_n hx hb dL_addMetal_3 rfl (lv_at hl 1 rfl) ?_
  rcases (show ck_metal M v = 2 ∨ ck_metal M v = 3 from (by have q9 := hno; unfold ck_metal at q9 ⊢; (repeat' split) <;> (repeat' split at q9) <;> omega)) with hck | hck
  · refine z_catV (C := RX8) (q0 := 0) (ci := 6) (E := "java/lang/IllegalArgumentException") (name := "java/lang/IllegalArgumentException") (As := [.int (zI v)]) (rest := [.int (zI 0), .ref o0]) ([] : va_W) (jrW ct o0 1 O) hx hb hml hown hts hl hE hS hA hP hD (ZX.toE (c_X8_addMetal_x l D ct ad u a r q b nx sz S M TX tl pl ft n1 n2 wd v (by assumption) hst (by omega) (by omega)) ((by rw [hck]; rfl))) gL_addMetal_X8_addMetal rfl rfl k_X8_addMetal ⟨Nat.le_of_ble_eq_true rfl, Nat.le_of_ble_eq_true rfl⟩ rfl rfl rfl rfl (Nat.le_of_ble_eq_true rfl) ⟨Nat.le_of_ble_eq_true rfl, Nat.le_of_ble_eq_true rfl⟩ dL_addMetal_4 rfl [] ({ startPc := 0, endPc := 9, handlerPc := 12, catchType := 13 } : ExceptionTableEntry) [({ startPc := 0, endPc := 9, handlerPc := 15, catchType := 15 } : ExceptionTableEntry)] (hTab.trans rfl) (fun z hz => nomatch hz) (by decide) (by decide) hf_0 (hE.2.1.1 _ (List.mem_of_getElem? (i := 19) rfl)) (fun q9_4 H locs hP hD hS => ?_)
    have hP : va_P D vwCl (x8W u a r q ++ (svW ct r b nx sz S ++ (sobjW a ++ (gridW ct a M ++ (benchW ct a M ++ (logW ct a M ++ (txtW ct q TX tl pl ft wd n1 n2 ++ (jrW ct o0 1 O)))))))) H := hP
    have hD : va_D A (x8W u a r q ++ (svW ct r b nx sz S ++ (sobjW a ++ (gridW ct a M ++ (benchW ct a M ++ (logW ct a M ++ (txtW ct q TX tl pl ft wd n1 n2 ++ (jrW ct o0 1 O)))))))) := hD
    refine W.eq (g2 := F0 m 12 ls [.ref q9_4]) rfl ?_
    refine lv_astore_n (lv' := [(3, .ref q9_4), (0, .ref u), (1, .int (zI v)), (2, .ref o0)]) hx hb dL_addMetal_12 rfl hl (by decide) rfl (fun ls hl => ?_)
    refine z_iconst hx hb dL_addMetal_13 ?_
    exact z_iret hx hb hr hlocks hP hD hS ⟨Nat.le_of_ble_eq_true rfl, Nat.le_of_ble_eq_true rfl⟩ dL_addMetal_14 (⟨congrArg (fun z => some (Value.int (zI z))) (by first | rfl | omega | (unfold ck1; split <;> omega) | (split <;> omega)), rfl⟩)
  · refine z_catV (C := RX8) (q0 := 0) (ci := 6) (E := "java/lang/IllegalStateException") (name := "java/lang/IllegalStateException") (As := [.int (zI v)]) (rest := [.int (zI 0), .ref o0]) ([] : va_W) (jrW ct o0 1 O) hx hb hml hown hts hl hE hS hA hP hD (ZX.toE (c_X8_addMetal_x l D ct ad u a r q b nx sz S M TX tl pl ft n1 n2 wd v (by assumption) hst (by omega) (by omega)) ((by rw [hck]; rfl))) gL_addMetal_X8_addMetal rfl rfl k_X8_addMetal ⟨Nat.le_of_ble_eq_true rfl, Nat.le_of_ble_eq_true rfl⟩ rfl rfl rfl rfl (Nat.le_of_ble_eq_true rfl) ⟨Nat.le_of_ble_eq_true rfl, Nat.le_of_ble_eq_true rfl⟩ dL_addMetal_4 rfl [({ startPc := 0, endPc := 9, handlerPc := 12, catchType := 13 } : ExceptionTableEntry)] ({ startPc := 0, endPc := 9, handlerPc := 15, catchType := 15 } : ExceptionTableEntry) [] (hTab.trans rfl) (fun z hz => by simp only [List.mem_cons, List.not_mem_nil, or_false] at hz; rcases hz with rfl; exact Or.inr ⟨by decide, "java/lang/IllegalArgumentException", hf_0, hE.2.1.2 ("java/lang/IllegalStateException", "java/lang/IllegalArgumentException") (by decide)⟩) (by decide) (by decide) hf_1 (hE.2.1.1 _ (List.mem_of_getElem? (i := 20) rfl)) (fun q9_4 H locs hP hD hS => ?_)
    have hP : va_P D vwCl (x8W u a r q ++ (svW ct r b nx sz S ++ (sobjW a ++ (gridW ct a M ++ (benchW ct a M ++ (logW ct a M ++ (txtW ct q TX tl pl ft wd n1 n2 ++ (jrW ct o0 1 O)))))))) H := hP
    have hD : va_D A (x8W u a r q ++ (svW ct r b nx sz S ++ (sobjW a ++ (gridW ct a M ++ (benchW ct a M ++ (logW ct a M ++ (txtW ct q TX tl pl ft wd n1 n2 ++ (jrW ct o0 1 O)))))))) := hD
    refine W.eq (g2 := F0 m 15 ls [.ref q9_4]) rfl ?_
    refine lv_astore_n (lv' := [(3, .ref q9_4), (0, .ref u), (1, .int (zI v)), (2, .ref o0)]) hx hb dL_addMetal_15 rfl hl (by decide) rfl (fun ls hl => ?_)
    refine z_iconst hx hb dL_addMetal_16 ?_
    exact z_iret hx hb hr hlocks hP hD hS ⟨Nat.le_of_ble_eq_true rfl, Nat.le_of_ble_eq_true rfl⟩ dL_addMetal_17 (⟨congrArg (fun z => some (Value.int (zI z))) (by first | rfl | omega | (unfold ck1; split <;> omega) | (split <;> omega)), rfl⟩)
theorem k_X8_setStretch : yX8_setStretch.cls ≠ "java/lang/invoke/MethodHandle" ∧ yX8_setStretch.cls ≠ "java/lang/invoke/VarHandle" ∧ (parseMethodDescriptor yX8_setStretch.desc).map (fun d => d.parameters.length) = some 2 := by decide +kernel
set_option maxHeartbeats 4000000 in
set_option maxRecDepth 100000 in
theorem c_L_setStretch_ok (l : Launch) (D : va_G) (ct ad : Nat → Nat) (u : Nat) (a r q : Nat → Nat) (b : Nat → Nat → Nat) (nx sz : Int) (S : Nat → Int → Int) (M TX : Int → Int) (tl pl ft n1 n2 : Int) (wd : Value) (o0 : Nat) (O : Int → Int) (k v : Int) (hs : sInv M) (hn : 0 ≤ nx ∧ nx ≤ 3) (hsz : 0 ≤ sz ∧ sz ≤ 4) (h1 : -2147483648 ≤ k ∧ k ≤ 2147483647) (h2 : -2147483648 ≤ v ∧ v ≤ 2147483647) (hok : ck_stretch M k v = 0) (hv : -2147483648 ≤ M (16 + k) ∧ M (16 + k) ≤ 2147483647) : ZM l yL_setStretch wsL_setStretch ({ frames := 5, cells := 0, slots := 0, locals := 104 } : Room) D ct ad [.ref u, .int (zI k), .int (zI v), .ref o0] (x8W u a r q ++ (svW ct r b nx sz S ++ (sobjW a ++ (gridW ct a M ++ (benchW ct a M ++ (logW ct a M ++ (txtW ct q TX tl pl ft wd n1 n2 ++ (jrW ct o0 1 O)))))))) (zD (some (.int (zI 0))) (x8W u a r q ++ (svW ct r b ((nx + 1) % 4) (min (sz + 1) 4) (updS S nx M) ++ (sobjW a ++ (gridW ct a (up M (16 + k) v) ++ (benchW ct a (up M (16 + k) v) ++ (logW ct a (up M (16 + k) v) ++ (txtW ct q TX tl pl ft wd n1 n2 ++ (jrW ct o0 1 (up O 0 (M (16 + k)))))))))))) := by
  refine ZM.ofH (cc := cL_setStretch) (maxL := 5) (ret := (some .int)) (by decide +kernel) rfl (Nat.le_of_ble_eq_true rfl) ?_
  intro p e s m below meth c A ls hx hb hr hts hown hlocks hml hTab hE hP hD hA hS hl
  have hK := hE.1
  have hl : lv_has ls 5 [(0, .ref u), (1, .int (zI k)), (2, .int (zI v)), (3, .ref o0)] := hl
  refine lv_aload_n hx hb dL_setStretch_0 rfl (lv_at hl 3 rfl) ?_
  refine z_iconst hx hb dL_setStretch_1 ?_
  refine lv_aload_n hx hb dL_setStretch_2 rfl (lv_at hl 0 rfl) ?_
  refine lv_iload_n hx hb dL_setStretch_3 rfl (lv_at hl 1 rfl) ?_
  refine lv_iload_n hx hb dL_setStretch_4 rfl (lv_at hl 2 rfl) ?_
  refine z_callV (C := RX8) (q0 := 0) (ci := 6) (As := [.int (zI k), .int (zI v)]) (rest := [.int (zI 0), .ref o0]) ([] : va_W) (jrW ct o0 1 O) hx hb hml hown hts hl hE hS hA hP hD (c_X8_setStretch l D ct ad u a r q b nx sz S M TX tl pl ft n1 n2 wd k v (by assumption) (by omega) (by omega) (by omega) (by omega) (by omega)) gL_setStretch_X8_setStretch rfl rfl k_X8_setStretch ⟨Nat.le_of_ble_eq_true rfl, Nat.le_of_ble_eq_true rfl⟩ rfl rfl rfl rfl (Nat.le_of_ble_eq_true rfl) ⟨Nat.le_of_ble_eq_true rfl, Nat.le_of_ble_eq_true rfl⟩ dL_setStretch_5 rfl (fun v w1 H locs hpost hP hD hS => ?_)
  obtain ⟨rfl, rfl⟩ := hpost
  have hP : va_P D vwCl (x8W u a r q ++ (svW ct r b ((nx + 1) % 4) (min (sz + 1) 4) (updS S nx M) ++ (sobjW a ++ (gridW ct a (up M (16 + k) v) ++ (benchW ct a (up M (16 + k) v) ++ (logW ct a (up M (16 + k) v) ++ (txtW ct q TX tl pl ft wd n1 n2 ++ (jrW ct o0 1 O)))))))) H := hP
  have hD : va_D A (x8W u a r q ++ (svW ct r b ((nx + 1) % 4) (min (sz + 1) 4) (updS S nx M) ++ (sobjW a ++ (gridW ct a (up M (16 + k) v) ++ (benchW ct a (up M (16 + k) v) ++ (logW ct a (up M (16 + k) v) ++ (txtW ct q TX tl pl ft wd n1 n2 ++ (jrW ct o0 1 O)))))))) := hD
  refine W.eq (g2 := F0 m 8 ls [.int (zI (M (16 + k))), .int (zI 0), .ref o0]) rfl ?_
  refine z_i2l hx hb dL_setStretch_8 (by omega) ?_
  refine z_last (g := O) (w2 := x8W u a r q ++ (svW ct r b ((nx + 1) % 4) (min (sz + 1) 4) (updS S nx M) ++ (sobjW a ++ (gridW ct a (up M (16 + k) v) ++ (benchW ct a (up M (16 + k) v) ++ (logW ct a (up M (16 + k) v) ++ (txtW ct q TX tl pl ft wd n1 n2 ++ (jrW ct o0 1 (up O 0 (M (16 + k))))))))))) hx hb hK hP hD hS 60 rfl (by decide) (by omega) dL_setStretch_9 (rfl) (fun H locs hP hD hS => ?_)
  refine lv_goto (tgt := 21) hx hb dL_setStretch_10 (by decide) ?_
  refine z_iconst hx hb dL_setStretch_21 ?_
  exact z_iret hx hb hr hlocks hP hD hS ⟨Nat.le_of_ble_eq_true rfl, Nat.le_of_ble_eq_true rfl⟩ dL_setStretch_22 (⟨congrArg (fun z => some (Value.int (zI z))) (rfl), rfl⟩)
set_option maxHeartbeats 4000000 in
set_option maxRecDepth 100000 in
theorem c_L_setStretch_no (l : Launch) (D : va_G) (ct ad : Nat → Nat) (u : Nat) (a r q : Nat → Nat) (b : Nat → Nat → Nat) (nx sz : Int) (S : Nat → Int → Int) (M TX : Int → Int) (tl pl ft n1 n2 : Int) (wd : Value) (o0 : Nat) (O : Int → Int) (k v : Int) (hs : sInv M) (hst : l.stackTraces = false) (h1 : -2147483648 ≤ k ∧ k ≤ 2147483647) (h2 : -2147483648 ≤ v ∧ v ≤ 2147483647) (hno : ck_stretch M k v ≠ 0) : ZM l yL_setStretch wsL_setStretch ({ frames := 8, cells := 1, slots := 6, locals := 124 } : Room) D ct ad [.ref u, .int (zI k), .int (zI v), .ref o0] (x8W u a r q ++ (svW ct r b nx sz S ++ (sobjW a ++ (gridW ct a M ++ (benchW ct a M ++ (logW ct a M ++ (txtW ct q TX tl pl ft wd n1 n2 ++ (jrW ct o0 1 O)))))))) (zD (some (.int (zI (ck_stretch M k v)))) (x8W u a r q ++ (svW ct r b nx sz S ++ (sobjW a ++ (gridW ct a M ++ (benchW ct a M ++ (logW ct a M ++ (txtW ct q TX tl pl ft wd n1 n2 ++ (jrW ct o0 1 O))))))))) := by
  refine ZM.ofH (cc := cL_setStretch) (maxL := 5) (ret := (some .int)) (by decide +kernel) rfl (Nat.le_of_ble_eq_true rfl) ?_
  intro p e s m below meth c A ls hx hb hr hts hown hlocks hml hTab hE hP hD hA hS hl
  have hK := hE.1
  have hf_0 := hts (.classLink RL 21 "java/lang/IndexOutOfBoundsException") (by decide +kernel)
  have hf_1 := hts (.classLink RL 13 "java/lang/IllegalArgumentException") (by decide +kernel)
  have hl : lv_has ls 5 [(0, .ref u), (1, .int (zI k)), (2, .int (zI v)), (3, .ref o0)] := hl
  refine lv_aload_n hx hb dL_setStretch_0 rfl (lv_at hl 3 rfl) ?_
  refine z_iconst hx hb dL_setStretch_1 ?_
  refine lv_aload_n hx hb dL_setStretch_2 rfl (lv_at hl 0 rfl) ?_
  refine lv_iload_n hx hb dL_setStretch_3 rfl (lv_at hl 1 rfl) ?_
  refine lv_iload_n hx hb dL_setStretch_4 rfl (lv_at hl 2 rfl) ?_
  rcases (show ck_stretch M k v = 1 ∨ ck_stretch M k v = 2 from (by have q9 := hno; unfold ck_stretch at q9 ⊢; (repeat' split) <;> (repeat' split at q9) <;> omega)) with hck | hck
  · refine z_catV (C := RX8) (q0 := 0) (ci := 6) (E := "java/lang/IndexOutOfBoundsException") (name := "java/lang/IndexOutOfBoundsException") (As := [.int (zI k), .int (zI v)]) (rest := [.int (zI 0), .ref o0]) ([] : va_W) (jrW ct o0 1 O) hx hb hml hown hts hl hE hS hA hP hD (ZX.toE (c_X8_setStretch_x l D ct ad u a r q b nx sz S M TX tl pl ft n1 n2 wd k v (by assumption) hst (by omega) (by omega) (by omega)) ((by rw [hck]; rfl))) gL_setStretch_X8_setStretch rfl rfl k_X8_setStretch ⟨Nat.le_of_ble_eq_true rfl, Nat.le_of_ble_eq_true rfl⟩ rfl rfl rfl rfl (Nat.le_of_ble_eq_true rfl) ⟨Nat.le_of_ble_eq_true rfl, Nat.le_of_ble_eq_true rfl⟩ dL_setStretch_5 rfl [] ({ startPc := 0, endPc := 10, handlerPc := 13, catchType := 21 } : ExceptionTableEntry) [({ startPc := 0, endPc := 10, handlerPc := 17, catchType := 13 } : ExceptionTableEntry)] (hTab.trans rfl) (fun z hz => nomatch hz) (by decide) (by decide) hf_0 (hE.2.1.1 _ (List.mem_of_getElem? (i := 18) rfl)) (fun q9_5 H locs hP hD hS => ?_)
    have hP : va_P D vwCl (x8W u a r q ++ (svW ct r b nx sz S ++ (sobjW a ++ (gridW ct a M ++ (benchW ct a M ++ (logW ct a M ++ (txtW ct q TX tl pl ft wd n1 n2 ++ (jrW ct o0 1 O)))))))) H := hP
    have hD : va_D A (x8W u a r q ++ (svW ct r b nx sz S ++ (sobjW a ++ (gridW ct a M ++ (benchW ct a M ++ (logW ct a M ++ (txtW ct q TX tl pl ft wd n1 n2 ++ (jrW ct o0 1 O)))))))) := hD
    refine W.eq (g2 := F0 m 13 ls [.ref q9_5]) rfl ?_
    refine lv_astore (lv' := [(4, .ref q9_5), (0, .ref u), (1, .int (zI k)), (2, .int (zI v)), (3, .ref o0)]) hx hb dL_setStretch_13 hl (by decide) rfl (fun ls hl => ?_)
    refine z_iconst hx hb dL_setStretch_15 ?_
    exact z_iret hx hb hr hlocks hP hD hS ⟨Nat.le_of_ble_eq_true rfl, Nat.le_of_ble_eq_true rfl⟩ dL_setStretch_16 (⟨congrArg (fun z => some (Value.int (zI z))) (by first | rfl | omega | (unfold ck1; split <;> omega) | (split <;> omega)), rfl⟩)
  · refine z_catV (C := RX8) (q0 := 0) (ci := 6) (E := "java/lang/IllegalArgumentException") (name := "java/lang/IllegalArgumentException") (As := [.int (zI k), .int (zI v)]) (rest := [.int (zI 0), .ref o0]) ([] : va_W) (jrW ct o0 1 O) hx hb hml hown hts hl hE hS hA hP hD (ZX.toE (c_X8_setStretch_x l D ct ad u a r q b nx sz S M TX tl pl ft n1 n2 wd k v (by assumption) hst (by omega) (by omega) (by omega)) ((by rw [hck]; rfl))) gL_setStretch_X8_setStretch rfl rfl k_X8_setStretch ⟨Nat.le_of_ble_eq_true rfl, Nat.le_of_ble_eq_true rfl⟩ rfl rfl rfl rfl (Nat.le_of_ble_eq_true rfl) ⟨Nat.le_of_ble_eq_true rfl, Nat.le_of_ble_eq_true rfl⟩ dL_setStretch_5 rfl [({ startPc := 0, endPc := 10, handlerPc := 13, catchType := 21 } : ExceptionTableEntry)] ({ startPc := 0, endPc := 10, handlerPc := 17, catchType := 13 } : ExceptionTableEntry) [] (hTab.trans rfl) (fun z hz => by simp only [List.mem_cons, List.not_mem_nil, or_false] at hz; rcases hz with rfl; exact Or.inr ⟨by decide, "java/lang/IndexOutOfBoundsException", hf_0, hE.2.1.2 ("java/lang/IllegalArgumentException", "java/lang/IndexOutOfBoundsException") (by decide)⟩) (by decide) (by decide) hf_1 (hE.2.1.1 _ (List.mem_of_getElem? (i := 19) rfl)) (fun q9_5 H locs hP hD hS => ?_)
    have hP : va_P D vwCl (x8W u a r q ++ (svW ct r b nx sz S ++ (sobjW a ++ (gridW ct a M ++ (benchW ct a M ++ (logW ct a M ++ (txtW ct q TX tl pl ft wd n1 n2 ++ (jrW ct o0 1 O)))))))) H := hP
    have hD : va_D A (x8W u a r q ++ (svW ct r b nx sz S ++ (sobjW a ++ (gridW ct a M ++ (benchW ct a M ++ (logW ct a M ++ (txtW ct q TX tl pl ft wd n1 n2 ++ (jrW ct o0 1 O)))))))) := hD
    refine W.eq (g2 := F0 m 17 ls [.ref q9_5]) rfl ?_
    refine lv_astore (lv' := [(4, .ref q9_5), (0, .ref u), (1, .int (zI k)), (2, .int (zI v)), (3, .ref o0)]) hx hb dL_setStretch_17 hl (by decide) rfl (fun ls hl => ?_)
    refine z_iconst hx hb dL_setStretch_19 ?_
    exact z_iret hx hb hr hlocks hP hD hS ⟨Nat.le_of_ble_eq_true rfl, Nat.le_of_ble_eq_true rfl⟩ dL_setStretch_20 (⟨congrArg (fun z => some (Value.int (zI z))) (by first | rfl | omega | (unfold ck1; split <;> omega) | (split <;> omega)), rfl⟩)
theorem k_X8_addRod : yX8_addRod.cls ≠ "java/lang/invoke/MethodHandle" ∧ yX8_addRod.cls ≠ "java/lang/invoke/VarHandle" ∧ (parseMethodDescriptor yX8_addRod.desc).map (fun d => d.parameters.length) = some 3 := by decide +kernel
set_option maxHeartbeats 4000000 in
set_option maxRecDepth 100000 in
theorem c_L_addRod_ok (l : Launch) (D : va_G) (ct ad : Nat → Nat) (u : Nat) (a r q : Nat → Nat) (b : Nat → Nat → Nat) (nx sz : Int) (S : Nat → Int → Int) (M TX : Int → Int) (tl pl ft n1 n2 : Int) (wd : Value) (o0 : Nat) (O : Int → Int) (k d n : Int) (hs : sInv M) (hn : 0 ≤ nx ∧ nx ≤ 3) (hsz : 0 ≤ sz ∧ sz ≤ 4) (h1 : -2147483648 ≤ k ∧ k ≤ 2147483647) (h2 : -2147483648 ≤ d ∧ d ≤ 2147483647) (h3 : -2147483648 ≤ n ∧ n ≤ 2147483647) (hok : ck_rod M k d n = 0) (hv : -2147483648 ≤ M 4 ∧ M 4 ≤ 2147483647) : ZM l yL_addRod wsL_addRod ({ frames := 5, cells := 0, slots := 0, locals := 105 } : Room) D ct ad [.ref u, .int (zI k), .int (zI d), .int (zI n), .ref o0] (x8W u a r q ++ (svW ct r b nx sz S ++ (sobjW a ++ (gridW ct a M ++ (benchW ct a M ++ (logW ct a M ++ (txtW ct q TX tl pl ft wd n1 n2 ++ (jrW ct o0 1 O)))))))) (zD (some (.int (zI 0))) (x8W u a r q ++ (svW ct r b ((nx + 1) % 4) (min (sz + 1) 4) (updS S nx M) ++ (sobjW a ++ (gridW ct a (st_rod M k d n) ++ (benchW ct a (st_rod M k d n) ++ (logW ct a (st_rod M k d n) ++ (txtW ct q TX tl pl ft wd n1 n2 ++ (jrW ct o0 1 (up O 0 (M 4))))))))))) := by
  refine ZM.ofH (cc := cL_addRod) (maxL := 6) (ret := (some .int)) (by decide +kernel) rfl (Nat.le_of_ble_eq_true rfl) ?_
  intro p e s m below meth c A ls hx hb hr hts hown hlocks hml hTab hE hP hD hA hS hl
  have hK := hE.1
  have hl : lv_has ls 6 [(0, .ref u), (1, .int (zI k)), (2, .int (zI d)), (3, .int (zI n)), (4, .ref o0)] := hl
  refine lv_aload hx hb dL_addRod_0 (lv_at hl 4 rfl) ?_
  refine z_iconst hx hb dL_addRod_2 ?_
  refine lv_aload_n hx hb dL_addRod_3 rfl (lv_at hl 0 rfl) ?_
  refine lv_iload_n hx hb dL_addRod_4 rfl (lv_at hl 1 rfl) ?_
  refine lv_iload_n hx hb dL_addRod_5 rfl (lv_at hl 2 rfl) ?_
  refine lv_iload_n hx hb dL_addRod_6 rfl (lv_at hl 3 rfl) ?_
  refine z_callV (C := RX8) (q0 := 0) (ci := 6) (As := [.int (zI k), .int (zI d), .int (zI n)]) (rest := [.int (zI 0), .ref o0]) ([] : va_W) (jrW ct o0 1 O) hx hb hml hown hts hl hE hS hA hP hD (c_X8_addRod l D ct ad u a r q b nx sz S M TX tl pl ft n1 n2 wd k d n (by assumption) (by omega) (by omega) (by omega) (by omega) (by omega) (by omega)) gL_addRod_X8_addRod rfl rfl k_X8_addRod ⟨Nat.le_of_ble_eq_true rfl, Nat.le_of_ble_eq_true rfl⟩ rfl rfl rfl rfl (Nat.le_of_ble_eq_true rfl) ⟨Nat.le_of_ble_eq_true rfl, Nat.le_of_ble_eq_true rfl⟩ dL_addRod_7 rfl (fun v w1 H locs hpost hP hD hS => ?_)
  obtain ⟨rfl, rfl⟩ := hpost
  have hP : va_P D vwCl (x8W u a r q ++ (svW ct r b ((nx + 1) % 4) (min (sz + 1) 4) (updS S nx M) ++ (sobjW a ++ (gridW ct a (st_rod M k d n) ++ (benchW ct a (st_rod M k d n) ++ (logW ct a (st_rod M k d n) ++ (txtW ct q TX tl pl ft wd n1 n2 ++ (jrW ct o0 1 O)))))))) H := hP
  have hD : va_D A (x8W u a r q ++ (svW ct r b ((nx + 1) % 4) (min (sz + 1) 4) (updS S nx M) ++ (sobjW a ++ (gridW ct a (st_rod M k d n) ++ (benchW ct a (st_rod M k d n) ++ (logW ct a (st_rod M k d n) ++ (txtW ct q TX tl pl ft wd n1 n2 ++ (jrW ct o0 1 O)))))))) := hD
  refine W.eq (g2 := F0 m 10 ls [.int (zI (M 4)), .int (zI 0), .ref o0]) rfl ?_
  refine z_i2l hx hb dL_addRod_10 (by omega) ?_
  refine z_last (g := O) (w2 := x8W u a r q ++ (svW ct r b ((nx + 1) % 4) (min (sz + 1) 4) (updS S nx M) ++ (sobjW a ++ (gridW ct a (st_rod M k d n) ++ (benchW ct a (st_rod M k d n) ++ (logW ct a (st_rod M k d n) ++ (txtW ct q TX tl pl ft wd n1 n2 ++ (jrW ct o0 1 (up O 0 (M 4)))))))))) hx hb hK hP hD hS 60 rfl (by decide) (by omega) dL_addRod_11 (rfl) (fun H locs hP hD hS => ?_)
  refine lv_goto (tgt := 27) hx hb dL_addRod_12 (by decide) ?_
  refine z_iconst hx hb dL_addRod_27 ?_
  exact z_iret hx hb hr hlocks hP hD hS ⟨Nat.le_of_ble_eq_true rfl, Nat.le_of_ble_eq_true rfl⟩ dL_addRod_28 (⟨congrArg (fun z => some (Value.int (zI z))) (rfl), rfl⟩)
set_option maxHeartbeats 4000000 in
set_option maxRecDepth 100000 in
theorem c_L_addRod_no (l : Launch) (D : va_G) (ct ad : Nat → Nat) (u : Nat) (a r q : Nat → Nat) (b : Nat → Nat → Nat) (nx sz : Int) (S : Nat → Int → Int) (M TX : Int → Int) (tl pl ft n1 n2 : Int) (wd : Value) (o0 : Nat) (O : Int → Int) (k d n : Int) (hs : sInv M) (hst : l.stackTraces = false) (h1 : -2147483648 ≤ k ∧ k ≤ 2147483647) (h2 : -2147483648 ≤ d ∧ d ≤ 2147483647) (h3 : -2147483648 ≤ n ∧ n ≤ 2147483647) (hno : ck_rod M k d n ≠ 0) : ZM l yL_addRod wsL_addRod ({ frames := 8, cells := 1, slots := 6, locals := 125 } : Room) D ct ad [.ref u, .int (zI k), .int (zI d), .int (zI n), .ref o0] (x8W u a r q ++ (svW ct r b nx sz S ++ (sobjW a ++ (gridW ct a M ++ (benchW ct a M ++ (logW ct a M ++ (txtW ct q TX tl pl ft wd n1 n2 ++ (jrW ct o0 1 O)))))))) (zD (some (.int (zI (ck_rod M k d n)))) (x8W u a r q ++ (svW ct r b nx sz S ++ (sobjW a ++ (gridW ct a M ++ (benchW ct a M ++ (logW ct a M ++ (txtW ct q TX tl pl ft wd n1 n2 ++ (jrW ct o0 1 O))))))))) := by
  refine ZM.ofH (cc := cL_addRod) (maxL := 6) (ret := (some .int)) (by decide +kernel) rfl (Nat.le_of_ble_eq_true rfl) ?_
  intro p e s m below meth c A ls hx hb hr hts hown hlocks hml hTab hE hP hD hA hS hl
  have hK := hE.1
  have hf_0 := hts (.classLink RL 21 "java/lang/IndexOutOfBoundsException") (by decide +kernel)
  have hf_1 := hts (.classLink RL 13 "java/lang/IllegalArgumentException") (by decide +kernel)
  have hf_2 := hts (.classLink RL 15 "java/lang/IllegalStateException") (by decide +kernel)
  have hl : lv_has ls 6 [(0, .ref u), (1, .int (zI k)), (2, .int (zI d)), (3, .int (zI n)), (4, .ref o0)] := hl
  refine lv_aload hx hb dL_addRod_0 (lv_at hl 4 rfl) ?_
  refine z_iconst hx hb dL_addRod_2 ?_
  refine lv_aload_n hx hb dL_addRod_3 rfl (lv_at hl 0 rfl) ?_
  refine lv_iload_n hx hb dL_addRod_4 rfl (lv_at hl 1 rfl) ?_
  refine lv_iload_n hx hb dL_addRod_5 rfl (lv_at hl 2 rfl) ?_
  refine lv_iload_n hx hb dL_addRod_6 rfl (lv_at hl 3 rfl) ?_
  rcases (show ck_rod M k d n = 1 ∨ ck_rod M k d n = 2 ∨ ck_rod M k d n = 3 from (by have q9 := hno; unfold ck_rod at q9 ⊢; (repeat' split) <;> (repeat' split at q9) <;> omega)) with hck | hck | hck
  · refine z_catV (C := RX8) (q0 := 0) (ci := 6) (E := "java/lang/IndexOutOfBoundsException") (name := "java/lang/IndexOutOfBoundsException") (As := [.int (zI k), .int (zI d), .int (zI n)]) (rest := [.int (zI 0), .ref o0]) ([] : va_W) (jrW ct o0 1 O) hx hb hml hown hts hl hE hS hA hP hD (ZX.toE (c_X8_addRod_x l D ct ad u a r q b nx sz S M TX tl pl ft n1 n2 wd k d n (by assumption) hst (by omega) (by omega) (by omega) (by omega)) ((by rw [hck]; rfl))) gL_addRod_X8_addRod rfl rfl k_X8_addRod ⟨Nat.le_of_ble_eq_true rfl, Nat.le_of_ble_eq_true rfl⟩ rfl rfl rfl rfl (Nat.le_of_ble_eq_true rfl) ⟨Nat.le_of_ble_eq_true rfl, Nat.le_of_ble_eq_true rfl⟩ dL_addRod_7 rfl [] ({ startPc := 0, endPc := 12, handlerPc := 15, catchType := 21 } : ExceptionTableEntry) [({ startPc := 0, endPc := 12, handlerPc := 19, catchType := 13 } : ExceptionTableEntry), ({ startPc := 0, endPc := 12, handlerPc := 23, catchType := 15 } : ExceptionTableEntry)] (hTab.trans rfl) (fun z hz => nomatch hz) (by decide) (by decide) hf_0 (hE.2.1.1 _ (List.mem_of_getElem? (i := 18) rfl)) (fun q9_7 H locs hP hD hS => ?_)
    have hP : va_P D vwCl (x8W u a r q ++ (svW ct r b nx sz S ++ (sobjW a ++ (gridW ct a M ++ (benchW ct a M ++ (logW ct a M ++ (txtW ct q TX tl pl ft wd n1 n2 ++ (jrW ct o0 1 O)))))))) H := hP
    have hD : va_D A (x8W u a r q ++ (svW ct r b nx sz S ++ (sobjW a ++ (gridW ct a M ++ (benchW ct a M ++ (logW ct a M ++ (txtW ct q TX tl pl ft wd n1 n2 ++ (jrW ct o0 1 O)))))))) := hD
    refine W.eq (g2 := F0 m 15 ls [.ref q9_7]) rfl ?_
    refine lv_astore (lv' := [(5, .ref q9_7), (0, .ref u), (1, .int (zI k)), (2, .int (zI d)), (3, .int (zI n)), (4, .ref o0)]) hx hb dL_addRod_15 hl (by decide) rfl (fun ls hl => ?_)
    refine z_iconst hx hb dL_addRod_17 ?_
    exact z_iret hx hb hr hlocks hP hD hS ⟨Nat.le_of_ble_eq_true rfl, Nat.le_of_ble_eq_true rfl⟩ dL_addRod_18 (⟨congrArg (fun z => some (Value.int (zI z))) (by first | rfl | omega | (unfold ck1; split <;> omega) | (split <;> omega)), rfl⟩)
  · refine z_catV (C := RX8) (q0 := 0) (ci := 6) (E := "java/lang/IllegalArgumentException") (name := "java/lang/IllegalArgumentException") (As := [.int (zI k), .int (zI d), .int (zI n)]) (rest := [.int (zI 0), .ref o0]) ([] : va_W) (jrW ct o0 1 O) hx hb hml hown hts hl hE hS hA hP hD (ZX.toE (c_X8_addRod_x l D ct ad u a r q b nx sz S M TX tl pl ft n1 n2 wd k d n (by assumption) hst (by omega) (by omega) (by omega) (by omega)) ((by rw [hck]; rfl))) gL_addRod_X8_addRod rfl rfl k_X8_addRod ⟨Nat.le_of_ble_eq_true rfl, Nat.le_of_ble_eq_true rfl⟩ rfl rfl rfl rfl (Nat.le_of_ble_eq_true rfl) ⟨Nat.le_of_ble_eq_true rfl, Nat.le_of_ble_eq_true rfl⟩ dL_addRod_7 rfl [({ startPc := 0, endPc := 12, handlerPc := 15, catchType := 21 } : ExceptionTableEntry)] ({ startPc := 0, endPc := 12, handlerPc := 19, catchType := 13 } : ExceptionTableEntry) [({ startPc := 0, endPc := 12, handlerPc := 23, catchType := 15 } : ExceptionTableEntry)] (hTab.trans rfl) (fun z hz => by simp only [List.mem_cons, List.not_mem_nil, or_false] at hz; rcases hz with rfl; exact Or.inr ⟨by decide, "java/lang/IndexOutOfBoundsException", hf_0, hE.2.1.2 ("java/lang/IllegalArgumentException", "java/lang/IndexOutOfBoundsException") (by decide)⟩) (by decide) (by decide) hf_1 (hE.2.1.1 _ (List.mem_of_getElem? (i := 19) rfl)) (fun q9_7 H locs hP hD hS => ?_)
    have hP : va_P D vwCl (x8W u a r q ++ (svW ct r b nx sz S ++ (sobjW a ++ (gridW ct a M ++ (benchW ct a M ++ (logW ct a M ++ (txtW ct q TX tl pl ft wd n1 n2 ++ (jrW ct o0 1 O)))))))) H := hP
    have hD : va_D A (x8W u a r q ++ (svW ct r b nx sz S ++ (sobjW a ++ (gridW ct a M ++ (benchW ct a M ++ (logW ct a M ++ (txtW ct q TX tl pl ft wd n1 n2 ++ (jrW ct o0 1 O)))))))) := hD
    refine W.eq (g2 := F0 m 19 ls [.ref q9_7]) rfl ?_
    refine lv_astore (lv' := [(5, .ref q9_7), (0, .ref u), (1, .int (zI k)), (2, .int (zI d)), (3, .int (zI n)), (4, .ref o0)]) hx hb dL_addRod_19 hl (by decide) rfl (fun ls hl => ?_)
    refine z_iconst hx hb dL_addRod_21 ?_
    exact z_iret hx hb hr hlocks hP hD hS ⟨Nat.le_of_ble_eq_true rfl, Nat.le_of_ble_eq_true rfl⟩ dL_addRod_22 (⟨congrArg (fun z => some (Value.int (zI z))) (by first | rfl | omega | (unfold ck1; split <;> omega) | (split <;> omega)), rfl⟩)
  · refine z_catV (C := RX8) (q0 := 0) (ci := 6) (E := "java/lang/IllegalStateException") (name := "java/lang/IllegalStateException") (As := [.int (zI k), .int (zI d), .int (zI n)]) (rest := [.int (zI 0), .ref o0]) ([] : va_W) (jrW ct o0 1 O) hx hb hml hown hts hl hE hS hA hP hD (ZX.toE (c_X8_addRod_x l D ct ad u a r q b nx sz S M TX tl pl ft n1 n2 wd k d n (by assumption) hst (by omega) (by omega) (by omega) (by omega)) ((by rw [hck]; rfl))) gL_addRod_X8_addRod rfl rfl k_X8_addRod ⟨Nat.le_of_ble_eq_true rfl, Nat.le_of_ble_eq_true rfl⟩ rfl rfl rfl rfl (Nat.le_of_ble_eq_true rfl) ⟨Nat.le_of_ble_eq_true rfl, Nat.le_of_ble_eq_true rfl⟩ dL_addRod_7 rfl [({ startPc := 0, endPc := 12, handlerPc := 15, catchType := 21 } : ExceptionTableEntry), ({ startPc := 0, endPc := 12, handlerPc := 19, catchType := 13 } : ExceptionTableEntry)] ({ startPc := 0, endPc := 12, handlerPc := 23, catchType := 15 } : ExceptionTableEntry) [] (hTab.trans rfl) (fun z hz => by simp only [List.mem_cons, List.not_mem_nil, or_false] at hz; rcases hz with rfl | rfl <;> first | exact Or.inr ⟨by decide, "java/lang/IndexOutOfBoundsException", hf_0, hE.2.1.2 ("java/lang/IllegalStateException", "java/lang/IndexOutOfBoundsException") (by decide)⟩ | exact Or.inr ⟨by decide, "java/lang/IllegalArgumentException", hf_1, hE.2.1.2 ("java/lang/IllegalStateException", "java/lang/IllegalArgumentException") (by decide)⟩) (by decide) (by decide) hf_2 (hE.2.1.1 _ (List.mem_of_getElem? (i := 20) rfl)) (fun q9_7 H locs hP hD hS => ?_)
    have hP : va_P D vwCl (x8W u a r q ++ (svW ct r b nx sz S ++ (sobjW a ++ (gridW ct a M ++ (benchW ct a M ++ (logW ct a M ++ (txtW ct q TX tl pl ft wd n1 n2 ++ (jrW ct o0 1 O)))))))) H := hP
    have hD : va_D A (x8W u a r q ++ (svW ct r b nx sz S ++ (sobjW a ++ (gridW ct a M ++ (benchW ct a M ++ (logW ct a M ++ (txtW ct q TX tl pl ft wd n1 n2 ++ (jrW ct o0 1 O)))))))) := hD
    refine W.eq (g2 := F0 m 23 ls [.ref q9_7]) rfl ?_
    refine lv_astore (lv' := [(5, .ref q9_7), (0, .ref u), (1, .int (zI k)), (2, .int (zI d)), (3, .int (zI n)), (4, .ref o0)]) hx hb dL_addRod_23 hl (by decide) rfl (fun ls hl => ?_)
    refine z_iconst hx hb dL_addRod_25 ?_
    exact z_iret hx hb hr hlocks hP hD hS ⟨Nat.le_of_ble_eq_true rfl, Nat.le_of_ble_eq_true rfl⟩ dL_addRod_26 (⟨congrArg (fun z => some (Value.int (zI z))) (by first | rfl | omega | (unfold ck1; split <;> omega) | (split <;> omega)), rfl⟩)
theorem k_X8_removeRod : yX8_removeRod.cls ≠ "java/lang/invoke/MethodHandle" ∧ yX8_removeRod.cls ≠ "java/lang/invoke/VarHandle" ∧ (parseMethodDescriptor yX8_removeRod.desc).map (fun d => d.parameters.length) = some 1 := by decide +kernel
set_option maxHeartbeats 4000000 in
set_option maxRecDepth 100000 in
theorem c_L_removeRod_ok (l : Launch) (D : va_G) (ct ad : Nat → Nat) (u : Nat) (a r q : Nat → Nat) (b : Nat → Nat → Nat) (nx sz : Int) (S : Nat → Int → Int) (M TX : Int → Int) (tl pl ft n1 n2 : Int) (wd : Value) (o0 : Nat) (O : Int → Int) (k : Int) (hs : sInv M) (hn : 0 ≤ nx ∧ nx ≤ 3) (hsz : 0 ≤ sz ∧ sz ≤ 4) (h1 : -2147483648 ≤ k ∧ k ≤ 2147483647) (hok : 0 ≤ k ∧ k < M 4) (hv : -2147483648 ≤ M 4 - 1 ∧ M 4 - 1 ≤ 2147483647) : ZM l yL_removeRod wsL_removeRod ({ frames := 5, cells := 0, slots := 0, locals := 103 } : Room) D ct ad [.ref u, .int (zI k), .ref o0] (x8W u a r q ++ (svW ct r b nx sz S ++ (sobjW a ++ (gridW ct a M ++ (benchW ct a M ++ (logW ct a M ++ (txtW ct q TX tl pl ft wd n1 n2 ++ (jrW ct o0 1 O)))))))) (zD (some (.int (zI 0))) (x8W u a r q ++ (svW ct r b ((nx + 1) % 4) (min (sz + 1) 4) (updS S nx M) ++ (sobjW a ++ (gridW ct a (st_drop M k) ++ (benchW ct a (st_drop M k) ++ (logW ct a (st_drop M k) ++ (txtW ct q TX tl pl ft wd n1 n2 ++ (jrW ct o0 1 (up O 0 (M 4 - 1))))))))))) := by
  refine ZM.ofH (cc := cL_removeRod) (maxL := 4) (ret := (some .int)) (by decide +kernel) rfl (Nat.le_of_ble_eq_true rfl) ?_
  intro p e s m below meth c A ls hx hb hr hts hown hlocks hml hTab hE hP hD hA hS hl
  have hK := hE.1
  have hl : lv_has ls 4 [(0, .ref u), (1, .int (zI k)), (2, .ref o0)] := hl
  refine lv_aload_n hx hb dL_removeRod_0 rfl (lv_at hl 2 rfl) ?_
  refine z_iconst hx hb dL_removeRod_1 ?_
  refine lv_aload_n hx hb dL_removeRod_2 rfl (lv_at hl 0 rfl) ?_
  refine lv_iload_n hx hb dL_removeRod_3 rfl (lv_at hl 1 rfl) ?_
  refine z_callV (C := RX8) (q0 := 0) (ci := 6) (As := [.int (zI k)]) (rest := [.int (zI 0), .ref o0]) ([] : va_W) (jrW ct o0 1 O) hx hb hml hown hts hl hE hS hA hP hD (c_X8_removeRod l D ct ad u a r q b nx sz S M TX tl pl ft n1 n2 wd k (by assumption) (by omega) (by omega) (by omega) (by omega)) gL_removeRod_X8_removeRod rfl rfl k_X8_removeRod ⟨Nat.le_of_ble_eq_true rfl, Nat.le_of_ble_eq_true rfl⟩ rfl rfl rfl rfl (Nat.le_of_ble_eq_true rfl) ⟨Nat.le_of_ble_eq_true rfl, Nat.le_of_ble_eq_true rfl⟩ dL_removeRod_4 rfl (fun v w1 H locs hpost hP hD hS => ?_)
  obtain ⟨rfl, rfl⟩ := hpost
  have hP : va_P D vwCl (x8W u a r q ++ (svW ct r b ((nx + 1) % 4) (min (sz + 1) 4) (updS S nx M) ++ (sobjW a ++ (gridW ct a (st_drop M k) ++ (benchW ct a (st_drop M k) ++ (logW ct a (st_drop M k) ++ (txtW ct q TX tl pl ft wd n1 n2 ++ (jrW ct o0 1 O)))))))) H := hP
  have hD : va_D A (x8W u a r q ++ (svW ct r b ((nx + 1) % 4) (min (sz + 1) 4) (updS S nx M) ++ (sobjW a ++ (gridW ct a (st_drop M k) ++ (benchW ct a (st_drop M k) ++ (logW ct a (st_drop M k) ++ (txtW ct q TX tl pl ft wd n1 n2 ++ (jrW ct o0 1 O)))))))) := hD
  refine W.eq (g2 := F0 m 7 ls [.int (zI (M 4 - 1)), .int (zI 0), .ref o0]) rfl ?_
  refine z_i2l hx hb dL_removeRod_7 (by omega) ?_
  refine z_last (g := O) (w2 := x8W u a r q ++ (svW ct r b ((nx + 1) % 4) (min (sz + 1) 4) (updS S nx M) ++ (sobjW a ++ (gridW ct a (st_drop M k) ++ (benchW ct a (st_drop M k) ++ (logW ct a (st_drop M k) ++ (txtW ct q TX tl pl ft wd n1 n2 ++ (jrW ct o0 1 (up O 0 (M 4 - 1)))))))))) hx hb hK hP hD hS 60 rfl (by decide) (by omega) dL_removeRod_8 (rfl) (fun H locs hP hD hS => ?_)
  refine lv_goto (tgt := 15) hx hb dL_removeRod_9 (by decide) ?_
  refine z_iconst hx hb dL_removeRod_15 ?_
  exact z_iret hx hb hr hlocks hP hD hS ⟨Nat.le_of_ble_eq_true rfl, Nat.le_of_ble_eq_true rfl⟩ dL_removeRod_16 (⟨congrArg (fun z => some (Value.int (zI z))) (rfl), rfl⟩)
set_option maxHeartbeats 4000000 in
set_option maxRecDepth 100000 in
theorem c_L_removeRod_no (l : Launch) (D : va_G) (ct ad : Nat → Nat) (u : Nat) (a r q : Nat → Nat) (b : Nat → Nat → Nat) (nx sz : Int) (S : Nat → Int → Int) (M TX : Int → Int) (tl pl ft n1 n2 : Int) (wd : Value) (o0 : Nat) (O : Int → Int) (k : Int) (hs : sInv M) (hst : l.stackTraces = false) (h1 : -2147483648 ≤ k ∧ k ≤ 2147483647) (hno : ¬ (0 ≤ k ∧ k < M 4)) : ZM l yL_removeRod wsL_removeRod ({ frames := 8, cells := 1, slots := 6, locals := 123 } : Room) D ct ad [.ref u, .int (zI k), .ref o0] (x8W u a r q ++ (svW ct r b nx sz S ++ (sobjW a ++ (gridW ct a M ++ (benchW ct a M ++ (logW ct a M ++ (txtW ct q TX tl pl ft wd n1 n2 ++ (jrW ct o0 1 O)))))))) (zD (some (.int (zI 1))) (x8W u a r q ++ (svW ct r b nx sz S ++ (sobjW a ++ (gridW ct a M ++ (benchW ct a M ++ (logW ct a M ++ (txtW ct q TX tl pl ft wd n1 n2 ++ (jrW ct o0 1 O))))))))) := by
  refine ZM.ofH (cc := cL_removeRod) (maxL := 4) (ret := (some .int)) (by decide +kernel) rfl (Nat.le_of_ble_eq_true rfl) ?_
  intro p e s m below meth c A ls hx hb hr hts hown hlocks hml hTab hE hP hD hA hS hl
  have hK := hE.1
  have hf_0 := hts (.classLink RL 21 "java/lang/IndexOutOfBoundsException") (by decide +kernel)
  have hl : lv_has ls 4 [(0, .ref u), (1, .int (zI k)), (2, .ref o0)] := hl
  refine lv_aload_n hx hb dL_removeRod_0 rfl (lv_at hl 2 rfl) ?_
  refine z_iconst hx hb dL_removeRod_1 ?_
  refine lv_aload_n hx hb dL_removeRod_2 rfl (lv_at hl 0 rfl) ?_
  refine lv_iload_n hx hb dL_removeRod_3 rfl (lv_at hl 1 rfl) ?_
  rcases (show True from trivial) with hck
  · refine z_catV (C := RX8) (q0 := 0) (ci := 6) (E := "java/lang/IndexOutOfBoundsException") (name := "java/lang/IndexOutOfBoundsException") (As := [.int (zI k)]) (rest := [.int (zI 0), .ref o0]) ([] : va_W) (jrW ct o0 1 O) hx hb hml hown hts hl hE hS hA hP hD (ZX.toE (c_X8_removeRod_x l D ct ad u a r q b nx sz S M TX tl pl ft n1 n2 wd k (by assumption) hst (by omega) (by omega)) (rfl)) gL_removeRod_X8_removeRod rfl rfl k_X8_removeRod ⟨Nat.le_of_ble_eq_true rfl, Nat.le_of_ble_eq_true rfl⟩ rfl rfl rfl rfl (Nat.le_of_ble_eq_true rfl) ⟨Nat.le_of_ble_eq_true rfl, Nat.le_of_ble_eq_true rfl⟩ dL_removeRod_4 rfl [] ({ startPc := 0, endPc := 9, handlerPc := 12, catchType := 21 } : ExceptionTableEntry) [] (hTab.trans rfl) (fun z hz => nomatch hz) (by decide) (by decide) hf_0 (hE.2.1.1 _ (List.mem_of_getElem? (i := 18) rfl)) (fun q9_4 H locs hP hD hS => ?_)
    have hP : va_P D vwCl (x8W u a r q ++ (svW ct r b nx sz S ++ (sobjW a ++ (gridW ct a M ++ (benchW ct a M ++ (logW ct a M ++ (txtW ct q TX tl pl ft wd n1 n2 ++ (jrW ct o0 1 O)))))))) H := hP
    have hD : va_D A (x8W u a r q ++ (svW ct r b nx sz S ++ (sobjW a ++ (gridW ct a M ++ (benchW ct a M ++ (logW ct a M ++ (txtW ct q TX tl pl ft wd n1 n2 ++ (jrW ct o0 1 O)))))))) := hD
    refine W.eq (g2 := F0 m 12 ls [.ref q9_4]) rfl ?_
    refine lv_astore_n (lv' := [(3, .ref q9_4), (0, .ref u), (1, .int (zI k)), (2, .ref o0)]) hx hb dL_removeRod_12 rfl hl (by decide) rfl (fun ls hl => ?_)
    refine z_iconst hx hb dL_removeRod_13 ?_
    exact z_iret hx hb hr hlocks hP hD hS ⟨Nat.le_of_ble_eq_true rfl, Nat.le_of_ble_eq_true rfl⟩ dL_removeRod_14 (⟨congrArg (fun z => some (Value.int (zI z))) (by first | rfl | omega | (unfold ck1; split <;> omega) | (split <;> omega)), rfl⟩)
theorem k_X8_setLength : yX8_setLength.cls ≠ "java/lang/invoke/MethodHandle" ∧ yX8_setLength.cls ≠ "java/lang/invoke/VarHandle" ∧ (parseMethodDescriptor yX8_setLength.desc).map (fun d => d.parameters.length) = some 2 := by decide +kernel
set_option maxHeartbeats 4000000 in
set_option maxRecDepth 100000 in
theorem c_L_setLength_ok (l : Launch) (D : va_G) (ct ad : Nat → Nat) (u : Nat) (a r q : Nat → Nat) (b : Nat → Nat → Nat) (nx sz : Int) (S : Nat → Int → Int) (M TX : Int → Int) (tl pl ft n1 n2 : Int) (wd : Value) (o0 : Nat) (O : Int → Int) (k n : Int) (hs : sInv M) (hn : 0 ≤ nx ∧ nx ≤ 3) (hsz : 0 ≤ sz ∧ sz ≤ 4) (h1 : -2147483648 ≤ k ∧ k ≤ 2147483647) (h2 : -2147483648 ≤ n ∧ n ≤ 2147483647) (hok : ck_length M k n = 0) (hv : -2147483648 ≤ M (24 + 3 * k) ∧ M (24 + 3 * k) ≤ 2147483647) : ZM l yL_setLength wsL_setLength ({ frames := 5, cells := 0, slots := 0, locals := 104 } : Room) D ct ad [.ref u, .int (zI k), .int (zI n), .ref o0] (x8W u a r q ++ (svW ct r b nx sz S ++ (sobjW a ++ (gridW ct a M ++ (benchW ct a M ++ (logW ct a M ++ (txtW ct q TX tl pl ft wd n1 n2 ++ (jrW ct o0 1 O)))))))) (zD (some (.int (zI 0))) (x8W u a r q ++ (svW ct r b ((nx + 1) % 4) (min (sz + 1) 4) (updS S nx M) ++ (sobjW a ++ (gridW ct a (up M (24 + 3 * k) n) ++ (benchW ct a (up M (24 + 3 * k) n) ++ (logW ct a (up M (24 + 3 * k) n) ++ (txtW ct q TX tl pl ft wd n1 n2 ++ (jrW ct o0 1 (up O 0 (M (24 + 3 * k)))))))))))) := by
  refine ZM.ofH (cc := cL_setLength) (maxL := 5) (ret := (some .int)) (by decide +kernel) rfl (Nat.le_of_ble_eq_true rfl) ?_
  intro p e s m below meth c A ls hx hb hr hts hown hlocks hml hTab hE hP hD hA hS hl
  have hK := hE.1
  have hl : lv_has ls 5 [(0, .ref u), (1, .int (zI k)), (2, .int (zI n)), (3, .ref o0)] := hl
  refine lv_aload_n hx hb dL_setLength_0 rfl (lv_at hl 3 rfl) ?_
  refine z_iconst hx hb dL_setLength_1 ?_
  refine lv_aload_n hx hb dL_setLength_2 rfl (lv_at hl 0 rfl) ?_
  refine lv_iload_n hx hb dL_setLength_3 rfl (lv_at hl 1 rfl) ?_
  refine lv_iload_n hx hb dL_setLength_4 rfl (lv_at hl 2 rfl) ?_
  refine z_callV (C := RX8) (q0 := 0) (ci := 6) (As := [.int (zI k), .int (zI n)]) (rest := [.int (zI 0), .ref o0]) ([] : va_W) (jrW ct o0 1 O) hx hb hml hown hts hl hE hS hA hP hD (c_X8_setLength l D ct ad u a r q b nx sz S M TX tl pl ft n1 n2 wd k n (by assumption) (by omega) (by omega) (by omega) (by omega) (by omega)) gL_setLength_X8_setLength rfl rfl k_X8_setLength ⟨Nat.le_of_ble_eq_true rfl, Nat.le_of_ble_eq_true rfl⟩ rfl rfl rfl rfl (Nat.le_of_ble_eq_true rfl) ⟨Nat.le_of_ble_eq_true rfl, Nat.le_of_ble_eq_true rfl⟩ dL_setLength_5 rfl (fun v w1 H locs hpost hP hD hS => ?_)
  obtain ⟨rfl, rfl⟩ := hpost
  have hP : va_P D vwCl (x8W u a r q ++ (svW ct r b ((nx + 1) % 4) (min (sz + 1) 4) (updS S nx M) ++ (sobjW a ++ (gridW ct a (up M (24 + 3 * k) n) ++ (benchW ct a (up M (24 + 3 * k) n) ++ (logW ct a (up M (24 + 3 * k) n) ++ (txtW ct q TX tl pl ft wd n1 n2 ++ (jrW ct o0 1 O)))))))) H := hP
  have hD : va_D A (x8W u a r q ++ (svW ct r b ((nx + 1) % 4) (min (sz + 1) 4) (updS S nx M) ++ (sobjW a ++ (gridW ct a (up M (24 + 3 * k) n) ++ (benchW ct a (up M (24 + 3 * k) n) ++ (logW ct a (up M (24 + 3 * k) n) ++ (txtW ct q TX tl pl ft wd n1 n2 ++ (jrW ct o0 1 O)))))))) := hD
  refine W.eq (g2 := F0 m 8 ls [.int (zI (M (24 + 3 * k))), .int (zI 0), .ref o0]) rfl ?_
  refine z_i2l hx hb dL_setLength_8 (by omega) ?_
  refine z_last (g := O) (w2 := x8W u a r q ++ (svW ct r b ((nx + 1) % 4) (min (sz + 1) 4) (updS S nx M) ++ (sobjW a ++ (gridW ct a (up M (24 + 3 * k) n) ++ (benchW ct a (up M (24 + 3 * k) n) ++ (logW ct a (up M (24 + 3 * k) n) ++ (txtW ct q TX tl pl ft wd n1 n2 ++ (jrW ct o0 1 (up O 0 (M (24 + 3 * k))))))))))) hx hb hK hP hD hS 60 rfl (by decide) (by omega) dL_setLength_9 (rfl) (fun H locs hP hD hS => ?_)
  refine lv_goto (tgt := 21) hx hb dL_setLength_10 (by decide) ?_
  refine z_iconst hx hb dL_setLength_21 ?_
  exact z_iret hx hb hr hlocks hP hD hS ⟨Nat.le_of_ble_eq_true rfl, Nat.le_of_ble_eq_true rfl⟩ dL_setLength_22 (⟨congrArg (fun z => some (Value.int (zI z))) (rfl), rfl⟩)
set_option maxHeartbeats 4000000 in
set_option maxRecDepth 100000 in
theorem c_L_setLength_no (l : Launch) (D : va_G) (ct ad : Nat → Nat) (u : Nat) (a r q : Nat → Nat) (b : Nat → Nat → Nat) (nx sz : Int) (S : Nat → Int → Int) (M TX : Int → Int) (tl pl ft n1 n2 : Int) (wd : Value) (o0 : Nat) (O : Int → Int) (k n : Int) (hs : sInv M) (hst : l.stackTraces = false) (h1 : -2147483648 ≤ k ∧ k ≤ 2147483647) (h2 : -2147483648 ≤ n ∧ n ≤ 2147483647) (hno : ck_length M k n ≠ 0) : ZM l yL_setLength wsL_setLength ({ frames := 8, cells := 1, slots := 6, locals := 124 } : Room) D ct ad [.ref u, .int (zI k), .int (zI n), .ref o0] (x8W u a r q ++ (svW ct r b nx sz S ++ (sobjW a ++ (gridW ct a M ++ (benchW ct a M ++ (logW ct a M ++ (txtW ct q TX tl pl ft wd n1 n2 ++ (jrW ct o0 1 O)))))))) (zD (some (.int (zI (ck_length M k n)))) (x8W u a r q ++ (svW ct r b nx sz S ++ (sobjW a ++ (gridW ct a M ++ (benchW ct a M ++ (logW ct a M ++ (txtW ct q TX tl pl ft wd n1 n2 ++ (jrW ct o0 1 O))))))))) := by
  refine ZM.ofH (cc := cL_setLength) (maxL := 5) (ret := (some .int)) (by decide +kernel) rfl (Nat.le_of_ble_eq_true rfl) ?_
  intro p e s m below meth c A ls hx hb hr hts hown hlocks hml hTab hE hP hD hA hS hl
  have hK := hE.1
  have hf_0 := hts (.classLink RL 21 "java/lang/IndexOutOfBoundsException") (by decide +kernel)
  have hf_1 := hts (.classLink RL 13 "java/lang/IllegalArgumentException") (by decide +kernel)
  have hl : lv_has ls 5 [(0, .ref u), (1, .int (zI k)), (2, .int (zI n)), (3, .ref o0)] := hl
  refine lv_aload_n hx hb dL_setLength_0 rfl (lv_at hl 3 rfl) ?_
  refine z_iconst hx hb dL_setLength_1 ?_
  refine lv_aload_n hx hb dL_setLength_2 rfl (lv_at hl 0 rfl) ?_
  refine lv_iload_n hx hb dL_setLength_3 rfl (lv_at hl 1 rfl) ?_
  refine lv_iload_n hx hb dL_setLength_4 rfl (lv_at hl 2 rfl) ?_
  rcases (show ck_length M k n = 1 ∨ ck_length M k n = 2 from (by have q9 := hno; unfold ck_length at q9 ⊢; (repeat' split) <;> (repeat' split at q9) <;> omega)) with hck | hck
  · refine z_catV (C := RX8) (q0 := 0) (ci := 6) (E := "java/lang/IndexOutOfBoundsException") (name := "java/lang/IndexOutOfBoundsException") (As := [.int (zI k), .int (zI n)]) (rest := [.int (zI 0), .ref o0]) ([] : va_W) (jrW ct o0 1 O) hx hb hml hown hts hl hE hS hA hP hD (ZX.toE (c_X8_setLength_x l D ct ad u a r q b nx sz S M TX tl pl ft n1 n2 wd k n (by assumption) hst (by omega) (by omega) (by omega)) ((by rw [hck]; rfl))) gL_setLength_X8_setLength rfl rfl k_X8_setLength ⟨Nat.le_of_ble_eq_true rfl, Nat.le_of_ble_eq_true rfl⟩ rfl rfl rfl rfl (Nat.le_of_ble_eq_true rfl) ⟨Nat.le_of_ble_eq_true rfl, Nat.le_of_ble_eq_true rfl⟩ dL_setLength_5 rfl [] ({ startPc := 0, endPc := 10, handlerPc := 13, catchType := 21 } : ExceptionTableEntry) [({ startPc := 0, endPc := 10, handlerPc := 17, catchType := 13 } : ExceptionTableEntry)] (hTab.trans rfl) (fun z hz => nomatch hz) (by decide) (by decide) hf_0 (hE.2.1.1 _ (List.mem_of_getElem? (i := 18) rfl)) (fun q9_5 H locs hP hD hS => ?_)
    have hP : va_P D vwCl (x8W u a r q ++ (svW ct r b nx sz S ++ (sobjW a ++ (gridW ct a M ++ (benchW ct a M ++ (logW ct a M ++ (txtW ct q TX tl pl ft wd n1 n2 ++ (jrW ct o0 1 O)))))))) H := hP
    have hD : va_D A (x8W u a r q ++ (svW ct r b nx sz S ++ (sobjW a ++ (gridW ct a M ++ (benchW ct a M ++ (logW ct a M ++ (txtW ct q TX tl pl ft wd n1 n2 ++ (jrW ct o0 1 O)))))))) := hD
    refine W.eq (g2 := F0 m 13 ls [.ref q9_5]) rfl ?_
    refine lv_astore (lv' := [(4, .ref q9_5), (0, .ref u), (1, .int (zI k)), (2, .int (zI n)), (3, .ref o0)]) hx hb dL_setLength_13 hl (by decide) rfl (fun ls hl => ?_)
    refine z_iconst hx hb dL_setLength_15 ?_
    exact z_iret hx hb hr hlocks hP hD hS ⟨Nat.le_of_ble_eq_true rfl, Nat.le_of_ble_eq_true rfl⟩ dL_setLength_16 (⟨congrArg (fun z => some (Value.int (zI z))) (by first | rfl | omega | (unfold ck1; split <;> omega) | (split <;> omega)), rfl⟩)
  · refine z_catV (C := RX8) (q0 := 0) (ci := 6) (E := "java/lang/IllegalArgumentException") (name := "java/lang/IllegalArgumentException") (As := [.int (zI k), .int (zI n)]) (rest := [.int (zI 0), .ref o0]) ([] : va_W) (jrW ct o0 1 O) hx hb hml hown hts hl hE hS hA hP hD (ZX.toE (c_X8_setLength_x l D ct ad u a r q b nx sz S M TX tl pl ft n1 n2 wd k n (by assumption) hst (by omega) (by omega) (by omega)) ((by rw [hck]; rfl))) gL_setLength_X8_setLength rfl rfl k_X8_setLength ⟨Nat.le_of_ble_eq_true rfl, Nat.le_of_ble_eq_true rfl⟩ rfl rfl rfl rfl (Nat.le_of_ble_eq_true rfl) ⟨Nat.le_of_ble_eq_true rfl, Nat.le_of_ble_eq_true rfl⟩ dL_setLength_5 rfl [({ startPc := 0, endPc := 10, handlerPc := 13, catchType := 21 } : ExceptionTableEntry)] ({ startPc := 0, endPc := 10, handlerPc := 17, catchType := 13 } : ExceptionTableEntry) [] (hTab.trans rfl) (fun z hz => by simp only [List.mem_cons, List.not_mem_nil, or_false] at hz; rcases hz with rfl; exact Or.inr ⟨by decide, "java/lang/IndexOutOfBoundsException", hf_0, hE.2.1.2 ("java/lang/IllegalArgumentException", "java/lang/IndexOutOfBoundsException") (by decide)⟩) (by decide) (by decide) hf_1 (hE.2.1.1 _ (List.mem_of_getElem? (i := 19) rfl)) (fun q9_5 H locs hP hD hS => ?_)
    have hP : va_P D vwCl (x8W u a r q ++ (svW ct r b nx sz S ++ (sobjW a ++ (gridW ct a M ++ (benchW ct a M ++ (logW ct a M ++ (txtW ct q TX tl pl ft wd n1 n2 ++ (jrW ct o0 1 O)))))))) H := hP
    have hD : va_D A (x8W u a r q ++ (svW ct r b nx sz S ++ (sobjW a ++ (gridW ct a M ++ (benchW ct a M ++ (logW ct a M ++ (txtW ct q TX tl pl ft wd n1 n2 ++ (jrW ct o0 1 O)))))))) := hD
    refine W.eq (g2 := F0 m 17 ls [.ref q9_5]) rfl ?_
    refine lv_astore (lv' := [(4, .ref q9_5), (0, .ref u), (1, .int (zI k)), (2, .int (zI n)), (3, .ref o0)]) hx hb dL_setLength_17 hl (by decide) rfl (fun ls hl => ?_)
    refine z_iconst hx hb dL_setLength_19 ?_
    exact z_iret hx hb hr hlocks hP hD hS ⟨Nat.le_of_ble_eq_true rfl, Nat.le_of_ble_eq_true rfl⟩ dL_setLength_20 (⟨congrArg (fun z => some (Value.int (zI z))) (by first | rfl | omega | (unfold ck1; split <;> omega) | (split <;> omega)), rfl⟩)
theorem k_X8_setShelf : yX8_setShelf.cls ≠ "java/lang/invoke/MethodHandle" ∧ yX8_setShelf.cls ≠ "java/lang/invoke/VarHandle" ∧ (parseMethodDescriptor yX8_setShelf.desc).map (fun d => d.parameters.length) = some 2 := by decide +kernel
set_option maxHeartbeats 4000000 in
set_option maxRecDepth 100000 in
theorem c_L_setShelf_ok (l : Launch) (D : va_G) (ct ad : Nat → Nat) (u : Nat) (a r q : Nat → Nat) (b : Nat → Nat → Nat) (nx sz : Int) (S : Nat → Int → Int) (M TX : Int → Int) (tl pl ft n1 n2 : Int) (wd : Value) (o0 : Nat) (O : Int → Int) (k v : Int) (hs : sInv M) (hn : 0 ≤ nx ∧ nx ≤ 3) (hsz : 0 ≤ sz ∧ sz ≤ 4) (h1 : -2147483648 ≤ k ∧ k ≤ 2147483647) (h2 : -2147483648 ≤ v ∧ v ≤ 2147483647) (hok : ck_warm k v = 0) (hv : -2147483648 ≤ M (49 + k) ∧ M (49 + k) ≤ 2147483647) : ZM l yL_setShelf wsL_setShelf ({ frames := 5, cells := 0, slots := 0, locals := 104 } : Room) D ct ad [.ref u, .int (zI k), .int (zI v), .ref o0] (x8W u a r q ++ (svW ct r b nx sz S ++ (sobjW a ++ (gridW ct a M ++ (benchW ct a M ++ (logW ct a M ++ (txtW ct q TX tl pl ft wd n1 n2 ++ (jrW ct o0 1 O)))))))) (zD (some (.int (zI 0))) (x8W u a r q ++ (svW ct r b ((nx + 1) % 4) (min (sz + 1) 4) (updS S nx M) ++ (sobjW a ++ (gridW ct a (up M (49 + k) v) ++ (benchW ct a (up M (49 + k) v) ++ (logW ct a (up M (49 + k) v) ++ (txtW ct q TX tl pl ft wd n1 n2 ++ (jrW ct o0 1 (up O 0 (M (49 + k)))))))))))) := by
  refine ZM.ofH (cc := cL_setShelf) (maxL := 5) (ret := (some .int)) (by decide +kernel) rfl (Nat.le_of_ble_eq_true rfl) ?_
  intro p e s m below meth c A ls hx hb hr hts hown hlocks hml hTab hE hP hD hA hS hl
  have hK := hE.1
  have hl : lv_has ls 5 [(0, .ref u), (1, .int (zI k)), (2, .int (zI v)), (3, .ref o0)] := hl
  refine lv_aload_n hx hb dL_setShelf_0 rfl (lv_at hl 3 rfl) ?_
  refine z_iconst hx hb dL_setShelf_1 ?_
  refine lv_aload_n hx hb dL_setShelf_2 rfl (lv_at hl 0 rfl) ?_
  refine lv_iload_n hx hb dL_setShelf_3 rfl (lv_at hl 1 rfl) ?_
  refine lv_iload_n hx hb dL_setShelf_4 rfl (lv_at hl 2 rfl) ?_
  refine z_callV (C := RX8) (q0 := 0) (ci := 6) (As := [.int (zI k), .int (zI v)]) (rest := [.int (zI 0), .ref o0]) ([] : va_W) (jrW ct o0 1 O) hx hb hml hown hts hl hE hS hA hP hD (c_X8_setShelf l D ct ad u a r q b nx sz S M TX tl pl ft n1 n2 wd k v (by assumption) (by omega) (by omega) (by omega) (by omega) (by omega)) gL_setShelf_X8_setShelf rfl rfl k_X8_setShelf ⟨Nat.le_of_ble_eq_true rfl, Nat.le_of_ble_eq_true rfl⟩ rfl rfl rfl rfl (Nat.le_of_ble_eq_true rfl) ⟨Nat.le_of_ble_eq_true rfl, Nat.le_of_ble_eq_true rfl⟩ dL_setShelf_5 rfl (fun v w1 H locs hpost hP hD hS => ?_)
  obtain ⟨rfl, rfl⟩ := hpost
  have hP : va_P D vwCl (x8W u a r q ++ (svW ct r b ((nx + 1) % 4) (min (sz + 1) 4) (updS S nx M) ++ (sobjW a ++ (gridW ct a (up M (49 + k) v) ++ (benchW ct a (up M (49 + k) v) ++ (logW ct a (up M (49 + k) v) ++ (txtW ct q TX tl pl ft wd n1 n2 ++ (jrW ct o0 1 O)))))))) H := hP
  have hD : va_D A (x8W u a r q ++ (svW ct r b ((nx + 1) % 4) (min (sz + 1) 4) (updS S nx M) ++ (sobjW a ++ (gridW ct a (up M (49 + k) v) ++ (benchW ct a (up M (49 + k) v) ++ (logW ct a (up M (49 + k) v) ++ (txtW ct q TX tl pl ft wd n1 n2 ++ (jrW ct o0 1 O)))))))) := hD
  refine W.eq (g2 := F0 m 8 ls [.int (zI (M (49 + k))), .int (zI 0), .ref o0]) rfl ?_
  refine z_i2l hx hb dL_setShelf_8 (by omega) ?_
  refine z_last (g := O) (w2 := x8W u a r q ++ (svW ct r b ((nx + 1) % 4) (min (sz + 1) 4) (updS S nx M) ++ (sobjW a ++ (gridW ct a (up M (49 + k) v) ++ (benchW ct a (up M (49 + k) v) ++ (logW ct a (up M (49 + k) v) ++ (txtW ct q TX tl pl ft wd n1 n2 ++ (jrW ct o0 1 (up O 0 (M (49 + k))))))))))) hx hb hK hP hD hS 60 rfl (by decide) (by omega) dL_setShelf_9 (rfl) (fun H locs hP hD hS => ?_)
  refine lv_goto (tgt := 21) hx hb dL_setShelf_10 (by decide) ?_
  refine z_iconst hx hb dL_setShelf_21 ?_
  exact z_iret hx hb hr hlocks hP hD hS ⟨Nat.le_of_ble_eq_true rfl, Nat.le_of_ble_eq_true rfl⟩ dL_setShelf_22 (⟨congrArg (fun z => some (Value.int (zI z))) (rfl), rfl⟩)
set_option maxHeartbeats 4000000 in
set_option maxRecDepth 100000 in
theorem c_L_setShelf_no (l : Launch) (D : va_G) (ct ad : Nat → Nat) (u : Nat) (a r q : Nat → Nat) (b : Nat → Nat → Nat) (nx sz : Int) (S : Nat → Int → Int) (M TX : Int → Int) (tl pl ft n1 n2 : Int) (wd : Value) (o0 : Nat) (O : Int → Int) (k v : Int) (hs : sInv M) (hst : l.stackTraces = false) (h1 : -2147483648 ≤ k ∧ k ≤ 2147483647) (h2 : -2147483648 ≤ v ∧ v ≤ 2147483647) (hno : ck_warm k v ≠ 0) : ZM l yL_setShelf wsL_setShelf ({ frames := 8, cells := 1, slots := 6, locals := 124 } : Room) D ct ad [.ref u, .int (zI k), .int (zI v), .ref o0] (x8W u a r q ++ (svW ct r b nx sz S ++ (sobjW a ++ (gridW ct a M ++ (benchW ct a M ++ (logW ct a M ++ (txtW ct q TX tl pl ft wd n1 n2 ++ (jrW ct o0 1 O)))))))) (zD (some (.int (zI (ck_warm k v)))) (x8W u a r q ++ (svW ct r b nx sz S ++ (sobjW a ++ (gridW ct a M ++ (benchW ct a M ++ (logW ct a M ++ (txtW ct q TX tl pl ft wd n1 n2 ++ (jrW ct o0 1 O))))))))) := by
  refine ZM.ofH (cc := cL_setShelf) (maxL := 5) (ret := (some .int)) (by decide +kernel) rfl (Nat.le_of_ble_eq_true rfl) ?_
  intro p e s m below meth c A ls hx hb hr hts hown hlocks hml hTab hE hP hD hA hS hl
  have hK := hE.1
  have hf_0 := hts (.classLink RL 21 "java/lang/IndexOutOfBoundsException") (by decide +kernel)
  have hf_1 := hts (.classLink RL 13 "java/lang/IllegalArgumentException") (by decide +kernel)
  have hl : lv_has ls 5 [(0, .ref u), (1, .int (zI k)), (2, .int (zI v)), (3, .ref o0)] := hl
  refine lv_aload_n hx hb dL_setShelf_0 rfl (lv_at hl 3 rfl) ?_
  refine z_iconst hx hb dL_setShelf_1 ?_
  refine lv_aload_n hx hb dL_setShelf_2 rfl (lv_at hl 0 rfl) ?_
  refine lv_iload_n hx hb dL_setShelf_3 rfl (lv_at hl 1 rfl) ?_
  refine lv_iload_n hx hb dL_setShelf_4 rfl (lv_at hl 2 rfl) ?_
  rcases (show ck_warm k v = 1 ∨ ck_warm k v = 2 from (by have q9 := hno; unfold ck_warm at q9 ⊢; (repeat' split) <;> (repeat' split at q9) <;> omega)) with hck | hck
  · refine z_catV (C := RX8) (q0 := 0) (ci := 6) (E := "java/lang/IndexOutOfBoundsException") (name := "java/lang/IndexOutOfBoundsException") (As := [.int (zI k), .int (zI v)]) (rest := [.int (zI 0), .ref o0]) ([] : va_W) (jrW ct o0 1 O) hx hb hml hown hts hl hE hS hA hP hD (ZX.toE (c_X8_setShelf_x l D ct ad u a r q b nx sz S M TX tl pl ft n1 n2 wd k v (by assumption) hst (by omega) (by omega) (by omega)) ((by rw [hck]; rfl))) gL_setShelf_X8_setShelf rfl rfl k_X8_setShelf ⟨Nat.le_of_ble_eq_true rfl, Nat.le_of_ble_eq_true rfl⟩ rfl rfl rfl rfl (Nat.le_of_ble_eq_true rfl) ⟨Nat.le_of_ble_eq_true rfl, Nat.le_of_ble_eq_true rfl⟩ dL_setShelf_5 rfl [] ({ startPc := 0, endPc := 10, handlerPc := 13, catchType := 21 } : ExceptionTableEntry) [({ startPc := 0, endPc := 10, handlerPc := 17, catchType := 13 } : ExceptionTableEntry)] (hTab.trans rfl) (fun z hz => nomatch hz) (by decide) (by decide) hf_0 (hE.2.1.1 _ (List.mem_of_getElem? (i := 18) rfl)) (fun q9_5 H locs hP hD hS => ?_)
    have hP : va_P D vwCl (x8W u a r q ++ (svW ct r b nx sz S ++ (sobjW a ++ (gridW ct a M ++ (benchW ct a M ++ (logW ct a M ++ (txtW ct q TX tl pl ft wd n1 n2 ++ (jrW ct o0 1 O)))))))) H := hP
    have hD : va_D A (x8W u a r q ++ (svW ct r b nx sz S ++ (sobjW a ++ (gridW ct a M ++ (benchW ct a M ++ (logW ct a M ++ (txtW ct q TX tl pl ft wd n1 n2 ++ (jrW ct o0 1 O)))))))) := hD
    refine W.eq (g2 := F0 m 13 ls [.ref q9_5]) rfl ?_
    refine lv_astore (lv' := [(4, .ref q9_5), (0, .ref u), (1, .int (zI k)), (2, .int (zI v)), (3, .ref o0)]) hx hb dL_setShelf_13 hl (by decide) rfl (fun ls hl => ?_)
    refine z_iconst hx hb dL_setShelf_15 ?_
    exact z_iret hx hb hr hlocks hP hD hS ⟨Nat.le_of_ble_eq_true rfl, Nat.le_of_ble_eq_true rfl⟩ dL_setShelf_16 (⟨congrArg (fun z => some (Value.int (zI z))) (by first | rfl | omega | (unfold ck1; split <;> omega) | (split <;> omega)), rfl⟩)
  · refine z_catV (C := RX8) (q0 := 0) (ci := 6) (E := "java/lang/IllegalArgumentException") (name := "java/lang/IllegalArgumentException") (As := [.int (zI k), .int (zI v)]) (rest := [.int (zI 0), .ref o0]) ([] : va_W) (jrW ct o0 1 O) hx hb hml hown hts hl hE hS hA hP hD (ZX.toE (c_X8_setShelf_x l D ct ad u a r q b nx sz S M TX tl pl ft n1 n2 wd k v (by assumption) hst (by omega) (by omega) (by omega)) ((by rw [hck]; rfl))) gL_setShelf_X8_setShelf rfl rfl k_X8_setShelf ⟨Nat.le_of_ble_eq_true rfl, Nat.le_of_ble_eq_true rfl⟩ rfl rfl rfl rfl (Nat.le_of_ble_eq_true rfl) ⟨Nat.le_of_ble_eq_true rfl, Nat.le_of_ble_eq_true rfl⟩ dL_setShelf_5 rfl [({ startPc := 0, endPc := 10, handlerPc := 13, catchType := 21 } : ExceptionTableEntry)] ({ startPc := 0, endPc := 10, handlerPc := 17, catchType := 13 } : ExceptionTableEntry) [] (hTab.trans rfl) (fun z hz => by simp only [List.mem_cons, List.not_mem_nil, or_false] at hz; rcases hz with rfl; exact Or.inr ⟨by decide, "java/lang/IndexOutOfBoundsException", hf_0, hE.2.1.2 ("java/lang/IllegalArgumentException", "java/lang/IndexOutOfBoundsException") (by decide)⟩) (by decide) (by decide) hf_1 (hE.2.1.1 _ (List.mem_of_getElem? (i := 19) rfl)) (fun q9_5 H locs hP hD hS => ?_)
    have hP : va_P D vwCl (x8W u a r q ++ (svW ct r b nx sz S ++ (sobjW a ++ (gridW ct a M ++ (benchW ct a M ++ (logW ct a M ++ (txtW ct q TX tl pl ft wd n1 n2 ++ (jrW ct o0 1 O)))))))) H := hP
    have hD : va_D A (x8W u a r q ++ (svW ct r b nx sz S ++ (sobjW a ++ (gridW ct a M ++ (benchW ct a M ++ (logW ct a M ++ (txtW ct q TX tl pl ft wd n1 n2 ++ (jrW ct o0 1 O)))))))) := hD
    refine W.eq (g2 := F0 m 17 ls [.ref q9_5]) rfl ?_
    refine lv_astore (lv' := [(4, .ref q9_5), (0, .ref u), (1, .int (zI k)), (2, .int (zI v)), (3, .ref o0)]) hx hb dL_setShelf_17 hl (by decide) rfl (fun ls hl => ?_)
    refine z_iconst hx hb dL_setShelf_19 ?_
    exact z_iret hx hb hr hlocks hP hD hS ⟨Nat.le_of_ble_eq_true rfl, Nat.le_of_ble_eq_true rfl⟩ dL_setShelf_20 (⟨congrArg (fun z => some (Value.int (zI z))) (by first | rfl | omega | (unfold ck1; split <;> omega) | (split <;> omega)), rfl⟩)
theorem k_X8_hang : yX8_hang.cls ≠ "java/lang/invoke/MethodHandle" ∧ yX8_hang.cls ≠ "java/lang/invoke/VarHandle" ∧ (parseMethodDescriptor yX8_hang.desc).map (fun d => d.parameters.length) = some 1 := by decide +kernel
set_option maxHeartbeats 4000000 in
set_option maxRecDepth 100000 in
theorem c_L_hang_ok (l : Launch) (D : va_G) (ct ad : Nat → Nat) (u : Nat) (a r q : Nat → Nat) (b : Nat → Nat → Nat) (nx sz : Int) (S : Nat → Int → Int) (M TX : Int → Int) (tl pl ft n1 n2 : Int) (wd : Value) (o0 : Nat) (O : Int → Int) (k : Int) (hs : sInv M) (hn : 0 ≤ nx ∧ nx ≤ 3) (hsz : 0 ≤ sz ∧ sz ≤ 4) (h1 : -2147483648 ≤ k ∧ k ≤ 2147483647) (hok : ck_shelf k = 0) (hv : -2147483648 ≤ M 5 ∧ M 5 ≤ 2147483647) : ZM l yL_hang wsL_hang ({ frames := 5, cells := 0, slots := 0, locals := 103 } : Room) D ct ad [.ref u, .int (zI k), .ref o0] (x8W u a r q ++ (svW ct r b nx sz S ++ (sobjW a ++ (gridW ct a M ++ (benchW ct a M ++ (logW ct a M ++ (txtW ct q TX tl pl ft wd n1 n2 ++ (jrW ct o0 1 O)))))))) (zD (some (.int (zI 0))) (x8W u a r q ++ (svW ct r b ((nx + 1) % 4) (min (sz + 1) 4) (updS S nx M) ++ (sobjW a ++ (gridW ct a (up M 5 k) ++ (benchW ct a (up M 5 k) ++ (logW ct a (up M 5 k) ++ (txtW ct q TX tl pl ft wd n1 n2 ++ (jrW ct o0 1 (up O 0 (M 5))))))))))) := by
  refine ZM.ofH (cc := cL_hang) (maxL := 4) (ret := (some .int)) (by decide +kernel) rfl (Nat.le_of_ble_eq_true rfl) ?_
  intro p e s m below meth c A ls hx hb hr hts hown hlocks hml hTab hE hP hD hA hS hl
  have hK := hE.1
  have hl : lv_has ls 4 [(0, .ref u), (1, .int (zI k)), (2, .ref o0)] := hl
  refine lv_aload_n hx hb dL_hang_0 rfl (lv_at hl 2 rfl) ?_
  refine z_iconst hx hb dL_hang_1 ?_
  refine lv_aload_n hx hb dL_hang_2 rfl (lv_at hl 0 rfl) ?_
  refine lv_iload_n hx hb dL_hang_3 rfl (lv_at hl 1 rfl) ?_
  refine z_callV (C := RX8) (q0 := 0) (ci := 6) (As := [.int (zI k)]) (rest := [.int (zI 0), .ref o0]) ([] : va_W) (jrW ct o0 1 O) hx hb hml hown hts hl hE hS hA hP hD (c_X8_hang l D ct ad u a r q b nx sz S M TX tl pl ft n1 n2 wd k (by assumption) (by omega) (by omega) (by omega) (by omega)) gL_hang_X8_hang rfl rfl k_X8_hang ⟨Nat.le_of_ble_eq_true rfl, Nat.le_of_ble_eq_true rfl⟩ rfl rfl rfl rfl (Nat.le_of_ble_eq_true rfl) ⟨Nat.le_of_ble_eq_true rfl, Nat.le_of_ble_eq_true rfl⟩ dL_hang_4 rfl (fun v w1 H locs hpost hP hD hS => ?_)
  obtain ⟨rfl, rfl⟩ := hpost
  have hP : va_P D vwCl (x8W u a r q ++ (svW ct r b ((nx + 1) % 4) (min (sz + 1) 4) (updS S nx M) ++ (sobjW a ++ (gridW ct a (up M 5 k) ++ (benchW ct a (up M 5 k) ++ (logW ct a (up M 5 k) ++ (txtW ct q TX tl pl ft wd n1 n2 ++ (jrW ct o0 1 O)))))))) H := hP
  have hD : va_D A (x8W u a r q ++ (svW ct r b ((nx + 1) % 4) (min (sz + 1) 4) (updS S nx M) ++ (sobjW a ++ (gridW ct a (up M 5 k) ++ (benchW ct a (up M 5 k) ++ (logW ct a (up M 5 k) ++ (txtW ct q TX tl pl ft wd n1 n2 ++ (jrW ct o0 1 O)))))))) := hD
  refine W.eq (g2 := F0 m 7 ls [.int (zI (M 5)), .int (zI 0), .ref o0]) rfl ?_
  refine z_i2l hx hb dL_hang_7 (by omega) ?_
  refine z_last (g := O) (w2 := x8W u a r q ++ (svW ct r b ((nx + 1) % 4) (min (sz + 1) 4) (updS S nx M) ++ (sobjW a ++ (gridW ct a (up M 5 k) ++ (benchW ct a (up M 5 k) ++ (logW ct a (up M 5 k) ++ (txtW ct q TX tl pl ft wd n1 n2 ++ (jrW ct o0 1 (up O 0 (M 5)))))))))) hx hb hK hP hD hS 60 rfl (by decide) (by omega) dL_hang_8 (rfl) (fun H locs hP hD hS => ?_)
  refine lv_goto (tgt := 15) hx hb dL_hang_9 (by decide) ?_
  refine z_iconst hx hb dL_hang_15 ?_
  exact z_iret hx hb hr hlocks hP hD hS ⟨Nat.le_of_ble_eq_true rfl, Nat.le_of_ble_eq_true rfl⟩ dL_hang_16 (⟨congrArg (fun z => some (Value.int (zI z))) (rfl), rfl⟩)
set_option maxHeartbeats 4000000 in
set_option maxRecDepth 100000 in
theorem c_L_hang_no (l : Launch) (D : va_G) (ct ad : Nat → Nat) (u : Nat) (a r q : Nat → Nat) (b : Nat → Nat → Nat) (nx sz : Int) (S : Nat → Int → Int) (M TX : Int → Int) (tl pl ft n1 n2 : Int) (wd : Value) (o0 : Nat) (O : Int → Int) (k : Int) (hs : sInv M) (hst : l.stackTraces = false) (h1 : -2147483648 ≤ k ∧ k ≤ 2147483647) (hno : ck_shelf k ≠ 0) : ZM l yL_hang wsL_hang ({ frames := 8, cells := 1, slots := 6, locals := 123 } : Room) D ct ad [.ref u, .int (zI k), .ref o0] (x8W u a r q ++ (svW ct r b nx sz S ++ (sobjW a ++ (gridW ct a M ++ (benchW ct a M ++ (logW ct a M ++ (txtW ct q TX tl pl ft wd n1 n2 ++ (jrW ct o0 1 O)))))))) (zD (some (.int (zI (ck_shelf k)))) (x8W u a r q ++ (svW ct r b nx sz S ++ (sobjW a ++ (gridW ct a M ++ (benchW ct a M ++ (logW ct a M ++ (txtW ct q TX tl pl ft wd n1 n2 ++ (jrW ct o0 1 O))))))))) := by
  refine ZM.ofH (cc := cL_hang) (maxL := 4) (ret := (some .int)) (by decide +kernel) rfl (Nat.le_of_ble_eq_true rfl) ?_
  intro p e s m below meth c A ls hx hb hr hts hown hlocks hml hTab hE hP hD hA hS hl
  have hK := hE.1
  have hf_0 := hts (.classLink RL 21 "java/lang/IndexOutOfBoundsException") (by decide +kernel)
  have hl : lv_has ls 4 [(0, .ref u), (1, .int (zI k)), (2, .ref o0)] := hl
  refine lv_aload_n hx hb dL_hang_0 rfl (lv_at hl 2 rfl) ?_
  refine z_iconst hx hb dL_hang_1 ?_
  refine lv_aload_n hx hb dL_hang_2 rfl (lv_at hl 0 rfl) ?_
  refine lv_iload_n hx hb dL_hang_3 rfl (lv_at hl 1 rfl) ?_
  rcases (show ck_shelf k = 1 from (by have q9 := hno; unfold ck_shelf at q9 ⊢; (repeat' split) <;> (repeat' split at q9) <;> omega)) with hck
  · refine z_catV (C := RX8) (q0 := 0) (ci := 6) (E := "java/lang/IndexOutOfBoundsException") (name := "java/lang/IndexOutOfBoundsException") (As := [.int (zI k)]) (rest := [.int (zI 0), .ref o0]) ([] : va_W) (jrW ct o0 1 O) hx hb hml hown hts hl hE hS hA hP hD (ZX.toE (c_X8_hang_x l D ct ad u a r q b nx sz S M TX tl pl ft n1 n2 wd k (by assumption) hst (by omega) (by omega)) ((by rw [hck]; rfl))) gL_hang_X8_hang rfl rfl k_X8_hang ⟨Nat.le_of_ble_eq_true rfl, Nat.le_of_ble_eq_true rfl⟩ rfl rfl rfl rfl (Nat.le_of_ble_eq_true rfl) ⟨Nat.le_of_ble_eq_true rfl, Nat.le_of_ble_eq_true rfl⟩ dL_hang_4 rfl [] ({ startPc := 0, endPc := 9, handlerPc := 12, catchType := 21 } : ExceptionTableEntry) [] (hTab.trans rfl) (fun z hz => nomatch hz) (by decide) (by decide) hf_0 (hE.2.1.1 _ (List.mem_of_getElem? (i := 18) rfl)) (fun q9_4 H locs hP hD hS => ?_)
    have hP : va_P D vwCl (x8W u a r q ++ (svW ct r b nx sz S ++ (sobjW a ++ (gridW ct a M ++ (benchW ct a M ++ (logW ct a M ++ (txtW ct q TX tl pl ft wd n1 n2 ++ (jrW ct o0 1 O)))))))) H := hP
    have hD : va_D A (x8W u a r q ++ (svW ct r b nx sz S ++ (sobjW a ++ (gridW ct a M ++ (benchW ct a M ++ (logW ct a M ++ (txtW ct q TX tl pl ft wd n1 n2 ++ (jrW ct o0 1 O)))))))) := hD
    refine W.eq (g2 := F0 m 12 ls [.ref q9_4]) rfl ?_
    refine lv_astore_n (lv' := [(3, .ref q9_4), (0, .ref u), (1, .int (zI k)), (2, .ref o0)]) hx hb dL_hang_12 rfl hl (by decide) rfl (fun ls hl => ?_)
    refine z_iconst hx hb dL_hang_13 ?_
    exact z_iret hx hb hr hlocks hP hD hS ⟨Nat.le_of_ble_eq_true rfl, Nat.le_of_ble_eq_true rfl⟩ dL_hang_14 (⟨congrArg (fun z => some (Value.int (zI z))) (by first | rfl | omega | (unfold ck1; split <;> omega) | (split <;> omega)), rfl⟩)
theorem k_X8_turnNut : yX8_turnNut.cls ≠ "java/lang/invoke/MethodHandle" ∧ yX8_turnNut.cls ≠ "java/lang/invoke/VarHandle" ∧ (parseMethodDescriptor yX8_turnNut.desc).map (fun d => d.parameters.length) = some 1 := by decide +kernel
set_option maxHeartbeats 4000000 in
set_option maxRecDepth 100000 in
theorem c_L_turnNut_ok (l : Launch) (D : va_G) (ct ad : Nat → Nat) (u : Nat) (a r q : Nat → Nat) (b : Nat → Nat → Nat) (nx sz : Int) (S : Nat → Int → Int) (M TX : Int → Int) (tl pl ft n1 n2 : Int) (wd : Value) (o0 : Nat) (O : Int → Int) (v : Int) (hs : sInv M) (hn : 0 ≤ nx ∧ nx ≤ 3) (hsz : 0 ≤ sz ∧ sz ≤ 4) (h1 : -2147483648 ≤ v ∧ v ≤ 2147483647) (hok : ck_turn M v = 0) (hv : -2147483648 ≤ M 7 + v ∧ M 7 + v ≤ 2147483647) : ZM l yL_turnNut wsL_turnNut ({ frames := 5, cells := 0, slots := 0, locals := 103 } : Room) D ct ad [.ref u, .int (zI v), .ref o0] (x8W u a r q ++ (svW ct r b nx sz S ++ (sobjW a ++ (gridW ct a M ++ (benchW ct a M ++ (logW ct a M ++ (txtW ct q TX tl pl ft wd n1 n2 ++ (jrW ct o0 1 O)))))))) (zD (some (.int (zI 0))) (x8W u a r q ++ (svW ct r b ((nx + 1) % 4) (min (sz + 1) 4) (updS S nx M) ++ (sobjW a ++ (gridW ct a (up M 7 (M 7 + v)) ++ (benchW ct a (up M 7 (M 7 + v)) ++ (logW ct a (up M 7 (M 7 + v)) ++ (txtW ct q TX tl pl ft wd n1 n2 ++ (jrW ct o0 1 (up O 0 (M 7 + v))))))))))) := by
  refine ZM.ofH (cc := cL_turnNut) (maxL := 4) (ret := (some .int)) (by decide +kernel) rfl (Nat.le_of_ble_eq_true rfl) ?_
  intro p e s m below meth c A ls hx hb hr hts hown hlocks hml hTab hE hP hD hA hS hl
  have hK := hE.1
  have hl : lv_has ls 4 [(0, .ref u), (1, .int (zI v)), (2, .ref o0)] := hl
  refine lv_aload_n hx hb dL_turnNut_0 rfl (lv_at hl 2 rfl) ?_
  refine z_iconst hx hb dL_turnNut_1 ?_
  refine lv_aload_n hx hb dL_turnNut_2 rfl (lv_at hl 0 rfl) ?_
  refine lv_iload_n hx hb dL_turnNut_3 rfl (lv_at hl 1 rfl) ?_
  refine z_callV (C := RX8) (q0 := 0) (ci := 6) (As := [.int (zI v)]) (rest := [.int (zI 0), .ref o0]) ([] : va_W) (jrW ct o0 1 O) hx hb hml hown hts hl hE hS hA hP hD (c_X8_turnNut l D ct ad u a r q b nx sz S M TX tl pl ft n1 n2 wd v (by assumption) (by omega) (by omega) (by omega) (by omega)) gL_turnNut_X8_turnNut rfl rfl k_X8_turnNut ⟨Nat.le_of_ble_eq_true rfl, Nat.le_of_ble_eq_true rfl⟩ rfl rfl rfl rfl (Nat.le_of_ble_eq_true rfl) ⟨Nat.le_of_ble_eq_true rfl, Nat.le_of_ble_eq_true rfl⟩ dL_turnNut_4 rfl (fun v w1 H locs hpost hP hD hS => ?_)
  obtain ⟨rfl, rfl⟩ := hpost
  have hP : va_P D vwCl (x8W u a r q ++ (svW ct r b ((nx + 1) % 4) (min (sz + 1) 4) (updS S nx M) ++ (sobjW a ++ (gridW ct a (up M 7 (M 7 + v)) ++ (benchW ct a (up M 7 (M 7 + v)) ++ (logW ct a (up M 7 (M 7 + v)) ++ (txtW ct q TX tl pl ft wd n1 n2 ++ (jrW ct o0 1 O)))))))) H := hP
  have hD : va_D A (x8W u a r q ++ (svW ct r b ((nx + 1) % 4) (min (sz + 1) 4) (updS S nx M) ++ (sobjW a ++ (gridW ct a (up M 7 (M 7 + v)) ++ (benchW ct a (up M 7 (M 7 + v)) ++ (logW ct a (up M 7 (M 7 + v)) ++ (txtW ct q TX tl pl ft wd n1 n2 ++ (jrW ct o0 1 O)))))))) := hD
  refine W.eq (g2 := F0 m 7 ls [.int (zI (M 7 + v)), .int (zI 0), .ref o0]) rfl ?_
  refine z_i2l hx hb dL_turnNut_7 (by omega) ?_
  refine z_last (g := O) (w2 := x8W u a r q ++ (svW ct r b ((nx + 1) % 4) (min (sz + 1) 4) (updS S nx M) ++ (sobjW a ++ (gridW ct a (up M 7 (M 7 + v)) ++ (benchW ct a (up M 7 (M 7 + v)) ++ (logW ct a (up M 7 (M 7 + v)) ++ (txtW ct q TX tl pl ft wd n1 n2 ++ (jrW ct o0 1 (up O 0 (M 7 + v)))))))))) hx hb hK hP hD hS 60 rfl (by decide) (by omega) dL_turnNut_8 (rfl) (fun H locs hP hD hS => ?_)
  refine lv_goto (tgt := 18) hx hb dL_turnNut_9 (by decide) ?_
  refine z_iconst hx hb dL_turnNut_18 ?_
  exact z_iret hx hb hr hlocks hP hD hS ⟨Nat.le_of_ble_eq_true rfl, Nat.le_of_ble_eq_true rfl⟩ dL_turnNut_19 (⟨congrArg (fun z => some (Value.int (zI z))) (rfl), rfl⟩)
set_option maxHeartbeats 4000000 in
set_option maxRecDepth 100000 in
theorem c_L_turnNut_no (l : Launch) (D : va_G) (ct ad : Nat → Nat) (u : Nat) (a r q : Nat → Nat) (b : Nat → Nat → Nat) (nx sz : Int) (S : Nat → Int → Int) (M TX : Int → Int) (tl pl ft n1 n2 : Int) (wd : Value) (o0 : Nat) (O : Int → Int) (v : Int) (hs : sInv M) (hst : l.stackTraces = false) (h1 : -2147483648 ≤ v ∧ v ≤ 2147483647) (hno : ck_turn M v ≠ 0) : ZM l yL_turnNut wsL_turnNut ({ frames := 8, cells := 1, slots := 6, locals := 123 } : Room) D ct ad [.ref u, .int (zI v), .ref o0] (x8W u a r q ++ (svW ct r b nx sz S ++ (sobjW a ++ (gridW ct a M ++ (benchW ct a M ++ (logW ct a M ++ (txtW ct q TX tl pl ft wd n1 n2 ++ (jrW ct o0 1 O)))))))) (zD (some (.int (zI (ck1 (ck_turn M v))))) (x8W u a r q ++ (svW ct r b nx sz S ++ (sobjW a ++ (gridW ct a M ++ (benchW ct a M ++ (logW ct a M ++ (txtW ct q TX tl pl ft wd n1 n2 ++ (jrW ct o0 1 O))))))))) := by
  refine ZM.ofH (cc := cL_turnNut) (maxL := 4) (ret := (some .int)) (by decide +kernel) rfl (Nat.le_of_ble_eq_true rfl) ?_
  intro p e s m below meth c A ls hx hb hr hts hown hlocks hml hTab hE hP hD hA hS hl
  have hK := hE.1
  have hf_0 := hts (.classLink RL 13 "java/lang/IllegalArgumentException") (by decide +kernel)
  have hf_1 := hts (.classLink RL 15 "java/lang/IllegalStateException") (by decide +kernel)
  have hl : lv_has ls 4 [(0, .ref u), (1, .int (zI v)), (2, .ref o0)] := hl
  refine lv_aload_n hx hb dL_turnNut_0 rfl (lv_at hl 2 rfl) ?_
  refine z_iconst hx hb dL_turnNut_1 ?_
  refine lv_aload_n hx hb dL_turnNut_2 rfl (lv_at hl 0 rfl) ?_
  refine lv_iload_n hx hb dL_turnNut_3 rfl (lv_at hl 1 rfl) ?_
  rcases (show ck_turn M v = 2 ∨ ck_turn M v = 3 from (by have q9 := hno; unfold ck_turn at q9 ⊢; (repeat' split) <;> (repeat' split at q9) <;> omega)) with hck | hck
  · refine z_catV (C := RX8) (q0 := 0) (ci := 6) (E := "java/lang/IllegalArgumentException") (name := "java/lang/IllegalArgumentException") (As := [.int (zI v)]) (rest := [.int (zI 0), .ref o0]) ([] : va_W) (jrW ct o0 1 O) hx hb hml hown hts hl hE hS hA hP hD (ZX.toE (c_X8_turnNut_x l D ct ad u a r q b nx sz S M TX tl pl ft n1 n2 wd v (by assumption) hst (by omega) (by omega)) ((by rw [hck]; rfl))) gL_turnNut_X8_turnNut rfl rfl k_X8_turnNut ⟨Nat.le_of_ble_eq_true rfl, Nat.le_of_ble_eq_true rfl⟩ rfl rfl rfl rfl (Nat.le_of_ble_eq_true rfl) ⟨Nat.le_of_ble_eq_true rfl, Nat.le_of_ble_eq_true rfl⟩ dL_turnNut_4 rfl [] ({ startPc := 0, endPc := 9, handlerPc := 12, catchType := 13 } : ExceptionTableEntry) [({ startPc := 0, endPc := 9, handlerPc := 15, catchType := 15 } : ExceptionTableEntry)] (hTab.trans rfl) (fun z hz => nomatch hz) (by decide) (by decide) hf_0 (hE.2.1.1 _ (List.mem_of_getElem? (i := 19) rfl)) (fun q9_4 H locs hP hD hS => ?_)
    have hP : va_P D vwCl (x8W u a r q ++ (svW ct r b nx sz S ++ (sobjW a ++ (gridW ct a M ++ (benchW ct a M ++ (logW ct a M ++ (txtW ct q TX tl pl ft wd n1 n2 ++ (jrW ct o0 1 O)))))))) H := hP
    have hD : va_D A (x8W u a r q ++ (svW ct r b nx sz S ++ (sobjW a ++ (gridW ct a M ++ (benchW ct a M ++ (logW ct a M ++ (txtW ct q TX tl pl ft wd n1 n2 ++ (jrW ct o0 1 O)))))))) := hD
    refine W.eq (g2 := F0 m 12 ls [.ref q9_4]) rfl ?_
    refine lv_astore_n (lv' := [(3, .ref q9_4), (0, .ref u), (1, .int (zI v)), (2, .ref o0)]) hx hb dL_turnNut_12 rfl hl (by decide) rfl (fun ls hl => ?_)
    refine z_iconst hx hb dL_turnNut_13 ?_
    exact z_iret hx hb hr hlocks hP hD hS ⟨Nat.le_of_ble_eq_true rfl, Nat.le_of_ble_eq_true rfl⟩ dL_turnNut_14 (⟨congrArg (fun z => some (Value.int (zI z))) (by first | rfl | omega | (unfold ck1; split <;> omega) | (split <;> omega)), rfl⟩)
  · refine z_catV (C := RX8) (q0 := 0) (ci := 6) (E := "java/lang/IllegalStateException") (name := "java/lang/IllegalStateException") (As := [.int (zI v)]) (rest := [.int (zI 0), .ref o0]) ([] : va_W) (jrW ct o0 1 O) hx hb hml hown hts hl hE hS hA hP hD (ZX.toE (c_X8_turnNut_x l D ct ad u a r q b nx sz S M TX tl pl ft n1 n2 wd v (by assumption) hst (by omega) (by omega)) ((by rw [hck]; rfl))) gL_turnNut_X8_turnNut rfl rfl k_X8_turnNut ⟨Nat.le_of_ble_eq_true rfl, Nat.le_of_ble_eq_true rfl⟩ rfl rfl rfl rfl (Nat.le_of_ble_eq_true rfl) ⟨Nat.le_of_ble_eq_true rfl, Nat.le_of_ble_eq_true rfl⟩ dL_turnNut_4 rfl [({ startPc := 0, endPc := 9, handlerPc := 12, catchType := 13 } : ExceptionTableEntry)] ({ startPc := 0, endPc := 9, handlerPc := 15, catchType := 15 } : ExceptionTableEntry) [] (hTab.trans rfl) (fun z hz => by simp only [List.mem_cons, List.not_mem_nil, or_false] at hz; rcases hz with rfl; exact Or.inr ⟨by decide, "java/lang/IllegalArgumentException", hf_0, hE.2.1.2 ("java/lang/IllegalStateException", "java/lang/IllegalArgumentException") (by decide)⟩) (by decide) (by decide) hf_1 (hE.2.1.1 _ (List.mem_of_getElem? (i := 20) rfl)) (fun q9_4 H locs hP hD hS => ?_)
    have hP : va_P D vwCl (x8W u a r q ++ (svW ct r b nx sz S ++ (sobjW a ++ (gridW ct a M ++ (benchW ct a M ++ (logW ct a M ++ (txtW ct q TX tl pl ft wd n1 n2 ++ (jrW ct o0 1 O)))))))) H := hP
    have hD : va_D A (x8W u a r q ++ (svW ct r b nx sz S ++ (sobjW a ++ (gridW ct a M ++ (benchW ct a M ++ (logW ct a M ++ (txtW ct q TX tl pl ft wd n1 n2 ++ (jrW ct o0 1 O)))))))) := hD
    refine W.eq (g2 := F0 m 15 ls [.ref q9_4]) rfl ?_
    refine lv_astore_n (lv' := [(3, .ref q9_4), (0, .ref u), (1, .int (zI v)), (2, .ref o0)]) hx hb dL_turnNut_15 rfl hl (by decide) rfl (fun ls hl => ?_)
    refine z_iconst hx hb dL_turnNut_16 ?_
    exact z_iret hx hb hr hlocks hP hD hS ⟨Nat.le_of_ble_eq_true rfl, Nat.le_of_ble_eq_true rfl⟩ dL_turnNut_17 (⟨congrArg (fun z => some (Value.int (zI z))) (by first | rfl | omega | (unfold ck1; split <;> omega) | (split <;> omega)), rfl⟩)
theorem k_X8_set : yX8_set.cls ≠ "java/lang/invoke/MethodHandle" ∧ yX8_set.cls ≠ "java/lang/invoke/VarHandle" ∧ (parseMethodDescriptor yX8_set.desc).map (fun d => d.parameters.length) = some 2 := by decide +kernel
set_option maxHeartbeats 4000000 in
set_option maxRecDepth 100000 in
theorem c_L_set_ok (l : Launch) (D : va_G) (ct ad : Nat → Nat) (u : Nat) (a r q : Nat → Nat) (b : Nat → Nat → Nat) (nx sz : Int) (S : Nat → Int → Int) (M TX : Int → Int) (tl pl ft n1 n2 : Int) (wd : Value) (o0 : Nat) (O : Int → Int) (k v : Int) (hs : sInv M) (hn : 0 ≤ nx ∧ nx ≤ 3) (hsz : 0 ≤ sz ∧ sz ≤ 4) (h1 : -2147483648 ≤ k ∧ k ≤ 2147483647) (h2 : -2147483648 ≤ v ∧ v ≤ 2147483647) (hok : ck_set k v = 0) (hv : -2147483648 ≤ M k ∧ M k ≤ 2147483647) : ZM l yL_set wsL_set ({ frames := 5, cells := 0, slots := 0, locals := 104 } : Room) D ct ad [.ref u, .int (zI k), .int (zI v), .ref o0] (x8W u a r q ++ (svW ct r b nx sz S ++ (sobjW a ++ (gridW ct a M ++ (benchW ct a M ++ (logW ct a M ++ (txtW ct q TX tl pl ft wd n1 n2 ++ (jrW ct o0 1 O)))))))) (zD (some (.int (zI 0))) (x8W u a r q ++ (svW ct r b ((nx + 1) % 4) (min (sz + 1) 4) (updS S nx M) ++ (sobjW a ++ (gridW ct a (up M k v) ++ (benchW ct a (up M k v) ++ (logW ct a (up M k v) ++ (txtW ct q TX tl pl ft wd n1 n2 ++ (jrW ct o0 1 (up O 0 (M k))))))))))) := by
  refine ZM.ofH (cc := cL_set) (maxL := 5) (ret := (some .int)) (by decide +kernel) rfl (Nat.le_of_ble_eq_true rfl) ?_
  intro p e s m below meth c A ls hx hb hr hts hown hlocks hml hTab hE hP hD hA hS hl
  have hK := hE.1
  have hl : lv_has ls 5 [(0, .ref u), (1, .int (zI k)), (2, .int (zI v)), (3, .ref o0)] := hl
  refine lv_aload_n hx hb dL_set_0 rfl (lv_at hl 3 rfl) ?_
  refine z_iconst hx hb dL_set_1 ?_
  refine lv_aload_n hx hb dL_set_2 rfl (lv_at hl 0 rfl) ?_
  refine lv_iload_n hx hb dL_set_3 rfl (lv_at hl 1 rfl) ?_
  refine lv_iload_n hx hb dL_set_4 rfl (lv_at hl 2 rfl) ?_
  refine z_callV (C := RX8) (q0 := 0) (ci := 6) (As := [.int (zI k), .int (zI v)]) (rest := [.int (zI 0), .ref o0]) ([] : va_W) (jrW ct o0 1 O) hx hb hml hown hts hl hE hS hA hP hD (c_X8_set l D ct ad u a r q b nx sz S M TX tl pl ft n1 n2 wd k v (by assumption) (by omega) (by omega) (by omega) (by omega) (by omega)) gL_set_X8_set rfl rfl k_X8_set ⟨Nat.le_of_ble_eq_true rfl, Nat.le_of_ble_eq_true rfl⟩ rfl rfl rfl rfl (Nat.le_of_ble_eq_true rfl) ⟨Nat.le_of_ble_eq_true rfl, Nat.le_of_ble_eq_true rfl⟩ dL_set_5 rfl (fun v w1 H locs hpost hP hD hS => ?_)
  obtain ⟨rfl, rfl⟩ := hpost
  have hP : va_P D vwCl (x8W u a r q ++ (svW ct r b ((nx + 1) % 4) (min (sz + 1) 4) (updS S nx M) ++ (sobjW a ++ (gridW ct a (up M k v) ++ (benchW ct a (up M k v) ++ (logW ct a (up M k v) ++ (txtW ct q TX tl pl ft wd n1 n2 ++ (jrW ct o0 1 O)))))))) H := hP
  have hD : va_D A (x8W u a r q ++ (svW ct r b ((nx + 1) % 4) (min (sz + 1) 4) (updS S nx M) ++ (sobjW a ++ (gridW ct a (up M k v) ++ (benchW ct a (up M k v) ++ (logW ct a (up M k v) ++ (txtW ct q TX tl pl ft wd n1 n2 ++ (jrW ct o0 1 O)))))))) := hD
  refine W.eq (g2 := F0 m 8 ls [.int (zI (M k)), .int (zI 0), .ref o0]) rfl ?_
  refine z_i2l hx hb dL_set_8 (by omega) ?_
  refine z_last (g := O) (w2 := x8W u a r q ++ (svW ct r b ((nx + 1) % 4) (min (sz + 1) 4) (updS S nx M) ++ (sobjW a ++ (gridW ct a (up M k v) ++ (benchW ct a (up M k v) ++ (logW ct a (up M k v) ++ (txtW ct q TX tl pl ft wd n1 n2 ++ (jrW ct o0 1 (up O 0 (M k)))))))))) hx hb hK hP hD hS 60 rfl (by decide) (by omega) dL_set_9 (rfl) (fun H locs hP hD hS => ?_)
  refine lv_goto (tgt := 17) hx hb dL_set_10 (by decide) ?_
  refine z_iconst hx hb dL_set_17 ?_
  exact z_iret hx hb hr hlocks hP hD hS ⟨Nat.le_of_ble_eq_true rfl, Nat.le_of_ble_eq_true rfl⟩ dL_set_18 (⟨congrArg (fun z => some (Value.int (zI z))) (rfl), rfl⟩)
set_option maxHeartbeats 4000000 in
set_option maxRecDepth 100000 in
theorem c_L_set_no (l : Launch) (D : va_G) (ct ad : Nat → Nat) (u : Nat) (a r q : Nat → Nat) (b : Nat → Nat → Nat) (nx sz : Int) (S : Nat → Int → Int) (M TX : Int → Int) (tl pl ft n1 n2 : Int) (wd : Value) (o0 : Nat) (O : Int → Int) (k v : Int) (hs : sInv M) (hst : l.stackTraces = false) (h1 : -2147483648 ≤ k ∧ k ≤ 2147483647) (h2 : -2147483648 ≤ v ∧ v ≤ 2147483647) (hno : ck_set k v ≠ 0) : ZM l yL_set wsL_set ({ frames := 8, cells := 1, slots := 6, locals := 124 } : Room) D ct ad [.ref u, .int (zI k), .int (zI v), .ref o0] (x8W u a r q ++ (svW ct r b nx sz S ++ (sobjW a ++ (gridW ct a M ++ (benchW ct a M ++ (logW ct a M ++ (txtW ct q TX tl pl ft wd n1 n2 ++ (jrW ct o0 1 O)))))))) (zD (some (.int (zI (ck1 (ck_set k v))))) (x8W u a r q ++ (svW ct r b nx sz S ++ (sobjW a ++ (gridW ct a M ++ (benchW ct a M ++ (logW ct a M ++ (txtW ct q TX tl pl ft wd n1 n2 ++ (jrW ct o0 1 O))))))))) := by
  refine ZM.ofH (cc := cL_set) (maxL := 5) (ret := (some .int)) (by decide +kernel) rfl (Nat.le_of_ble_eq_true rfl) ?_
  intro p e s m below meth c A ls hx hb hr hts hown hlocks hml hTab hE hP hD hA hS hl
  have hK := hE.1
  have hf_0 := hts (.classLink RL 13 "java/lang/IllegalArgumentException") (by decide +kernel)
  have hl : lv_has ls 5 [(0, .ref u), (1, .int (zI k)), (2, .int (zI v)), (3, .ref o0)] := hl
  refine lv_aload_n hx hb dL_set_0 rfl (lv_at hl 3 rfl) ?_
  refine z_iconst hx hb dL_set_1 ?_
  refine lv_aload_n hx hb dL_set_2 rfl (lv_at hl 0 rfl) ?_
  refine lv_iload_n hx hb dL_set_3 rfl (lv_at hl 1 rfl) ?_
  refine lv_iload_n hx hb dL_set_4 rfl (lv_at hl 2 rfl) ?_
  rcases (show ck_set k v = 2 from (by have q9 := hno; unfold ck_set at q9 ⊢; (repeat' split) <;> (repeat' split at q9) <;> omega)) with hck
  · refine z_catV (C := RX8) (q0 := 0) (ci := 6) (E := "java/lang/IllegalArgumentException") (name := "java/lang/IllegalArgumentException") (As := [.int (zI k), .int (zI v)]) (rest := [.int (zI 0), .ref o0]) ([] : va_W) (jrW ct o0 1 O) hx hb hml hown hts hl hE hS hA hP hD (ZX.toE (c_X8_set_x l D ct ad u a r q b nx sz S M TX tl pl ft n1 n2 wd k v (by assumption) hst (by omega) (by omega) (by omega)) ((by rw [hck]; rfl))) gL_set_X8_set rfl rfl k_X8_set ⟨Nat.le_of_ble_eq_true rfl, Nat.le_of_ble_eq_true rfl⟩ rfl rfl rfl rfl (Nat.le_of_ble_eq_true rfl) ⟨Nat.le_of_ble_eq_true rfl, Nat.le_of_ble_eq_true rfl⟩ dL_set_5 rfl [] ({ startPc := 0, endPc := 10, handlerPc := 13, catchType := 13 } : ExceptionTableEntry) [] (hTab.trans rfl) (fun z hz => nomatch hz) (by decide) (by decide) hf_0 (hE.2.1.1 _ (List.mem_of_getElem? (i := 19) rfl)) (fun q9_5 H locs hP hD hS => ?_)
    have hP : va_P D vwCl (x8W u a r q ++ (svW ct r b nx sz S ++ (sobjW a ++ (gridW ct a M ++ (benchW ct a M ++ (logW ct a M ++ (txtW ct q TX tl pl ft wd n1 n2 ++ (jrW ct o0 1 O)))))))) H := hP
    have hD : va_D A (x8W u a r q ++ (svW ct r b nx sz S ++ (sobjW a ++ (gridW ct a M ++ (benchW ct a M ++ (logW ct a M ++ (txtW ct q TX tl pl ft wd n1 n2 ++ (jrW ct o0 1 O)))))))) := hD
    refine W.eq (g2 := F0 m 13 ls [.ref q9_5]) rfl ?_
    refine lv_astore (lv' := [(4, .ref q9_5), (0, .ref u), (1, .int (zI k)), (2, .int (zI v)), (3, .ref o0)]) hx hb dL_set_13 hl (by decide) rfl (fun ls hl => ?_)
    refine z_iconst hx hb dL_set_15 ?_
    exact z_iret hx hb hr hlocks hP hD hS ⟨Nat.le_of_ble_eq_true rfl, Nat.le_of_ble_eq_true rfl⟩ dL_set_16 (⟨congrArg (fun z => some (Value.int (zI z))) (by first | rfl | omega | (unfold ck1; split <;> omega) | (split <;> omega)), rfl⟩)
theorem k_X8_pass : yX8_pass.cls ≠ "java/lang/invoke/MethodHandle" ∧ yX8_pass.cls ≠ "java/lang/invoke/VarHandle" ∧ (parseMethodDescriptor yX8_pass.desc).map (fun d => d.parameters.length) = some 1 := by decide +kernel
set_option maxHeartbeats 4000000 in
set_option maxRecDepth 100000 in
theorem c_L_pass_ok (l : Launch) (D : va_G) (ct ad : Nat → Nat) (u : Nat) (a r q : Nat → Nat) (b : Nat → Nat → Nat) (nx sz : Int) (S : Nat → Int → Int) (M TX : Int → Int) (tl pl ft n1 n2 : Int) (wd : Value) (o0 : Nat) (O : Int → Int) (n : Int) (hs : sInv M) (hn : 0 ≤ nx ∧ nx ≤ 3) (hsz : 0 ≤ sz ∧ sz ≤ 4) (h1 : -2147483648 ≤ n ∧ n ≤ 2147483647) (hok : ck_hours M n = 0) (hv : -2147483648 ≤ sp_err (sp_pass M n.toNat) ∧ sp_err (sp_pass M n.toNat) ≤ 2147483647) : ZM l yL_pass wsL_pass ({ frames := 6, cells := 0, slots := 0, locals := 143 } : Room) D ct ad [.ref u, .int (zI n), .ref o0] (x8W u a r q ++ (svW ct r b nx sz S ++ (sobjW a ++ (gridW ct a M ++ (benchW ct a M ++ (logW ct a M ++ (txtW ct q TX tl pl ft wd n1 n2 ++ (jrW ct o0 1 O)))))))) (zD (some (.int (zI 0))) (x8W u a r q ++ (svW ct r b ((nx + 1) % 4) (min (sz + 1) 4) (updS S nx M) ++ (sobjW a ++ (gridW ct a (sp_pass M n.toNat) ++ (benchW ct a (sp_pass M n.toNat) ++ (logW ct a (sp_pass M n.toNat) ++ (txtW ct q TX tl pl ft wd n1 n2 ++ (jrW ct o0 1 (up O 0 (sp_err (sp_pass M n.toNat)))))))))))) := by
  refine ZM.ofH (cc := cL_pass) (maxL := 4) (ret := (some .int)) (by decide +kernel) rfl (Nat.le_of_ble_eq_true rfl) ?_
  intro p e s m below meth c A ls hx hb hr hts hown hlocks hml hTab hE hP hD hA hS hl
  have hK := hE.1
  have hl : lv_has ls 4 [(0, .ref u), (1, .int (zI n)), (2, .ref o0)] := hl
  refine lv_aload_n hx hb dL_pass_0 rfl (lv_at hl 2 rfl) ?_
  refine z_iconst hx hb dL_pass_1 ?_
  refine lv_aload_n hx hb dL_pass_2 rfl (lv_at hl 0 rfl) ?_
  refine lv_iload_n hx hb dL_pass_3 rfl (lv_at hl 1 rfl) ?_
  refine z_callV (C := RX8) (q0 := 0) (ci := 6) (As := [.int (zI n)]) (rest := [.int (zI 0), .ref o0]) ([] : va_W) (jrW ct o0 1 O) hx hb hml hown hts hl hE hS hA hP hD (c_X8_pass l D ct ad u a r q b nx sz S M TX tl pl ft n1 n2 wd n (by assumption) (by omega) (by omega) (by omega) (by omega)) gL_pass_X8_pass rfl rfl k_X8_pass ⟨Nat.le_of_ble_eq_true rfl, Nat.le_of_ble_eq_true rfl⟩ rfl rfl rfl rfl (Nat.le_of_ble_eq_true rfl) ⟨Nat.le_of_ble_eq_true rfl, Nat.le_of_ble_eq_true rfl⟩ dL_pass_4 rfl (fun v w1 H locs hpost hP hD hS => ?_)
  obtain ⟨rfl, rfl⟩ := hpost
  have hP : va_P D vwCl (x8W u a r q ++ (svW ct r b ((nx + 1) % 4) (min (sz + 1) 4) (updS S nx M) ++ (sobjW a ++ (gridW ct a (sp_pass M n.toNat) ++ (benchW ct a (sp_pass M n.toNat) ++ (logW ct a (sp_pass M n.toNat) ++ (txtW ct q TX tl pl ft wd n1 n2 ++ (jrW ct o0 1 O)))))))) H := hP
  have hD : va_D A (x8W u a r q ++ (svW ct r b ((nx + 1) % 4) (min (sz + 1) 4) (updS S nx M) ++ (sobjW a ++ (gridW ct a (sp_pass M n.toNat) ++ (benchW ct a (sp_pass M n.toNat) ++ (logW ct a (sp_pass M n.toNat) ++ (txtW ct q TX tl pl ft wd n1 n2 ++ (jrW ct o0 1 O)))))))) := hD
  refine W.eq (g2 := F0 m 7 ls [.int (zI (sp_err (sp_pass M n.toNat))), .int (zI 0), .ref o0]) rfl ?_
  refine z_i2l hx hb dL_pass_7 (by omega) ?_
  refine z_last (g := O) (w2 := x8W u a r q ++ (svW ct r b ((nx + 1) % 4) (min (sz + 1) 4) (updS S nx M) ++ (sobjW a ++ (gridW ct a (sp_pass M n.toNat) ++ (benchW ct a (sp_pass M n.toNat) ++ (logW ct a (sp_pass M n.toNat) ++ (txtW ct q TX tl pl ft wd n1 n2 ++ (jrW ct o0 1 (up O 0 (sp_err (sp_pass M n.toNat))))))))))) hx hb hK hP hD hS 60 rfl (by decide) (by omega) dL_pass_8 (rfl) (fun H locs hP hD hS => ?_)
  refine lv_goto (tgt := 18) hx hb dL_pass_9 (by decide) ?_
  refine z_iconst hx hb dL_pass_18 ?_
  exact z_iret hx hb hr hlocks hP hD hS ⟨Nat.le_of_ble_eq_true rfl, Nat.le_of_ble_eq_true rfl⟩ dL_pass_19 (⟨congrArg (fun z => some (Value.int (zI z))) (rfl), rfl⟩)
set_option maxHeartbeats 4000000 in
set_option maxRecDepth 100000 in
theorem c_L_pass_no (l : Launch) (D : va_G) (ct ad : Nat → Nat) (u : Nat) (a r q : Nat → Nat) (b : Nat → Nat → Nat) (nx sz : Int) (S : Nat → Int → Int) (M TX : Int → Int) (tl pl ft n1 n2 : Int) (wd : Value) (o0 : Nat) (O : Int → Int) (n : Int) (hs : sInv M) (hst : l.stackTraces = false) (h1 : -2147483648 ≤ n ∧ n ≤ 2147483647) (hno : ck_hours M n ≠ 0) : ZM l yL_pass wsL_pass ({ frames := 8, cells := 1, slots := 6, locals := 123 } : Room) D ct ad [.ref u, .int (zI n), .ref o0] (x8W u a r q ++ (svW ct r b nx sz S ++ (sobjW a ++ (gridW ct a M ++ (benchW ct a M ++ (logW ct a M ++ (txtW ct q TX tl pl ft wd n1 n2 ++ (jrW ct o0 1 O)))))))) (zD (some (.int (zI (ck1 (ck_hours M n))))) (x8W u a r q ++ (svW ct r b nx sz S ++ (sobjW a ++ (gridW ct a M ++ (benchW ct a M ++ (logW ct a M ++ (txtW ct q TX tl pl ft wd n1 n2 ++ (jrW ct o0 1 O))))))))) := by
  refine ZM.ofH (cc := cL_pass) (maxL := 4) (ret := (some .int)) (by decide +kernel) rfl (Nat.le_of_ble_eq_true rfl) ?_
  intro p e s m below meth c A ls hx hb hr hts hown hlocks hml hTab hE hP hD hA hS hl
  have hK := hE.1
  have hf_0 := hts (.classLink RL 13 "java/lang/IllegalArgumentException") (by decide +kernel)
  have hf_1 := hts (.classLink RL 15 "java/lang/IllegalStateException") (by decide +kernel)
  have hl : lv_has ls 4 [(0, .ref u), (1, .int (zI n)), (2, .ref o0)] := hl
  refine lv_aload_n hx hb dL_pass_0 rfl (lv_at hl 2 rfl) ?_
  refine z_iconst hx hb dL_pass_1 ?_
  refine lv_aload_n hx hb dL_pass_2 rfl (lv_at hl 0 rfl) ?_
  refine lv_iload_n hx hb dL_pass_3 rfl (lv_at hl 1 rfl) ?_
  rcases (show ck_hours M n = 2 ∨ ck_hours M n = 3 from (by have q9 := hno; unfold ck_hours at q9 ⊢; (repeat' split) <;> (repeat' split at q9) <;> omega)) with hck | hck
  · refine z_catV (C := RX8) (q0 := 0) (ci := 6) (E := "java/lang/IllegalArgumentException") (name := "java/lang/IllegalArgumentException") (As := [.int (zI n)]) (rest := [.int (zI 0), .ref o0]) ([] : va_W) (jrW ct o0 1 O) hx hb hml hown hts hl hE hS hA hP hD (ZX.toE (c_X8_pass_x l D ct ad u a r q b nx sz S M TX tl pl ft n1 n2 wd n (by assumption) hst (by omega) (by omega)) ((by rw [hck]; rfl))) gL_pass_X8_pass rfl rfl k_X8_pass ⟨Nat.le_of_ble_eq_true rfl, Nat.le_of_ble_eq_true rfl⟩ rfl rfl rfl rfl (Nat.le_of_ble_eq_true rfl) ⟨Nat.le_of_ble_eq_true rfl, Nat.le_of_ble_eq_true rfl⟩ dL_pass_4 rfl [] ({ startPc := 0, endPc := 9, handlerPc := 12, catchType := 13 } : ExceptionTableEntry) [({ startPc := 0, endPc := 9, handlerPc := 15, catchType := 15 } : ExceptionTableEntry)] (hTab.trans rfl) (fun z hz => nomatch hz) (by decide) (by decide) hf_0 (hE.2.1.1 _ (List.mem_of_getElem? (i := 19) rfl)) (fun q9_4 H locs hP hD hS => ?_)
    have hP : va_P D vwCl (x8W u a r q ++ (svW ct r b nx sz S ++ (sobjW a ++ (gridW ct a M ++ (benchW ct a M ++ (logW ct a M ++ (txtW ct q TX tl pl ft wd n1 n2 ++ (jrW ct o0 1 O)))))))) H := hP
    have hD : va_D A (x8W u a r q ++ (svW ct r b nx sz S ++ (sobjW a ++ (gridW ct a M ++ (benchW ct a M ++ (logW ct a M ++ (txtW ct q TX tl pl ft wd n1 n2 ++ (jrW ct o0 1 O)))))))) := hD
    refine W.eq (g2 := F0 m 12 ls [.ref q9_4]) rfl ?_
    refine lv_astore_n (lv' := [(3, .ref q9_4), (0, .ref u), (1, .int (zI n)), (2, .ref o0)]) hx hb dL_pass_12 rfl hl (by decide) rfl (fun ls hl => ?_)
    refine z_iconst hx hb dL_pass_13 ?_
    exact z_iret hx hb hr hlocks hP hD hS ⟨Nat.le_of_ble_eq_true rfl, Nat.le_of_ble_eq_true rfl⟩ dL_pass_14 (⟨congrArg (fun z => some (Value.int (zI z))) (by first | rfl | omega | (unfold ck1; split <;> omega) | (split <;> omega)), rfl⟩)
  · refine z_catV (C := RX8) (q0 := 0) (ci := 6) (E := "java/lang/IllegalStateException") (name := "java/lang/IllegalStateException") (As := [.int (zI n)]) (rest := [.int (zI 0), .ref o0]) ([] : va_W) (jrW ct o0 1 O) hx hb hml hown hts hl hE hS hA hP hD (ZX.toE (c_X8_pass_x l D ct ad u a r q b nx sz S M TX tl pl ft n1 n2 wd n (by assumption) hst (by omega) (by omega)) ((by rw [hck]; rfl))) gL_pass_X8_pass rfl rfl k_X8_pass ⟨Nat.le_of_ble_eq_true rfl, Nat.le_of_ble_eq_true rfl⟩ rfl rfl rfl rfl (Nat.le_of_ble_eq_true rfl) ⟨Nat.le_of_ble_eq_true rfl, Nat.le_of_ble_eq_true rfl⟩ dL_pass_4 rfl [({ startPc := 0, endPc := 9, handlerPc := 12, catchType := 13 } : ExceptionTableEntry)] ({ startPc := 0, endPc := 9, handlerPc := 15, catchType := 15 } : ExceptionTableEntry) [] (hTab.trans rfl) (fun z hz => by simp only [List.mem_cons, List.not_mem_nil, or_false] at hz; rcases hz with rfl; exact Or.inr ⟨by decide, "java/lang/IllegalArgumentException", hf_0, hE.2.1.2 ("java/lang/IllegalStateException", "java/lang/IllegalArgumentException") (by decide)⟩) (by decide) (by decide) hf_1 (hE.2.1.1 _ (List.mem_of_getElem? (i := 20) rfl)) (fun q9_4 H locs hP hD hS => ?_)
    have hP : va_P D vwCl (x8W u a r q ++ (svW ct r b nx sz S ++ (sobjW a ++ (gridW ct a M ++ (benchW ct a M ++ (logW ct a M ++ (txtW ct q TX tl pl ft wd n1 n2 ++ (jrW ct o0 1 O)))))))) H := hP
    have hD : va_D A (x8W u a r q ++ (svW ct r b nx sz S ++ (sobjW a ++ (gridW ct a M ++ (benchW ct a M ++ (logW ct a M ++ (txtW ct q TX tl pl ft wd n1 n2 ++ (jrW ct o0 1 O)))))))) := hD
    refine W.eq (g2 := F0 m 15 ls [.ref q9_4]) rfl ?_
    refine lv_astore_n (lv' := [(3, .ref q9_4), (0, .ref u), (1, .int (zI n)), (2, .ref o0)]) hx hb dL_pass_15 rfl hl (by decide) rfl (fun ls hl => ?_)
    refine z_iconst hx hb dL_pass_16 ?_
    exact z_iret hx hb hr hlocks hP hD hS ⟨Nat.le_of_ble_eq_true rfl, Nat.le_of_ble_eq_true rfl⟩ dL_pass_17 (⟨congrArg (fun z => some (Value.int (zI z))) (by first | rfl | omega | (unfold ck1; split <;> omega) | (split <;> omega)), rfl⟩)
theorem k_X8_stretch : yX8_stretch.cls ≠ "java/lang/invoke/MethodHandle" ∧ yX8_stretch.cls ≠ "java/lang/invoke/VarHandle" ∧ (parseMethodDescriptor yX8_stretch.desc).map (fun d => d.parameters.length) = some 1 := by decide +kernel
set_option maxHeartbeats 4000000 in
set_option maxRecDepth 100000 in
theorem c_L_stretch_ok (l : Launch) (D : va_G) (ct ad : Nat → Nat) (u : Nat) (a r q : Nat → Nat) (b : Nat → Nat → Nat) (nx sz : Int) (S : Nat → Int → Int) (M TX : Int → Int) (tl pl ft n1 n2 : Int) (wd : Value) (o0 : Nat) (O : Int → Int) (k : Int) (hs : sInv M) (h1 : -2147483648 ≤ k ∧ k ≤ 2147483647) (hok : 0 ≤ k ∧ k < M 3) (hv : -2147483648 ≤ M (16 + k) ∧ M (16 + k) ≤ 2147483647) : ZM l yL_stretch wsL_stretch ({ frames := 4, cells := 0, slots := 0, locals := 85 } : Room) D ct ad [.ref u, .int (zI k), .ref o0] (x8W u a r q ++ (svW ct r b nx sz S ++ (sobjW a ++ (gridW ct a M ++ (benchW ct a M ++ (logW ct a M ++ (txtW ct q TX tl pl ft wd n1 n2 ++ (jrW ct o0 1 O)))))))) (zD (some (.int (zI 0))) (x8W u a r q ++ (svW ct r b nx sz S ++ (sobjW a ++ (gridW ct a M ++ (benchW ct a M ++ (logW ct a M ++ (txtW ct q TX tl pl ft wd n1 n2 ++ (jrW ct o0 1 (up O 0 (M (16 + k)))))))))))) := by
  refine ZM.ofH (cc := cL_stretch) (maxL := 4) (ret := (some .int)) (by decide +kernel) rfl (Nat.le_of_ble_eq_true rfl) ?_
  intro p e s m below meth c A ls hx hb hr hts hown hlocks hml hTab hE hP hD hA hS hl
  have hK := hE.1
  have hl : lv_has ls 4 [(0, .ref u), (1, .int (zI k)), (2, .ref o0)] := hl
  refine lv_aload_n hx hb dL_stretch_0 rfl (lv_at hl 2 rfl) ?_
  refine z_iconst hx hb dL_stretch_1 ?_
  refine lv_aload_n hx hb dL_stretch_2 rfl (lv_at hl 0 rfl) ?_
  refine lv_iload_n hx hb dL_stretch_3 rfl (lv_at hl 1 rfl) ?_
  refine z_callV (C := RX8) (q0 := 0) (ci := 6) (As := [.int (zI k)]) (rest := [.int (zI 0), .ref o0]) ([] : va_W) (jrW ct o0 1 O) hx hb hml hown hts hl hE hS hA hP hD (c_X8_stretch l D ct ad u a r q b nx sz S M TX tl pl ft n1 n2 wd k (by assumption) (by omega) (by omega)) gL_stretch_X8_stretch rfl rfl k_X8_stretch ⟨Nat.le_of_ble_eq_true rfl, Nat.le_of_ble_eq_true rfl⟩ rfl rfl rfl rfl (Nat.le_of_ble_eq_true rfl) ⟨Nat.le_of_ble_eq_true rfl, Nat.le_of_ble_eq_true rfl⟩ dL_stretch_4 rfl (fun v w1 H locs hpost hP hD hS => ?_)
  obtain ⟨rfl, rfl⟩ := hpost
  have hP : va_P D vwCl (x8W u a r q ++ (svW ct r b nx sz S ++ (sobjW a ++ (gridW ct a M ++ (benchW ct a M ++ (logW ct a M ++ (txtW ct q TX tl pl ft wd n1 n2 ++ (jrW ct o0 1 O)))))))) H := hP
  have hD : va_D A (x8W u a r q ++ (svW ct r b nx sz S ++ (sobjW a ++ (gridW ct a M ++ (benchW ct a M ++ (logW ct a M ++ (txtW ct q TX tl pl ft wd n1 n2 ++ (jrW ct o0 1 O)))))))) := hD
  refine W.eq (g2 := F0 m 7 ls [.int (zI (M (16 + k))), .int (zI 0), .ref o0]) rfl ?_
  refine z_i2l hx hb dL_stretch_7 (by omega) ?_
  refine z_last (g := O) (w2 := x8W u a r q ++ (svW ct r b nx sz S ++ (sobjW a ++ (gridW ct a M ++ (benchW ct a M ++ (logW ct a M ++ (txtW ct q TX tl pl ft wd n1 n2 ++ (jrW ct o0 1 (up O 0 (M (16 + k))))))))))) hx hb hK hP hD hS 60 rfl (by decide) (by omega) dL_stretch_8 (rfl) (fun H locs hP hD hS => ?_)
  refine lv_goto (tgt := 15) hx hb dL_stretch_9 (by decide) ?_
  refine z_iconst hx hb dL_stretch_15 ?_
  exact z_iret hx hb hr hlocks hP hD hS ⟨Nat.le_of_ble_eq_true rfl, Nat.le_of_ble_eq_true rfl⟩ dL_stretch_16 (⟨congrArg (fun z => some (Value.int (zI z))) (rfl), rfl⟩)
set_option maxHeartbeats 4000000 in
set_option maxRecDepth 100000 in
theorem c_L_stretch_no (l : Launch) (D : va_G) (ct ad : Nat → Nat) (u : Nat) (a r q : Nat → Nat) (b : Nat → Nat → Nat) (nx sz : Int) (S : Nat → Int → Int) (M TX : Int → Int) (tl pl ft n1 n2 : Int) (wd : Value) (o0 : Nat) (O : Int → Int) (k : Int) (hs : sInv M) (hst : l.stackTraces = false) (h1 : -2147483648 ≤ k ∧ k ≤ 2147483647) (hno : ¬ (0 ≤ k ∧ k < M 3)) : ZM l yL_stretch wsL_stretch ({ frames := 8, cells := 1, slots := 6, locals := 123 } : Room) D ct ad [.ref u, .int (zI k), .ref o0] (x8W u a r q ++ (svW ct r b nx sz S ++ (sobjW a ++ (gridW ct a M ++ (benchW ct a M ++ (logW ct a M ++ (txtW ct q TX tl pl ft wd n1 n2 ++ (jrW ct o0 1 O)))))))) (zD (some (.int (zI 1))) (x8W u a r q ++ (svW ct r b nx sz S ++ (sobjW a ++ (gridW ct a M ++ (benchW ct a M ++ (logW ct a M ++ (txtW ct q TX tl pl ft wd n1 n2 ++ (jrW ct o0 1 O))))))))) := by
  refine ZM.ofH (cc := cL_stretch) (maxL := 4) (ret := (some .int)) (by decide +kernel) rfl (Nat.le_of_ble_eq_true rfl) ?_
  intro p e s m below meth c A ls hx hb hr hts hown hlocks hml hTab hE hP hD hA hS hl
  have hK := hE.1
  have hf_0 := hts (.classLink RL 21 "java/lang/IndexOutOfBoundsException") (by decide +kernel)
  have hl : lv_has ls 4 [(0, .ref u), (1, .int (zI k)), (2, .ref o0)] := hl
  refine lv_aload_n hx hb dL_stretch_0 rfl (lv_at hl 2 rfl) ?_
  refine z_iconst hx hb dL_stretch_1 ?_
  refine lv_aload_n hx hb dL_stretch_2 rfl (lv_at hl 0 rfl) ?_
  refine lv_iload_n hx hb dL_stretch_3 rfl (lv_at hl 1 rfl) ?_
  rcases (show True from trivial) with hck
  · refine z_catV (C := RX8) (q0 := 0) (ci := 6) (E := "java/lang/IndexOutOfBoundsException") (name := "java/lang/IndexOutOfBoundsException") (As := [.int (zI k)]) (rest := [.int (zI 0), .ref o0]) ([] : va_W) (jrW ct o0 1 O) hx hb hml hown hts hl hE hS hA hP hD (ZX.toE (c_X8_stretch_x l D ct ad u a r q b nx sz S M TX tl pl ft n1 n2 wd k (by assumption) hst (by omega) (by omega)) (rfl)) gL_stretch_X8_stretch rfl rfl k_X8_stretch ⟨Nat.le_of_ble_eq_true rfl, Nat.le_of_ble_eq_true rfl⟩ rfl rfl rfl rfl (Nat.le_of_ble_eq_true rfl) ⟨Nat.le_of_ble_eq_true rfl, Nat.le_of_ble_eq_true rfl⟩ dL_stretch_4 rfl [] ({ startPc := 0, endPc := 9, handlerPc := 12, catchType := 21 } : ExceptionTableEntry) [] (hTab.trans rfl) (fun z hz => nomatch hz) (by decide) (by decide) hf_0 (hE.2.1.1 _ (List.mem_of_getElem? (i := 18) rfl)) (fun q9_4 H locs hP hD hS => ?_)
    have hP : va_P D vwCl (x8W u a r q ++ (svW ct r b nx sz S ++ (sobjW a ++ (gridW ct a M ++ (benchW ct a M ++ (logW ct a M ++ (txtW ct q TX tl pl ft wd n1 n2 ++ (jrW ct o0 1 O)))))))) H := hP
    have hD : va_D A (x8W u a r q ++ (svW ct r b nx sz S ++ (sobjW a ++ (gridW ct a M ++ (benchW ct a M ++ (logW ct a M ++ (txtW ct q TX tl pl ft wd n1 n2 ++ (jrW ct o0 1 O)))))))) := hD
    refine W.eq (g2 := F0 m 12 ls [.ref q9_4]) rfl ?_
    refine lv_astore_n (lv' := [(3, .ref q9_4), (0, .ref u), (1, .int (zI k)), (2, .ref o0)]) hx hb dL_stretch_12 rfl hl (by decide) rfl (fun ls hl => ?_)
    refine z_iconst hx hb dL_stretch_13 ?_
    exact z_iret hx hb hr hlocks hP hD hS ⟨Nat.le_of_ble_eq_true rfl, Nat.le_of_ble_eq_true rfl⟩ dL_stretch_14 (⟨congrArg (fun z => some (Value.int (zI z))) (by first | rfl | omega | (unfold ck1; split <;> omega) | (split <;> omega)), rfl⟩)
theorem k_X8_shelf : yX8_shelf.cls ≠ "java/lang/invoke/MethodHandle" ∧ yX8_shelf.cls ≠ "java/lang/invoke/VarHandle" ∧ (parseMethodDescriptor yX8_shelf.desc).map (fun d => d.parameters.length) = some 1 := by decide +kernel
set_option maxHeartbeats 4000000 in
set_option maxRecDepth 100000 in
theorem c_L_shelf_ok (l : Launch) (D : va_G) (ct ad : Nat → Nat) (u : Nat) (a r q : Nat → Nat) (b : Nat → Nat → Nat) (nx sz : Int) (S : Nat → Int → Int) (M TX : Int → Int) (tl pl ft n1 n2 : Int) (wd : Value) (o0 : Nat) (O : Int → Int) (k : Int) (hs : sInv M) (h1 : -2147483648 ≤ k ∧ k ≤ 2147483647) (hok : ck_shelf k = 0) (hv : -2147483648 ≤ M (49 + k) ∧ M (49 + k) ≤ 2147483647) : ZM l yL_shelf wsL_shelf ({ frames := 3, cells := 0, slots := 0, locals := 64 } : Room) D ct ad [.ref u, .int (zI k), .ref o0] (x8W u a r q ++ (svW ct r b nx sz S ++ (sobjW a ++ (gridW ct a M ++ (benchW ct a M ++ (logW ct a M ++ (txtW ct q TX tl pl ft wd n1 n2 ++ (jrW ct o0 1 O)))))))) (zD (some (.int (zI 0))) (x8W u a r q ++ (svW ct r b nx sz S ++ (sobjW a ++ (gridW ct a M ++ (benchW ct a M ++ (logW ct a M ++ (txtW ct q TX tl pl ft wd n1 n2 ++ (jrW ct o0 1 (up O 0 (M (49 + k)))))))))))) := by
  refine ZM.ofH (cc := cL_shelf) (maxL := 4) (ret := (some .int)) (by decide +kernel) rfl (Nat.le_of_ble_eq_true rfl) ?_
  intro p e s m below meth c A ls hx hb hr hts hown hlocks hml hTab hE hP hD hA hS hl
  have hK := hE.1
  have hl : lv_has ls 4 [(0, .ref u), (1, .int (zI k)), (2, .ref o0)] := hl
  refine lv_aload_n hx hb dL_shelf_0 rfl (lv_at hl 2 rfl) ?_
  refine z_iconst hx hb dL_shelf_1 ?_
  refine lv_aload_n hx hb dL_shelf_2 rfl (lv_at hl 0 rfl) ?_
  refine lv_iload_n hx hb dL_shelf_3 rfl (lv_at hl 1 rfl) ?_
  refine z_callV (C := RX8) (q0 := 0) (ci := 6) (As := [.int (zI k)]) (rest := [.int (zI 0), .ref o0]) ([] : va_W) (jrW ct o0 1 O) hx hb hml hown hts hl hE hS hA hP hD (c_X8_shelf l D ct ad u a r q b nx sz S M TX tl pl ft n1 n2 wd k (by assumption) (by omega) (by omega)) gL_shelf_X8_shelf rfl rfl k_X8_shelf ⟨Nat.le_of_ble_eq_true rfl, Nat.le_of_ble_eq_true rfl⟩ rfl rfl rfl rfl (Nat.le_of_ble_eq_true rfl) ⟨Nat.le_of_ble_eq_true rfl, Nat.le_of_ble_eq_true rfl⟩ dL_shelf_4 rfl (fun v w1 H locs hpost hP hD hS => ?_)
  obtain ⟨rfl, rfl⟩ := hpost
  have hP : va_P D vwCl (x8W u a r q ++ (svW ct r b nx sz S ++ (sobjW a ++ (gridW ct a M ++ (benchW ct a M ++ (logW ct a M ++ (txtW ct q TX tl pl ft wd n1 n2 ++ (jrW ct o0 1 O)))))))) H := hP
  have hD : va_D A (x8W u a r q ++ (svW ct r b nx sz S ++ (sobjW a ++ (gridW ct a M ++ (benchW ct a M ++ (logW ct a M ++ (txtW ct q TX tl pl ft wd n1 n2 ++ (jrW ct o0 1 O)))))))) := hD
  refine W.eq (g2 := F0 m 7 ls [.int (zI (M (49 + k))), .int (zI 0), .ref o0]) rfl ?_
  refine z_i2l hx hb dL_shelf_7 (by omega) ?_
  refine z_last (g := O) (w2 := x8W u a r q ++ (svW ct r b nx sz S ++ (sobjW a ++ (gridW ct a M ++ (benchW ct a M ++ (logW ct a M ++ (txtW ct q TX tl pl ft wd n1 n2 ++ (jrW ct o0 1 (up O 0 (M (49 + k))))))))))) hx hb hK hP hD hS 60 rfl (by decide) (by omega) dL_shelf_8 (rfl) (fun H locs hP hD hS => ?_)
  refine lv_goto (tgt := 15) hx hb dL_shelf_9 (by decide) ?_
  refine z_iconst hx hb dL_shelf_15 ?_
  exact z_iret hx hb hr hlocks hP hD hS ⟨Nat.le_of_ble_eq_true rfl, Nat.le_of_ble_eq_true rfl⟩ dL_shelf_16 (⟨congrArg (fun z => some (Value.int (zI z))) (rfl), rfl⟩)
set_option maxHeartbeats 4000000 in
set_option maxRecDepth 100000 in
theorem c_L_shelf_no (l : Launch) (D : va_G) (ct ad : Nat → Nat) (u : Nat) (a r q : Nat → Nat) (b : Nat → Nat → Nat) (nx sz : Int) (S : Nat → Int → Int) (M TX : Int → Int) (tl pl ft n1 n2 : Int) (wd : Value) (o0 : Nat) (O : Int → Int) (k : Int) (hs : sInv M) (hst : l.stackTraces = false) (h1 : -2147483648 ≤ k ∧ k ≤ 2147483647) (hno : ck_shelf k ≠ 0) : ZM l yL_shelf wsL_shelf ({ frames := 8, cells := 1, slots := 6, locals := 123 } : Room) D ct ad [.ref u, .int (zI k), .ref o0] (x8W u a r q ++ (svW ct r b nx sz S ++ (sobjW a ++ (gridW ct a M ++ (benchW ct a M ++ (logW ct a M ++ (txtW ct q TX tl pl ft wd n1 n2 ++ (jrW ct o0 1 O)))))))) (zD (some (.int (zI (ck_shelf k)))) (x8W u a r q ++ (svW ct r b nx sz S ++ (sobjW a ++ (gridW ct a M ++ (benchW ct a M ++ (logW ct a M ++ (txtW ct q TX tl pl ft wd n1 n2 ++ (jrW ct o0 1 O))))))))) := by
  refine ZM.ofH (cc := cL_shelf) (maxL := 4) (ret := (some .int)) (by decide +kernel) rfl (Nat.le_of_ble_eq_true rfl) ?_
  intro p e s m below meth c A ls hx hb hr hts hown hlocks hml hTab hE hP hD hA hS hl
  have hK := hE.1
  have hf_0 := hts (.classLink RL 21 "java/lang/IndexOutOfBoundsException") (by decide +kernel)
  have hl : lv_has ls 4 [(0, .ref u), (1, .int (zI k)), (2, .ref o0)] := hl
  refine lv_aload_n hx hb dL_shelf_0 rfl (lv_at hl 2 rfl) ?_
  refine z_iconst hx hb dL_shelf_1 ?_
  refine lv_aload_n hx hb dL_shelf_2 rfl (lv_at hl 0 rfl) ?_
  refine lv_iload_n hx hb dL_shelf_3 rfl (lv_at hl 1 rfl) ?_
  rcases (show ck_shelf k = 1 from (by have q9 := hno; unfold ck_shelf at q9 ⊢; (repeat' split) <;> (repeat' split at q9) <;> omega)) with hck
  · refine z_catV (C := RX8) (q0 := 0) (ci := 6) (E := "java/lang/IndexOutOfBoundsException") (name := "java/lang/IndexOutOfBoundsException") (As := [.int (zI k)]) (rest := [.int (zI 0), .ref o0]) ([] : va_W) (jrW ct o0 1 O) hx hb hml hown hts hl hE hS hA hP hD (ZX.toE (c_X8_shelf_x l D ct ad u a r q b nx sz S M TX tl pl ft n1 n2 wd k (by assumption) hst (by omega) (by omega)) ((by rw [hck]; rfl))) gL_shelf_X8_shelf rfl rfl k_X8_shelf ⟨Nat.le_of_ble_eq_true rfl, Nat.le_of_ble_eq_true rfl⟩ rfl rfl rfl rfl (Nat.le_of_ble_eq_true rfl) ⟨Nat.le_of_ble_eq_true rfl, Nat.le_of_ble_eq_true rfl⟩ dL_shelf_4 rfl [] ({ startPc := 0, endPc := 9, handlerPc := 12, catchType := 21 } : ExceptionTableEntry) [] (hTab.trans rfl) (fun z hz => nomatch hz) (by decide) (by decide) hf_0 (hE.2.1.1 _ (List.mem_of_getElem? (i := 18) rfl)) (fun q9_4 H locs hP hD hS => ?_)
    have hP : va_P D vwCl (x8W u a r q ++ (svW ct r b nx sz S ++ (sobjW a ++ (gridW ct a M ++ (benchW ct a M ++ (logW ct a M ++ (txtW ct q TX tl pl ft wd n1 n2 ++ (jrW ct o0 1 O)))))))) H := hP
    have hD : va_D A (x8W u a r q ++ (svW ct r b nx sz S ++ (sobjW a ++ (gridW ct a M ++ (benchW ct a M ++ (logW ct a M ++ (txtW ct q TX tl pl ft wd n1 n2 ++ (jrW ct o0 1 O)))))))) := hD
    refine W.eq (g2 := F0 m 12 ls [.ref q9_4]) rfl ?_
    refine lv_astore_n (lv' := [(3, .ref q9_4), (0, .ref u), (1, .int (zI k)), (2, .ref o0)]) hx hb dL_shelf_12 rfl hl (by decide) rfl (fun ls hl => ?_)
    refine z_iconst hx hb dL_shelf_13 ?_
    exact z_iret hx hb hr hlocks hP hD hS ⟨Nat.le_of_ble_eq_true rfl, Nat.le_of_ble_eq_true rfl⟩ dL_shelf_14 (⟨congrArg (fun z => some (Value.int (zI z))) (by first | rfl | omega | (unfold ck1; split <;> omega) | (split <;> omega)), rfl⟩)
theorem k_X8_whole : yX8_whole.cls ≠ "java/lang/invoke/MethodHandle" ∧ yX8_whole.cls ≠ "java/lang/invoke/VarHandle" ∧ (parseMethodDescriptor yX8_whole.desc).map (fun d => d.parameters.length) = some 1 := by decide +kernel
set_option maxHeartbeats 4000000 in
set_option maxRecDepth 100000 in
theorem c_L_whole_ok (l : Launch) (D : va_G) (ct ad : Nat → Nat) (u : Nat) (a r q : Nat → Nat) (b : Nat → Nat → Nat) (nx sz : Int) (S : Nat → Int → Int) (M TX : Int → Int) (tl pl ft n1 n2 : Int) (wd : Value) (o0 : Nat) (O : Int → Int) (w : Int) (hs : sInv M) (h1 : -2147483648 ≤ w ∧ w ≤ 2147483647) (hok : 0 ≤ w ∧ w ≤ 17) (hv : -2147483648 ≤ sp_wh M tl w ∧ sp_wh M tl w ≤ 2147483647) : ZM l yL_whole wsL_whole ({ frames := 6, cells := 0, slots := 0, locals := 142 } : Room) D ct ad [.ref u, .int (zI w), .ref o0] (x8W u a r q ++ (svW ct r b nx sz S ++ (sobjW a ++ (gridW ct a M ++ (benchW ct a M ++ (logW ct a M ++ (txtW ct q TX tl pl ft wd n1 n2 ++ (jrW ct o0 1 O)))))))) (zD (some (.int (zI 0))) (x8W u a r q ++ (svW ct r b nx sz S ++ (sobjW a ++ (gridW ct a M ++ (benchW ct a M ++ (logW ct a M ++ (txtW ct q TX tl pl ft wd n1 n2 ++ (jrW ct o0 1 (up O 0 (sp_wh M tl w))))))))))) := by
  refine ZM.ofH (cc := cL_whole) (maxL := 4) (ret := (some .int)) (by decide +kernel) rfl (Nat.le_of_ble_eq_true rfl) ?_
  intro p e s m below meth c A ls hx hb hr hts hown hlocks hml hTab hE hP hD hA hS hl
  have hK := hE.1
  have hl : lv_has ls 4 [(0, .ref u), (1, .int (zI w)), (2, .ref o0)] := hl
  refine lv_aload_n hx hb dL_whole_0 rfl (lv_at hl 2 rfl) ?_
  refine z_iconst hx hb dL_whole_1 ?_
  refine lv_aload_n hx hb dL_whole_2 rfl (lv_at hl 0 rfl) ?_
  refine lv_iload_n hx hb dL_whole_3 rfl (lv_at hl 1 rfl) ?_
  refine z_callV (C := RX8) (q0 := 0) (ci := 6) (As := [.int (zI w)]) (rest := [.int (zI 0), .ref o0]) ([] : va_W) (jrW ct o0 1 O) hx hb hml hown hts hl hE hS hA hP hD (c_X8_whole l D ct ad u a r q b nx sz S M TX tl pl ft n1 n2 wd w (by assumption) (by omega) (by omega)) gL_whole_X8_whole rfl rfl k_X8_whole ⟨Nat.le_of_ble_eq_true rfl, Nat.le_of_ble_eq_true rfl⟩ rfl rfl rfl rfl (Nat.le_of_ble_eq_true rfl) ⟨Nat.le_of_ble_eq_true rfl, Nat.le_of_ble_eq_true rfl⟩ dL_whole_4 rfl (fun v w1 H locs hpost hP hD hS => ?_)
  obtain ⟨rfl, rfl⟩ := hpost
  have hP : va_P D vwCl (x8W u a r q ++ (svW ct r b nx sz S ++ (sobjW a ++ (gridW ct a M ++ (benchW ct a M ++ (logW ct a M ++ (txtW ct q TX tl pl ft wd n1 n2 ++ (jrW ct o0 1 O)))))))) H := hP
  have hD : va_D A (x8W u a r q ++ (svW ct r b nx sz S ++ (sobjW a ++ (gridW ct a M ++ (benchW ct a M ++ (logW ct a M ++ (txtW ct q TX tl pl ft wd n1 n2 ++ (jrW ct o0 1 O)))))))) := hD
  refine W.eq (g2 := F0 m 7 ls [.int (zI (sp_wh M tl w)), .int (zI 0), .ref o0]) rfl ?_
  refine z_i2l hx hb dL_whole_7 (by omega) ?_
  refine z_last (g := O) (w2 := x8W u a r q ++ (svW ct r b nx sz S ++ (sobjW a ++ (gridW ct a M ++ (benchW ct a M ++ (logW ct a M ++ (txtW ct q TX tl pl ft wd n1 n2 ++ (jrW ct o0 1 (up O 0 (sp_wh M tl w)))))))))) hx hb hK hP hD hS 60 rfl (by decide) (by omega) dL_whole_8 (rfl) (fun H locs hP hD hS => ?_)
  refine lv_goto (tgt := 15) hx hb dL_whole_9 (by decide) ?_
  refine z_iconst hx hb dL_whole_15 ?_
  exact z_iret hx hb hr hlocks hP hD hS ⟨Nat.le_of_ble_eq_true rfl, Nat.le_of_ble_eq_true rfl⟩ dL_whole_16 (⟨congrArg (fun z => some (Value.int (zI z))) (rfl), rfl⟩)
set_option maxHeartbeats 4000000 in
set_option maxRecDepth 100000 in
theorem c_L_whole_no (l : Launch) (D : va_G) (ct ad : Nat → Nat) (u : Nat) (a r q : Nat → Nat) (b : Nat → Nat → Nat) (nx sz : Int) (S : Nat → Int → Int) (M TX : Int → Int) (tl pl ft n1 n2 : Int) (wd : Value) (o0 : Nat) (O : Int → Int) (w : Int) (hs : sInv M) (hst : l.stackTraces = false) (h1 : -2147483648 ≤ w ∧ w ≤ 2147483647) (hno : ¬ (0 ≤ w ∧ w ≤ 17)) : ZM l yL_whole wsL_whole ({ frames := 8, cells := 1, slots := 6, locals := 123 } : Room) D ct ad [.ref u, .int (zI w), .ref o0] (x8W u a r q ++ (svW ct r b nx sz S ++ (sobjW a ++ (gridW ct a M ++ (benchW ct a M ++ (logW ct a M ++ (txtW ct q TX tl pl ft wd n1 n2 ++ (jrW ct o0 1 O)))))))) (zD (some (.int (zI 1))) (x8W u a r q ++ (svW ct r b nx sz S ++ (sobjW a ++ (gridW ct a M ++ (benchW ct a M ++ (logW ct a M ++ (txtW ct q TX tl pl ft wd n1 n2 ++ (jrW ct o0 1 O))))))))) := by
  refine ZM.ofH (cc := cL_whole) (maxL := 4) (ret := (some .int)) (by decide +kernel) rfl (Nat.le_of_ble_eq_true rfl) ?_
  intro p e s m below meth c A ls hx hb hr hts hown hlocks hml hTab hE hP hD hA hS hl
  have hK := hE.1
  have hf_0 := hts (.classLink RL 13 "java/lang/IllegalArgumentException") (by decide +kernel)
  have hl : lv_has ls 4 [(0, .ref u), (1, .int (zI w)), (2, .ref o0)] := hl
  refine lv_aload_n hx hb dL_whole_0 rfl (lv_at hl 2 rfl) ?_
  refine z_iconst hx hb dL_whole_1 ?_
  refine lv_aload_n hx hb dL_whole_2 rfl (lv_at hl 0 rfl) ?_
  refine lv_iload_n hx hb dL_whole_3 rfl (lv_at hl 1 rfl) ?_
  rcases (show True from trivial) with hck
  · refine z_catV (C := RX8) (q0 := 0) (ci := 6) (E := "java/lang/IllegalArgumentException") (name := "java/lang/IllegalArgumentException") (As := [.int (zI w)]) (rest := [.int (zI 0), .ref o0]) ([] : va_W) (jrW ct o0 1 O) hx hb hml hown hts hl hE hS hA hP hD (ZX.toE (c_X8_whole_x l D ct ad u a r q b nx sz S M TX tl pl ft n1 n2 wd w (by assumption) hst (by omega) (by omega)) (rfl)) gL_whole_X8_whole rfl rfl k_X8_whole ⟨Nat.le_of_ble_eq_true rfl, Nat.le_of_ble_eq_true rfl⟩ rfl rfl rfl rfl (Nat.le_of_ble_eq_true rfl) ⟨Nat.le_of_ble_eq_true rfl, Nat.le_of_ble_eq_true rfl⟩ dL_whole_4 rfl [] ({ startPc := 0, endPc := 9, handlerPc := 12, catchType := 13 } : ExceptionTableEntry) [] (hTab.trans rfl) (fun z hz => nomatch hz) (by decide) (by decide) hf_0 (hE.2.1.1 _ (List.mem_of_getElem? (i := 19) rfl)) (fun q9_4 H locs hP hD hS => ?_)
    have hP : va_P D vwCl (x8W u a r q ++ (svW ct r b nx sz S ++ (sobjW a ++ (gridW ct a M ++ (benchW ct a M ++ (logW ct a M ++ (txtW ct q TX tl pl ft wd n1 n2 ++ (jrW ct o0 1 O)))))))) H := hP
    have hD : va_D A (x8W u a r q ++ (svW ct r b nx sz S ++ (sobjW a ++ (gridW ct a M ++ (benchW ct a M ++ (logW ct a M ++ (txtW ct q TX tl pl ft wd n1 n2 ++ (jrW ct o0 1 O)))))))) := hD
    refine W.eq (g2 := F0 m 12 ls [.ref q9_4]) rfl ?_
    refine lv_astore_n (lv' := [(3, .ref q9_4), (0, .ref u), (1, .int (zI w)), (2, .ref o0)]) hx hb dL_whole_12 rfl hl (by decide) rfl (fun ls hl => ?_)
    refine z_iconst hx hb dL_whole_13 ?_
    exact z_iret hx hb hr hlocks hP hD hS ⟨Nat.le_of_ble_eq_true rfl, Nat.le_of_ble_eq_true rfl⟩ dL_whole_14 (⟨congrArg (fun z => some (Value.int (zI z))) (by first | rfl | omega | (unfold ck1; split <;> omega) | (split <;> omega)), rfl⟩)
theorem k_X8_day : yX8_day.cls ≠ "java/lang/invoke/MethodHandle" ∧ yX8_day.cls ≠ "java/lang/invoke/VarHandle" ∧ (parseMethodDescriptor yX8_day.desc).map (fun d => d.parameters.length) = some 2 := by decide +kernel
set_option maxHeartbeats 4000000 in
set_option maxRecDepth 100000 in
theorem c_L_day_ok (l : Launch) (D : va_G) (ct ad : Nat → Nat) (u : Nat) (a r q : Nat → Nat) (b : Nat → Nat → Nat) (nx sz : Int) (S : Nat → Int → Int) (M TX : Int → Int) (tl pl ft n1 n2 : Int) (wd : Value) (o0 : Nat) (O : Int → Int) (k w : Int) (hs : sInv M) (h1 : -2147483648 ≤ k ∧ k ≤ 2147483647) (h2 : -2147483648 ≤ w ∧ w ≤ 2147483647) (hok : 0 ≤ k ∧ 0 ≤ w ∧ w ≤ 3) : ZM l yL_day wsL_day ({ frames := 3, cells := 0, slots := 0, locals := 67 } : Room) D ct ad [.ref u, .int (zI k), .int (zI w), .ref o0] (x8W u a r q ++ (svW ct r b nx sz S ++ (sobjW a ++ (gridW ct a M ++ (benchW ct a M ++ (logW ct a M ++ (txtW ct q TX tl pl ft wd n1 n2 ++ (jrW ct o0 1 O)))))))) (zD (some (.int (zI 0))) (x8W u a r q ++ (svW ct r b nx sz S ++ (sobjW a ++ (gridW ct a M ++ (benchW ct a M ++ (logW ct a M ++ (txtW ct q TX tl pl ft wd n1 n2 ++ (jrW ct o0 1 (up O 0 (sp_dayv M k w))))))))))) := by
  refine ZM.ofH (cc := cL_day) (maxL := 5) (ret := (some .int)) (by decide +kernel) rfl (Nat.le_of_ble_eq_true rfl) ?_
  intro p e s m below meth c A ls hx hb hr hts hown hlocks hml hTab hE hP hD hA hS hl
  have hK := hE.1
  have hl : lv_has ls 5 [(0, .ref u), (1, .int (zI k)), (2, .int (zI w)), (3, .ref o0)] := hl
  refine lv_aload_n hx hb dL_day_0 rfl (lv_at hl 3 rfl) ?_
  refine z_iconst hx hb dL_day_1 ?_
  refine lv_aload_n hx hb dL_day_2 rfl (lv_at hl 0 rfl) ?_
  refine lv_iload_n hx hb dL_day_3 rfl (lv_at hl 1 rfl) ?_
  refine lv_iload_n hx hb dL_day_4 rfl (lv_at hl 2 rfl) ?_
  refine z_callV (C := RX8) (q0 := 0) (ci := 6) (As := [.int (zI k), .int (zI w)]) (rest := [.int (zI 0), .ref o0]) ([] : va_W) (jrW ct o0 1 O) hx hb hml hown hts hl hE hS hA hP hD (c_X8_day l D ct ad u a r q b nx sz S M TX tl pl ft n1 n2 wd k w (by assumption) (by omega) (by omega) (by omega)) gL_day_X8_day rfl rfl k_X8_day ⟨Nat.le_of_ble_eq_true rfl, Nat.le_of_ble_eq_true rfl⟩ rfl rfl rfl rfl (Nat.le_of_ble_eq_true rfl) ⟨Nat.le_of_ble_eq_true rfl, Nat.le_of_ble_eq_true rfl⟩ dL_day_5 rfl (fun v w1 H locs hpost hP hD hS => ?_)
  obtain ⟨rfl, rfl⟩ := hpost
  have hP : va_P D vwCl (x8W u a r q ++ (svW ct r b nx sz S ++ (sobjW a ++ (gridW ct a M ++ (benchW ct a M ++ (logW ct a M ++ (txtW ct q TX tl pl ft wd n1 n2 ++ (jrW ct o0 1 O)))))))) H := hP
  have hD : va_D A (x8W u a r q ++ (svW ct r b nx sz S ++ (sobjW a ++ (gridW ct a M ++ (benchW ct a M ++ (logW ct a M ++ (txtW ct q TX tl pl ft wd n1 n2 ++ (jrW ct o0 1 O)))))))) := hD
  refine W.eq (g2 := F0 m 8 ls [.long (zJ (sp_dayv M k w)), .int (zI 0), .ref o0]) rfl ?_
  refine z_last (g := O) (w2 := x8W u a r q ++ (svW ct r b nx sz S ++ (sobjW a ++ (gridW ct a M ++ (benchW ct a M ++ (logW ct a M ++ (txtW ct q TX tl pl ft wd n1 n2 ++ (jrW ct o0 1 (up O 0 (sp_dayv M k w)))))))))) hx hb hK hP hD hS 60 rfl (by decide) (by omega) dL_day_8 (rfl) (fun H locs hP hD hS => ?_)
  refine lv_goto (tgt := 16) hx hb dL_day_9 (by decide) ?_
  refine z_iconst hx hb dL_day_16 ?_
  exact z_iret hx hb hr hlocks hP hD hS ⟨Nat.le_of_ble_eq_true rfl, Nat.le_of_ble_eq_true rfl⟩ dL_day_17 (⟨congrArg (fun z => some (Value.int (zI z))) (rfl), rfl⟩)
set_option maxHeartbeats 4000000 in
set_option maxRecDepth 100000 in
theorem c_L_day_no (l : Launch) (D : va_G) (ct ad : Nat → Nat) (u : Nat) (a r q : Nat → Nat) (b : Nat → Nat → Nat) (nx sz : Int) (S : Nat → Int → Int) (M TX : Int → Int) (tl pl ft n1 n2 : Int) (wd : Value) (o0 : Nat) (O : Int → Int) (k w : Int) (hs : sInv M) (hst : l.stackTraces = false) (h1 : -2147483648 ≤ k ∧ k ≤ 2147483647) (h2 : -2147483648 ≤ w ∧ w ≤ 2147483647) (hno : ¬ (0 ≤ k ∧ 0 ≤ w ∧ w ≤ 3)) : ZM l yL_day wsL_day ({ frames := 8, cells := 1, slots := 6, locals := 124 } : Room) D ct ad [.ref u, .int (zI k), .int (zI w), .ref o0] (x8W u a r q ++ (svW ct r b nx sz S ++ (sobjW a ++ (gridW ct a M ++ (benchW ct a M ++ (logW ct a M ++ (txtW ct q TX tl pl ft wd n1 n2 ++ (jrW ct o0 1 O)))))))) (zD (some (.int (zI 1))) (x8W u a r q ++ (svW ct r b nx sz S ++ (sobjW a ++ (gridW ct a M ++ (benchW ct a M ++ (logW ct a M ++ (txtW ct q TX tl pl ft wd n1 n2 ++ (jrW ct o0 1 O))))))))) := by
  refine ZM.ofH (cc := cL_day) (maxL := 5) (ret := (some .int)) (by decide +kernel) rfl (Nat.le_of_ble_eq_true rfl) ?_
  intro p e s m below meth c A ls hx hb hr hts hown hlocks hml hTab hE hP hD hA hS hl
  have hK := hE.1
  have hf_0 := hts (.classLink RL 13 "java/lang/IllegalArgumentException") (by decide +kernel)
  have hl : lv_has ls 5 [(0, .ref u), (1, .int (zI k)), (2, .int (zI w)), (3, .ref o0)] := hl
  refine lv_aload_n hx hb dL_day_0 rfl (lv_at hl 3 rfl) ?_
  refine z_iconst hx hb dL_day_1 ?_
  refine lv_aload_n hx hb dL_day_2 rfl (lv_at hl 0 rfl) ?_
  refine lv_iload_n hx hb dL_day_3 rfl (lv_at hl 1 rfl) ?_
  refine lv_iload_n hx hb dL_day_4 rfl (lv_at hl 2 rfl) ?_
  rcases (show True from trivial) with hck
  · refine z_catV (C := RX8) (q0 := 0) (ci := 6) (E := "java/lang/IllegalArgumentException") (name := "java/lang/IllegalArgumentException") (As := [.int (zI k), .int (zI w)]) (rest := [.int (zI 0), .ref o0]) ([] : va_W) (jrW ct o0 1 O) hx hb hml hown hts hl hE hS hA hP hD (ZX.toE (c_X8_day_x l D ct ad u a r q b nx sz S M TX tl pl ft n1 n2 wd k w (by assumption) hst (by omega) (by omega) (by omega)) (rfl)) gL_day_X8_day rfl rfl k_X8_day ⟨Nat.le_of_ble_eq_true rfl, Nat.le_of_ble_eq_true rfl⟩ rfl rfl rfl rfl (Nat.le_of_ble_eq_true rfl) ⟨Nat.le_of_ble_eq_true rfl, Nat.le_of_ble_eq_true rfl⟩ dL_day_5 rfl [] ({ startPc := 0, endPc := 9, handlerPc := 12, catchType := 13 } : ExceptionTableEntry) [] (hTab.trans rfl) (fun z hz => nomatch hz) (by decide) (by decide) hf_0 (hE.2.1.1 _ (List.mem_of_getElem? (i := 19) rfl)) (fun q9_5 H locs hP hD hS => ?_)
    have hP : va_P D vwCl (x8W u a r q ++ (svW ct r b nx sz S ++ (sobjW a ++ (gridW ct a M ++ (benchW ct a M ++ (logW ct a M ++ (txtW ct q TX tl pl ft wd n1 n2 ++ (jrW ct o0 1 O)))))))) H := hP
    have hD : va_D A (x8W u a r q ++ (svW ct r b nx sz S ++ (sobjW a ++ (gridW ct a M ++ (benchW ct a M ++ (logW ct a M ++ (txtW ct q TX tl pl ft wd n1 n2 ++ (jrW ct o0 1 O)))))))) := hD
    refine W.eq (g2 := F0 m 12 ls [.ref q9_5]) rfl ?_
    refine lv_astore (lv' := [(4, .ref q9_5), (0, .ref u), (1, .int (zI k)), (2, .int (zI w)), (3, .ref o0)]) hx hb dL_day_12 hl (by decide) rfl (fun ls hl => ?_)
    refine z_iconst hx hb dL_day_14 ?_
    exact z_iret hx hb hr hlocks hP hD hS ⟨Nat.le_of_ble_eq_true rfl, Nat.le_of_ble_eq_true rfl⟩ dL_day_15 (⟨congrArg (fun z => some (Value.int (zI z))) (by first | rfl | omega | (unfold ck1; split <;> omega) | (split <;> omega)), rfl⟩)
theorem k_X8_rateAt : yX8_rateAt.cls ≠ "java/lang/invoke/MethodHandle" ∧ yX8_rateAt.cls ≠ "java/lang/invoke/VarHandle" ∧ (parseMethodDescriptor yX8_rateAt.desc).map (fun d => d.parameters.length) = some 1 := by decide +kernel
set_option maxHeartbeats 4000000 in
set_option maxRecDepth 100000 in
theorem c_L_rateAt_ok (l : Launch) (D : va_G) (ct ad : Nat → Nat) (u : Nat) (a r q : Nat → Nat) (b : Nat → Nat → Nat) (nx sz : Int) (S : Nat → Int → Int) (M TX : Int → Int) (tl pl ft n1 n2 : Int) (wd : Value) (o0 : Nat) (O : Int → Int) (t : Int) (hs : sInv M) (h1 : -2147483648 ≤ t ∧ t ≤ 2147483647) (hok : -300 ≤ t ∧ t ≤ 600) (hv : -2147483648 ≤ sp_rt M t ∧ sp_rt M t ≤ 2147483647) : ZM l yL_rateAt wsL_rateAt ({ frames := 5, cells := 0, slots := 0, locals := 121 } : Room) D ct ad [.ref u, .int (zI t), .ref o0] (x8W u a r q ++ (svW ct r b nx sz S ++ (sobjW a ++ (gridW ct a M ++ (benchW ct a M ++ (logW ct a M ++ (txtW ct q TX tl pl ft wd n1 n2 ++ (jrW ct o0 1 O)))))))) (zD (some (.int (zI 0))) (x8W u a r q ++ (svW ct r b nx sz S ++ (sobjW a ++ (gridW ct a M ++ (benchW ct a M ++ (logW ct a M ++ (txtW ct q TX tl pl ft wd n1 n2 ++ (jrW ct o0 1 (up O 0 (sp_rt M t))))))))))) := by
  refine ZM.ofH (cc := cL_rateAt) (maxL := 4) (ret := (some .int)) (by decide +kernel) rfl (Nat.le_of_ble_eq_true rfl) ?_
  intro p e s m below meth c A ls hx hb hr hts hown hlocks hml hTab hE hP hD hA hS hl
  have hK := hE.1
  have hl : lv_has ls 4 [(0, .ref u), (1, .int (zI t)), (2, .ref o0)] := hl
  refine lv_aload_n hx hb dL_rateAt_0 rfl (lv_at hl 2 rfl) ?_
  refine z_iconst hx hb dL_rateAt_1 ?_
  refine lv_aload_n hx hb dL_rateAt_2 rfl (lv_at hl 0 rfl) ?_
  refine lv_iload_n hx hb dL_rateAt_3 rfl (lv_at hl 1 rfl) ?_
  refine z_callV (C := RX8) (q0 := 0) (ci := 6) (As := [.int (zI t)]) (rest := [.int (zI 0), .ref o0]) ([] : va_W) (jrW ct o0 1 O) hx hb hml hown hts hl hE hS hA hP hD (c_X8_rateAt l D ct ad u a r q b nx sz S M TX tl pl ft n1 n2 wd t (by assumption) (by omega) (by omega)) gL_rateAt_X8_rateAt rfl rfl k_X8_rateAt ⟨Nat.le_of_ble_eq_true rfl, Nat.le_of_ble_eq_true rfl⟩ rfl rfl rfl rfl (Nat.le_of_ble_eq_true rfl) ⟨Nat.le_of_ble_eq_true rfl, Nat.le_of_ble_eq_true rfl⟩ dL_rateAt_4 rfl (fun v w1 H locs hpost hP hD hS => ?_)
  obtain ⟨rfl, rfl⟩ := hpost
  have hP : va_P D vwCl (x8W u a r q ++ (svW ct r b nx sz S ++ (sobjW a ++ (gridW ct a M ++ (benchW ct a M ++ (logW ct a M ++ (txtW ct q TX tl pl ft wd n1 n2 ++ (jrW ct o0 1 O)))))))) H := hP
  have hD : va_D A (x8W u a r q ++ (svW ct r b nx sz S ++ (sobjW a ++ (gridW ct a M ++ (benchW ct a M ++ (logW ct a M ++ (txtW ct q TX tl pl ft wd n1 n2 ++ (jrW ct o0 1 O)))))))) := hD
  refine W.eq (g2 := F0 m 7 ls [.int (zI (sp_rt M t)), .int (zI 0), .ref o0]) rfl ?_
  refine z_i2l hx hb dL_rateAt_7 (by omega) ?_
  refine z_last (g := O) (w2 := x8W u a r q ++ (svW ct r b nx sz S ++ (sobjW a ++ (gridW ct a M ++ (benchW ct a M ++ (logW ct a M ++ (txtW ct q TX tl pl ft wd n1 n2 ++ (jrW ct o0 1 (up O 0 (sp_rt M t)))))))))) hx hb hK hP hD hS 60 rfl (by decide) (by omega) dL_rateAt_8 (rfl) (fun H locs hP hD hS => ?_)
  refine lv_goto (tgt := 15) hx hb dL_rateAt_9 (by decide) ?_
  refine z_iconst hx hb dL_rateAt_15 ?_
  exact z_iret hx hb hr hlocks hP hD hS ⟨Nat.le_of_ble_eq_true rfl, Nat.le_of_ble_eq_true rfl⟩ dL_rateAt_16 (⟨congrArg (fun z => some (Value.int (zI z))) (rfl), rfl⟩)
set_option maxHeartbeats 4000000 in
set_option maxRecDepth 100000 in
theorem c_L_rateAt_no (l : Launch) (D : va_G) (ct ad : Nat → Nat) (u : Nat) (a r q : Nat → Nat) (b : Nat → Nat → Nat) (nx sz : Int) (S : Nat → Int → Int) (M TX : Int → Int) (tl pl ft n1 n2 : Int) (wd : Value) (o0 : Nat) (O : Int → Int) (t : Int) (hs : sInv M) (hst : l.stackTraces = false) (h1 : -2147483648 ≤ t ∧ t ≤ 2147483647) (hno : ¬ (-300 ≤ t ∧ t ≤ 600)) : ZM l yL_rateAt wsL_rateAt ({ frames := 8, cells := 1, slots := 6, locals := 123 } : Room) D ct ad [.ref u, .int (zI t), .ref o0] (x8W u a r q ++ (svW ct r b nx sz S ++ (sobjW a ++ (gridW ct a M ++ (benchW ct a M ++ (logW ct a M ++ (txtW ct q TX tl pl ft wd n1 n2 ++ (jrW ct o0 1 O)))))))) (zD (some (.int (zI 1))) (x8W u a r q ++ (svW ct r b nx sz S ++ (sobjW a ++ (gridW ct a M ++ (benchW ct a M ++ (logW ct a M ++ (txtW ct q TX tl pl ft wd n1 n2 ++ (jrW ct o0 1 O))))))))) := by
  refine ZM.ofH (cc := cL_rateAt) (maxL := 4) (ret := (some .int)) (by decide +kernel) rfl (Nat.le_of_ble_eq_true rfl) ?_
  intro p e s m below meth c A ls hx hb hr hts hown hlocks hml hTab hE hP hD hA hS hl
  have hK := hE.1
  have hf_0 := hts (.classLink RL 13 "java/lang/IllegalArgumentException") (by decide +kernel)
  have hl : lv_has ls 4 [(0, .ref u), (1, .int (zI t)), (2, .ref o0)] := hl
  refine lv_aload_n hx hb dL_rateAt_0 rfl (lv_at hl 2 rfl) ?_
  refine z_iconst hx hb dL_rateAt_1 ?_
  refine lv_aload_n hx hb dL_rateAt_2 rfl (lv_at hl 0 rfl) ?_
  refine lv_iload_n hx hb dL_rateAt_3 rfl (lv_at hl 1 rfl) ?_
  rcases (show True from trivial) with hck
  · refine z_catV (C := RX8) (q0 := 0) (ci := 6) (E := "java/lang/IllegalArgumentException") (name := "java/lang/IllegalArgumentException") (As := [.int (zI t)]) (rest := [.int (zI 0), .ref o0]) ([] : va_W) (jrW ct o0 1 O) hx hb hml hown hts hl hE hS hA hP hD (ZX.toE (c_X8_rateAt_x l D ct ad u a r q b nx sz S M TX tl pl ft n1 n2 wd t (by assumption) hst (by omega) (by omega)) (rfl)) gL_rateAt_X8_rateAt rfl rfl k_X8_rateAt ⟨Nat.le_of_ble_eq_true rfl, Nat.le_of_ble_eq_true rfl⟩ rfl rfl rfl rfl (Nat.le_of_ble_eq_true rfl) ⟨Nat.le_of_ble_eq_true rfl, Nat.le_of_ble_eq_true rfl⟩ dL_rateAt_4 rfl [] ({ startPc := 0, endPc := 9, handlerPc := 12, catchType := 13 } : ExceptionTableEntry) [] (hTab.trans rfl) (fun z hz => nomatch hz) (by decide) (by decide) hf_0 (hE.2.1.1 _ (List.mem_of_getElem? (i := 19) rfl)) (fun q9_4 H locs hP hD hS => ?_)
    have hP : va_P D vwCl (x8W u a r q ++ (svW ct r b nx sz S ++ (sobjW a ++ (gridW ct a M ++ (benchW ct a M ++ (logW ct a M ++ (txtW ct q TX tl pl ft wd n1 n2 ++ (jrW ct o0 1 O)))))))) H := hP
    have hD : va_D A (x8W u a r q ++ (svW ct r b nx sz S ++ (sobjW a ++ (gridW ct a M ++ (benchW ct a M ++ (logW ct a M ++ (txtW ct q TX tl pl ft wd n1 n2 ++ (jrW ct o0 1 O)))))))) := hD
    refine W.eq (g2 := F0 m 12 ls [.ref q9_4]) rfl ?_
    refine lv_astore_n (lv' := [(3, .ref q9_4), (0, .ref u), (1, .int (zI t)), (2, .ref o0)]) hx hb dL_rateAt_12 rfl hl (by decide) rfl (fun ls hl => ?_)
    refine z_iconst hx hb dL_rateAt_13 ?_
    exact z_iret hx hb hr hlocks hP hD hS ⟨Nat.le_of_ble_eq_true rfl, Nat.le_of_ble_eq_true rfl⟩ dL_rateAt_14 (⟨congrArg (fun z => some (Value.int (zI z))) (by first | rfl | omega | (unfold ck1; split <;> omega) | (split <;> omega)), rfl⟩)
theorem k_X8_matchLength : yX8_matchLength.cls ≠ "java/lang/invoke/MethodHandle" ∧ yX8_matchLength.cls ≠ "java/lang/invoke/VarHandle" ∧ (parseMethodDescriptor yX8_matchLength.desc).map (fun d => d.parameters.length) = some 1 := by decide +kernel
set_option maxHeartbeats 4000000 in
set_option maxRecDepth 100000 in
theorem c_L_matchLength_ok (l : Launch) (D : va_G) (ct ad : Nat → Nat) (u : Nat) (a r q : Nat → Nat) (b : Nat → Nat → Nat) (nx sz : Int) (S : Nat → Int → Int) (M TX : Int → Int) (tl pl ft n1 n2 : Int) (wd : Value) (o0 : Nat) (O : Int → Int) (k : Int) (hs : sInv M) (h1 : -2147483648 ≤ k ∧ k ≤ 2147483647) (hok : 0 ≤ k ∧ k < M 4) (hv : -2147483648 ≤ sp_match M k ∧ sp_match M k ≤ 2147483647) : ZM l yL_matchLength wsL_matchLength ({ frames := 5, cells := 0, slots := 0, locals := 118 } : Room) D ct ad [.ref u, .int (zI k), .ref o0] (x8W u a r q ++ (svW ct r b nx sz S ++ (sobjW a ++ (gridW ct a M ++ (benchW ct a M ++ (logW ct a M ++ (txtW ct q TX tl pl ft wd n1 n2 ++ (jrW ct o0 1 O)))))))) (zD (some (.int (zI 0))) (x8W u a r q ++ (svW ct r b nx sz S ++ (sobjW a ++ (gridW ct a M ++ (benchW ct a M ++ (logW ct a M ++ (txtW ct q TX tl pl ft wd n1 n2 ++ (jrW ct o0 1 (up O 0 (sp_match M k))))))))))) := by
  refine ZM.ofH (cc := cL_matchLength) (maxL := 4) (ret := (some .int)) (by decide +kernel) rfl (Nat.le_of_ble_eq_true rfl) ?_
  intro p e s m below meth c A ls hx hb hr hts hown hlocks hml hTab hE hP hD hA hS hl
  have hK := hE.1
  have hl : lv_has ls 4 [(0, .ref u), (1, .int (zI k)), (2, .ref o0)] := hl
  refine lv_aload_n hx hb dL_matchLength_0 rfl (lv_at hl 2 rfl) ?_
  refine z_iconst hx hb dL_matchLength_1 ?_
  refine lv_aload_n hx hb dL_matchLength_2 rfl (lv_at hl 0 rfl) ?_
  refine lv_iload_n hx hb dL_matchLength_3 rfl (lv_at hl 1 rfl) ?_
  refine z_callV (C := RX8) (q0 := 0) (ci := 6) (As := [.int (zI k)]) (rest := [.int (zI 0), .ref o0]) ([] : va_W) (jrW ct o0 1 O) hx hb hml hown hts hl hE hS hA hP hD (c_X8_matchLength l D ct ad u a r q b nx sz S M TX tl pl ft n1 n2 wd k (by assumption) (by omega) (by omega)) gL_matchLength_X8_matchLength rfl rfl k_X8_matchLength ⟨Nat.le_of_ble_eq_true rfl, Nat.le_of_ble_eq_true rfl⟩ rfl rfl rfl rfl (Nat.le_of_ble_eq_true rfl) ⟨Nat.le_of_ble_eq_true rfl, Nat.le_of_ble_eq_true rfl⟩ dL_matchLength_4 rfl (fun v w1 H locs hpost hP hD hS => ?_)
  obtain ⟨rfl, rfl⟩ := hpost
  have hP : va_P D vwCl (x8W u a r q ++ (svW ct r b nx sz S ++ (sobjW a ++ (gridW ct a M ++ (benchW ct a M ++ (logW ct a M ++ (txtW ct q TX tl pl ft wd n1 n2 ++ (jrW ct o0 1 O)))))))) H := hP
  have hD : va_D A (x8W u a r q ++ (svW ct r b nx sz S ++ (sobjW a ++ (gridW ct a M ++ (benchW ct a M ++ (logW ct a M ++ (txtW ct q TX tl pl ft wd n1 n2 ++ (jrW ct o0 1 O)))))))) := hD
  refine W.eq (g2 := F0 m 7 ls [.int (zI (sp_match M k)), .int (zI 0), .ref o0]) rfl ?_
  refine z_i2l hx hb dL_matchLength_7 (by omega) ?_
  refine z_last (g := O) (w2 := x8W u a r q ++ (svW ct r b nx sz S ++ (sobjW a ++ (gridW ct a M ++ (benchW ct a M ++ (logW ct a M ++ (txtW ct q TX tl pl ft wd n1 n2 ++ (jrW ct o0 1 (up O 0 (sp_match M k)))))))))) hx hb hK hP hD hS 60 rfl (by decide) (by omega) dL_matchLength_8 (rfl) (fun H locs hP hD hS => ?_)
  refine lv_goto (tgt := 15) hx hb dL_matchLength_9 (by decide) ?_
  refine z_iconst hx hb dL_matchLength_15 ?_
  exact z_iret hx hb hr hlocks hP hD hS ⟨Nat.le_of_ble_eq_true rfl, Nat.le_of_ble_eq_true rfl⟩ dL_matchLength_16 (⟨congrArg (fun z => some (Value.int (zI z))) (rfl), rfl⟩)
set_option maxHeartbeats 4000000 in
set_option maxRecDepth 100000 in
theorem c_L_matchLength_no (l : Launch) (D : va_G) (ct ad : Nat → Nat) (u : Nat) (a r q : Nat → Nat) (b : Nat → Nat → Nat) (nx sz : Int) (S : Nat → Int → Int) (M TX : Int → Int) (tl pl ft n1 n2 : Int) (wd : Value) (o0 : Nat) (O : Int → Int) (k : Int) (hs : sInv M) (hst : l.stackTraces = false) (h1 : -2147483648 ≤ k ∧ k ≤ 2147483647) (hno : ¬ (0 ≤ k ∧ k < M 4)) : ZM l yL_matchLength wsL_matchLength ({ frames := 8, cells := 1, slots := 6, locals := 123 } : Room) D ct ad [.ref u, .int (zI k), .ref o0] (x8W u a r q ++ (svW ct r b nx sz S ++ (sobjW a ++ (gridW ct a M ++ (benchW ct a M ++ (logW ct a M ++ (txtW ct q TX tl pl ft wd n1 n2 ++ (jrW ct o0 1 O)))))))) (zD (some (.int (zI 1))) (x8W u a r q ++ (svW ct r b nx sz S ++ (sobjW a ++ (gridW ct a M ++ (benchW ct a M ++ (logW ct a M ++ (txtW ct q TX tl pl ft wd n1 n2 ++ (jrW ct o0 1 O))))))))) := by
  refine ZM.ofH (cc := cL_matchLength) (maxL := 4) (ret := (some .int)) (by decide +kernel) rfl (Nat.le_of_ble_eq_true rfl) ?_
  intro p e s m below meth c A ls hx hb hr hts hown hlocks hml hTab hE hP hD hA hS hl
  have hK := hE.1
  have hf_0 := hts (.classLink RL 21 "java/lang/IndexOutOfBoundsException") (by decide +kernel)
  have hl : lv_has ls 4 [(0, .ref u), (1, .int (zI k)), (2, .ref o0)] := hl
  refine lv_aload_n hx hb dL_matchLength_0 rfl (lv_at hl 2 rfl) ?_
  refine z_iconst hx hb dL_matchLength_1 ?_
  refine lv_aload_n hx hb dL_matchLength_2 rfl (lv_at hl 0 rfl) ?_
  refine lv_iload_n hx hb dL_matchLength_3 rfl (lv_at hl 1 rfl) ?_
  rcases (show True from trivial) with hck
  · refine z_catV (C := RX8) (q0 := 0) (ci := 6) (E := "java/lang/IndexOutOfBoundsException") (name := "java/lang/IndexOutOfBoundsException") (As := [.int (zI k)]) (rest := [.int (zI 0), .ref o0]) ([] : va_W) (jrW ct o0 1 O) hx hb hml hown hts hl hE hS hA hP hD (ZX.toE (c_X8_matchLength_x l D ct ad u a r q b nx sz S M TX tl pl ft n1 n2 wd k (by assumption) hst (by omega) (by omega)) (rfl)) gL_matchLength_X8_matchLength rfl rfl k_X8_matchLength ⟨Nat.le_of_ble_eq_true rfl, Nat.le_of_ble_eq_true rfl⟩ rfl rfl rfl rfl (Nat.le_of_ble_eq_true rfl) ⟨Nat.le_of_ble_eq_true rfl, Nat.le_of_ble_eq_true rfl⟩ dL_matchLength_4 rfl [] ({ startPc := 0, endPc := 9, handlerPc := 12, catchType := 21 } : ExceptionTableEntry) [] (hTab.trans rfl) (fun z hz => nomatch hz) (by decide) (by decide) hf_0 (hE.2.1.1 _ (List.mem_of_getElem? (i := 18) rfl)) (fun q9_4 H locs hP hD hS => ?_)
    have hP : va_P D vwCl (x8W u a r q ++ (svW ct r b nx sz S ++ (sobjW a ++ (gridW ct a M ++ (benchW ct a M ++ (logW ct a M ++ (txtW ct q TX tl pl ft wd n1 n2 ++ (jrW ct o0 1 O)))))))) H := hP
    have hD : va_D A (x8W u a r q ++ (svW ct r b nx sz S ++ (sobjW a ++ (gridW ct a M ++ (benchW ct a M ++ (logW ct a M ++ (txtW ct q TX tl pl ft wd n1 n2 ++ (jrW ct o0 1 O)))))))) := hD
    refine W.eq (g2 := F0 m 12 ls [.ref q9_4]) rfl ?_
    refine lv_astore_n (lv' := [(3, .ref q9_4), (0, .ref u), (1, .int (zI k)), (2, .ref o0)]) hx hb dL_matchLength_12 rfl hl (by decide) rfl (fun ls hl => ?_)
    refine z_iconst hx hb dL_matchLength_13 ?_
    exact z_iret hx hb hr hlocks hP hD hS ⟨Nat.le_of_ble_eq_true rfl, Nat.le_of_ble_eq_true rfl⟩ dL_matchLength_14 (⟨congrArg (fun z => some (Value.int (zI z))) (by first | rfl | omega | (unfold ck1; split <;> omega) | (split <;> omega)), rfl⟩)
theorem k_X8_rangeOfRates : yX8_rangeOfRates.cls ≠ "java/lang/invoke/MethodHandle" ∧ yX8_rangeOfRates.cls ≠ "java/lang/invoke/VarHandle" ∧ (parseMethodDescriptor yX8_rangeOfRates.desc).map (fun d => d.parameters.length) = some 2 := by decide +kernel
set_option maxHeartbeats 4000000 in
set_option maxRecDepth 100000 in
theorem c_L_rangeOfRates_ok (l : Launch) (D : va_G) (ct ad : Nat → Nat) (u : Nat) (a r q : Nat → Nat) (b : Nat → Nat → Nat) (nx sz : Int) (S : Nat → Int → Int) (M TX : Int → Int) (tl pl ft n1 n2 : Int) (wd : Value) (o0 : Nat) (O : Int → Int) (lo hi : Int) (hs : sInv M) (h1 : -2147483648 ≤ lo ∧ lo ≤ 2147483647) (h2 : -2147483648 ≤ hi ∧ hi ≤ 2147483647) (hok : -300 ≤ lo ∧ lo ≤ hi ∧ hi ≤ 600) (hv : -2147483648 ≤ sp_range M lo hi ∧ sp_range M lo hi ≤ 2147483647) : ZM l yL_rangeOfRates wsL_rangeOfRates ({ frames := 6, cells := 0, slots := 0, locals := 148 } : Room) D ct ad [.ref u, .int (zI lo), .int (zI hi), .ref o0] (x8W u a r q ++ (svW ct r b nx sz S ++ (sobjW a ++ (gridW ct a M ++ (benchW ct a M ++ (logW ct a M ++ (txtW ct q TX tl pl ft wd n1 n2 ++ (jrW ct o0 1 O)))))))) (zD (some (.int (zI 0))) (x8W u a r q ++ (svW ct r b nx sz S ++ (sobjW a ++ (gridW ct a M ++ (benchW ct a M ++ (logW ct a M ++ (txtW ct q TX tl pl ft wd n1 n2 ++ (jrW ct o0 1 (up O 0 (sp_range M lo hi))))))))))) := by
  refine ZM.ofH (cc := cL_rangeOfRates) (maxL := 5) (ret := (some .int)) (by decide +kernel) rfl (Nat.le_of_ble_eq_true rfl) ?_
  intro p e s m below meth c A ls hx hb hr hts hown hlocks hml hTab hE hP hD hA hS hl
  have hK := hE.1
  have hl : lv_has ls 5 [(0, .ref u), (1, .int (zI lo)), (2, .int (zI hi)), (3, .ref o0)] := hl
  refine lv_aload_n hx hb dL_rangeOfRates_0 rfl (lv_at hl 3 rfl) ?_
  refine z_iconst hx hb dL_rangeOfRates_1 ?_
  refine lv_aload_n hx hb dL_rangeOfRates_2 rfl (lv_at hl 0 rfl) ?_
  refine lv_iload_n hx hb dL_rangeOfRates_3 rfl (lv_at hl 1 rfl) ?_
  refine lv_iload_n hx hb dL_rangeOfRates_4 rfl (lv_at hl 2 rfl) ?_
  refine z_callV (C := RX8) (q0 := 0) (ci := 6) (As := [.int (zI lo), .int (zI hi)]) (rest := [.int (zI 0), .ref o0]) ([] : va_W) (jrW ct o0 1 O) hx hb hml hown hts hl hE hS hA hP hD (c_X8_rangeOfRates l D ct ad u a r q b nx sz S M TX tl pl ft n1 n2 wd lo hi (by assumption) (by omega) (by omega) (by omega)) gL_rangeOfRates_X8_rangeOfRates rfl rfl k_X8_rangeOfRates ⟨Nat.le_of_ble_eq_true rfl, Nat.le_of_ble_eq_true rfl⟩ rfl rfl rfl rfl (Nat.le_of_ble_eq_true rfl) ⟨Nat.le_of_ble_eq_true rfl, Nat.le_of_ble_eq_true rfl⟩ dL_rangeOfRates_5 rfl (fun v w1 H locs hpost hP hD hS => ?_)
  obtain ⟨rfl, rfl⟩ := hpost
  have hP : va_P D vwCl (x8W u a r q ++ (svW ct r b nx sz S ++ (sobjW a ++ (gridW ct a M ++ (benchW ct a M ++ (logW ct a M ++ (txtW ct q TX tl pl ft wd n1 n2 ++ (jrW ct o0 1 O)))))))) H := hP
  have hD : va_D A (x8W u a r q ++ (svW ct r b nx sz S ++ (sobjW a ++ (gridW ct a M ++ (benchW ct a M ++ (logW ct a M ++ (txtW ct q TX tl pl ft wd n1 n2 ++ (jrW ct o0 1 O)))))))) := hD
  refine W.eq (g2 := F0 m 8 ls [.int (zI (sp_range M lo hi)), .int (zI 0), .ref o0]) rfl ?_
  refine z_i2l hx hb dL_rangeOfRates_8 (by omega) ?_
  refine z_last (g := O) (w2 := x8W u a r q ++ (svW ct r b nx sz S ++ (sobjW a ++ (gridW ct a M ++ (benchW ct a M ++ (logW ct a M ++ (txtW ct q TX tl pl ft wd n1 n2 ++ (jrW ct o0 1 (up O 0 (sp_range M lo hi)))))))))) hx hb hK hP hD hS 60 rfl (by decide) (by omega) dL_rangeOfRates_9 (rfl) (fun H locs hP hD hS => ?_)
  refine lv_goto (tgt := 17) hx hb dL_rangeOfRates_10 (by decide) ?_
  refine z_iconst hx hb dL_rangeOfRates_17 ?_
  exact z_iret hx hb hr hlocks hP hD hS ⟨Nat.le_of_ble_eq_true rfl, Nat.le_of_ble_eq_true rfl⟩ dL_rangeOfRates_18 (⟨congrArg (fun z => some (Value.int (zI z))) (rfl), rfl⟩)
set_option maxHeartbeats 4000000 in
set_option maxRecDepth 100000 in
theorem c_L_rangeOfRates_no (l : Launch) (D : va_G) (ct ad : Nat → Nat) (u : Nat) (a r q : Nat → Nat) (b : Nat → Nat → Nat) (nx sz : Int) (S : Nat → Int → Int) (M TX : Int → Int) (tl pl ft n1 n2 : Int) (wd : Value) (o0 : Nat) (O : Int → Int) (lo hi : Int) (hs : sInv M) (hst : l.stackTraces = false) (h1 : -2147483648 ≤ lo ∧ lo ≤ 2147483647) (h2 : -2147483648 ≤ hi ∧ hi ≤ 2147483647) (hno : ¬ (-300 ≤ lo ∧ lo ≤ hi ∧ hi ≤ 600)) : ZM l yL_rangeOfRates wsL_rangeOfRates ({ frames := 8, cells := 1, slots := 6, locals := 124 } : Room) D ct ad [.ref u, .int (zI lo), .int (zI hi), .ref o0] (x8W u a r q ++ (svW ct r b nx sz S ++ (sobjW a ++ (gridW ct a M ++ (benchW ct a M ++ (logW ct a M ++ (txtW ct q TX tl pl ft wd n1 n2 ++ (jrW ct o0 1 O)))))))) (zD (some (.int (zI 1))) (x8W u a r q ++ (svW ct r b nx sz S ++ (sobjW a ++ (gridW ct a M ++ (benchW ct a M ++ (logW ct a M ++ (txtW ct q TX tl pl ft wd n1 n2 ++ (jrW ct o0 1 O))))))))) := by
  refine ZM.ofH (cc := cL_rangeOfRates) (maxL := 5) (ret := (some .int)) (by decide +kernel) rfl (Nat.le_of_ble_eq_true rfl) ?_
  intro p e s m below meth c A ls hx hb hr hts hown hlocks hml hTab hE hP hD hA hS hl
  have hK := hE.1
  have hf_0 := hts (.classLink RL 13 "java/lang/IllegalArgumentException") (by decide +kernel)
  have hl : lv_has ls 5 [(0, .ref u), (1, .int (zI lo)), (2, .int (zI hi)), (3, .ref o0)] := hl
  refine lv_aload_n hx hb dL_rangeOfRates_0 rfl (lv_at hl 3 rfl) ?_
  refine z_iconst hx hb dL_rangeOfRates_1 ?_
  refine lv_aload_n hx hb dL_rangeOfRates_2 rfl (lv_at hl 0 rfl) ?_
  refine lv_iload_n hx hb dL_rangeOfRates_3 rfl (lv_at hl 1 rfl) ?_
  refine lv_iload_n hx hb dL_rangeOfRates_4 rfl (lv_at hl 2 rfl) ?_
  rcases (show True from trivial) with hck
  · refine z_catV (C := RX8) (q0 := 0) (ci := 6) (E := "java/lang/IllegalArgumentException") (name := "java/lang/IllegalArgumentException") (As := [.int (zI lo), .int (zI hi)]) (rest := [.int (zI 0), .ref o0]) ([] : va_W) (jrW ct o0 1 O) hx hb hml hown hts hl hE hS hA hP hD (ZX.toE (c_X8_rangeOfRates_x l D ct ad u a r q b nx sz S M TX tl pl ft n1 n2 wd lo hi (by assumption) hst (by omega) (by omega) (by omega)) (rfl)) gL_rangeOfRates_X8_rangeOfRates rfl rfl k_X8_rangeOfRates ⟨Nat.le_of_ble_eq_true rfl, Nat.le_of_ble_eq_true rfl⟩ rfl rfl rfl rfl (Nat.le_of_ble_eq_true rfl) ⟨Nat.le_of_ble_eq_true rfl, Nat.le_of_ble_eq_true rfl⟩ dL_rangeOfRates_5 rfl [] ({ startPc := 0, endPc := 10, handlerPc := 13, catchType := 13 } : ExceptionTableEntry) [] (hTab.trans rfl) (fun z hz => nomatch hz) (by decide) (by decide) hf_0 (hE.2.1.1 _ (List.mem_of_getElem? (i := 19) rfl)) (fun q9_5 H locs hP hD hS => ?_)
    have hP : va_P D vwCl (x8W u a r q ++ (svW ct r b nx sz S ++ (sobjW a ++ (gridW ct a M ++ (benchW ct a M ++ (logW ct a M ++ (txtW ct q TX tl pl ft wd n1 n2 ++ (jrW ct o0 1 O)))))))) H := hP
    have hD : va_D A (x8W u a r q ++ (svW ct r b nx sz S ++ (sobjW a ++ (gridW ct a M ++ (benchW ct a M ++ (logW ct a M ++ (txtW ct q TX tl pl ft wd n1 n2 ++ (jrW ct o0 1 O)))))))) := hD
    refine W.eq (g2 := F0 m 13 ls [.ref q9_5]) rfl ?_
    refine lv_astore (lv' := [(4, .ref q9_5), (0, .ref u), (1, .int (zI lo)), (2, .int (zI hi)), (3, .ref o0)]) hx hb dL_rangeOfRates_13 hl (by decide) rfl (fun ls hl => ?_)
    refine z_iconst hx hb dL_rangeOfRates_15 ?_
    exact z_iret hx hb hr hlocks hP hD hS ⟨Nat.le_of_ble_eq_true rfl, Nat.le_of_ble_eq_true rfl⟩ dL_rangeOfRates_16 (⟨congrArg (fun z => some (Value.int (zI z))) (by first | rfl | omega | (unfold ck1; split <;> omega) | (split <;> omega)), rfl⟩)
theorem k_X8_changeWithin : yX8_changeWithin.cls ≠ "java/lang/invoke/MethodHandle" ∧ yX8_changeWithin.cls ≠ "java/lang/invoke/VarHandle" ∧ (parseMethodDescriptor yX8_changeWithin.desc).map (fun d => d.parameters.length) = some 1 := by decide +kernel
set_option maxHeartbeats 4000000 in
set_option maxRecDepth 100000 in
theorem c_L_changeWithin_ok (l : Launch) (D : va_G) (ct ad : Nat → Nat) (u : Nat) (a r q : Nat → Nat) (b : Nat → Nat → Nat) (nx sz : Int) (S : Nat → Int → Int) (M TX : Int → Int) (tl pl ft n1 n2 : Int) (wd : Value) (o0 : Nat) (O : Int → Int) (n : Int) (hs : sInv M) (h1 : -2147483648 ≤ n ∧ n ≤ 2147483647) (hok : 0 ≤ n ∧ n ≤ 500) : ZM l yL_changeWithin wsL_changeWithin ({ frames := 6, cells := 0, slots := 0, locals := 147 } : Room) D ct ad [.ref u, .int (zI n), .ref o0] (x8W u a r q ++ (svW ct r b nx sz S ++ (sobjW a ++ (gridW ct a M ++ (benchW ct a M ++ (logW ct a M ++ (txtW ct q TX tl pl ft wd n1 n2 ++ (jrW ct o0 1 O)))))))) (zD (some (.int (zI 0))) (x8W u a r q ++ (svW ct r b nx sz S ++ (sobjW a ++ (gridW ct a M ++ (benchW ct a M ++ (logW ct a M ++ (txtW ct q TX tl pl ft wd n1 n2 ++ (jrW ct o0 1 (up O 0 (sp_cs M (min n (M 8)).toNat))))))))))) := by
  refine ZM.ofH (cc := cL_changeWithin) (maxL := 4) (ret := (some .int)) (by decide +kernel) rfl (Nat.le_of_ble_eq_true rfl) ?_
  intro p e s m below meth c A ls hx hb hr hts hown hlocks hml hTab hE hP hD hA hS hl
  have hK := hE.1
  have hl : lv_has ls 4 [(0, .ref u), (1, .int (zI n)), (2, .ref o0)] := hl
  refine lv_aload_n hx hb dL_changeWithin_0 rfl (lv_at hl 2 rfl) ?_
  refine z_iconst hx hb dL_changeWithin_1 ?_
  refine lv_aload_n hx hb dL_changeWithin_2 rfl (lv_at hl 0 rfl) ?_
  refine lv_iload_n hx hb dL_changeWithin_3 rfl (lv_at hl 1 rfl) ?_
  refine z_callV (C := RX8) (q0 := 0) (ci := 6) (As := [.int (zI n)]) (rest := [.int (zI 0), .ref o0]) ([] : va_W) (jrW ct o0 1 O) hx hb hml hown hts hl hE hS hA hP hD (c_X8_changeWithin l D ct ad u a r q b nx sz S M TX tl pl ft n1 n2 wd n (by assumption) (by omega) (by omega)) gL_changeWithin_X8_changeWithin rfl rfl k_X8_changeWithin ⟨Nat.le_of_ble_eq_true rfl, Nat.le_of_ble_eq_true rfl⟩ rfl rfl rfl rfl (Nat.le_of_ble_eq_true rfl) ⟨Nat.le_of_ble_eq_true rfl, Nat.le_of_ble_eq_true rfl⟩ dL_changeWithin_4 rfl (fun v w1 H locs hpost hP hD hS => ?_)
  obtain ⟨rfl, rfl⟩ := hpost
  have hP : va_P D vwCl (x8W u a r q ++ (svW ct r b nx sz S ++ (sobjW a ++ (gridW ct a M ++ (benchW ct a M ++ (logW ct a M ++ (txtW ct q TX tl pl ft wd n1 n2 ++ (jrW ct o0 1 O)))))))) H := hP
  have hD : va_D A (x8W u a r q ++ (svW ct r b nx sz S ++ (sobjW a ++ (gridW ct a M ++ (benchW ct a M ++ (logW ct a M ++ (txtW ct q TX tl pl ft wd n1 n2 ++ (jrW ct o0 1 O)))))))) := hD
  refine W.eq (g2 := F0 m 7 ls [.long (zJ (sp_cs M (min n (M 8)).toNat)), .int (zI 0), .ref o0]) rfl ?_
  refine z_last (g := O) (w2 := x8W u a r q ++ (svW ct r b nx sz S ++ (sobjW a ++ (gridW ct a M ++ (benchW ct a M ++ (logW ct a M ++ (txtW ct q TX tl pl ft wd n1 n2 ++ (jrW ct o0 1 (up O 0 (sp_cs M (min n (M 8)).toNat)))))))))) hx hb hK hP hD hS 60 rfl (by decide) (by omega) dL_changeWithin_7 (rfl) (fun H locs hP hD hS => ?_)
  refine lv_goto (tgt := 14) hx hb dL_changeWithin_8 (by decide) ?_
  refine z_iconst hx hb dL_changeWithin_14 ?_
  exact z_iret hx hb hr hlocks hP hD hS ⟨Nat.le_of_ble_eq_true rfl, Nat.le_of_ble_eq_true rfl⟩ dL_changeWithin_15 (⟨congrArg (fun z => some (Value.int (zI z))) (rfl), rfl⟩)
set_option maxHeartbeats 4000000 in
set_option maxRecDepth 100000 in
theorem c_L_changeWithin_no (l : Launch) (D : va_G) (ct ad : Nat → Nat) (u : Nat) (a r q : Nat → Nat) (b : Nat → Nat → Nat) (nx sz : Int) (S : Nat → Int → Int) (M TX : Int → Int) (tl pl ft n1 n2 : Int) (wd : Value) (o0 : Nat) (O : Int → Int) (n : Int) (hs : sInv M) (hst : l.stackTraces = false) (h1 : -2147483648 ≤ n ∧ n ≤ 2147483647) (hno : ¬ (0 ≤ n ∧ n ≤ 500)) : ZM l yL_changeWithin wsL_changeWithin ({ frames := 8, cells := 1, slots := 6, locals := 123 } : Room) D ct ad [.ref u, .int (zI n), .ref o0] (x8W u a r q ++ (svW ct r b nx sz S ++ (sobjW a ++ (gridW ct a M ++ (benchW ct a M ++ (logW ct a M ++ (txtW ct q TX tl pl ft wd n1 n2 ++ (jrW ct o0 1 O)))))))) (zD (some (.int (zI 1))) (x8W u a r q ++ (svW ct r b nx sz S ++ (sobjW a ++ (gridW ct a M ++ (benchW ct a M ++ (logW ct a M ++ (txtW ct q TX tl pl ft wd n1 n2 ++ (jrW ct o0 1 O))))))))) := by
  refine ZM.ofH (cc := cL_changeWithin) (maxL := 4) (ret := (some .int)) (by decide +kernel) rfl (Nat.le_of_ble_eq_true rfl) ?_
  intro p e s m below meth c A ls hx hb hr hts hown hlocks hml hTab hE hP hD hA hS hl
  have hK := hE.1
  have hf_0 := hts (.classLink RL 13 "java/lang/IllegalArgumentException") (by decide +kernel)
  have hl : lv_has ls 4 [(0, .ref u), (1, .int (zI n)), (2, .ref o0)] := hl
  refine lv_aload_n hx hb dL_changeWithin_0 rfl (lv_at hl 2 rfl) ?_
  refine z_iconst hx hb dL_changeWithin_1 ?_
  refine lv_aload_n hx hb dL_changeWithin_2 rfl (lv_at hl 0 rfl) ?_
  refine lv_iload_n hx hb dL_changeWithin_3 rfl (lv_at hl 1 rfl) ?_
  rcases (show True from trivial) with hck
  · refine z_catV (C := RX8) (q0 := 0) (ci := 6) (E := "java/lang/IllegalArgumentException") (name := "java/lang/IllegalArgumentException") (As := [.int (zI n)]) (rest := [.int (zI 0), .ref o0]) ([] : va_W) (jrW ct o0 1 O) hx hb hml hown hts hl hE hS hA hP hD (ZX.toE (c_X8_changeWithin_x l D ct ad u a r q b nx sz S M TX tl pl ft n1 n2 wd n (by assumption) hst (by omega) (by omega)) (rfl)) gL_changeWithin_X8_changeWithin rfl rfl k_X8_changeWithin ⟨Nat.le_of_ble_eq_true rfl, Nat.le_of_ble_eq_true rfl⟩ rfl rfl rfl rfl (Nat.le_of_ble_eq_true rfl) ⟨Nat.le_of_ble_eq_true rfl, Nat.le_of_ble_eq_true rfl⟩ dL_changeWithin_4 rfl [] ({ startPc := 0, endPc := 8, handlerPc := 11, catchType := 13 } : ExceptionTableEntry) [] (hTab.trans rfl) (fun z hz => nomatch hz) (by decide) (by decide) hf_0 (hE.2.1.1 _ (List.mem_of_getElem? (i := 19) rfl)) (fun q9_4 H locs hP hD hS => ?_)
    have hP : va_P D vwCl (x8W u a r q ++ (svW ct r b nx sz S ++ (sobjW a ++ (gridW ct a M ++ (benchW ct a M ++ (logW ct a M ++ (txtW ct q TX tl pl ft wd n1 n2 ++ (jrW ct o0 1 O)))))))) H := hP
    have hD : va_D A (x8W u a r q ++ (svW ct r b nx sz S ++ (sobjW a ++ (gridW ct a M ++ (benchW ct a M ++ (logW ct a M ++ (txtW ct q TX tl pl ft wd n1 n2 ++ (jrW ct o0 1 O)))))))) := hD
    refine W.eq (g2 := F0 m 11 ls [.ref q9_4]) rfl ?_
    refine lv_astore_n (lv' := [(3, .ref q9_4), (0, .ref u), (1, .int (zI n)), (2, .ref o0)]) hx hb dL_changeWithin_11 rfl hl (by decide) rfl (fun ls hl => ?_)
    refine z_iconst hx hb dL_changeWithin_12 ?_
    exact z_iret hx hb hr hlocks hP hD hS ⟨Nat.le_of_ble_eq_true rfl, Nat.le_of_ble_eq_true rfl⟩ dL_changeWithin_13 (⟨congrArg (fun z => some (Value.int (zI z))) (by first | rfl | omega | (unfold ck1; split <;> omega) | (split <;> omega)), rfl⟩)
theorem k_X8_rod : yX8_rod.cls ≠ "java/lang/invoke/MethodHandle" ∧ yX8_rod.cls ≠ "java/lang/invoke/VarHandle" ∧ (parseMethodDescriptor yX8_rod.desc).map (fun d => d.parameters.length) = some 2 := by decide +kernel
set_option maxHeartbeats 4000000 in
set_option maxRecDepth 100000 in
theorem c_L_rod_ok (l : Launch) (D : va_G) (ct ad : Nat → Nat) (u : Nat) (a r q : Nat → Nat) (b : Nat → Nat → Nat) (nx sz : Int) (S : Nat → Int → Int) (M TX : Int → Int) (tl pl ft n1 n2 : Int) (wd : Value) (o0 : Nat) (O : Int → Int) (k w : Int) (hs : sInv M) (h1 : -2147483648 ≤ k ∧ k ≤ 2147483647) (h2 : -2147483648 ≤ w ∧ w ≤ 2147483647) (hok : (0 ≤ k ∧ k < M 4) ∧ 0 ≤ w ∧ w ≤ 4) (hv : -2147483648 ≤ sp_rodv M k w (M 6) ∧ sp_rodv M k w (M 6) ≤ 2147483647) : ZM l yL_rod wsL_rod ({ frames := 4, cells := 0, slots := 0, locals := 94 } : Room) D ct ad [.ref u, .int (zI k), .int (zI w), .ref o0] (x8W u a r q ++ (svW ct r b nx sz S ++ (sobjW a ++ (gridW ct a M ++ (benchW ct a M ++ (logW ct a M ++ (txtW ct q TX tl pl ft wd n1 n2 ++ (jrW ct o0 1 O)))))))) (zD (some (.int (zI 0))) (x8W u a r q ++ (svW ct r b nx sz S ++ (sobjW a ++ (gridW ct a M ++ (benchW ct a M ++ (logW ct a M ++ (txtW ct q TX tl pl ft wd n1 n2 ++ (jrW ct o0 1 (up O 0 (sp_rodv M k w (M 6)))))))))))) := by
  refine ZM.ofH (cc := cL_rod) (maxL := 5) (ret := (some .int)) (by decide +kernel) rfl (Nat.le_of_ble_eq_true rfl) ?_
  intro p e s m below meth c A ls hx hb hr hts hown hlocks hml hTab hE hP hD hA hS hl
  have hK := hE.1
  have hl : lv_has ls 5 [(0, .ref u), (1, .int (zI k)), (2, .int (zI w)), (3, .ref o0)] := hl
  refine lv_aload_n hx hb dL_rod_0 rfl (lv_at hl 3 rfl) ?_
  refine z_iconst hx hb dL_rod_1 ?_
  refine lv_aload_n hx hb dL_rod_2 rfl (lv_at hl 0 rfl) ?_
  refine lv_iload_n hx hb dL_rod_3 rfl (lv_at hl 1 rfl) ?_
  refine lv_iload_n hx hb dL_rod_4 rfl (lv_at hl 2 rfl) ?_
  refine z_callV (C := RX8) (q0 := 0) (ci := 6) (As := [.int (zI k), .int (zI w)]) (rest := [.int (zI 0), .ref o0]) ([] : va_W) (jrW ct o0 1 O) hx hb hml hown hts hl hE hS hA hP hD (c_X8_rod l D ct ad u a r q b nx sz S M TX tl pl ft n1 n2 wd k w (by assumption) (by omega) (by omega) (by omega)) gL_rod_X8_rod rfl rfl k_X8_rod ⟨Nat.le_of_ble_eq_true rfl, Nat.le_of_ble_eq_true rfl⟩ rfl rfl rfl rfl (Nat.le_of_ble_eq_true rfl) ⟨Nat.le_of_ble_eq_true rfl, Nat.le_of_ble_eq_true rfl⟩ dL_rod_5 rfl (fun v w1 H locs hpost hP hD hS => ?_)
  obtain ⟨rfl, rfl⟩ := hpost
  have hP : va_P D vwCl (x8W u a r q ++ (svW ct r b nx sz S ++ (sobjW a ++ (gridW ct a M ++ (benchW ct a M ++ (logW ct a M ++ (txtW ct q TX tl pl ft wd n1 n2 ++ (jrW ct o0 1 O)))))))) H := hP
  have hD : va_D A (x8W u a r q ++ (svW ct r b nx sz S ++ (sobjW a ++ (gridW ct a M ++ (benchW ct a M ++ (logW ct a M ++ (txtW ct q TX tl pl ft wd n1 n2 ++ (jrW ct o0 1 O)))))))) := hD
  refine W.eq (g2 := F0 m 8 ls [.int (zI (sp_rodv M k w (M 6))), .int (zI 0), .ref o0]) rfl ?_
  refine z_i2l hx hb dL_rod_8 (by omega) ?_
  refine z_last (g := O) (w2 := x8W u a r q ++ (svW ct r b nx sz S ++ (sobjW a ++ (gridW ct a M ++ (benchW ct a M ++ (logW ct a M ++ (txtW ct q TX tl pl ft wd n1 n2 ++ (jrW ct o0 1 (up O 0 (sp_rodv M k w (M 6))))))))))) hx hb hK hP hD hS 60 rfl (by decide) (by omega) dL_rod_9 (rfl) (fun H locs hP hD hS => ?_)
  refine lv_goto (tgt := 21) hx hb dL_rod_10 (by decide) ?_
  refine z_iconst hx hb dL_rod_21 ?_
  exact z_iret hx hb hr hlocks hP hD hS ⟨Nat.le_of_ble_eq_true rfl, Nat.le_of_ble_eq_true rfl⟩ dL_rod_22 (⟨congrArg (fun z => some (Value.int (zI z))) (rfl), rfl⟩)
set_option maxHeartbeats 4000000 in
set_option maxRecDepth 100000 in
theorem c_L_rod_no1 (l : Launch) (D : va_G) (ct ad : Nat → Nat) (u : Nat) (a r q : Nat → Nat) (b : Nat → Nat → Nat) (nx sz : Int) (S : Nat → Int → Int) (M TX : Int → Int) (tl pl ft n1 n2 : Int) (wd : Value) (o0 : Nat) (O : Int → Int) (k w : Int) (hs : sInv M) (hst : l.stackTraces = false) (h1 : -2147483648 ≤ k ∧ k ≤ 2147483647) (h2 : -2147483648 ≤ w ∧ w ≤ 2147483647) (hno : ¬ (0 ≤ k ∧ k < M 4)) : ZM l yL_rod wsL_rod ({ frames := 8, cells := 1, slots := 6, locals := 124 } : Room) D ct ad [.ref u, .int (zI k), .int (zI w), .ref o0] (x8W u a r q ++ (svW ct r b nx sz S ++ (sobjW a ++ (gridW ct a M ++ (benchW ct a M ++ (logW ct a M ++ (txtW ct q TX tl pl ft wd n1 n2 ++ (jrW ct o0 1 O)))))))) (zD (some (.int (zI 1))) (x8W u a r q ++ (svW ct r b nx sz S ++ (sobjW a ++ (gridW ct a M ++ (benchW ct a M ++ (logW ct a M ++ (txtW ct q TX tl pl ft wd n1 n2 ++ (jrW ct o0 1 O))))))))) := by
  refine ZM.ofH (cc := cL_rod) (maxL := 5) (ret := (some .int)) (by decide +kernel) rfl (Nat.le_of_ble_eq_true rfl) ?_
  intro p e s m below meth c A ls hx hb hr hts hown hlocks hml hTab hE hP hD hA hS hl
  have hK := hE.1
  have hf_0 := hts (.classLink RL 21 "java/lang/IndexOutOfBoundsException") (by decide +kernel)
  have hl : lv_has ls 5 [(0, .ref u), (1, .int (zI k)), (2, .int (zI w)), (3, .ref o0)] := hl
  refine lv_aload_n hx hb dL_rod_0 rfl (lv_at hl 3 rfl) ?_
  refine z_iconst hx hb dL_rod_1 ?_
  refine lv_aload_n hx hb dL_rod_2 rfl (lv_at hl 0 rfl) ?_
  refine lv_iload_n hx hb dL_rod_3 rfl (lv_at hl 1 rfl) ?_
  refine lv_iload_n hx hb dL_rod_4 rfl (lv_at hl 2 rfl) ?_
  rcases (show True from trivial) with hck
  · refine z_catV (C := RX8) (q0 := 0) (ci := 6) (E := "java/lang/IndexOutOfBoundsException") (name := "java/lang/IndexOutOfBoundsException") (As := [.int (zI k), .int (zI w)]) (rest := [.int (zI 0), .ref o0]) ([] : va_W) (jrW ct o0 1 O) hx hb hml hown hts hl hE hS hA hP hD (ZX.toE (c_X8_rod_x1 l D ct ad u a r q b nx sz S M TX tl pl ft n1 n2 wd k w (by assumption) hst (by omega) (by omega) (by omega)) (rfl)) gL_rod_X8_rod rfl rfl k_X8_rod ⟨Nat.le_of_ble_eq_true rfl, Nat.le_of_ble_eq_true rfl⟩ rfl rfl rfl rfl (Nat.le_of_ble_eq_true rfl) ⟨Nat.le_of_ble_eq_true rfl, Nat.le_of_ble_eq_true rfl⟩ dL_rod_5 rfl [] ({ startPc := 0, endPc := 10, handlerPc := 13, catchType := 21 } : ExceptionTableEntry) [({ startPc := 0, endPc := 10, handlerPc := 17, catchType := 13 } : ExceptionTableEntry)] (hTab.trans rfl) (fun z hz => nomatch hz) (by decide) (by decide) hf_0 (hE.2.1.1 _ (List.mem_of_getElem? (i := 18) rfl)) (fun q9_5 H locs hP hD hS => ?_)
    have hP : va_P D vwCl (x8W u a r q ++ (svW ct r b nx sz S ++ (sobjW a ++ (gridW ct a M ++ (benchW ct a M ++ (logW ct a M ++ (txtW ct q TX tl pl ft wd n1 n2 ++ (jrW ct o0 1 O)))))))) H := hP
    have hD : va_D A (x8W u a r q ++ (svW ct r b nx sz S ++ (sobjW a ++ (gridW ct a M ++ (benchW ct a M ++ (logW ct a M ++ (txtW ct q TX tl pl ft wd n1 n2 ++ (jrW ct o0 1 O)))))))) := hD
    refine W.eq (g2 := F0 m 13 ls [.ref q9_5]) rfl ?_
    refine lv_astore (lv' := [(4, .ref q9_5), (0, .ref u), (1, .int (zI k)), (2, .int (zI w)), (3, .ref o0)]) hx hb dL_rod_13 hl (by decide) rfl (fun ls hl => ?_)
    refine z_iconst hx hb dL_rod_15 ?_
    exact z_iret hx hb hr hlocks hP hD hS ⟨Nat.le_of_ble_eq_true rfl, Nat.le_of_ble_eq_true rfl⟩ dL_rod_16 (⟨congrArg (fun z => some (Value.int (zI z))) (by first | rfl | omega | (unfold ck1; split <;> omega) | (split <;> omega)), rfl⟩)
set_option maxHeartbeats 4000000 in
set_option maxRecDepth 100000 in
theorem c_L_rod_no2 (l : Launch) (D : va_G) (ct ad : Nat → Nat) (u : Nat) (a r q : Nat → Nat) (b : Nat → Nat → Nat) (nx sz : Int) (S : Nat → Int → Int) (M TX : Int → Int) (tl pl ft n1 n2 : Int) (wd : Value) (o0 : Nat) (O : Int → Int) (k w : Int) (hs : sInv M) (hst : l.stackTraces = false) (h1 : -2147483648 ≤ k ∧ k ≤ 2147483647) (h2 : -2147483648 ≤ w ∧ w ≤ 2147483647) (hk : 0 ≤ k ∧ k < M 4) (hno : ¬ (0 ≤ w ∧ w ≤ 4)) : ZM l yL_rod wsL_rod ({ frames := 8, cells := 1, slots := 6, locals := 124 } : Room) D ct ad [.ref u, .int (zI k), .int (zI w), .ref o0] (x8W u a r q ++ (svW ct r b nx sz S ++ (sobjW a ++ (gridW ct a M ++ (benchW ct a M ++ (logW ct a M ++ (txtW ct q TX tl pl ft wd n1 n2 ++ (jrW ct o0 1 O)))))))) (zD (some (.int (zI 2))) (x8W u a r q ++ (svW ct r b nx sz S ++ (sobjW a ++ (gridW ct a M ++ (benchW ct a M ++ (logW ct a M ++ (txtW ct q TX tl pl ft wd n1 n2 ++ (jrW ct o0 1 O))))))))) := by
  refine ZM.ofH (cc := cL_rod) (maxL := 5) (ret := (some .int)) (by decide +kernel) rfl (Nat.le_of_ble_eq_true rfl) ?_
  intro p e s m below meth c A ls hx hb hr hts hown hlocks hml hTab hE hP hD hA hS hl
  have hK := hE.1
  have hf_0 := hts (.classLink RL 13 "java/lang/IllegalArgumentException") (by decide +kernel)
  have hf_1 := hts (.classLink RL 21 "java/lang/IndexOutOfBoundsException") (by decide +kernel)
  have hl : lv_has ls 5 [(0, .ref u), (1, .int (zI k)), (2, .int (zI w)), (3, .ref o0)] := hl
  refine lv_aload_n hx hb dL_rod_0 rfl (lv_at hl 3 rfl) ?_
  refine z_iconst hx hb dL_rod_1 ?_
  refine lv_aload_n hx hb dL_rod_2 rfl (lv_at hl 0 rfl) ?_
  refine lv_iload_n hx hb dL_rod_3 rfl (lv_at hl 1 rfl) ?_
  refine lv_iload_n hx hb dL_rod_4 rfl (lv_at hl 2 rfl) ?_
  rcases (show True from trivial) with hck
  · refine z_catV (C := RX8) (q0 := 0) (ci := 6) (E := "java/lang/IllegalArgumentException") (name := "java/lang/IllegalArgumentException") (As := [.int (zI k), .int (zI w)]) (rest := [.int (zI 0), .ref o0]) ([] : va_W) (jrW ct o0 1 O) hx hb hml hown hts hl hE hS hA hP hD (ZX.toE (c_X8_rod_x2 l D ct ad u a r q b nx sz S M TX tl pl ft n1 n2 wd k w (by assumption) hst (by omega) (by omega) (by omega) (by omega)) (rfl)) gL_rod_X8_rod rfl rfl k_X8_rod ⟨Nat.le_of_ble_eq_true rfl, Nat.le_of_ble_eq_true rfl⟩ rfl rfl rfl rfl (Nat.le_of_ble_eq_true rfl) ⟨Nat.le_of_ble_eq_true rfl, Nat.le_of_ble_eq_true rfl⟩ dL_rod_5 rfl [({ startPc := 0, endPc := 10, handlerPc := 13, catchType := 21 } : ExceptionTableEntry)] ({ startPc := 0, endPc := 10, handlerPc := 17, catchType := 13 } : ExceptionTableEntry) [] (hTab.trans rfl) (fun z hz => by simp only [List.mem_cons, List.not_mem_nil, or_false] at hz; rcases hz with rfl; exact Or.inr ⟨by decide, "java/lang/IndexOutOfBoundsException", hf_1, hE.2.1.2 ("java/lang/IllegalArgumentException", "java/lang/IndexOutOfBoundsException") (by decide)⟩) (by decide) (by decide) hf_0 (hE.2.1.1 _ (List.mem_of_getElem? (i := 19) rfl)) (fun q9_5 H locs hP hD hS => ?_)
    have hP : va_P D vwCl (x8W u a r q ++ (svW ct r b nx sz S ++ (sobjW a ++ (gridW ct a M ++ (benchW ct a M ++ (logW ct a M ++ (txtW ct q TX tl pl ft wd n1 n2 ++ (jrW ct o0 1 O)))))))) H := hP
    have hD : va_D A (x8W u a r q ++ (svW ct r b nx sz S ++ (sobjW a ++ (gridW ct a M ++ (benchW ct a M ++ (logW ct a M ++ (txtW ct q TX tl pl ft wd n1 n2 ++ (jrW ct o0 1 O)))))))) := hD
    refine W.eq (g2 := F0 m 17 ls [.ref q9_5]) rfl ?_
    refine lv_astore (lv' := [(4, .ref q9_5), (0, .ref u), (1, .int (zI k)), (2, .int (zI w)), (3, .ref o0)]) hx hb dL_rod_17 hl (by decide) rfl (fun ls hl => ?_)
    refine z_iconst hx hb dL_rod_19 ?_
    exact z_iret hx hb hr hlocks hP hD hS ⟨Nat.le_of_ble_eq_true rfl, Nat.le_of_ble_eq_true rfl⟩ dL_rod_20 (⟨congrArg (fun z => some (Value.int (zI z))) (by first | rfl | omega | (unfold ck1; split <;> omega) | (split <;> omega)), rfl⟩)
theorem k_X8_type : yX8_type.cls ≠ "java/lang/invoke/MethodHandle" ∧ yX8_type.cls ≠ "java/lang/invoke/VarHandle" ∧ (parseMethodDescriptor yX8_type.desc).map (fun d => d.parameters.length) = some 1 := by decide +kernel
set_option maxHeartbeats 4000000 in
set_option maxRecDepth 100000 in
theorem c_L_type_ok (l : Launch) (D : va_G) (ct ad : Nat → Nat) (u : Nat) (a r q : Nat → Nat) (b : Nat → Nat → Nat) (nx sz : Int) (S : Nat → Int → Int) (M TX : Int → Int) (tl pl ft n1 n2 : Int) (wd : Value) (o0 : Nat) (O : Int → Int) (v : Int) (hs : sInv M) (ht : tInv TX tl) (h1 : -2147483648 ≤ v ∧ v ≤ 2147483647) (hok : (0 ≤ v ∧ v ≤ 127) ∧ tl < 150) (hv : -2147483648 ≤ tl + 1 ∧ tl + 1 ≤ 2147483647) : ZM l yL_type wsL_type ({ frames := 3, cells := 0, slots := 0, locals := 64 } : Room) D ct ad [.ref u, .int (zI v), .ref o0] (x8W u a r q ++ (svW ct r b nx sz S ++ (sobjW a ++ (gridW ct a M ++ (benchW ct a M ++ (logW ct a M ++ (txtW ct q TX tl pl ft wd n1 n2 ++ (jrW ct o0 1 O)))))))) (zD (some (.int (zI 0))) (x8W u a r q ++ (svW ct r b nx sz S ++ (sobjW a ++ (gridW ct a M ++ (benchW ct a M ++ (logW ct a M ++ (txtW ct q (up TX tl v) (tl + 1) pl ft wd n1 n2 ++ (jrW ct o0 1 (up O 0 (tl + 1))))))))))) := by
  refine ZM.ofH (cc := cL_type) (maxL := 4) (ret := (some .int)) (by decide +kernel) rfl (Nat.le_of_ble_eq_true rfl) ?_
  intro p e s m below meth c A ls hx hb hr hts hown hlocks hml hTab hE hP hD hA hS hl
  have hK := hE.1
  have hl : lv_has ls 4 [(0, .ref u), (1, .int (zI v)), (2, .ref o0)] := hl
  refine lv_aload_n hx hb dL_type_0 rfl (lv_at hl 2 rfl) ?_
  refine z_iconst hx hb dL_type_1 ?_
  refine lv_aload_n hx hb dL_type_2 rfl (lv_at hl 0 rfl) ?_
  refine lv_iload_n hx hb dL_type_3 rfl (lv_at hl 1 rfl) ?_
  refine z_callV (C := RX8) (q0 := 0) (ci := 6) (As := [.int (zI v)]) (rest := [.int (zI 0), .ref o0]) ([] : va_W) (jrW ct o0 1 O) hx hb hml hown hts hl hE hS hA hP hD (c_X8_type l D ct ad u a r q b nx sz S M TX tl pl ft n1 n2 wd v (by assumption) (by assumption) (by omega) (by omega)) gL_type_X8_type rfl rfl k_X8_type ⟨Nat.le_of_ble_eq_true rfl, Nat.le_of_ble_eq_true rfl⟩ rfl rfl rfl rfl (Nat.le_of_ble_eq_true rfl) ⟨Nat.le_of_ble_eq_true rfl, Nat.le_of_ble_eq_true rfl⟩ dL_type_4 rfl (fun v w1 H locs hpost hP hD hS => ?_)
  obtain ⟨rfl, rfl⟩ := hpost
  have hP : va_P D vwCl (x8W u a r q ++ (svW ct r b nx sz S ++ (sobjW a ++ (gridW ct a M ++ (benchW ct a M ++ (logW ct a M ++ (txtW ct q (up TX tl v) (tl + 1) pl ft wd n1 n2 ++ (jrW ct o0 1 O)))))))) H := hP
  have hD : va_D A (x8W u a r q ++ (svW ct r b nx sz S ++ (sobjW a ++ (gridW ct a M ++ (benchW ct a M ++ (logW ct a M ++ (txtW ct q (up TX tl v) (tl + 1) pl ft wd n1 n2 ++ (jrW ct o0 1 O)))))))) := hD
  refine W.eq (g2 := F0 m 7 ls [.int (zI (tl + 1)), .int (zI 0), .ref o0]) rfl ?_
  refine z_i2l hx hb dL_type_7 (by omega) ?_
  refine z_last (g := O) (w2 := x8W u a r q ++ (svW ct r b nx sz S ++ (sobjW a ++ (gridW ct a M ++ (benchW ct a M ++ (logW ct a M ++ (txtW ct q (up TX tl v) (tl + 1) pl ft wd n1 n2 ++ (jrW ct o0 1 (up O 0 (tl + 1)))))))))) hx hb hK hP hD hS 60 rfl (by decide) (by omega) dL_type_8 (rfl) (fun H locs hP hD hS => ?_)
  refine lv_goto (tgt := 18) hx hb dL_type_9 (by decide) ?_
  refine z_iconst hx hb dL_type_18 ?_
  exact z_iret hx hb hr hlocks hP hD hS ⟨Nat.le_of_ble_eq_true rfl, Nat.le_of_ble_eq_true rfl⟩ dL_type_19 (⟨congrArg (fun z => some (Value.int (zI z))) (rfl), rfl⟩)
set_option maxHeartbeats 4000000 in
set_option maxRecDepth 100000 in
theorem c_L_type_no (l : Launch) (D : va_G) (ct ad : Nat → Nat) (u : Nat) (a r q : Nat → Nat) (b : Nat → Nat → Nat) (nx sz : Int) (S : Nat → Int → Int) (M TX : Int → Int) (tl pl ft n1 n2 : Int) (wd : Value) (o0 : Nat) (O : Int → Int) (v : Int) (hs : sInv M) (hst : l.stackTraces = false) (ht : tInv TX tl) (h1 : -2147483648 ≤ v ∧ v ≤ 2147483647) (hno : ¬ ((0 ≤ v ∧ v ≤ 127) ∧ tl < 150)) : ZM l yL_type wsL_type ({ frames := 8, cells := 1, slots := 6, locals := 123 } : Room) D ct ad [.ref u, .int (zI v), .ref o0] (x8W u a r q ++ (svW ct r b nx sz S ++ (sobjW a ++ (gridW ct a M ++ (benchW ct a M ++ (logW ct a M ++ (txtW ct q TX tl pl ft wd n1 n2 ++ (jrW ct o0 1 O)))))))) (zD (some (.int (zI (if 0 ≤ v ∧ v ≤ 127 then 2 else 1)))) (x8W u a r q ++ (svW ct r b nx sz S ++ (sobjW a ++ (gridW ct a M ++ (benchW ct a M ++ (logW ct a M ++ (txtW ct q TX tl pl ft wd n1 n2 ++ (jrW ct o0 1 O))))))))) := by
  refine ZM.ofH (cc := cL_type) (maxL := 4) (ret := (some .int)) (by decide +kernel) rfl (Nat.le_of_ble_eq_true rfl) ?_
  intro p e s m below meth c A ls hx hb hr hts hown hlocks hml hTab hE hP hD hA hS hl
  have hK := hE.1
  have hf_0 := hts (.classLink RL 13 "java/lang/IllegalArgumentException") (by decide +kernel)
  have hf_1 := hts (.classLink RL 15 "java/lang/IllegalStateException") (by decide +kernel)
  have hl : lv_has ls 4 [(0, .ref u), (1, .int (zI v)), (2, .ref o0)] := hl
  refine lv_aload_n hx hb dL_type_0 rfl (lv_at hl 2 rfl) ?_
  refine z_iconst hx hb dL_type_1 ?_
  refine lv_aload_n hx hb dL_type_2 rfl (lv_at hl 0 rfl) ?_
  refine lv_iload_n hx hb dL_type_3 rfl (lv_at hl 1 rfl) ?_
  rcases (show ¬ (0 ≤ v ∧ v ≤ 127) ∨ (0 ≤ v ∧ v ≤ 127) from (by omega)) with hck | hck
  · refine z_catV (C := RX8) (q0 := 0) (ci := 6) (E := "java/lang/IllegalArgumentException") (name := "java/lang/IllegalArgumentException") (As := [.int (zI v)]) (rest := [.int (zI 0), .ref o0]) ([] : va_W) (jrW ct o0 1 O) hx hb hml hown hts hl hE hS hA hP hD (ZX.toE (c_X8_type_x l D ct ad u a r q b nx sz S M TX tl pl ft n1 n2 wd v (by assumption) hst (by assumption) (by omega) (by omega)) ((by rw [if_neg hck]; rfl))) gL_type_X8_type rfl rfl k_X8_type ⟨Nat.le_of_ble_eq_true rfl, Nat.le_of_ble_eq_true rfl⟩ rfl rfl rfl rfl (Nat.le_of_ble_eq_true rfl) ⟨Nat.le_of_ble_eq_true rfl, Nat.le_of_ble_eq_true rfl⟩ dL_type_4 rfl [] ({ startPc := 0, endPc := 9, handlerPc := 12, catchType := 13 } : ExceptionTableEntry) [({ startPc := 0, endPc := 9, handlerPc := 15, catchType := 15 } : ExceptionTableEntry)] (hTab.trans rfl) (fun z hz => nomatch hz) (by decide) (by decide) hf_0 (hE.2.1.1 _ (List.mem_of_getElem? (i := 19) rfl)) (fun q9_4 H locs hP hD hS => ?_)
    have hP : va_P D vwCl (x8W u a r q ++ (svW ct r b nx sz S ++ (sobjW a ++ (gridW ct a M ++ (benchW ct a M ++ (logW ct a M ++ (txtW ct q TX tl pl ft wd n1 n2 ++ (jrW ct o0 1 O)))))))) H := hP
    have hD : va_D A (x8W u a r q ++ (svW ct r b nx sz S ++ (sobjW a ++ (gridW ct a M ++ (benchW ct a M ++ (logW ct a M ++ (txtW ct q TX tl pl ft wd n1 n2 ++ (jrW ct o0 1 O)))))))) := hD
    refine W.eq (g2 := F0 m 12 ls [.ref q9_4]) rfl ?_
    refine lv_astore_n (lv' := [(3, .ref q9_4), (0, .ref u), (1, .int (zI v)), (2, .ref o0)]) hx hb dL_type_12 rfl hl (by decide) rfl (fun ls hl => ?_)
    refine z_iconst hx hb dL_type_13 ?_
    exact z_iret hx hb hr hlocks hP hD hS ⟨Nat.le_of_ble_eq_true rfl, Nat.le_of_ble_eq_true rfl⟩ dL_type_14 (⟨congrArg (fun z => some (Value.int (zI z))) (by first | rfl | omega | (unfold ck1; split <;> omega) | (split <;> omega)), rfl⟩)
  · refine z_catV (C := RX8) (q0 := 0) (ci := 6) (E := "java/lang/IllegalStateException") (name := "java/lang/IllegalStateException") (As := [.int (zI v)]) (rest := [.int (zI 0), .ref o0]) ([] : va_W) (jrW ct o0 1 O) hx hb hml hown hts hl hE hS hA hP hD (ZX.toE (c_X8_type_x l D ct ad u a r q b nx sz S M TX tl pl ft n1 n2 wd v (by assumption) hst (by assumption) (by omega) (by omega)) ((by rw [if_pos hck]; rfl))) gL_type_X8_type rfl rfl k_X8_type ⟨Nat.le_of_ble_eq_true rfl, Nat.le_of_ble_eq_true rfl⟩ rfl rfl rfl rfl (Nat.le_of_ble_eq_true rfl) ⟨Nat.le_of_ble_eq_true rfl, Nat.le_of_ble_eq_true rfl⟩ dL_type_4 rfl [({ startPc := 0, endPc := 9, handlerPc := 12, catchType := 13 } : ExceptionTableEntry)] ({ startPc := 0, endPc := 9, handlerPc := 15, catchType := 15 } : ExceptionTableEntry) [] (hTab.trans rfl) (fun z hz => by simp only [List.mem_cons, List.not_mem_nil, or_false] at hz; rcases hz with rfl; exact Or.inr ⟨by decide, "java/lang/IllegalArgumentException", hf_0, hE.2.1.2 ("java/lang/IllegalStateException", "java/lang/IllegalArgumentException") (by decide)⟩) (by decide) (by decide) hf_1 (hE.2.1.1 _ (List.mem_of_getElem? (i := 20) rfl)) (fun q9_4 H locs hP hD hS => ?_)
    have hP : va_P D vwCl (x8W u a r q ++ (svW ct r b nx sz S ++ (sobjW a ++ (gridW ct a M ++ (benchW ct a M ++ (logW ct a M ++ (txtW ct q TX tl pl ft wd n1 n2 ++ (jrW ct o0 1 O)))))))) H := hP
    have hD : va_D A (x8W u a r q ++ (svW ct r b nx sz S ++ (sobjW a ++ (gridW ct a M ++ (benchW ct a M ++ (logW ct a M ++ (txtW ct q TX tl pl ft wd n1 n2 ++ (jrW ct o0 1 O)))))))) := hD
    refine W.eq (g2 := F0 m 15 ls [.ref q9_4]) rfl ?_
    refine lv_astore_n (lv' := [(3, .ref q9_4), (0, .ref u), (1, .int (zI v)), (2, .ref o0)]) hx hb dL_type_15 rfl hl (by decide) rfl (fun ls hl => ?_)
    refine z_iconst hx hb dL_type_16 ?_
    exact z_iret hx hb hr hlocks hP hD hS ⟨Nat.le_of_ble_eq_true rfl, Nat.le_of_ble_eq_true rfl⟩ dL_type_17 (⟨congrArg (fun z => some (Value.int (zI z))) (by first | rfl | omega | (unfold ck1; split <;> omega) | (split <;> omega)), rfl⟩)
theorem k_X8_undo : yX8_undo.cls ≠ "java/lang/invoke/MethodHandle" ∧ yX8_undo.cls ≠ "java/lang/invoke/VarHandle" ∧ (parseMethodDescriptor yX8_undo.desc).map (fun d => d.parameters.length) = some 0 := by decide +kernel
set_option maxHeartbeats 4000000 in
set_option maxRecDepth 100000 in
theorem c_L_undo_ok (l : Launch) (D : va_G) (ct ad : Nat → Nat) (u : Nat) (a r q : Nat → Nat) (b : Nat → Nat → Nat) (nx sz : Int) (S : Nat → Int → Int) (M TX : Int → Int) (tl pl ft n1 n2 : Int) (wd : Value) (o0 : Nat) (O : Int → Int) (hs : sInv M) (hn : 0 ≤ nx ∧ nx ≤ 3) (hok : 1 ≤ sz ∧ sz ≤ 4) (hv : -2147483648 ≤ sz - 1 ∧ sz - 1 ≤ 2147483647) : ZM l yL_undo wsL_undo ({ frames := 5, cells := 0, slots := 0, locals := 102 } : Room) D ct ad [.ref u, .ref o0] (x8W u a r q ++ (svW ct r b nx sz S ++ (sobjW a ++ (gridW ct a M ++ (benchW ct a M ++ (logW ct a M ++ (txtW ct q TX tl pl ft wd n1 n2 ++ (jrW ct o0 1 O)))))))) (zD (some (.int (zI 0))) (x8W u a r q ++ (svW ct r b ((nx + 3) % 4) (sz - 1) S ++ (sobjW a ++ (gridW ct a (S ((nx + 3) % 4).toNat) ++ (benchW ct a (S ((nx + 3) % 4).toNat) ++ (logW ct a (S ((nx + 3) % 4).toNat) ++ (txtW ct q TX tl pl ft wd n1 n2 ++ (jrW ct o0 1 (up O 0 (sz - 1))))))))))) := by
  refine ZM.ofH (cc := cL_undo) (maxL := 3) (ret := (some .int)) (by decide +kernel) rfl (Nat.le_of_ble_eq_true rfl) ?_
  intro p e s m below meth c A ls hx hb hr hts hown hlocks hml hTab hE hP hD hA hS hl
  have hK := hE.1
  have hl : lv_has ls 3 [(0, .ref u), (1, .ref o0)] := hl
  refine lv_aload_n hx hb dL_undo_0 rfl (lv_at hl 1 rfl) ?_
  refine z_iconst hx hb dL_undo_1 ?_
  refine lv_aload_n hx hb dL_undo_2 rfl (lv_at hl 0 rfl) ?_
  refine z_callV (C := RX8) (q0 := 0) (ci := 6) (As := []) (rest := [.int (zI 0), .ref o0]) ([] : va_W) (jrW ct o0 1 O) hx hb hml hown hts hl hE hS hA hP hD (c_X8_undo l D ct ad u a r q b nx sz S M TX tl pl ft n1 n2 wd (by assumption) (by omega) hok) gL_undo_X8_undo rfl rfl k_X8_undo ⟨Nat.le_of_ble_eq_true rfl, Nat.le_of_ble_eq_true rfl⟩ rfl rfl rfl rfl (Nat.le_of_ble_eq_true rfl) ⟨Nat.le_of_ble_eq_true rfl, Nat.le_of_ble_eq_true rfl⟩ dL_undo_3 rfl (fun v w1 H locs hpost hP hD hS => ?_)
  obtain ⟨rfl, rfl⟩ := hpost
  have hP : va_P D vwCl (x8W u a r q ++ (svW ct r b ((nx + 3) % 4) (sz - 1) S ++ (sobjW a ++ (gridW ct a (S ((nx + 3) % 4).toNat) ++ (benchW ct a (S ((nx + 3) % 4).toNat) ++ (logW ct a (S ((nx + 3) % 4).toNat) ++ (txtW ct q TX tl pl ft wd n1 n2 ++ (jrW ct o0 1 O)))))))) H := hP
  have hD : va_D A (x8W u a r q ++ (svW ct r b ((nx + 3) % 4) (sz - 1) S ++ (sobjW a ++ (gridW ct a (S ((nx + 3) % 4).toNat) ++ (benchW ct a (S ((nx + 3) % 4).toNat) ++ (logW ct a (S ((nx + 3) % 4).toNat) ++ (txtW ct q TX tl pl ft wd n1 n2 ++ (jrW ct o0 1 O)))))))) := hD
  refine W.eq (g2 := F0 m 6 ls [.int (zI (sz - 1)), .int (zI 0), .ref o0]) rfl ?_
  refine z_i2l hx hb dL_undo_6 (by omega) ?_
  refine z_last (g := O) (w2 := x8W u a r q ++ (svW ct r b ((nx + 3) % 4) (sz - 1) S ++ (sobjW a ++ (gridW ct a (S ((nx + 3) % 4).toNat) ++ (benchW ct a (S ((nx + 3) % 4).toNat) ++ (logW ct a (S ((nx + 3) % 4).toNat) ++ (txtW ct q TX tl pl ft wd n1 n2 ++ (jrW ct o0 1 (up O 0 (sz - 1)))))))))) hx hb hK hP hD hS 60 rfl (by decide) (by omega) dL_undo_7 (rfl) (fun H locs hP hD hS => ?_)
  refine lv_goto (tgt := 14) hx hb dL_undo_8 (by decide) ?_
  refine z_iconst hx hb dL_undo_14 ?_
  exact z_iret hx hb hr hlocks hP hD hS ⟨Nat.le_of_ble_eq_true rfl, Nat.le_of_ble_eq_true rfl⟩ dL_undo_15 (⟨congrArg (fun z => some (Value.int (zI z))) (rfl), rfl⟩)
set_option maxHeartbeats 4000000 in
set_option maxRecDepth 100000 in
theorem c_L_undo_no (l : Launch) (D : va_G) (ct ad : Nat → Nat) (u : Nat) (a r q : Nat → Nat) (b : Nat → Nat → Nat) (nx sz : Int) (S : Nat → Int → Int) (M TX : Int → Int) (tl pl ft n1 n2 : Int) (wd : Value) (o0 : Nat) (O : Int → Int) (hs : sInv M) (hst : l.stackTraces = false) (hno : sz = 0) : ZM l yL_undo wsL_undo ({ frames := 8, cells := 1, slots := 6, locals := 122 } : Room) D ct ad [.ref u, .ref o0] (x8W u a r q ++ (svW ct r b nx sz S ++ (sobjW a ++ (gridW ct a M ++ (benchW ct a M ++ (logW ct a M ++ (txtW ct q TX tl pl ft wd n1 n2 ++ (jrW ct o0 1 O)))))))) (zD (some (.int (zI 1))) (x8W u a r q ++ (svW ct r b nx sz S ++ (sobjW a ++ (gridW ct a M ++ (benchW ct a M ++ (logW ct a M ++ (txtW ct q TX tl pl ft wd n1 n2 ++ (jrW ct o0 1 O))))))))) := by
  refine ZM.ofH (cc := cL_undo) (maxL := 3) (ret := (some .int)) (by decide +kernel) rfl (Nat.le_of_ble_eq_true rfl) ?_
  intro p e s m below meth c A ls hx hb hr hts hown hlocks hml hTab hE hP hD hA hS hl
  have hK := hE.1
  have hf_0 := hts (.classLink RL 15 "java/lang/IllegalStateException") (by decide +kernel)
  have hl : lv_has ls 3 [(0, .ref u), (1, .ref o0)] := hl
  refine lv_aload_n hx hb dL_undo_0 rfl (lv_at hl 1 rfl) ?_
  refine z_iconst hx hb dL_undo_1 ?_
  refine lv_aload_n hx hb dL_undo_2 rfl (lv_at hl 0 rfl) ?_
  rcases (show True from trivial) with hck
  · refine z_catV (C := RX8) (q0 := 0) (ci := 6) (E := "java/lang/IllegalStateException") (name := "java/lang/IllegalStateException") (As := []) (rest := [.int (zI 0), .ref o0]) ([] : va_W) (jrW ct o0 1 O) hx hb hml hown hts hl hE hS hA hP hD (ZX.toE (c_X8_undo_x l D ct ad u a r q b nx sz S M TX tl pl ft n1 n2 wd (by assumption) hst (by omega)) (rfl)) gL_undo_X8_undo rfl rfl k_X8_undo ⟨Nat.le_of_ble_eq_true rfl, Nat.le_of_ble_eq_true rfl⟩ rfl rfl rfl rfl (Nat.le_of_ble_eq_true rfl) ⟨Nat.le_of_ble_eq_true rfl, Nat.le_of_ble_eq_true rfl⟩ dL_undo_3 rfl [] ({ startPc := 0, endPc := 8, handlerPc := 11, catchType := 15 } : ExceptionTableEntry) [] (hTab.trans rfl) (fun z hz => nomatch hz) (by decide) (by decide) hf_0 (hE.2.1.1 _ (List.mem_of_getElem? (i := 20) rfl)) (fun q9_3 H locs hP hD hS => ?_)
    have hP : va_P D vwCl (x8W u a r q ++ (svW ct r b nx sz S ++ (sobjW a ++ (gridW ct a M ++ (benchW ct a M ++ (logW ct a M ++ (txtW ct q TX tl pl ft wd n1 n2 ++ (jrW ct o0 1 O)))))))) H := hP
    have hD : va_D A (x8W u a r q ++ (svW ct r b nx sz S ++ (sobjW a ++ (gridW ct a M ++ (benchW ct a M ++ (logW ct a M ++ (txtW ct q TX tl pl ft wd n1 n2 ++ (jrW ct o0 1 O)))))))) := hD
    refine W.eq (g2 := F0 m 11 ls [.ref q9_3]) rfl ?_
    refine lv_astore_n (lv' := [(2, .ref q9_3), (0, .ref u), (1, .ref o0)]) hx hb dL_undo_11 rfl hl (by decide) rfl (fun ls hl => ?_)
    refine z_iconst hx hb dL_undo_12 ?_
    exact z_iret hx hb hr hlocks hP hD hS ⟨Nat.le_of_ble_eq_true rfl, Nat.le_of_ble_eq_true rfl⟩ dL_undo_13 (⟨congrArg (fun z => some (Value.int (zI z))) (by first | rfl | omega | (unfold ck1; split <;> omega) | (split <;> omega)), rfl⟩)
