/-- what a refused call answers in the law -/
def exK (k : Int) : Int := if k = 1 then -2100000003 else if k = 2 then -2100000001 else -2100000002
theorem k_X8_addMetal : yX8_addMetal.cls ≠ "java/lang/invoke/MethodHandle" ∧ yX8_addMetal.cls ≠ "java/lang/invoke/VarHandle" ∧ (parseMethodDescriptor yX8_addMetal.desc).map (fun d => d.parameters.length) = some 1 := by decide +kernel
set_option maxHeartbeats 4000000 in
set_option maxRecDepth 100000 in
theorem c_L_addMetal_ok (l : Launch) (D : va_G) (ct ad : Nat → Nat) (u : Nat) (a r q : Nat → Nat) (b : Nat → Nat → Nat) (nx sz : Int) (S : Nat → Int → Int) (M TX : Int → Int) (tl pl ft n1 n2 : Int) (wd : Value) (v : Int) (hs : sInv M) (hn : 0 ≤ nx ∧ nx ≤ 3) (hsz : 0 ≤ sz ∧ sz ≤ 4) (h2 : -2147483648 ≤ v ∧ v ≤ 2147483647) (hok : ck_metal M v = 0) : ZM l yL_addMetal wsL_addMetal ({ frames := 5, cells := 0, slots := 0, locals := 103 } : Room) D ct ad [.ref u, .int (zI v)] (x8W u a r q ++ (svW ct r b nx sz S ++ (sobjW a ++ (gridW ct a M ++ (benchW ct a M ++ (logW ct a M ++ (txtW ct q TX tl pl ft wd n1 n2))))))) (zD (some (.int (zI (M 3)))) (x8W u a r q ++ (svW ct r b ((nx + 1) % 4) (min (sz + 1) 4) (updS S nx M) ++ (sobjW a ++ (gridW ct a (st_metal M v) ++ (benchW ct a (st_metal M v) ++ (logW ct a (st_metal M v) ++ (txtW ct q TX tl pl ft wd n1 n2)))))))) := by
  refine ZM.ofH (cc := cL_addMetal) (maxL := 3) (ret := (some .int)) (by decide +kernel) rfl (Nat.le_of_ble_eq_true rfl) ?_
  intro p e s m below meth c A ls hx hb hr hts hown hlocks hml hTab hE hP hD hA hS hl
  have hK := hE.1
  have hl : lv_has ls 3 [(0, .ref u), (1, .int (zI v))] := hl
  refine lv_aload_n hx hb dL_addMetal_0 rfl (lv_at hl 0 rfl) ?_
  refine lv_iload_n hx hb dL_addMetal_1 rfl (lv_at hl 1 rfl) ?_
  refine z_callV (C := RX8) (q0 := 0) (ci := 6) (As := [.int (zI v)]) (rest := []) ([] : va_W) ([] : va_W) hx hb hml hown hts hl hE hS hA (zr0 ([] : va_W) hP) (zr0D ([] : va_W) hD) (c_X8_addMetal l D ct ad u a r q b nx sz S M TX tl pl ft n1 n2 wd v (by assumption) (by omega) (by omega) (by omega) (by omega)) gL_addMetal_X8_addMetal rfl rfl k_X8_addMetal ⟨Nat.le_of_ble_eq_true rfl, Nat.le_of_ble_eq_true rfl⟩ rfl rfl rfl rfl (Nat.le_of_ble_eq_true rfl) ⟨Nat.le_of_ble_eq_true rfl, Nat.le_of_ble_eq_true rfl⟩ dL_addMetal_2 rfl (fun v w1 H locs hpost hP hD hS => ?_)
  obtain ⟨rfl, rfl⟩ := hpost
  have hP := zr0' hP
  have hD := zr0D' hD
  have hP : va_P D vwCl (x8W u a r q ++ (svW ct r b ((nx + 1) % 4) (min (sz + 1) 4) (updS S nx M) ++ (sobjW a ++ (gridW ct a (st_metal M v) ++ (benchW ct a (st_metal M v) ++ (logW ct a (st_metal M v) ++ (txtW ct q TX tl pl ft wd n1 n2))))))) H := hP
  have hD : va_D A (x8W u a r q ++ (svW ct r b ((nx + 1) % 4) (min (sz + 1) 4) (updS S nx M) ++ (sobjW a ++ (gridW ct a (st_metal M v) ++ (benchW ct a (st_metal M v) ++ (logW ct a (st_metal M v) ++ (txtW ct q TX tl pl ft wd n1 n2))))))) := hD
  refine W.eq (g2 := F0 m 5 ls [.int (zI (M 3))]) rfl ?_
  exact z_iret hx hb hr hlocks hP hD hS ⟨Nat.le_of_ble_eq_true rfl, Nat.le_of_ble_eq_true rfl⟩ dL_addMetal_5 (⟨congrArg (fun z => some (Value.int (zI z))) (rfl), rfl⟩)
set_option maxHeartbeats 4000000 in
set_option maxRecDepth 100000 in
theorem c_L_addMetal_no (l : Launch) (D : va_G) (ct ad : Nat → Nat) (u : Nat) (a r q : Nat → Nat) (b : Nat → Nat → Nat) (nx sz : Int) (S : Nat → Int → Int) (M TX : Int → Int) (tl pl ft n1 n2 : Int) (wd : Value) (v : Int) (hs : sInv M) (hst : l.stackTraces = false) (h2 : -2147483648 ≤ v ∧ v ≤ 2147483647) (hno : ck_metal M v ≠ 0) : ZM l yL_addMetal wsL_addMetal ({ frames := 8, cells := 1, slots := 6, locals := 123 } : Room) D ct ad [.ref u, .int (zI v)] (x8W u a r q ++ (svW ct r b nx sz S ++ (sobjW a ++ (gridW ct a M ++ (benchW ct a M ++ (logW ct a M ++ (txtW ct q TX tl pl ft wd n1 n2))))))) (zD (some (.int (zI (exK (ck_metal M v))))) (x8W u a r q ++ (svW ct r b nx sz S ++ (sobjW a ++ (gridW ct a M ++ (benchW ct a M ++ (logW ct a M ++ (txtW ct q TX tl pl ft wd n1 n2)))))))) := by
  refine ZM.ofH (cc := cL_addMetal) (maxL := 3) (ret := (some .int)) (by decide +kernel) rfl (Nat.le_of_ble_eq_true rfl) ?_
  intro p e s m below meth c A ls hx hb hr hts hown hlocks hml hTab hE hP hD hA hS hl
  have hK := hE.1
  have hf_0 := hts (.classLink RL 15 "java/lang/IllegalArgumentException") (by decide +kernel)
  have hf_1 := hts (.constant RL 17 (-2100000001)) (by decide +kernel)
  have hf_2 := hts (.classLink RL 18 "java/lang/IllegalStateException") (by decide +kernel)
  have hf_3 := hts (.constant RL 20 (-2100000002)) (by decide +kernel)
  have hl : lv_has ls 3 [(0, .ref u), (1, .int (zI v))] := hl
  refine lv_aload_n hx hb dL_addMetal_0 rfl (lv_at hl 0 rfl) ?_
  refine lv_iload_n hx hb dL_addMetal_1 rfl (lv_at hl 1 rfl) ?_
  rcases (show ck_metal M v = 2 ∨ ck_metal M v = 3 from (by have q9 := hno; unfold ck_metal at q9 ⊢; (repeat' split) <;> (repeat' split at q9) <;> omega)) with hck | hck
  · refine z_catV (C := RX8) (q0 := 0) (ci := 6) (E := "java/lang/IllegalArgumentException") (name := "java/lang/IllegalArgumentException") (As := [.int (zI v)]) (rest := []) ([] : va_W) ([] : va_W) hx hb hml hown hts hl hE hS hA (zr0 ([] : va_W) hP) (zr0D ([] : va_W) hD) (ZX.toE (c_X8_addMetal_x l D ct ad u a r q b nx sz S M TX tl pl ft n1 n2 wd v (by assumption) hst (by omega) (by omega)) ((by rw [hck]; rfl))) gL_addMetal_X8_addMetal rfl rfl k_X8_addMetal ⟨Nat.le_of_ble_eq_true rfl, Nat.le_of_ble_eq_true rfl⟩ rfl rfl rfl rfl (Nat.le_of_ble_eq_true rfl) ⟨Nat.le_of_ble_eq_true rfl, Nat.le_of_ble_eq_true rfl⟩ dL_addMetal_2 rfl [] ({ startPc := 0, endPc := 5, handlerPc := 6, catchType := 15 } : ExceptionTableEntry) [({ startPc := 0, endPc := 5, handlerPc := 10, catchType := 18 } : ExceptionTableEntry)] (hTab.trans rfl) (fun z hz => nomatch hz) (by decide) (by decide) hf_0 (hE.2.1.1 _ (List.mem_of_getElem? (i := 19) rfl)) (fun q9_2 H locs hP hD hS => ?_)
    have hP := zr0' hP
    have hD := zr0D' hD
    have hP : va_P D vwCl (x8W u a r q ++ (svW ct r b nx sz S ++ (sobjW a ++ (gridW ct a M ++ (benchW ct a M ++ (logW ct a M ++ (txtW ct q TX tl pl ft wd n1 n2))))))) H := hP
    have hD : va_D A (x8W u a r q ++ (svW ct r b nx sz S ++ (sobjW a ++ (gridW ct a M ++ (benchW ct a M ++ (logW ct a M ++ (txtW ct q TX tl pl ft wd n1 n2))))))) := hD
    refine W.eq (g2 := F0 m 6 ls [.ref q9_2]) rfl ?_
    refine lv_astore_n (lv' := [(2, .ref q9_2), (0, .ref u), (1, .int (zI v))]) hx hb dL_addMetal_6 rfl hl (by decide) rfl (fun ls hl => ?_)
    refine z_ldc hx hb (-2100000001) hown hf_1 (by decide) dL_addMetal_7 ?_
    exact z_iret hx hb hr hlocks hP hD hS ⟨Nat.le_of_ble_eq_true rfl, Nat.le_of_ble_eq_true rfl⟩ dL_addMetal_9 (⟨congrArg (fun z => some (Value.int (zI z))) (by first | rfl | (rw [hck]; rfl) | (rw [if_pos hck]) | (rw [if_neg hck])), rfl⟩)
  · refine z_catV (C := RX8) (q0 := 0) (ci := 6) (E := "java/lang/IllegalStateException") (name := "java/lang/IllegalStateException") (As := [.int (zI v)]) (rest := []) ([] : va_W) ([] : va_W) hx hb hml hown hts hl hE hS hA (zr0 ([] : va_W) hP) (zr0D ([] : va_W) hD) (ZX.toE (c_X8_addMetal_x l D ct ad u a r q b nx sz S M TX tl pl ft n1 n2 wd v (by assumption) hst (by omega) (by omega)) ((by rw [hck]; rfl))) gL_addMetal_X8_addMetal rfl rfl k_X8_addMetal ⟨Nat.le_of_ble_eq_true rfl, Nat.le_of_ble_eq_true rfl⟩ rfl rfl rfl rfl (Nat.le_of_ble_eq_true rfl) ⟨Nat.le_of_ble_eq_true rfl, Nat.le_of_ble_eq_true rfl⟩ dL_addMetal_2 rfl [({ startPc := 0, endPc := 5, handlerPc := 6, catchType := 15 } : ExceptionTableEntry)] ({ startPc := 0, endPc := 5, handlerPc := 10, catchType := 18 } : ExceptionTableEntry) [] (hTab.trans rfl) (fun z hz => by simp only [List.mem_cons, List.not_mem_nil, or_false] at hz; rcases hz with rfl; exact Or.inr ⟨by decide, "java/lang/IllegalArgumentException", hf_0, hE.2.1.2 ("java/lang/IllegalStateException", "java/lang/IllegalArgumentException") (by decide)⟩) (by decide) (by decide) hf_2 (hE.2.1.1 _ (List.mem_of_getElem? (i := 20) rfl)) (fun q9_2 H locs hP hD hS => ?_)
    have hP := zr0' hP
    have hD := zr0D' hD
    have hP : va_P D vwCl (x8W u a r q ++ (svW ct r b nx sz S ++ (sobjW a ++ (gridW ct a M ++ (benchW ct a M ++ (logW ct a M ++ (txtW ct q TX tl pl ft wd n1 n2))))))) H := hP
    have hD : va_D A (x8W u a r q ++ (svW ct r b nx sz S ++ (sobjW a ++ (gridW ct a M ++ (benchW ct a M ++ (logW ct a M ++ (txtW ct q TX tl pl ft wd n1 n2))))))) := hD
    refine W.eq (g2 := F0 m 10 ls [.ref q9_2]) rfl ?_
    refine lv_astore_n (lv' := [(2, .ref q9_2), (0, .ref u), (1, .int (zI v))]) hx hb dL_addMetal_10 rfl hl (by decide) rfl (fun ls hl => ?_)
    refine z_ldc hx hb (-2100000002) hown hf_3 (by decide) dL_addMetal_11 ?_
    exact z_iret hx hb hr hlocks hP hD hS ⟨Nat.le_of_ble_eq_true rfl, Nat.le_of_ble_eq_true rfl⟩ dL_addMetal_13 (⟨congrArg (fun z => some (Value.int (zI z))) (by first | rfl | (rw [hck]; rfl) | (rw [if_pos hck]) | (rw [if_neg hck])), rfl⟩)
theorem k_X8_setStretch : yX8_setStretch.cls ≠ "java/lang/invoke/MethodHandle" ∧ yX8_setStretch.cls ≠ "java/lang/invoke/VarHandle" ∧ (parseMethodDescriptor yX8_setStretch.desc).map (fun d => d.parameters.length) = some 2 := by decide +kernel
set_option maxHeartbeats 4000000 in
set_option maxRecDepth 100000 in
theorem c_L_setStretch_ok (l : Launch) (D : va_G) (ct ad : Nat → Nat) (u : Nat) (a r q : Nat → Nat) (b : Nat → Nat → Nat) (nx sz : Int) (S : Nat → Int → Int) (M TX : Int → Int) (tl pl ft n1 n2 : Int) (wd : Value) (k v : Int) (hs : sInv M) (hn : 0 ≤ nx ∧ nx ≤ 3) (hsz : 0 ≤ sz ∧ sz ≤ 4) (h1 : -2147483648 ≤ k ∧ k ≤ 2147483647) (h2 : -2147483648 ≤ v ∧ v ≤ 2147483647) (hok : ck_stretch M k v = 0) : ZM l yL_setStretch wsL_setStretch ({ frames := 5, cells := 0, slots := 0, locals := 104 } : Room) D ct ad [.ref u, .int (zI k), .int (zI v)] (x8W u a r q ++ (svW ct r b nx sz S ++ (sobjW a ++ (gridW ct a M ++ (benchW ct a M ++ (logW ct a M ++ (txtW ct q TX tl pl ft wd n1 n2))))))) (zD (some (.int (zI (M (16 + k))))) (x8W u a r q ++ (svW ct r b ((nx + 1) % 4) (min (sz + 1) 4) (updS S nx M) ++ (sobjW a ++ (gridW ct a (up M (16 + k) v) ++ (benchW ct a (up M (16 + k) v) ++ (logW ct a (up M (16 + k) v) ++ (txtW ct q TX tl pl ft wd n1 n2)))))))) := by
  refine ZM.ofH (cc := cL_setStretch) (maxL := 4) (ret := (some .int)) (by decide +kernel) rfl (Nat.le_of_ble_eq_true rfl) ?_
  intro p e s m below meth c A ls hx hb hr hts hown hlocks hml hTab hE hP hD hA hS hl
  have hK := hE.1
  have hl : lv_has ls 4 [(0, .ref u), (1, .int (zI k)), (2, .int (zI v))] := hl
  refine lv_aload_n hx hb dL_setStretch_0 rfl (lv_at hl 0 rfl) ?_
  refine lv_iload_n hx hb dL_setStretch_1 rfl (lv_at hl 1 rfl) ?_
  refine lv_iload_n hx hb dL_setStretch_2 rfl (lv_at hl 2 rfl) ?_
  refine z_callV (C := RX8) (q0 := 0) (ci := 6) (As := [.int (zI k), .int (zI v)]) (rest := []) ([] : va_W) ([] : va_W) hx hb hml hown hts hl hE hS hA (zr0 ([] : va_W) hP) (zr0D ([] : va_W) hD) (c_X8_setStretch l D ct ad u a r q b nx sz S M TX tl pl ft n1 n2 wd k v (by assumption) (by omega) (by omega) (by omega) (by omega) (by omega)) gL_setStretch_X8_setStretch rfl rfl k_X8_setStretch ⟨Nat.le_of_ble_eq_true rfl, Nat.le_of_ble_eq_true rfl⟩ rfl rfl rfl rfl (Nat.le_of_ble_eq_true rfl) ⟨Nat.le_of_ble_eq_true rfl, Nat.le_of_ble_eq_true rfl⟩ dL_setStretch_3 rfl (fun v w1 H locs hpost hP hD hS => ?_)
  obtain ⟨rfl, rfl⟩ := hpost
  have hP := zr0' hP
  have hD := zr0D' hD
  have hP : va_P D vwCl (x8W u a r q ++ (svW ct r b ((nx + 1) % 4) (min (sz + 1) 4) (updS S nx M) ++ (sobjW a ++ (gridW ct a (up M (16 + k) v) ++ (benchW ct a (up M (16 + k) v) ++ (logW ct a (up M (16 + k) v) ++ (txtW ct q TX tl pl ft wd n1 n2))))))) H := hP
  have hD : va_D A (x8W u a r q ++ (svW ct r b ((nx + 1) % 4) (min (sz + 1) 4) (updS S nx M) ++ (sobjW a ++ (gridW ct a (up M (16 + k) v) ++ (benchW ct a (up M (16 + k) v) ++ (logW ct a (up M (16 + k) v) ++ (txtW ct q TX tl pl ft wd n1 n2))))))) := hD
  refine W.eq (g2 := F0 m 6 ls [.int (zI (M (16 + k)))]) rfl ?_
  exact z_iret hx hb hr hlocks hP hD hS ⟨Nat.le_of_ble_eq_true rfl, Nat.le_of_ble_eq_true rfl⟩ dL_setStretch_6 (⟨congrArg (fun z => some (Value.int (zI z))) (rfl), rfl⟩)
set_option maxHeartbeats 4000000 in
set_option maxRecDepth 100000 in
theorem c_L_setStretch_no (l : Launch) (D : va_G) (ct ad : Nat → Nat) (u : Nat) (a r q : Nat → Nat) (b : Nat → Nat → Nat) (nx sz : Int) (S : Nat → Int → Int) (M TX : Int → Int) (tl pl ft n1 n2 : Int) (wd : Value) (k v : Int) (hs : sInv M) (hst : l.stackTraces = false) (h1 : -2147483648 ≤ k ∧ k ≤ 2147483647) (h2 : -2147483648 ≤ v ∧ v ≤ 2147483647) (hno : ck_stretch M k v ≠ 0) : ZM l yL_setStretch wsL_setStretch ({ frames := 8, cells := 1, slots := 6, locals := 124 } : Room) D ct ad [.ref u, .int (zI k), .int (zI v)] (x8W u a r q ++ (svW ct r b nx sz S ++ (sobjW a ++ (gridW ct a M ++ (benchW ct a M ++ (logW ct a M ++ (txtW ct q TX tl pl ft wd n1 n2))))))) (zD (some (.int (zI (exK (ck_stretch M k v))))) (x8W u a r q ++ (svW ct r b nx sz S ++ (sobjW a ++ (gridW ct a M ++ (benchW ct a M ++ (logW ct a M ++ (txtW ct q TX tl pl ft wd n1 n2)))))))) := by
  refine ZM.ofH (cc := cL_setStretch) (maxL := 4) (ret := (some .int)) (by decide +kernel) rfl (Nat.le_of_ble_eq_true rfl) ?_
  intro p e s m below meth c A ls hx hb hr hts hown hlocks hml hTab hE hP hD hA hS hl
  have hK := hE.1
  have hf_0 := hts (.classLink RL 25 "java/lang/IndexOutOfBoundsException") (by decide +kernel)
  have hf_1 := hts (.constant RL 27 (-2100000003)) (by decide +kernel)
  have hf_2 := hts (.classLink RL 15 "java/lang/IllegalArgumentException") (by decide +kernel)
  have hf_3 := hts (.constant RL 17 (-2100000001)) (by decide +kernel)
  have hl : lv_has ls 4 [(0, .ref u), (1, .int (zI k)), (2, .int (zI v))] := hl
  refine lv_aload_n hx hb dL_setStretch_0 rfl (lv_at hl 0 rfl) ?_
  refine lv_iload_n hx hb dL_setStretch_1 rfl (lv_at hl 1 rfl) ?_
  refine lv_iload_n hx hb dL_setStretch_2 rfl (lv_at hl 2 rfl) ?_
  rcases (show ck_stretch M k v = 1 ∨ ck_stretch M k v = 2 from (by have q9 := hno; unfold ck_stretch at q9 ⊢; (repeat' split) <;> (repeat' split at q9) <;> omega)) with hck | hck
  · refine z_catV (C := RX8) (q0 := 0) (ci := 6) (E := "java/lang/IndexOutOfBoundsException") (name := "java/lang/IndexOutOfBoundsException") (As := [.int (zI k), .int (zI v)]) (rest := []) ([] : va_W) ([] : va_W) hx hb hml hown hts hl hE hS hA (zr0 ([] : va_W) hP) (zr0D ([] : va_W) hD) (ZX.toE (c_X8_setStretch_x l D ct ad u a r q b nx sz S M TX tl pl ft n1 n2 wd k v (by assumption) hst (by omega) (by omega) (by omega)) ((by rw [hck]; rfl))) gL_setStretch_X8_setStretch rfl rfl k_X8_setStretch ⟨Nat.le_of_ble_eq_true rfl, Nat.le_of_ble_eq_true rfl⟩ rfl rfl rfl rfl (Nat.le_of_ble_eq_true rfl) ⟨Nat.le_of_ble_eq_true rfl, Nat.le_of_ble_eq_true rfl⟩ dL_setStretch_3 rfl [] ({ startPc := 0, endPc := 6, handlerPc := 7, catchType := 25 } : ExceptionTableEntry) [({ startPc := 0, endPc := 6, handlerPc := 11, catchType := 15 } : ExceptionTableEntry)] (hTab.trans rfl) (fun z hz => nomatch hz) (by decide) (by decide) hf_0 (hE.2.1.1 _ (List.mem_of_getElem? (i := 18) rfl)) (fun q9_3 H locs hP hD hS => ?_)
    have hP := zr0' hP
    have hD := zr0D' hD
    have hP : va_P D vwCl (x8W u a r q ++ (svW ct r b nx sz S ++ (sobjW a ++ (gridW ct a M ++ (benchW ct a M ++ (logW ct a M ++ (txtW ct q TX tl pl ft wd n1 n2))))))) H := hP
    have hD : va_D A (x8W u a r q ++ (svW ct r b nx sz S ++ (sobjW a ++ (gridW ct a M ++ (benchW ct a M ++ (logW ct a M ++ (txtW ct q TX tl pl ft wd n1 n2))))))) := hD
    refine W.eq (g2 := F0 m 7 ls [.ref q9_3]) rfl ?_
    refine lv_astore_n (lv' := [(3, .ref q9_3), (0, .ref u), (1, .int (zI k)), (2, .int (zI v))]) hx hb dL_setStretch_7 rfl hl (by decide) rfl (fun ls hl => ?_)
    refine z_ldc hx hb (-2100000003) hown hf_1 (by decide) dL_setStretch_8 ?_
    exact z_iret hx hb hr hlocks hP hD hS ⟨Nat.le_of_ble_eq_true rfl, Nat.le_of_ble_eq_true rfl⟩ dL_setStretch_10 (⟨congrArg (fun z => some (Value.int (zI z))) (by first | rfl | (rw [hck]; rfl) | (rw [if_pos hck]) | (rw [if_neg hck])), rfl⟩)
  · refine z_catV (C := RX8) (q0 := 0) (ci := 6) (E := "java/lang/IllegalArgumentException") (name := "java/lang/IllegalArgumentException") (As := [.int (zI k), .int (zI v)]) (rest := []) ([] : va_W) ([] : va_W) hx hb hml hown hts hl hE hS hA (zr0 ([] : va_W) hP) (zr0D ([] : va_W) hD) (ZX.toE (c_X8_setStretch_x l D ct ad u a r q b nx sz S M TX tl pl ft n1 n2 wd k v (by assumption) hst (by omega) (by omega) (by omega)) ((by rw [hck]; rfl))) gL_setStretch_X8_setStretch rfl rfl k_X8_setStretch ⟨Nat.le_of_ble_eq_true rfl, Nat.le_of_ble_eq_true rfl⟩ rfl rfl rfl rfl (Nat.le_of_ble_eq_true rfl) ⟨Nat.le_of_ble_eq_true rfl, Nat.le_of_ble_eq_true rfl⟩ dL_setStretch_3 rfl [({ startPc := 0, endPc := 6, handlerPc := 7, catchType := 25 } : ExceptionTableEntry)] ({ startPc := 0, endPc := 6, handlerPc := 11, catchType := 15 } : ExceptionTableEntry) [] (hTab.trans rfl) (fun z hz => by simp only [List.mem_cons, List.not_mem_nil, or_false] at hz; rcases hz with rfl; exact Or.inr ⟨by decide, "java/lang/IndexOutOfBoundsException", hf_0, hE.2.1.2 ("java/lang/IllegalArgumentException", "java/lang/IndexOutOfBoundsException") (by decide)⟩) (by decide) (by decide) hf_2 (hE.2.1.1 _ (List.mem_of_getElem? (i := 19) rfl)) (fun q9_3 H locs hP hD hS => ?_)
    have hP := zr0' hP
    have hD := zr0D' hD
    have hP : va_P D vwCl (x8W u a r q ++ (svW ct r b nx sz S ++ (sobjW a ++ (gridW ct a M ++ (benchW ct a M ++ (logW ct a M ++ (txtW ct q TX tl pl ft wd n1 n2))))))) H := hP
    have hD : va_D A (x8W u a r q ++ (svW ct r b nx sz S ++ (sobjW a ++ (gridW ct a M ++ (benchW ct a M ++ (logW ct a M ++ (txtW ct q TX tl pl ft wd n1 n2))))))) := hD
    refine W.eq (g2 := F0 m 11 ls [.ref q9_3]) rfl ?_
    refine lv_astore_n (lv' := [(3, .ref q9_3), (0, .ref u), (1, .int (zI k)), (2, .int (zI v))]) hx hb dL_setStretch_11 rfl hl (by decide) rfl (fun ls hl => ?_)
    refine z_ldc hx hb (-2100000001) hown hf_3 (by decide) dL_setStretch_12 ?_
    exact z_iret hx hb hr hlocks hP hD hS ⟨Nat.le_of_ble_eq_true rfl, Nat.le_of_ble_eq_true rfl⟩ dL_setStretch_14 (⟨congrArg (fun z => some (Value.int (zI z))) (by first | rfl | (rw [hck]; rfl) | (rw [if_pos hck]) | (rw [if_neg hck])), rfl⟩)
theorem k_X8_addRod : yX8_addRod.cls ≠ "java/lang/invoke/MethodHandle" ∧ yX8_addRod.cls ≠ "java/lang/invoke/VarHandle" ∧ (parseMethodDescriptor yX8_addRod.desc).map (fun d => d.parameters.length) = some 3 := by decide +kernel
set_option maxHeartbeats 4000000 in
set_option maxRecDepth 100000 in
theorem c_L_addRod_ok (l : Launch) (D : va_G) (ct ad : Nat → Nat) (u : Nat) (a r q : Nat → Nat) (b : Nat → Nat → Nat) (nx sz : Int) (S : Nat → Int → Int) (M TX : Int → Int) (tl pl ft n1 n2 : Int) (wd : Value) (k d n : Int) (hs : sInv M) (hn : 0 ≤ nx ∧ nx ≤ 3) (hsz : 0 ≤ sz ∧ sz ≤ 4) (h1 : -2147483648 ≤ k ∧ k ≤ 2147483647) (h2 : -2147483648 ≤ d ∧ d ≤ 2147483647) (h3 : -2147483648 ≤ n ∧ n ≤ 2147483647) (hok : ck_rod M k d n = 0) : ZM l yL_addRod wsL_addRod ({ frames := 5, cells := 0, slots := 0, locals := 105 } : Room) D ct ad [.ref u, .int (zI k), .int (zI d), .int (zI n)] (x8W u a r q ++ (svW ct r b nx sz S ++ (sobjW a ++ (gridW ct a M ++ (benchW ct a M ++ (logW ct a M ++ (txtW ct q TX tl pl ft wd n1 n2))))))) (zD (some (.int (zI (M 4)))) (x8W u a r q ++ (svW ct r b ((nx + 1) % 4) (min (sz + 1) 4) (updS S nx M) ++ (sobjW a ++ (gridW ct a (st_rod M k d n) ++ (benchW ct a (st_rod M k d n) ++ (logW ct a (st_rod M k d n) ++ (txtW ct q TX tl pl ft wd n1 n2)))))))) := by
  refine ZM.ofH (cc := cL_addRod) (maxL := 5) (ret := (some .int)) (by decide +kernel) rfl (Nat.le_of_ble_eq_true rfl) ?_
  intro p e s m below meth c A ls hx hb hr hts hown hlocks hml hTab hE hP hD hA hS hl
  have hK := hE.1
  have hl : lv_has ls 5 [(0, .ref u), (1, .int (zI k)), (2, .int (zI d)), (3, .int (zI n))] := hl
  refine lv_aload_n hx hb dL_addRod_0 rfl (lv_at hl 0 rfl) ?_
  refine lv_iload_n hx hb dL_addRod_1 rfl (lv_at hl 1 rfl) ?_
  refine lv_iload_n hx hb dL_addRod_2 rfl (lv_at hl 2 rfl) ?_
  refine lv_iload_n hx hb dL_addRod_3 rfl (lv_at hl 3 rfl) ?_
  refine z_callV (C := RX8) (q0 := 0) (ci := 6) (As := [.int (zI k), .int (zI d), .int (zI n)]) (rest := []) ([] : va_W) ([] : va_W) hx hb hml hown hts hl hE hS hA (zr0 ([] : va_W) hP) (zr0D ([] : va_W) hD) (c_X8_addRod l D ct ad u a r q b nx sz S M TX tl pl ft n1 n2 wd k d n (by assumption) (by omega) (by omega) (by omega) (by omega) (by omega) (by omega)) gL_addRod_X8_addRod rfl rfl k_X8_addRod ⟨Nat.le_of_ble_eq_true rfl, Nat.le_of_ble_eq_true rfl⟩ rfl rfl rfl rfl (Nat.le_of_ble_eq_true rfl) ⟨Nat.le_of_ble_eq_true rfl, Nat.le_of_ble_eq_true rfl⟩ dL_addRod_4 rfl (fun v w1 H locs hpost hP hD hS => ?_)
  obtain ⟨rfl, rfl⟩ := hpost
  have hP := zr0' hP
  have hD := zr0D' hD
  have hP : va_P D vwCl (x8W u a r q ++ (svW ct r b ((nx + 1) % 4) (min (sz + 1) 4) (updS S nx M) ++ (sobjW a ++ (gridW ct a (st_rod M k d n) ++ (benchW ct a (st_rod M k d n) ++ (logW ct a (st_rod M k d n) ++ (txtW ct q TX tl pl ft wd n1 n2))))))) H := hP
  have hD : va_D A (x8W u a r q ++ (svW ct r b ((nx + 1) % 4) (min (sz + 1) 4) (updS S nx M) ++ (sobjW a ++ (gridW ct a (st_rod M k d n) ++ (benchW ct a (st_rod M k d n) ++ (logW ct a (st_rod M k d n) ++ (txtW ct q TX tl pl ft wd n1 n2))))))) := hD
  refine W.eq (g2 := F0 m 7 ls [.int (zI (M 4))]) rfl ?_
  exact z_iret hx hb hr hlocks hP hD hS ⟨Nat.le_of_ble_eq_true rfl, Nat.le_of_ble_eq_true rfl⟩ dL_addRod_7 (⟨congrArg (fun z => some (Value.int (zI z))) (rfl), rfl⟩)
set_option maxHeartbeats 4000000 in
set_option maxRecDepth 100000 in
theorem c_L_addRod_no (l : Launch) (D : va_G) (ct ad : Nat → Nat) (u : Nat) (a r q : Nat → Nat) (b : Nat → Nat → Nat) (nx sz : Int) (S : Nat → Int → Int) (M TX : Int → Int) (tl pl ft n1 n2 : Int) (wd : Value) (k d n : Int) (hs : sInv M) (hst : l.stackTraces = false) (h1 : -2147483648 ≤ k ∧ k ≤ 2147483647) (h2 : -2147483648 ≤ d ∧ d ≤ 2147483647) (h3 : -2147483648 ≤ n ∧ n ≤ 2147483647) (hno : ck_rod M k d n ≠ 0) : ZM l yL_addRod wsL_addRod ({ frames := 8, cells := 1, slots := 6, locals := 125 } : Room) D ct ad [.ref u, .int (zI k), .int (zI d), .int (zI n)] (x8W u a r q ++ (svW ct r b nx sz S ++ (sobjW a ++ (gridW ct a M ++ (benchW ct a M ++ (logW ct a M ++ (txtW ct q TX tl pl ft wd n1 n2))))))) (zD (some (.int (zI (exK (ck_rod M k d n))))) (x8W u a r q ++ (svW ct r b nx sz S ++ (sobjW a ++ (gridW ct a M ++ (benchW ct a M ++ (logW ct a M ++ (txtW ct q TX tl pl ft wd n1 n2)))))))) := by
  refine ZM.ofH (cc := cL_addRod) (maxL := 5) (ret := (some .int)) (by decide +kernel) rfl (Nat.le_of_ble_eq_true rfl) ?_
  intro p e s m below meth c A ls hx hb hr hts hown hlocks hml hTab hE hP hD hA hS hl
  have hK := hE.1
  have hf_0 := hts (.classLink RL 25 "java/lang/IndexOutOfBoundsException") (by decide +kernel)
  have hf_1 := hts (.constant RL 27 (-2100000003)) (by decide +kernel)
  have hf_2 := hts (.classLink RL 15 "java/lang/IllegalArgumentException") (by decide +kernel)
  have hf_3 := hts (.constant RL 17 (-2100000001)) (by decide +kernel)
  have hf_4 := hts (.classLink RL 18 "java/lang/IllegalStateException") (by decide +kernel)
  have hf_5 := hts (.constant RL 20 (-2100000002)) (by decide +kernel)
  have hl : lv_has ls 5 [(0, .ref u), (1, .int (zI k)), (2, .int (zI d)), (3, .int (zI n))] := hl
  refine lv_aload_n hx hb dL_addRod_0 rfl (lv_at hl 0 rfl) ?_
  refine lv_iload_n hx hb dL_addRod_1 rfl (lv_at hl 1 rfl) ?_
  refine lv_iload_n hx hb dL_addRod_2 rfl (lv_at hl 2 rfl) ?_
  refine lv_iload_n hx hb dL_addRod_3 rfl (lv_at hl 3 rfl) ?_
  rcases (show ck_rod M k d n = 1 ∨ ck_rod M k d n = 2 ∨ ck_rod M k d n = 3 from (by have q9 := hno; unfold ck_rod at q9 ⊢; (repeat' split) <;> (repeat' split at q9) <;> omega)) with hck | hck | hck
  · refine z_catV (C := RX8) (q0 := 0) (ci := 6) (E := "java/lang/IndexOutOfBoundsException") (name := "java/lang/IndexOutOfBoundsException") (As := [.int (zI k), .int (zI d), .int (zI n)]) (rest := []) ([] : va_W) ([] : va_W) hx hb hml hown hts hl hE hS hA (zr0 ([] : va_W) hP) (zr0D ([] : va_W) hD) (ZX.toE (c_X8_addRod_x l D ct ad u a r q b nx sz S M TX tl pl ft n1 n2 wd k d n (by assumption) hst (by omega) (by omega) (by omega) (by omega)) ((by rw [hck]; rfl))) gL_addRod_X8_addRod rfl rfl k_X8_addRod ⟨Nat.le_of_ble_eq_true rfl, Nat.le_of_ble_eq_true rfl⟩ rfl rfl rfl rfl (Nat.le_of_ble_eq_true rfl) ⟨Nat.le_of_ble_eq_true rfl, Nat.le_of_ble_eq_true rfl⟩ dL_addRod_4 rfl [] ({ startPc := 0, endPc := 7, handlerPc := 8, catchType := 25 } : ExceptionTableEntry) [({ startPc := 0, endPc := 7, handlerPc := 13, catchType := 15 } : ExceptionTableEntry), ({ startPc := 0, endPc := 7, handlerPc := 18, catchType := 18 } : ExceptionTableEntry)] (hTab.trans rfl) (fun z hz => nomatch hz) (by decide) (by decide) hf_0 (hE.2.1.1 _ (List.mem_of_getElem? (i := 18) rfl)) (fun q9_4 H locs hP hD hS => ?_)
    have hP := zr0' hP
    have hD := zr0D' hD
    have hP : va_P D vwCl (x8W u a r q ++ (svW ct r b nx sz S ++ (sobjW a ++ (gridW ct a M ++ (benchW ct a M ++ (logW ct a M ++ (txtW ct q TX tl pl ft wd n1 n2))))))) H := hP
    have hD : va_D A (x8W u a r q ++ (svW ct r b nx sz S ++ (sobjW a ++ (gridW ct a M ++ (benchW ct a M ++ (logW ct a M ++ (txtW ct q TX tl pl ft wd n1 n2))))))) := hD
    refine W.eq (g2 := F0 m 8 ls [.ref q9_4]) rfl ?_
    refine lv_astore (lv' := [(4, .ref q9_4), (0, .ref u), (1, .int (zI k)), (2, .int (zI d)), (3, .int (zI n))]) hx hb dL_addRod_8 hl (by decide) rfl (fun ls hl => ?_)
    refine z_ldc hx hb (-2100000003) hown hf_1 (by decide) dL_addRod_10 ?_
    exact z_iret hx hb hr hlocks hP hD hS ⟨Nat.le_of_ble_eq_true rfl, Nat.le_of_ble_eq_true rfl⟩ dL_addRod_12 (⟨congrArg (fun z => some (Value.int (zI z))) (by first | rfl | (rw [hck]; rfl) | (rw [if_pos hck]) | (rw [if_neg hck])), rfl⟩)
  · refine z_catV (C := RX8) (q0 := 0) (ci := 6) (E := "java/lang/IllegalArgumentException") (name := "java/lang/IllegalArgumentException") (As := [.int (zI k), .int (zI d), .int (zI n)]) (rest := []) ([] : va_W) ([] : va_W) hx hb hml hown hts hl hE hS hA (zr0 ([] : va_W) hP) (zr0D ([] : va_W) hD) (ZX.toE (c_X8_addRod_x l D ct ad u a r q b nx sz S M TX tl pl ft n1 n2 wd k d n (by assumption) hst (by omega) (by omega) (by omega) (by omega)) ((by rw [hck]; rfl))) gL_addRod_X8_addRod rfl rfl k_X8_addRod ⟨Nat.le_of_ble_eq_true rfl, Nat.le_of_ble_eq_true rfl⟩ rfl rfl rfl rfl (Nat.le_of_ble_eq_true rfl) ⟨Nat.le_of_ble_eq_true rfl, Nat.le_of_ble_eq_true rfl⟩ dL_addRod_4 rfl [({ startPc := 0, endPc := 7, handlerPc := 8, catchType := 25 } : ExceptionTableEntry)] ({ startPc := 0, endPc := 7, handlerPc := 13, catchType := 15 } : ExceptionTableEntry) [({ startPc := 0, endPc := 7, handlerPc := 18, catchType := 18 } : ExceptionTableEntry)] (hTab.trans rfl) (fun z hz => by simp only [List.mem_cons, List.not_mem_nil, or_false] at hz; rcases hz with rfl; exact Or.inr ⟨by decide, "java/lang/IndexOutOfBoundsException", hf_0, hE.2.1.2 ("java/lang/IllegalArgumentException", "java/lang/IndexOutOfBoundsException") (by decide)⟩) (by decide) (by decide) hf_2 (hE.2.1.1 _ (List.mem_of_getElem? (i := 19) rfl)) (fun q9_4 H locs hP hD hS => ?_)
    have hP := zr0' hP
    have hD := zr0D' hD
    have hP : va_P D vwCl (x8W u a r q ++ (svW ct r b nx sz S ++ (sobjW a ++ (gridW ct a M ++ (benchW ct a M ++ (logW ct a M ++ (txtW ct q TX tl pl ft wd n1 n2))))))) H := hP
    have hD : va_D A (x8W u a r q ++ (svW ct r b nx sz S ++ (sobjW a ++ (gridW ct a M ++ (benchW ct a M ++ (logW ct a M ++ (txtW ct q TX tl pl ft wd n1 n2))))))) := hD
    refine W.eq (g2 := F0 m 13 ls [.ref q9_4]) rfl ?_
    refine lv_astore (lv' := [(4, .ref q9_4), (0, .ref u), (1, .int (zI k)), (2, .int (zI d)), (3, .int (zI n))]) hx hb dL_addRod_13 hl (by decide) rfl (fun ls hl => ?_)
    refine z_ldc hx hb (-2100000001) hown hf_3 (by decide) dL_addRod_15 ?_
    exact z_iret hx hb hr hlocks hP hD hS ⟨Nat.le_of_ble_eq_true rfl, Nat.le_of_ble_eq_true rfl⟩ dL_addRod_17 (⟨congrArg (fun z => some (Value.int (zI z))) (by first | rfl | (rw [hck]; rfl) | (rw [if_pos hck]) | (rw [if_neg hck])), rfl⟩)
  · refine z_catV (C := RX8) (q0 := 0) (ci := 6) (E := "java/lang/IllegalStateException") (name := "java/lang/IllegalStateException") (As := [.int (zI k), .int (zI d), .int (zI n)]) (rest := []) ([] : va_W) ([] : va_W) hx hb hml hown hts hl hE hS hA (zr0 ([] : va_W) hP) (zr0D ([] : va_W) hD) (ZX.toE (c_X8_addRod_x l D ct ad u a r q b nx sz S M TX tl pl ft n1 n2 wd k d n (by assumption) hst (by omega) (by omega) (by omega) (by omega)) ((by rw [hck]; rfl))) gL_addRod_X8_addRod rfl rfl k_X8_addRod ⟨Nat.le_of_ble_eq_true rfl, Nat.le_of_ble_eq_true rfl⟩ rfl rfl rfl rfl (Nat.le_of_ble_eq_true rfl) ⟨Nat.le_of_ble_eq_true rfl, Nat.le_of_ble_eq_true rfl⟩ dL_addRod_4 rfl [({ startPc := 0, endPc := 7, handlerPc := 8, catchType := 25 } : ExceptionTableEntry), ({ startPc := 0, endPc := 7, handlerPc := 13, catchType := 15 } : ExceptionTableEntry)] ({ startPc := 0, endPc := 7, handlerPc := 18, catchType := 18 } : ExceptionTableEntry) [] (hTab.trans rfl) (fun z hz => by simp only [List.mem_cons, List.not_mem_nil, or_false] at hz; rcases hz with rfl | rfl <;> first | exact Or.inr ⟨by decide, "java/lang/IndexOutOfBoundsException", hf_0, hE.2.1.2 ("java/lang/IllegalStateException", "java/lang/IndexOutOfBoundsException") (by decide)⟩ | exact Or.inr ⟨by decide, "java/lang/IllegalArgumentException", hf_2, hE.2.1.2 ("java/lang/IllegalStateException", "java/lang/IllegalArgumentException") (by decide)⟩) (by decide) (by decide) hf_4 (hE.2.1.1 _ (List.mem_of_getElem? (i := 20) rfl)) (fun q9_4 H locs hP hD hS => ?_)
    have hP := zr0' hP
    have hD := zr0D' hD
    have hP : va_P D vwCl (x8W u a r q ++ (svW ct r b nx sz S ++ (sobjW a ++ (gridW ct a M ++ (benchW ct a M ++ (logW ct a M ++ (txtW ct q TX tl pl ft wd n1 n2))))))) H := hP
    have hD : va_D A (x8W u a r q ++ (svW ct r b nx sz S ++ (sobjW a ++ (gridW ct a M ++ (benchW ct a M ++ (logW ct a M ++ (txtW ct q TX tl pl ft wd n1 n2))))))) := hD
    refine W.eq (g2 := F0 m 18 ls [.ref q9_4]) rfl ?_
    refine lv_astore (lv' := [(4, .ref q9_4), (0, .ref u), (1, .int (zI k)), (2, .int (zI d)), (3, .int (zI n))]) hx hb dL_addRod_18 hl (by decide) rfl (fun ls hl => ?_)
    refine z_ldc hx hb (-2100000002) hown hf_5 (by decide) dL_addRod_20 ?_
    exact z_iret hx hb hr hlocks hP hD hS ⟨Nat.le_of_ble_eq_true rfl, Nat.le_of_ble_eq_true rfl⟩ dL_addRod_22 (⟨congrArg (fun z => some (Value.int (zI z))) (by first | rfl | (rw [hck]; rfl) | (rw [if_pos hck]) | (rw [if_neg hck])), rfl⟩)
theorem k_X8_removeRod : yX8_removeRod.cls ≠ "java/lang/invoke/MethodHandle" ∧ yX8_removeRod.cls ≠ "java/lang/invoke/VarHandle" ∧ (parseMethodDescriptor yX8_removeRod.desc).map (fun d => d.parameters.length) = some 1 := by decide +kernel
set_option maxHeartbeats 4000000 in
set_option maxRecDepth 100000 in
theorem c_L_removeRod_ok (l : Launch) (D : va_G) (ct ad : Nat → Nat) (u : Nat) (a r q : Nat → Nat) (b : Nat → Nat → Nat) (nx sz : Int) (S : Nat → Int → Int) (M TX : Int → Int) (tl pl ft n1 n2 : Int) (wd : Value) (k : Int) (hs : sInv M) (hn : 0 ≤ nx ∧ nx ≤ 3) (hsz : 0 ≤ sz ∧ sz ≤ 4) (h1 : -2147483648 ≤ k ∧ k ≤ 2147483647) (hok : 0 ≤ k ∧ k < M 4) : ZM l yL_removeRod wsL_removeRod ({ frames := 5, cells := 0, slots := 0, locals := 103 } : Room) D ct ad [.ref u, .int (zI k)] (x8W u a r q ++ (svW ct r b nx sz S ++ (sobjW a ++ (gridW ct a M ++ (benchW ct a M ++ (logW ct a M ++ (txtW ct q TX tl pl ft wd n1 n2))))))) (zD (some (.int (zI (M 4 - 1)))) (x8W u a r q ++ (svW ct r b ((nx + 1) % 4) (min (sz + 1) 4) (updS S nx M) ++ (sobjW a ++ (gridW ct a (st_drop M k) ++ (benchW ct a (st_drop M k) ++ (logW ct a (st_drop M k) ++ (txtW ct q TX tl pl ft wd n1 n2)))))))) := by
  refine ZM.ofH (cc := cL_removeRod) (maxL := 3) (ret := (some .int)) (by decide +kernel) rfl (Nat.le_of_ble_eq_true rfl) ?_
  intro p e s m below meth c A ls hx hb hr hts hown hlocks hml hTab hE hP hD hA hS hl
  have hK := hE.1
  have hl : lv_has ls 3 [(0, .ref u), (1, .int (zI k))] := hl
  refine lv_aload_n hx hb dL_removeRod_0 rfl (lv_at hl 0 rfl) ?_
  refine lv_iload_n hx hb dL_removeRod_1 rfl (lv_at hl 1 rfl) ?_
  refine z_callV (C := RX8) (q0 := 0) (ci := 6) (As := [.int (zI k)]) (rest := []) ([] : va_W) ([] : va_W) hx hb hml hown hts hl hE hS hA (zr0 ([] : va_W) hP) (zr0D ([] : va_W) hD) (c_X8_removeRod l D ct ad u a r q b nx sz S M TX tl pl ft n1 n2 wd k (by assumption) (by omega) (by omega) (by omega) (by omega)) gL_removeRod_X8_removeRod rfl rfl k_X8_removeRod ⟨Nat.le_of_ble_eq_true rfl, Nat.le_of_ble_eq_true rfl⟩ rfl rfl rfl rfl (Nat.le_of_ble_eq_true rfl) ⟨Nat.le_of_ble_eq_true rfl, Nat.le_of_ble_eq_true rfl⟩ dL_removeRod_2 rfl (fun v w1 H locs hpost hP hD hS => ?_)
  obtain ⟨rfl, rfl⟩ := hpost
  have hP := zr0' hP
  have hD := zr0D' hD
  have hP : va_P D vwCl (x8W u a r q ++ (svW ct r b ((nx + 1) % 4) (min (sz + 1) 4) (updS S nx M) ++ (sobjW a ++ (gridW ct a (st_drop M k) ++ (benchW ct a (st_drop M k) ++ (logW ct a (st_drop M k) ++ (txtW ct q TX tl pl ft wd n1 n2))))))) H := hP
  have hD : va_D A (x8W u a r q ++ (svW ct r b ((nx + 1) % 4) (min (sz + 1) 4) (updS S nx M) ++ (sobjW a ++ (gridW ct a (st_drop M k) ++ (benchW ct a (st_drop M k) ++ (logW ct a (st_drop M k) ++ (txtW ct q TX tl pl ft wd n1 n2))))))) := hD
  refine W.eq (g2 := F0 m 5 ls [.int (zI (M 4 - 1))]) rfl ?_
  exact z_iret hx hb hr hlocks hP hD hS ⟨Nat.le_of_ble_eq_true rfl, Nat.le_of_ble_eq_true rfl⟩ dL_removeRod_5 (⟨congrArg (fun z => some (Value.int (zI z))) (rfl), rfl⟩)
set_option maxHeartbeats 4000000 in
set_option maxRecDepth 100000 in
theorem c_L_removeRod_no (l : Launch) (D : va_G) (ct ad : Nat → Nat) (u : Nat) (a r q : Nat → Nat) (b : Nat → Nat → Nat) (nx sz : Int) (S : Nat → Int → Int) (M TX : Int → Int) (tl pl ft n1 n2 : Int) (wd : Value) (k : Int) (hs : sInv M) (hst : l.stackTraces = false) (h1 : -2147483648 ≤ k ∧ k ≤ 2147483647) (hno : ¬ (0 ≤ k ∧ k < M 4)) : ZM l yL_removeRod wsL_removeRod ({ frames := 8, cells := 1, slots := 6, locals := 123 } : Room) D ct ad [.ref u, .int (zI k)] (x8W u a r q ++ (svW ct r b nx sz S ++ (sobjW a ++ (gridW ct a M ++ (benchW ct a M ++ (logW ct a M ++ (txtW ct q TX tl pl ft wd n1 n2))))))) (zD (some (.int (zI (-2100000003)))) (x8W u a r q ++ (svW ct r b nx sz S ++ (sobjW a ++ (gridW ct a M ++ (benchW ct a M ++ (logW ct a M ++ (txtW ct q TX tl pl ft wd n1 n2)))))))) := by
  refine ZM.ofH (cc := cL_removeRod) (maxL := 3) (ret := (some .int)) (by decide +kernel) rfl (Nat.le_of_ble_eq_true rfl) ?_
  intro p e s m below meth c A ls hx hb hr hts hown hlocks hml hTab hE hP hD hA hS hl
  have hK := hE.1
  have hf_0 := hts (.classLink RL 25 "java/lang/IndexOutOfBoundsException") (by decide +kernel)
  have hf_1 := hts (.constant RL 27 (-2100000003)) (by decide +kernel)
  have hl : lv_has ls 3 [(0, .ref u), (1, .int (zI k))] := hl
  refine lv_aload_n hx hb dL_removeRod_0 rfl (lv_at hl 0 rfl) ?_
  refine lv_iload_n hx hb dL_removeRod_1 rfl (lv_at hl 1 rfl) ?_
  rcases (show True from trivial) with hck
  · refine z_catV (C := RX8) (q0 := 0) (ci := 6) (E := "java/lang/IndexOutOfBoundsException") (name := "java/lang/IndexOutOfBoundsException") (As := [.int (zI k)]) (rest := []) ([] : va_W) ([] : va_W) hx hb hml hown hts hl hE hS hA (zr0 ([] : va_W) hP) (zr0D ([] : va_W) hD) (ZX.toE (c_X8_removeRod_x l D ct ad u a r q b nx sz S M TX tl pl ft n1 n2 wd k (by assumption) hst (by omega) (by omega)) (rfl)) gL_removeRod_X8_removeRod rfl rfl k_X8_removeRod ⟨Nat.le_of_ble_eq_true rfl, Nat.le_of_ble_eq_true rfl⟩ rfl rfl rfl rfl (Nat.le_of_ble_eq_true rfl) ⟨Nat.le_of_ble_eq_true rfl, Nat.le_of_ble_eq_true rfl⟩ dL_removeRod_2 rfl [] ({ startPc := 0, endPc := 5, handlerPc := 6, catchType := 25 } : ExceptionTableEntry) [] (hTab.trans rfl) (fun z hz => nomatch hz) (by decide) (by decide) hf_0 (hE.2.1.1 _ (List.mem_of_getElem? (i := 18) rfl)) (fun q9_2 H locs hP hD hS => ?_)
    have hP := zr0' hP
    have hD := zr0D' hD
    have hP : va_P D vwCl (x8W u a r q ++ (svW ct r b nx sz S ++ (sobjW a ++ (gridW ct a M ++ (benchW ct a M ++ (logW ct a M ++ (txtW ct q TX tl pl ft wd n1 n2))))))) H := hP
    have hD : va_D A (x8W u a r q ++ (svW ct r b nx sz S ++ (sobjW a ++ (gridW ct a M ++ (benchW ct a M ++ (logW ct a M ++ (txtW ct q TX tl pl ft wd n1 n2))))))) := hD
    refine W.eq (g2 := F0 m 6 ls [.ref q9_2]) rfl ?_
    refine lv_astore_n (lv' := [(2, .ref q9_2), (0, .ref u), (1, .int (zI k))]) hx hb dL_removeRod_6 rfl hl (by decide) rfl (fun ls hl => ?_)
    refine z_ldc hx hb (-2100000003) hown hf_1 (by decide) dL_removeRod_7 ?_
    exact z_iret hx hb hr hlocks hP hD hS ⟨Nat.le_of_ble_eq_true rfl, Nat.le_of_ble_eq_true rfl⟩ dL_removeRod_9 (⟨congrArg (fun z => some (Value.int (zI z))) (by first | rfl | (rw [hck]; rfl) | (rw [if_pos hck]) | (rw [if_neg hck])), rfl⟩)
theorem k_X8_setLength : yX8_setLength.cls ≠ "java/lang/invoke/MethodHandle" ∧ yX8_setLength.cls ≠ "java/lang/invoke/VarHandle" ∧ (parseMethodDescriptor yX8_setLength.desc).map (fun d => d.parameters.length) = some 2 := by decide +kernel
set_option maxHeartbeats 4000000 in
set_option maxRecDepth 100000 in
theorem c_L_setLength_ok (l : Launch) (D : va_G) (ct ad : Nat → Nat) (u : Nat) (a r q : Nat → Nat) (b : Nat → Nat → Nat) (nx sz : Int) (S : Nat → Int → Int) (M TX : Int → Int) (tl pl ft n1 n2 : Int) (wd : Value) (k n : Int) (hs : sInv M) (hn : 0 ≤ nx ∧ nx ≤ 3) (hsz : 0 ≤ sz ∧ sz ≤ 4) (h1 : -2147483648 ≤ k ∧ k ≤ 2147483647) (h2 : -2147483648 ≤ n ∧ n ≤ 2147483647) (hok : ck_length M k n = 0) : ZM l yL_setLength wsL_setLength ({ frames := 5, cells := 0, slots := 0, locals := 104 } : Room) D ct ad [.ref u, .int (zI k), .int (zI n)] (x8W u a r q ++ (svW ct r b nx sz S ++ (sobjW a ++ (gridW ct a M ++ (benchW ct a M ++ (logW ct a M ++ (txtW ct q TX tl pl ft wd n1 n2))))))) (zD (some (.int (zI (M (24 + 3 * k))))) (x8W u a r q ++ (svW ct r b ((nx + 1) % 4) (min (sz + 1) 4) (updS S nx M) ++ (sobjW a ++ (gridW ct a (up M (24 + 3 * k) n) ++ (benchW ct a (up M (24 + 3 * k) n) ++ (logW ct a (up M (24 + 3 * k) n) ++ (txtW ct q TX tl pl ft wd n1 n2)))))))) := by
  refine ZM.ofH (cc := cL_setLength) (maxL := 4) (ret := (some .int)) (by decide +kernel) rfl (Nat.le_of_ble_eq_true rfl) ?_
  intro p e s m below meth c A ls hx hb hr hts hown hlocks hml hTab hE hP hD hA hS hl
  have hK := hE.1
  have hl : lv_has ls 4 [(0, .ref u), (1, .int (zI k)), (2, .int (zI n))] := hl
  refine lv_aload_n hx hb dL_setLength_0 rfl (lv_at hl 0 rfl) ?_
  refine lv_iload_n hx hb dL_setLength_1 rfl (lv_at hl 1 rfl) ?_
  refine lv_iload_n hx hb dL_setLength_2 rfl (lv_at hl 2 rfl) ?_
  refine z_callV (C := RX8) (q0 := 0) (ci := 6) (As := [.int (zI k), .int (zI n)]) (rest := []) ([] : va_W) ([] : va_W) hx hb hml hown hts hl hE hS hA (zr0 ([] : va_W) hP) (zr0D ([] : va_W) hD) (c_X8_setLength l D ct ad u a r q b nx sz S M TX tl pl ft n1 n2 wd k n (by assumption) (by omega) (by omega) (by omega) (by omega) (by omega)) gL_setLength_X8_setLength rfl rfl k_X8_setLength ⟨Nat.le_of_ble_eq_true rfl, Nat.le_of_ble_eq_true rfl⟩ rfl rfl rfl rfl (Nat.le_of_ble_eq_true rfl) ⟨Nat.le_of_ble_eq_true rfl, Nat.le_of_ble_eq_true rfl⟩ dL_setLength_3 rfl (fun v w1 H locs hpost hP hD hS => ?_)
  obtain ⟨rfl, rfl⟩ := hpost
  have hP := zr0' hP
  have hD := zr0D' hD
  have hP : va_P D vwCl (x8W u a r q ++ (svW ct r b ((nx + 1) % 4) (min (sz + 1) 4) (updS S nx M) ++ (sobjW a ++ (gridW ct a (up M (24 + 3 * k) n) ++ (benchW ct a (up M (24 + 3 * k) n) ++ (logW ct a (up M (24 + 3 * k) n) ++ (txtW ct q TX tl pl ft wd n1 n2))))))) H := hP
  have hD : va_D A (x8W u a r q ++ (svW ct r b ((nx + 1) % 4) (min (sz + 1) 4) (updS S nx M) ++ (sobjW a ++ (gridW ct a (up M (24 + 3 * k) n) ++ (benchW ct a (up M (24 + 3 * k) n) ++ (logW ct a (up M (24 + 3 * k) n) ++ (txtW ct q TX tl pl ft wd n1 n2))))))) := hD
  refine W.eq (g2 := F0 m 6 ls [.int (zI (M (24 + 3 * k)))]) rfl ?_
  exact z_iret hx hb hr hlocks hP hD hS ⟨Nat.le_of_ble_eq_true rfl, Nat.le_of_ble_eq_true rfl⟩ dL_setLength_6 (⟨congrArg (fun z => some (Value.int (zI z))) (rfl), rfl⟩)
set_option maxHeartbeats 4000000 in
set_option maxRecDepth 100000 in
theorem c_L_setLength_no (l : Launch) (D : va_G) (ct ad : Nat → Nat) (u : Nat) (a r q : Nat → Nat) (b : Nat → Nat → Nat) (nx sz : Int) (S : Nat → Int → Int) (M TX : Int → Int) (tl pl ft n1 n2 : Int) (wd : Value) (k n : Int) (hs : sInv M) (hst : l.stackTraces = false) (h1 : -2147483648 ≤ k ∧ k ≤ 2147483647) (h2 : -2147483648 ≤ n ∧ n ≤ 2147483647) (hno : ck_length M k n ≠ 0) : ZM l yL_setLength wsL_setLength ({ frames := 8, cells := 1, slots := 6, locals := 124 } : Room) D ct ad [.ref u, .int (zI k), .int (zI n)] (x8W u a r q ++ (svW ct r b nx sz S ++ (sobjW a ++ (gridW ct a M ++ (benchW ct a M ++ (logW ct a M ++ (txtW ct q TX tl pl ft wd n1 n2))))))) (zD (some (.int (zI (exK (ck_length M k n))))) (x8W u a r q ++ (svW ct r b nx sz S ++ (sobjW a ++ (gridW ct a M ++ (benchW ct a M ++ (logW ct a M ++ (txtW ct q TX tl pl ft wd n1 n2)))))))) := by
  refine ZM.ofH (cc := cL_setLength) (maxL := 4) (ret := (some .int)) (by decide +kernel) rfl (Nat.le_of_ble_eq_true rfl) ?_
  intro p e s m below meth c A ls hx hb hr hts hown hlocks hml hTab hE hP hD hA hS hl
  have hK := hE.1
  have hf_0 := hts (.classLink RL 25 "java/lang/IndexOutOfBoundsException") (by decide +kernel)
  have hf_1 := hts (.constant RL 27 (-2100000003)) (by decide +kernel)
  have hf_2 := hts (.classLink RL 15 "java/lang/IllegalArgumentException") (by decide +kernel)
  have hf_3 := hts (.constant RL 17 (-2100000001)) (by decide +kernel)
  have hl : lv_has ls 4 [(0, .ref u), (1, .int (zI k)), (2, .int (zI n))] := hl
  refine lv_aload_n hx hb dL_setLength_0 rfl (lv_at hl 0 rfl) ?_
  refine lv_iload_n hx hb dL_setLength_1 rfl (lv_at hl 1 rfl) ?_
  refine lv_iload_n hx hb dL_setLength_2 rfl (lv_at hl 2 rfl) ?_
  rcases (show ck_length M k n = 1 ∨ ck_length M k n = 2 from (by have q9 := hno; unfold ck_length at q9 ⊢; (repeat' split) <;> (repeat' split at q9) <;> omega)) with hck | hck
  · refine z_catV (C := RX8) (q0 := 0) (ci := 6) (E := "java/lang/IndexOutOfBoundsException") (name := "java/lang/IndexOutOfBoundsException") (As := [.int (zI k), .int (zI n)]) (rest := []) ([] : va_W) ([] : va_W) hx hb hml hown hts hl hE hS hA (zr0 ([] : va_W) hP) (zr0D ([] : va_W) hD) (ZX.toE (c_X8_setLength_x l D ct ad u a r q b nx sz S M TX tl pl ft n1 n2 wd k n (by assumption) hst (by omega) (by omega) (by omega)) ((by rw [hck]; rfl))) gL_setLength_X8_setLength rfl rfl k_X8_setLength ⟨Nat.le_of_ble_eq_true rfl, Nat.le_of_ble_eq_true rfl⟩ rfl rfl rfl rfl (Nat.le_of_ble_eq_true rfl) ⟨Nat.le_of_ble_eq_true rfl, Nat.le_of_ble_eq_true rfl⟩ dL_setLength_3 rfl [] ({ startPc := 0, endPc := 6, handlerPc := 7, catchType := 25 } : ExceptionTableEntry) [({ startPc := 0, endPc := 6, handlerPc := 11, catchType := 15 } : ExceptionTableEntry)] (hTab.trans rfl) (fun z hz => nomatch hz) (by decide) (by decide) hf_0 (hE.2.1.1 _ (List.mem_of_getElem? (i := 18) rfl)) (fun q9_3 H locs hP hD hS => ?_)
    have hP := zr0' hP
    have hD := zr0D' hD
    have hP : va_P D vwCl (x8W u a r q ++ (svW ct r b nx sz S ++ (sobjW a ++ (gridW ct a M ++ (benchW ct a M ++ (logW ct a M ++ (txtW ct q TX tl pl ft wd n1 n2))))))) H := hP
    have hD : va_D A (x8W u a r q ++ (svW ct r b nx sz S ++ (sobjW a ++ (gridW ct a M ++ (benchW ct a M ++ (logW ct a M ++ (txtW ct q TX tl pl ft wd n1 n2))))))) := hD
    refine W.eq (g2 := F0 m 7 ls [.ref q9_3]) rfl ?_
    refine lv_astore_n (lv' := [(3, .ref q9_3), (0, .ref u), (1, .int (zI k)), (2, .int (zI n))]) hx hb dL_setLength_7 rfl hl (by decide) rfl (fun ls hl => ?_)
    refine z_ldc hx hb (-2100000003) hown hf_1 (by decide) dL_setLength_8 ?_
    exact z_iret hx hb hr hlocks hP hD hS ⟨Nat.le_of_ble_eq_true rfl, Nat.le_of_ble_eq_true rfl⟩ dL_setLength_10 (⟨congrArg (fun z => some (Value.int (zI z))) (by first | rfl | (rw [hck]; rfl) | (rw [if_pos hck]) | (rw [if_neg hck])), rfl⟩)
  · refine z_catV (C := RX8) (q0 := 0) (ci := 6) (E := "java/lang/IllegalArgumentException") (name := "java/lang/IllegalArgumentException") (As := [.int (zI k), .int (zI n)]) (rest := []) ([] : va_W) ([] : va_W) hx hb hml hown hts hl hE hS hA (zr0 ([] : va_W) hP) (zr0D ([] : va_W) hD) (ZX.toE (c_X8_setLength_x l D ct ad u a r q b nx sz S M TX tl pl ft n1 n2 wd k n (by assumption) hst (by omega) (by omega) (by omega)) ((by rw [hck]; rfl))) gL_setLength_X8_setLength rfl rfl k_X8_setLength ⟨Nat.le_of_ble_eq_true rfl, Nat.le_of_ble_eq_true rfl⟩ rfl rfl rfl rfl (Nat.le_of_ble_eq_true rfl) ⟨Nat.le_of_ble_eq_true rfl, Nat.le_of_ble_eq_true rfl⟩ dL_setLength_3 rfl [({ startPc := 0, endPc := 6, handlerPc := 7, catchType := 25 } : ExceptionTableEntry)] ({ startPc := 0, endPc := 6, handlerPc := 11, catchType := 15 } : ExceptionTableEntry) [] (hTab.trans rfl) (fun z hz => by simp only [List.mem_cons, List.not_mem_nil, or_false] at hz; rcases hz with rfl; exact Or.inr ⟨by decide, "java/lang/IndexOutOfBoundsException", hf_0, hE.2.1.2 ("java/lang/IllegalArgumentException", "java/lang/IndexOutOfBoundsException") (by decide)⟩) (by decide) (by decide) hf_2 (hE.2.1.1 _ (List.mem_of_getElem? (i := 19) rfl)) (fun q9_3 H locs hP hD hS => ?_)
    have hP := zr0' hP
    have hD := zr0D' hD
    have hP : va_P D vwCl (x8W u a r q ++ (svW ct r b nx sz S ++ (sobjW a ++ (gridW ct a M ++ (benchW ct a M ++ (logW ct a M ++ (txtW ct q TX tl pl ft wd n1 n2))))))) H := hP
    have hD : va_D A (x8W u a r q ++ (svW ct r b nx sz S ++ (sobjW a ++ (gridW ct a M ++ (benchW ct a M ++ (logW ct a M ++ (txtW ct q TX tl pl ft wd n1 n2))))))) := hD
    refine W.eq (g2 := F0 m 11 ls [.ref q9_3]) rfl ?_
    refine lv_astore_n (lv' := [(3, .ref q9_3), (0, .ref u), (1, .int (zI k)), (2, .int (zI n))]) hx hb dL_setLength_11 rfl hl (by decide) rfl (fun ls hl => ?_)
    refine z_ldc hx hb (-2100000001) hown hf_3 (by decide) dL_setLength_12 ?_
    exact z_iret hx hb hr hlocks hP hD hS ⟨Nat.le_of_ble_eq_true rfl, Nat.le_of_ble_eq_true rfl⟩ dL_setLength_14 (⟨congrArg (fun z => some (Value.int (zI z))) (by first | rfl | (rw [hck]; rfl) | (rw [if_pos hck]) | (rw [if_neg hck])), rfl⟩)
theorem k_X8_setShelf : yX8_setShelf.cls ≠ "java/lang/invoke/MethodHandle" ∧ yX8_setShelf.cls ≠ "java/lang/invoke/VarHandle" ∧ (parseMethodDescriptor yX8_setShelf.desc).map (fun d => d.parameters.length) = some 2 := by decide +kernel
set_option maxHeartbeats 4000000 in
set_option maxRecDepth 100000 in
theorem c_L_setShelf_ok (l : Launch) (D : va_G) (ct ad : Nat → Nat) (u : Nat) (a r q : Nat → Nat) (b : Nat → Nat → Nat) (nx sz : Int) (S : Nat → Int → Int) (M TX : Int → Int) (tl pl ft n1 n2 : Int) (wd : Value) (k v : Int) (hs : sInv M) (hn : 0 ≤ nx ∧ nx ≤ 3) (hsz : 0 ≤ sz ∧ sz ≤ 4) (h1 : -2147483648 ≤ k ∧ k ≤ 2147483647) (h2 : -2147483648 ≤ v ∧ v ≤ 2147483647) (hok : ck_warm k v = 0) : ZM l yL_setShelf wsL_setShelf ({ frames := 5, cells := 0, slots := 0, locals := 104 } : Room) D ct ad [.ref u, .int (zI k), .int (zI v)] (x8W u a r q ++ (svW ct r b nx sz S ++ (sobjW a ++ (gridW ct a M ++ (benchW ct a M ++ (logW ct a M ++ (txtW ct q TX tl pl ft wd n1 n2))))))) (zD (some (.int (zI (M (49 + k))))) (x8W u a r q ++ (svW ct r b ((nx + 1) % 4) (min (sz + 1) 4) (updS S nx M) ++ (sobjW a ++ (gridW ct a (up M (49 + k) v) ++ (benchW ct a (up M (49 + k) v) ++ (logW ct a (up M (49 + k) v) ++ (txtW ct q TX tl pl ft wd n1 n2)))))))) := by
  refine ZM.ofH (cc := cL_setShelf) (maxL := 4) (ret := (some .int)) (by decide +kernel) rfl (Nat.le_of_ble_eq_true rfl) ?_
  intro p e s m below meth c A ls hx hb hr hts hown hlocks hml hTab hE hP hD hA hS hl
  have hK := hE.1
  have hl : lv_has ls 4 [(0, .ref u), (1, .int (zI k)), (2, .int (zI v))] := hl
  refine lv_aload_n hx hb dL_setShelf_0 rfl (lv_at hl 0 rfl) ?_
  refine lv_iload_n hx hb dL_setShelf_1 rfl (lv_at hl 1 rfl) ?_
  refine lv_iload_n hx hb dL_setShelf_2 rfl (lv_at hl 2 rfl) ?_
  refine z_callV (C := RX8) (q0 := 0) (ci := 6) (As := [.int (zI k), .int (zI v)]) (rest := []) ([] : va_W) ([] : va_W) hx hb hml hown hts hl hE hS hA (zr0 ([] : va_W) hP) (zr0D ([] : va_W) hD) (c_X8_setShelf l D ct ad u a r q b nx sz S M TX tl pl ft n1 n2 wd k v (by assumption) (by omega) (by omega) (by omega) (by omega) (by omega)) gL_setShelf_X8_setShelf rfl rfl k_X8_setShelf ⟨Nat.le_of_ble_eq_true rfl, Nat.le_of_ble_eq_true rfl⟩ rfl rfl rfl rfl (Nat.le_of_ble_eq_true rfl) ⟨Nat.le_of_ble_eq_true rfl, Nat.le_of_ble_eq_true rfl⟩ dL_setShelf_3 rfl (fun v w1 H locs hpost hP hD hS => ?_)
  obtain ⟨rfl, rfl⟩ := hpost
  have hP := zr0' hP
  have hD := zr0D' hD
  have hP : va_P D vwCl (x8W u a r q ++ (svW ct r b ((nx + 1) % 4) (min (sz + 1) 4) (updS S nx M) ++ (sobjW a ++ (gridW ct a (up M (49 + k) v) ++ (benchW ct a (up M (49 + k) v) ++ (logW ct a (up M (49 + k) v) ++ (txtW ct q TX tl pl ft wd n1 n2))))))) H := hP
  have hD : va_D A (x8W u a r q ++ (svW ct r b ((nx + 1) % 4) (min (sz + 1) 4) (updS S nx M) ++ (sobjW a ++ (gridW ct a (up M (49 + k) v) ++ (benchW ct a (up M (49 + k) v) ++ (logW ct a (up M (49 + k) v) ++ (txtW ct q TX tl pl ft wd n1 n2))))))) := hD
  refine W.eq (g2 := F0 m 6 ls [.int (zI (M (49 + k)))]) rfl ?_
  exact z_iret hx hb hr hlocks hP hD hS ⟨Nat.le_of_ble_eq_true rfl, Nat.le_of_ble_eq_true rfl⟩ dL_setShelf_6 (⟨congrArg (fun z => some (Value.int (zI z))) (rfl), rfl⟩)
set_option maxHeartbeats 4000000 in
set_option maxRecDepth 100000 in
theorem c_L_setShelf_no (l : Launch) (D : va_G) (ct ad : Nat → Nat) (u : Nat) (a r q : Nat → Nat) (b : Nat → Nat → Nat) (nx sz : Int) (S : Nat → Int → Int) (M TX : Int → Int) (tl pl ft n1 n2 : Int) (wd : Value) (k v : Int) (hs : sInv M) (hst : l.stackTraces = false) (h1 : -2147483648 ≤ k ∧ k ≤ 2147483647) (h2 : -2147483648 ≤ v ∧ v ≤ 2147483647) (hno : ck_warm k v ≠ 0) : ZM l yL_setShelf wsL_setShelf ({ frames := 8, cells := 1, slots := 6, locals := 124 } : Room) D ct ad [.ref u, .int (zI k), .int (zI v)] (x8W u a r q ++ (svW ct r b nx sz S ++ (sobjW a ++ (gridW ct a M ++ (benchW ct a M ++ (logW ct a M ++ (txtW ct q TX tl pl ft wd n1 n2))))))) (zD (some (.int (zI (exK (ck_warm k v))))) (x8W u a r q ++ (svW ct r b nx sz S ++ (sobjW a ++ (gridW ct a M ++ (benchW ct a M ++ (logW ct a M ++ (txtW ct q TX tl pl ft wd n1 n2)))))))) := by
  refine ZM.ofH (cc := cL_setShelf) (maxL := 4) (ret := (some .int)) (by decide +kernel) rfl (Nat.le_of_ble_eq_true rfl) ?_
  intro p e s m below meth c A ls hx hb hr hts hown hlocks hml hTab hE hP hD hA hS hl
  have hK := hE.1
  have hf_0 := hts (.classLink RL 25 "java/lang/IndexOutOfBoundsException") (by decide +kernel)
  have hf_1 := hts (.constant RL 27 (-2100000003)) (by decide +kernel)
  have hf_2 := hts (.classLink RL 15 "java/lang/IllegalArgumentException") (by decide +kernel)
  have hf_3 := hts (.constant RL 17 (-2100000001)) (by decide +kernel)
  have hl : lv_has ls 4 [(0, .ref u), (1, .int (zI k)), (2, .int (zI v))] := hl
  refine lv_aload_n hx hb dL_setShelf_0 rfl (lv_at hl 0 rfl) ?_
  refine lv_iload_n hx hb dL_setShelf_1 rfl (lv_at hl 1 rfl) ?_
  refine lv_iload_n hx hb dL_setShelf_2 rfl (lv_at hl 2 rfl) ?_
  rcases (show ck_warm k v = 1 ∨ ck_warm k v = 2 from (by have q9 := hno; unfold ck_warm at q9 ⊢; (repeat' split) <;> (repeat' split at q9) <;> omega)) with hck | hck
  · refine z_catV (C := RX8) (q0 := 0) (ci := 6) (E := "java/lang/IndexOutOfBoundsException") (name := "java/lang/IndexOutOfBoundsException") (As := [.int (zI k), .int (zI v)]) (rest := []) ([] : va_W) ([] : va_W) hx hb hml hown hts hl hE hS hA (zr0 ([] : va_W) hP) (zr0D ([] : va_W) hD) (ZX.toE (c_X8_setShelf_x l D ct ad u a r q b nx sz S M TX tl pl ft n1 n2 wd k v (by assumption) hst (by omega) (by omega) (by omega)) ((by rw [hck]; rfl))) gL_setShelf_X8_setShelf rfl rfl k_X8_setShelf ⟨Nat.le_of_ble_eq_true rfl, Nat.le_of_ble_eq_true rfl⟩ rfl rfl rfl rfl (Nat.le_of_ble_eq_true rfl) ⟨Nat.le_of_ble_eq_true rfl, Nat.le_of_ble_eq_true rfl⟩ dL_setShelf_3 rfl [] ({ startPc := 0, endPc := 6, handlerPc := 7, catchType := 25 } : ExceptionTableEntry) [({ startPc := 0, endPc := 6, handlerPc := 11, catchType := 15 } : ExceptionTableEntry)] (hTab.trans rfl) (fun z hz => nomatch hz) (by decide) (by decide) hf_0 (hE.2.1.1 _ (List.mem_of_getElem? (i := 18) rfl)) (fun q9_3 H locs hP hD hS => ?_)
    have hP := zr0' hP
    have hD := zr0D' hD
    have hP : va_P D vwCl (x8W u a r q ++ (svW ct r b nx sz S ++ (sobjW a ++ (gridW ct a M ++ (benchW ct a M ++ (logW ct a M ++ (txtW ct q TX tl pl ft wd n1 n2))))))) H := hP
    have hD : va_D A (x8W u a r q ++ (svW ct r b nx sz S ++ (sobjW a ++ (gridW ct a M ++ (benchW ct a M ++ (logW ct a M ++ (txtW ct q TX tl pl ft wd n1 n2))))))) := hD
    refine W.eq (g2 := F0 m 7 ls [.ref q9_3]) rfl ?_
    refine lv_astore_n (lv' := [(3, .ref q9_3), (0, .ref u), (1, .int (zI k)), (2, .int (zI v))]) hx hb dL_setShelf_7 rfl hl (by decide) rfl (fun ls hl => ?_)
    refine z_ldc hx hb (-2100000003) hown hf_1 (by decide) dL_setShelf_8 ?_
    exact z_iret hx hb hr hlocks hP hD hS ⟨Nat.le_of_ble_eq_true rfl, Nat.le_of_ble_eq_true rfl⟩ dL_setShelf_10 (⟨congrArg (fun z => some (Value.int (zI z))) (by first | rfl | (rw [hck]; rfl) | (rw [if_pos hck]) | (rw [if_neg hck])), rfl⟩)
  · refine z_catV (C := RX8) (q0 := 0) (ci := 6) (E := "java/lang/IllegalArgumentException") (name := "java/lang/IllegalArgumentException") (As := [.int (zI k), .int (zI v)]) (rest := []) ([] : va_W) ([] : va_W) hx hb hml hown hts hl hE hS hA (zr0 ([] : va_W) hP) (zr0D ([] : va_W) hD) (ZX.toE (c_X8_setShelf_x l D ct ad u a r q b nx sz S M TX tl pl ft n1 n2 wd k v (by assumption) hst (by omega) (by omega) (by omega)) ((by rw [hck]; rfl))) gL_setShelf_X8_setShelf rfl rfl k_X8_setShelf ⟨Nat.le_of_ble_eq_true rfl, Nat.le_of_ble_eq_true rfl⟩ rfl rfl rfl rfl (Nat.le_of_ble_eq_true rfl) ⟨Nat.le_of_ble_eq_true rfl, Nat.le_of_ble_eq_true rfl⟩ dL_setShelf_3 rfl [({ startPc := 0, endPc := 6, handlerPc := 7, catchType := 25 } : ExceptionTableEntry)] ({ startPc := 0, endPc := 6, handlerPc := 11, catchType := 15 } : ExceptionTableEntry) [] (hTab.trans rfl) (fun z hz => by simp only [List.mem_cons, List.not_mem_nil, or_false] at hz; rcases hz with rfl; exact Or.inr ⟨by decide, "java/lang/IndexOutOfBoundsException", hf_0, hE.2.1.2 ("java/lang/IllegalArgumentException", "java/lang/IndexOutOfBoundsException") (by decide)⟩) (by decide) (by decide) hf_2 (hE.2.1.1 _ (List.mem_of_getElem? (i := 19) rfl)) (fun q9_3 H locs hP hD hS => ?_)
    have hP := zr0' hP
    have hD := zr0D' hD
    have hP : va_P D vwCl (x8W u a r q ++ (svW ct r b nx sz S ++ (sobjW a ++ (gridW ct a M ++ (benchW ct a M ++ (logW ct a M ++ (txtW ct q TX tl pl ft wd n1 n2))))))) H := hP
    have hD : va_D A (x8W u a r q ++ (svW ct r b nx sz S ++ (sobjW a ++ (gridW ct a M ++ (benchW ct a M ++ (logW ct a M ++ (txtW ct q TX tl pl ft wd n1 n2))))))) := hD
    refine W.eq (g2 := F0 m 11 ls [.ref q9_3]) rfl ?_
    refine lv_astore_n (lv' := [(3, .ref q9_3), (0, .ref u), (1, .int (zI k)), (2, .int (zI v))]) hx hb dL_setShelf_11 rfl hl (by decide) rfl (fun ls hl => ?_)
    refine z_ldc hx hb (-2100000001) hown hf_3 (by decide) dL_setShelf_12 ?_
    exact z_iret hx hb hr hlocks hP hD hS ⟨Nat.le_of_ble_eq_true rfl, Nat.le_of_ble_eq_true rfl⟩ dL_setShelf_14 (⟨congrArg (fun z => some (Value.int (zI z))) (by first | rfl | (rw [hck]; rfl) | (rw [if_pos hck]) | (rw [if_neg hck])), rfl⟩)
theorem k_X8_hang : yX8_hang.cls ≠ "java/lang/invoke/MethodHandle" ∧ yX8_hang.cls ≠ "java/lang/invoke/VarHandle" ∧ (parseMethodDescriptor yX8_hang.desc).map (fun d => d.parameters.length) = some 1 := by decide +kernel
set_option maxHeartbeats 4000000 in
set_option maxRecDepth 100000 in
theorem c_L_hang_ok (l : Launch) (D : va_G) (ct ad : Nat → Nat) (u : Nat) (a r q : Nat → Nat) (b : Nat → Nat → Nat) (nx sz : Int) (S : Nat → Int → Int) (M TX : Int → Int) (tl pl ft n1 n2 : Int) (wd : Value) (k : Int) (hs : sInv M) (hn : 0 ≤ nx ∧ nx ≤ 3) (hsz : 0 ≤ sz ∧ sz ≤ 4) (h1 : -2147483648 ≤ k ∧ k ≤ 2147483647) (hok : ck_shelf k = 0) : ZM l yL_hang wsL_hang ({ frames := 5, cells := 0, slots := 0, locals := 103 } : Room) D ct ad [.ref u, .int (zI k)] (x8W u a r q ++ (svW ct r b nx sz S ++ (sobjW a ++ (gridW ct a M ++ (benchW ct a M ++ (logW ct a M ++ (txtW ct q TX tl pl ft wd n1 n2))))))) (zD (some (.int (zI (M 5)))) (x8W u a r q ++ (svW ct r b ((nx + 1) % 4) (min (sz + 1) 4) (updS S nx M) ++ (sobjW a ++ (gridW ct a (up M 5 k) ++ (benchW ct a (up M 5 k) ++ (logW ct a (up M 5 k) ++ (txtW ct q TX tl pl ft wd n1 n2)))))))) := by
  refine ZM.ofH (cc := cL_hang) (maxL := 3) (ret := (some .int)) (by decide +kernel) rfl (Nat.le_of_ble_eq_true rfl) ?_
  intro p e s m below meth c A ls hx hb hr hts hown hlocks hml hTab hE hP hD hA hS hl
  have hK := hE.1
  have hl : lv_has ls 3 [(0, .ref u), (1, .int (zI k))] := hl
  refine lv_aload_n hx hb dL_hang_0 rfl (lv_at hl 0 rfl) ?_
  refine lv_iload_n hx hb dL_hang_1 rfl (lv_at hl 1 rfl) ?_
  refine z_callV (C := RX8) (q0 := 0) (ci := 6) (As := [.int (zI k)]) (rest := []) ([] : va_W) ([] : va_W) hx hb hml hown hts hl hE hS hA (zr0 ([] : va_W) hP) (zr0D ([] : va_W) hD) (c_X8_hang l D ct ad u a r q b nx sz S M TX tl pl ft n1 n2 wd k (by assumption) (by omega) (by omega) (by omega) (by omega)) gL_hang_X8_hang rfl rfl k_X8_hang ⟨Nat.le_of_ble_eq_true rfl, Nat.le_of_ble_eq_true rfl⟩ rfl rfl rfl rfl (Nat.le_of_ble_eq_true rfl) ⟨Nat.le_of_ble_eq_true rfl, Nat.le_of_ble_eq_true rfl⟩ dL_hang_2 rfl (fun v w1 H locs hpost hP hD hS => ?_)
  obtain ⟨rfl, rfl⟩ := hpost
  have hP := zr0' hP
  have hD := zr0D' hD
  have hP : va_P D vwCl (x8W u a r q ++ (svW ct r b ((nx + 1) % 4) (min (sz + 1) 4) (updS S nx M) ++ (sobjW a ++ (gridW ct a (up M 5 k) ++ (benchW ct a (up M 5 k) ++ (logW ct a (up M 5 k) ++ (txtW ct q TX tl pl ft wd n1 n2))))))) H := hP
  have hD : va_D A (x8W u a r q ++ (svW ct r b ((nx + 1) % 4) (min (sz + 1) 4) (updS S nx M) ++ (sobjW a ++ (gridW ct a (up M 5 k) ++ (benchW ct a (up M 5 k) ++ (logW ct a (up M 5 k) ++ (txtW ct q TX tl pl ft wd n1 n2))))))) := hD
  refine W.eq (g2 := F0 m 5 ls [.int (zI (M 5))]) rfl ?_
  exact z_iret hx hb hr hlocks hP hD hS ⟨Nat.le_of_ble_eq_true rfl, Nat.le_of_ble_eq_true rfl⟩ dL_hang_5 (⟨congrArg (fun z => some (Value.int (zI z))) (rfl), rfl⟩)
set_option maxHeartbeats 4000000 in
set_option maxRecDepth 100000 in
theorem c_L_hang_no (l : Launch) (D : va_G) (ct ad : Nat → Nat) (u : Nat) (a r q : Nat → Nat) (b : Nat → Nat → Nat) (nx sz : Int) (S : Nat → Int → Int) (M TX : Int → Int) (tl pl ft n1 n2 : Int) (wd : Value) (k : Int) (hs : sInv M) (hst : l.stackTraces = false) (h1 : -2147483648 ≤ k ∧ k ≤ 2147483647) (hno : ck_shelf k ≠ 0) : ZM l yL_hang wsL_hang ({ frames := 8, cells := 1, slots := 6, locals := 123 } : Room) D ct ad [.ref u, .int (zI k)] (x8W u a r q ++ (svW ct r b nx sz S ++ (sobjW a ++ (gridW ct a M ++ (benchW ct a M ++ (logW ct a M ++ (txtW ct q TX tl pl ft wd n1 n2))))))) (zD (some (.int (zI (exK (ck_shelf k))))) (x8W u a r q ++ (svW ct r b nx sz S ++ (sobjW a ++ (gridW ct a M ++ (benchW ct a M ++ (logW ct a M ++ (txtW ct q TX tl pl ft wd n1 n2)))))))) := by
  refine ZM.ofH (cc := cL_hang) (maxL := 3) (ret := (some .int)) (by decide +kernel) rfl (Nat.le_of_ble_eq_true rfl) ?_
  intro p e s m below meth c A ls hx hb hr hts hown hlocks hml hTab hE hP hD hA hS hl
  have hK := hE.1
  have hf_0 := hts (.classLink RL 25 "java/lang/IndexOutOfBoundsException") (by decide +kernel)
  have hf_1 := hts (.constant RL 27 (-2100000003)) (by decide +kernel)
  have hl : lv_has ls 3 [(0, .ref u), (1, .int (zI k))] := hl
  refine lv_aload_n hx hb dL_hang_0 rfl (lv_at hl 0 rfl) ?_
  refine lv_iload_n hx hb dL_hang_1 rfl (lv_at hl 1 rfl) ?_
  rcases (show ck_shelf k = 1 from (by have q9 := hno; unfold ck_shelf at q9 ⊢; (repeat' split) <;> (repeat' split at q9) <;> omega)) with hck
  · refine z_catV (C := RX8) (q0 := 0) (ci := 6) (E := "java/lang/IndexOutOfBoundsException") (name := "java/lang/IndexOutOfBoundsException") (As := [.int (zI k)]) (rest := []) ([] : va_W) ([] : va_W) hx hb hml hown hts hl hE hS hA (zr0 ([] : va_W) hP) (zr0D ([] : va_W) hD) (ZX.toE (c_X8_hang_x l D ct ad u a r q b nx sz S M TX tl pl ft n1 n2 wd k (by assumption) hst (by omega) (by omega)) ((by rw [hck]; rfl))) gL_hang_X8_hang rfl rfl k_X8_hang ⟨Nat.le_of_ble_eq_true rfl, Nat.le_of_ble_eq_true rfl⟩ rfl rfl rfl rfl (Nat.le_of_ble_eq_true rfl) ⟨Nat.le_of_ble_eq_true rfl, Nat.le_of_ble_eq_true rfl⟩ dL_hang_2 rfl [] ({ startPc := 0, endPc := 5, handlerPc := 6, catchType := 25 } : ExceptionTableEntry) [] (hTab.trans rfl) (fun z hz => nomatch hz) (by decide) (by decide) hf_0 (hE.2.1.1 _ (List.mem_of_getElem? (i := 18) rfl)) (fun q9_2 H locs hP hD hS => ?_)
    have hP := zr0' hP
    have hD := zr0D' hD
    have hP : va_P D vwCl (x8W u a r q ++ (svW ct r b nx sz S ++ (sobjW a ++ (gridW ct a M ++ (benchW ct a M ++ (logW ct a M ++ (txtW ct q TX tl pl ft wd n1 n2))))))) H := hP
    have hD : va_D A (x8W u a r q ++ (svW ct r b nx sz S ++ (sobjW a ++ (gridW ct a M ++ (benchW ct a M ++ (logW ct a M ++ (txtW ct q TX tl pl ft wd n1 n2))))))) := hD
    refine W.eq (g2 := F0 m 6 ls [.ref q9_2]) rfl ?_
    refine lv_astore_n (lv' := [(2, .ref q9_2), (0, .ref u), (1, .int (zI k))]) hx hb dL_hang_6 rfl hl (by decide) rfl (fun ls hl => ?_)
    refine z_ldc hx hb (-2100000003) hown hf_1 (by decide) dL_hang_7 ?_
    exact z_iret hx hb hr hlocks hP hD hS ⟨Nat.le_of_ble_eq_true rfl, Nat.le_of_ble_eq_true rfl⟩ dL_hang_9 (⟨congrArg (fun z => some (Value.int (zI z))) (by first | rfl | (rw [hck]; rfl) | (rw [if_pos hck]) | (rw [if_neg hck])), rfl⟩)
theorem k_X8_turnNut : yX8_turnNut.cls ≠ "java/lang/invoke/MethodHandle" ∧ yX8_turnNut.cls ≠ "java/lang/invoke/VarHandle" ∧ (parseMethodDescriptor yX8_turnNut.desc).map (fun d => d.parameters.length) = some 1 := by decide +kernel
set_option maxHeartbeats 4000000 in
set_option maxRecDepth 100000 in
theorem c_L_turnNut_ok (l : Launch) (D : va_G) (ct ad : Nat → Nat) (u : Nat) (a r q : Nat → Nat) (b : Nat → Nat → Nat) (nx sz : Int) (S : Nat → Int → Int) (M TX : Int → Int) (tl pl ft n1 n2 : Int) (wd : Value) (v : Int) (hs : sInv M) (hn : 0 ≤ nx ∧ nx ≤ 3) (hsz : 0 ≤ sz ∧ sz ≤ 4) (h1 : -2147483648 ≤ v ∧ v ≤ 2147483647) (hok : ck_turn M v = 0) : ZM l yL_turnNut wsL_turnNut ({ frames := 5, cells := 0, slots := 0, locals := 103 } : Room) D ct ad [.ref u, .int (zI v)] (x8W u a r q ++ (svW ct r b nx sz S ++ (sobjW a ++ (gridW ct a M ++ (benchW ct a M ++ (logW ct a M ++ (txtW ct q TX tl pl ft wd n1 n2))))))) (zD (some (.int (zI (M 7 + v)))) (x8W u a r q ++ (svW ct r b ((nx + 1) % 4) (min (sz + 1) 4) (updS S nx M) ++ (sobjW a ++ (gridW ct a (up M 7 (M 7 + v)) ++ (benchW ct a (up M 7 (M 7 + v)) ++ (logW ct a (up M 7 (M 7 + v)) ++ (txtW ct q TX tl pl ft wd n1 n2)))))))) := by
  refine ZM.ofH (cc := cL_turnNut) (maxL := 3) (ret := (some .int)) (by decide +kernel) rfl (Nat.le_of_ble_eq_true rfl) ?_
  intro p e s m below meth c A ls hx hb hr hts hown hlocks hml hTab hE hP hD hA hS hl
  have hK := hE.1
  have hl : lv_has ls 3 [(0, .ref u), (1, .int (zI v))] := hl
  refine lv_aload_n hx hb dL_turnNut_0 rfl (lv_at hl 0 rfl) ?_
  refine lv_iload_n hx hb dL_turnNut_1 rfl (lv_at hl 1 rfl) ?_
  refine z_callV (C := RX8) (q0 := 0) (ci := 6) (As := [.int (zI v)]) (rest := []) ([] : va_W) ([] : va_W) hx hb hml hown hts hl hE hS hA (zr0 ([] : va_W) hP) (zr0D ([] : va_W) hD) (c_X8_turnNut l D ct ad u a r q b nx sz S M TX tl pl ft n1 n2 wd v (by assumption) (by omega) (by omega) (by omega) (by omega)) gL_turnNut_X8_turnNut rfl rfl k_X8_turnNut ⟨Nat.le_of_ble_eq_true rfl, Nat.le_of_ble_eq_true rfl⟩ rfl rfl rfl rfl (Nat.le_of_ble_eq_true rfl) ⟨Nat.le_of_ble_eq_true rfl, Nat.le_of_ble_eq_true rfl⟩ dL_turnNut_2 rfl (fun v w1 H locs hpost hP hD hS => ?_)
  obtain ⟨rfl, rfl⟩ := hpost
  have hP := zr0' hP
  have hD := zr0D' hD
  have hP : va_P D vwCl (x8W u a r q ++ (svW ct r b ((nx + 1) % 4) (min (sz + 1) 4) (updS S nx M) ++ (sobjW a ++ (gridW ct a (up M 7 (M 7 + v)) ++ (benchW ct a (up M 7 (M 7 + v)) ++ (logW ct a (up M 7 (M 7 + v)) ++ (txtW ct q TX tl pl ft wd n1 n2))))))) H := hP
  have hD : va_D A (x8W u a r q ++ (svW ct r b ((nx + 1) % 4) (min (sz + 1) 4) (updS S nx M) ++ (sobjW a ++ (gridW ct a (up M 7 (M 7 + v)) ++ (benchW ct a (up M 7 (M 7 + v)) ++ (logW ct a (up M 7 (M 7 + v)) ++ (txtW ct q TX tl pl ft wd n1 n2))))))) := hD
  refine W.eq (g2 := F0 m 5 ls [.int (zI (M 7 + v))]) rfl ?_
  exact z_iret hx hb hr hlocks hP hD hS ⟨Nat.le_of_ble_eq_true rfl, Nat.le_of_ble_eq_true rfl⟩ dL_turnNut_5 (⟨congrArg (fun z => some (Value.int (zI z))) (rfl), rfl⟩)
set_option maxHeartbeats 4000000 in
set_option maxRecDepth 100000 in
theorem c_L_turnNut_no (l : Launch) (D : va_G) (ct ad : Nat → Nat) (u : Nat) (a r q : Nat → Nat) (b : Nat → Nat → Nat) (nx sz : Int) (S : Nat → Int → Int) (M TX : Int → Int) (tl pl ft n1 n2 : Int) (wd : Value) (v : Int) (hs : sInv M) (hst : l.stackTraces = false) (h1 : -2147483648 ≤ v ∧ v ≤ 2147483647) (hno : ck_turn M v ≠ 0) : ZM l yL_turnNut wsL_turnNut ({ frames := 8, cells := 1, slots := 6, locals := 123 } : Room) D ct ad [.ref u, .int (zI v)] (x8W u a r q ++ (svW ct r b nx sz S ++ (sobjW a ++ (gridW ct a M ++ (benchW ct a M ++ (logW ct a M ++ (txtW ct q TX tl pl ft wd n1 n2))))))) (zD (some (.int (zI (exK (ck_turn M v))))) (x8W u a r q ++ (svW ct r b nx sz S ++ (sobjW a ++ (gridW ct a M ++ (benchW ct a M ++ (logW ct a M ++ (txtW ct q TX tl pl ft wd n1 n2)))))))) := by
  refine ZM.ofH (cc := cL_turnNut) (maxL := 3) (ret := (some .int)) (by decide +kernel) rfl (Nat.le_of_ble_eq_true rfl) ?_
  intro p e s m below meth c A ls hx hb hr hts hown hlocks hml hTab hE hP hD hA hS hl
  have hK := hE.1
  have hf_0 := hts (.classLink RL 15 "java/lang/IllegalArgumentException") (by decide +kernel)
  have hf_1 := hts (.constant RL 17 (-2100000001)) (by decide +kernel)
  have hf_2 := hts (.classLink RL 18 "java/lang/IllegalStateException") (by decide +kernel)
  have hf_3 := hts (.constant RL 20 (-2100000002)) (by decide +kernel)
  have hl : lv_has ls 3 [(0, .ref u), (1, .int (zI v))] := hl
  refine lv_aload_n hx hb dL_turnNut_0 rfl (lv_at hl 0 rfl) ?_
  refine lv_iload_n hx hb dL_turnNut_1 rfl (lv_at hl 1 rfl) ?_
  rcases (show ck_turn M v = 2 ∨ ck_turn M v = 3 from (by have q9 := hno; unfold ck_turn at q9 ⊢; (repeat' split) <;> (repeat' split at q9) <;> omega)) with hck | hck
  · refine z_catV (C := RX8) (q0 := 0) (ci := 6) (E := "java/lang/IllegalArgumentException") (name := "java/lang/IllegalArgumentException") (As := [.int (zI v)]) (rest := []) ([] : va_W) ([] : va_W) hx hb hml hown hts hl hE hS hA (zr0 ([] : va_W) hP) (zr0D ([] : va_W) hD) (ZX.toE (c_X8_turnNut_x l D ct ad u a r q b nx sz S M TX tl pl ft n1 n2 wd v (by assumption) hst (by omega) (by omega)) ((by rw [hck]; rfl))) gL_turnNut_X8_turnNut rfl rfl k_X8_turnNut ⟨Nat.le_of_ble_eq_true rfl, Nat.le_of_ble_eq_true rfl⟩ rfl rfl rfl rfl (Nat.le_of_ble_eq_true rfl) ⟨Nat.le_of_ble_eq_true rfl, Nat.le_of_ble_eq_true rfl⟩ dL_turnNut_2 rfl [] ({ startPc := 0, endPc := 5, handlerPc := 6, catchType := 15 } : ExceptionTableEntry) [({ startPc := 0, endPc := 5, handlerPc := 10, catchType := 18 } : ExceptionTableEntry)] (hTab.trans rfl) (fun z hz => nomatch hz) (by decide) (by decide) hf_0 (hE.2.1.1 _ (List.mem_of_getElem? (i := 19) rfl)) (fun q9_2 H locs hP hD hS => ?_)
    have hP := zr0' hP
    have hD := zr0D' hD
    have hP : va_P D vwCl (x8W u a r q ++ (svW ct r b nx sz S ++ (sobjW a ++ (gridW ct a M ++ (benchW ct a M ++ (logW ct a M ++ (txtW ct q TX tl pl ft wd n1 n2))))))) H := hP
    have hD : va_D A (x8W u a r q ++ (svW ct r b nx sz S ++ (sobjW a ++ (gridW ct a M ++ (benchW ct a M ++ (logW ct a M ++ (txtW ct q TX tl pl ft wd n1 n2))))))) := hD
    refine W.eq (g2 := F0 m 6 ls [.ref q9_2]) rfl ?_
    refine lv_astore_n (lv' := [(2, .ref q9_2), (0, .ref u), (1, .int (zI v))]) hx hb dL_turnNut_6 rfl hl (by decide) rfl (fun ls hl => ?_)
    refine z_ldc hx hb (-2100000001) hown hf_1 (by decide) dL_turnNut_7 ?_
    exact z_iret hx hb hr hlocks hP hD hS ⟨Nat.le_of_ble_eq_true rfl, Nat.le_of_ble_eq_true rfl⟩ dL_turnNut_9 (⟨congrArg (fun z => some (Value.int (zI z))) (by first | rfl | (rw [hck]; rfl) | (rw [if_pos hck]) | (rw [if_neg hck])), rfl⟩)
  · refine z_catV (C := RX8) (q0 := 0) (ci := 6) (E := "java/lang/IllegalStateException") (name := "java/lang/IllegalStateException") (As := [.int (zI v)]) (rest := []) ([] : va_W) ([] : va_W) hx hb hml hown hts hl hE hS hA (zr0 ([] : va_W) hP) (zr0D ([] : va_W) hD) (ZX.toE (c_X8_turnNut_x l D ct ad u a r q b nx sz S M TX tl pl ft n1 n2 wd v (by assumption) hst (by omega) (by omega)) ((by rw [hck]; rfl))) gL_turnNut_X8_turnNut rfl rfl k_X8_turnNut ⟨Nat.le_of_ble_eq_true rfl, Nat.le_of_ble_eq_true rfl⟩ rfl rfl rfl rfl (Nat.le_of_ble_eq_true rfl) ⟨Nat.le_of_ble_eq_true rfl, Nat.le_of_ble_eq_true rfl⟩ dL_turnNut_2 rfl [({ startPc := 0, endPc := 5, handlerPc := 6, catchType := 15 } : ExceptionTableEntry)] ({ startPc := 0, endPc := 5, handlerPc := 10, catchType := 18 } : ExceptionTableEntry) [] (hTab.trans rfl) (fun z hz => by simp only [List.mem_cons, List.not_mem_nil, or_false] at hz; rcases hz with rfl; exact Or.inr ⟨by decide, "java/lang/IllegalArgumentException", hf_0, hE.2.1.2 ("java/lang/IllegalStateException", "java/lang/IllegalArgumentException") (by decide)⟩) (by decide) (by decide) hf_2 (hE.2.1.1 _ (List.mem_of_getElem? (i := 20) rfl)) (fun q9_2 H locs hP hD hS => ?_)
    have hP := zr0' hP
    have hD := zr0D' hD
    have hP : va_P D vwCl (x8W u a r q ++ (svW ct r b nx sz S ++ (sobjW a ++ (gridW ct a M ++ (benchW ct a M ++ (logW ct a M ++ (txtW ct q TX tl pl ft wd n1 n2))))))) H := hP
    have hD : va_D A (x8W u a r q ++ (svW ct r b nx sz S ++ (sobjW a ++ (gridW ct a M ++ (benchW ct a M ++ (logW ct a M ++ (txtW ct q TX tl pl ft wd n1 n2))))))) := hD
    refine W.eq (g2 := F0 m 10 ls [.ref q9_2]) rfl ?_
    refine lv_astore_n (lv' := [(2, .ref q9_2), (0, .ref u), (1, .int (zI v))]) hx hb dL_turnNut_10 rfl hl (by decide) rfl (fun ls hl => ?_)
    refine z_ldc hx hb (-2100000002) hown hf_3 (by decide) dL_turnNut_11 ?_
    exact z_iret hx hb hr hlocks hP hD hS ⟨Nat.le_of_ble_eq_true rfl, Nat.le_of_ble_eq_true rfl⟩ dL_turnNut_13 (⟨congrArg (fun z => some (Value.int (zI z))) (by first | rfl | (rw [hck]; rfl) | (rw [if_pos hck]) | (rw [if_neg hck])), rfl⟩)
theorem k_X8_set : yX8_set.cls ≠ "java/lang/invoke/MethodHandle" ∧ yX8_set.cls ≠ "java/lang/invoke/VarHandle" ∧ (parseMethodDescriptor yX8_set.desc).map (fun d => d.parameters.length) = some 2 := by decide +kernel
set_option maxHeartbeats 4000000 in
set_option maxRecDepth 100000 in
theorem c_L_set_ok (l : Launch) (D : va_G) (ct ad : Nat → Nat) (u : Nat) (a r q : Nat → Nat) (b : Nat → Nat → Nat) (nx sz : Int) (S : Nat → Int → Int) (M TX : Int → Int) (tl pl ft n1 n2 : Int) (wd : Value) (k v : Int) (hs : sInv M) (hn : 0 ≤ nx ∧ nx ≤ 3) (hsz : 0 ≤ sz ∧ sz ≤ 4) (h1 : -2147483648 ≤ k ∧ k ≤ 2147483647) (h2 : -2147483648 ≤ v ∧ v ≤ 2147483647) (hok : ck_set k v = 0) : ZM l yL_set wsL_set ({ frames := 5, cells := 0, slots := 0, locals := 104 } : Room) D ct ad [.ref u, .int (zI k), .int (zI v)] (x8W u a r q ++ (svW ct r b nx sz S ++ (sobjW a ++ (gridW ct a M ++ (benchW ct a M ++ (logW ct a M ++ (txtW ct q TX tl pl ft wd n1 n2))))))) (zD (some (.int (zI (M k)))) (x8W u a r q ++ (svW ct r b ((nx + 1) % 4) (min (sz + 1) 4) (updS S nx M) ++ (sobjW a ++ (gridW ct a (up M k v) ++ (benchW ct a (up M k v) ++ (logW ct a (up M k v) ++ (txtW ct q TX tl pl ft wd n1 n2)))))))) := by
  refine ZM.ofH (cc := cL_set) (maxL := 4) (ret := (some .int)) (by decide +kernel) rfl (Nat.le_of_ble_eq_true rfl) ?_
  intro p e s m below meth c A ls hx hb hr hts hown hlocks hml hTab hE hP hD hA hS hl
  have hK := hE.1
  have hl : lv_has ls 4 [(0, .ref u), (1, .int (zI k)), (2, .int (zI v))] := hl
  refine lv_aload_n hx hb dL_set_0 rfl (lv_at hl 0 rfl) ?_
  refine lv_iload_n hx hb dL_set_1 rfl (lv_at hl 1 rfl) ?_
  refine lv_iload_n hx hb dL_set_2 rfl (lv_at hl 2 rfl) ?_
  refine z_callV (C := RX8) (q0 := 0) (ci := 6) (As := [.int (zI k), .int (zI v)]) (rest := []) ([] : va_W) ([] : va_W) hx hb hml hown hts hl hE hS hA (zr0 ([] : va_W) hP) (zr0D ([] : va_W) hD) (c_X8_set l D ct ad u a r q b nx sz S M TX tl pl ft n1 n2 wd k v (by assumption) (by omega) (by omega) (by omega) (by omega) (by omega)) gL_set_X8_set rfl rfl k_X8_set ⟨Nat.le_of_ble_eq_true rfl, Nat.le_of_ble_eq_true rfl⟩ rfl rfl rfl rfl (Nat.le_of_ble_eq_true rfl) ⟨Nat.le_of_ble_eq_true rfl, Nat.le_of_ble_eq_true rfl⟩ dL_set_3 rfl (fun v w1 H locs hpost hP hD hS => ?_)
  obtain ⟨rfl, rfl⟩ := hpost
  have hP := zr0' hP
  have hD := zr0D' hD
  have hP : va_P D vwCl (x8W u a r q ++ (svW ct r b ((nx + 1) % 4) (min (sz + 1) 4) (updS S nx M) ++ (sobjW a ++ (gridW ct a (up M k v) ++ (benchW ct a (up M k v) ++ (logW ct a (up M k v) ++ (txtW ct q TX tl pl ft wd n1 n2))))))) H := hP
  have hD : va_D A (x8W u a r q ++ (svW ct r b ((nx + 1) % 4) (min (sz + 1) 4) (updS S nx M) ++ (sobjW a ++ (gridW ct a (up M k v) ++ (benchW ct a (up M k v) ++ (logW ct a (up M k v) ++ (txtW ct q TX tl pl ft wd n1 n2))))))) := hD
  refine W.eq (g2 := F0 m 6 ls [.int (zI (M k))]) rfl ?_
  exact z_iret hx hb hr hlocks hP hD hS ⟨Nat.le_of_ble_eq_true rfl, Nat.le_of_ble_eq_true rfl⟩ dL_set_6 (⟨congrArg (fun z => some (Value.int (zI z))) (rfl), rfl⟩)
set_option maxHeartbeats 4000000 in
set_option maxRecDepth 100000 in
theorem c_L_set_no (l : Launch) (D : va_G) (ct ad : Nat → Nat) (u : Nat) (a r q : Nat → Nat) (b : Nat → Nat → Nat) (nx sz : Int) (S : Nat → Int → Int) (M TX : Int → Int) (tl pl ft n1 n2 : Int) (wd : Value) (k v : Int) (hs : sInv M) (hst : l.stackTraces = false) (h1 : -2147483648 ≤ k ∧ k ≤ 2147483647) (h2 : -2147483648 ≤ v ∧ v ≤ 2147483647) (hno : ck_set k v ≠ 0) : ZM l yL_set wsL_set ({ frames := 8, cells := 1, slots := 6, locals := 124 } : Room) D ct ad [.ref u, .int (zI k), .int (zI v)] (x8W u a r q ++ (svW ct r b nx sz S ++ (sobjW a ++ (gridW ct a M ++ (benchW ct a M ++ (logW ct a M ++ (txtW ct q TX tl pl ft wd n1 n2))))))) (zD (some (.int (zI (exK (ck_set k v))))) (x8W u a r q ++ (svW ct r b nx sz S ++ (sobjW a ++ (gridW ct a M ++ (benchW ct a M ++ (logW ct a M ++ (txtW ct q TX tl pl ft wd n1 n2)))))))) := by
  refine ZM.ofH (cc := cL_set) (maxL := 4) (ret := (some .int)) (by decide +kernel) rfl (Nat.le_of_ble_eq_true rfl) ?_
  intro p e s m below meth c A ls hx hb hr hts hown hlocks hml hTab hE hP hD hA hS hl
  have hK := hE.1
  have hf_0 := hts (.classLink RL 15 "java/lang/IllegalArgumentException") (by decide +kernel)
  have hf_1 := hts (.constant RL 17 (-2100000001)) (by decide +kernel)
  have hl : lv_has ls 4 [(0, .ref u), (1, .int (zI k)), (2, .int (zI v))] := hl
  refine lv_aload_n hx hb dL_set_0 rfl (lv_at hl 0 rfl) ?_
  refine lv_iload_n hx hb dL_set_1 rfl (lv_at hl 1 rfl) ?_
  refine lv_iload_n hx hb dL_set_2 rfl (lv_at hl 2 rfl) ?_
  rcases (show ck_set k v = 2 from (by have q9 := hno; unfold ck_set at q9 ⊢; (repeat' split) <;> (repeat' split at q9) <;> omega)) with hck
  · refine z_catV (C := RX8) (q0 := 0) (ci := 6) (E := "java/lang/IllegalArgumentException") (name := "java/lang/IllegalArgumentException") (As := [.int (zI k), .int (zI v)]) (rest := []) ([] : va_W) ([] : va_W) hx hb hml hown hts hl hE hS hA (zr0 ([] : va_W) hP) (zr0D ([] : va_W) hD) (ZX.toE (c_X8_set_x l D ct ad u a r q b nx sz S M TX tl pl ft n1 n2 wd k v (by assumption) hst (by omega) (by omega) (by omega)) ((by rw [hck]; rfl))) gL_set_X8_set rfl rfl k_X8_set ⟨Nat.le_of_ble_eq_true rfl, Nat.le_of_ble_eq_true rfl⟩ rfl rfl rfl rfl (Nat.le_of_ble_eq_true rfl) ⟨Nat.le_of_ble_eq_true rfl, Nat.le_of_ble_eq_true rfl⟩ dL_set_3 rfl [] ({ startPc := 0, endPc := 6, handlerPc := 7, catchType := 15 } : ExceptionTableEntry) [] (hTab.trans rfl) (fun z hz => nomatch hz) (by decide) (by decide) hf_0 (hE.2.1.1 _ (List.mem_of_getElem? (i := 19) rfl)) (fun q9_3 H locs hP hD hS => ?_)
    have hP := zr0' hP
    have hD := zr0D' hD
    have hP : va_P D vwCl (x8W u a r q ++ (svW ct r b nx sz S ++ (sobjW a ++ (gridW ct a M ++ (benchW ct a M ++ (logW ct a M ++ (txtW ct q TX tl pl ft wd n1 n2))))))) H := hP
    have hD : va_D A (x8W u a r q ++ (svW ct r b nx sz S ++ (sobjW a ++ (gridW ct a M ++ (benchW ct a M ++ (logW ct a M ++ (txtW ct q TX tl pl ft wd n1 n2))))))) := hD
    refine W.eq (g2 := F0 m 7 ls [.ref q9_3]) rfl ?_
    refine lv_astore_n (lv' := [(3, .ref q9_3), (0, .ref u), (1, .int (zI k)), (2, .int (zI v))]) hx hb dL_set_7 rfl hl (by decide) rfl (fun ls hl => ?_)
    refine z_ldc hx hb (-2100000001) hown hf_1 (by decide) dL_set_8 ?_
    exact z_iret hx hb hr hlocks hP hD hS ⟨Nat.le_of_ble_eq_true rfl, Nat.le_of_ble_eq_true rfl⟩ dL_set_10 (⟨congrArg (fun z => some (Value.int (zI z))) (by first | rfl | (rw [hck]; rfl) | (rw [if_pos hck]) | (rw [if_neg hck])), rfl⟩)
theorem k_X8_pass : yX8_pass.cls ≠ "java/lang/invoke/MethodHandle" ∧ yX8_pass.cls ≠ "java/lang/invoke/VarHandle" ∧ (parseMethodDescriptor yX8_pass.desc).map (fun d => d.parameters.length) = some 1 := by decide +kernel
set_option maxHeartbeats 4000000 in
set_option maxRecDepth 100000 in
theorem c_L_pass_ok (l : Launch) (D : va_G) (ct ad : Nat → Nat) (u : Nat) (a r q : Nat → Nat) (b : Nat → Nat → Nat) (nx sz : Int) (S : Nat → Int → Int) (M TX : Int → Int) (tl pl ft n1 n2 : Int) (wd : Value) (n : Int) (hs : sInv M) (hn : 0 ≤ nx ∧ nx ≤ 3) (hsz : 0 ≤ sz ∧ sz ≤ 4) (h1 : -2147483648 ≤ n ∧ n ≤ 2147483647) (hok : ck_hours M n = 0) : ZM l yL_pass wsL_pass ({ frames := 6, cells := 0, slots := 0, locals := 143 } : Room) D ct ad [.ref u, .int (zI n)] (x8W u a r q ++ (svW ct r b nx sz S ++ (sobjW a ++ (gridW ct a M ++ (benchW ct a M ++ (logW ct a M ++ (txtW ct q TX tl pl ft wd n1 n2))))))) (zD (some (.int (zI (sp_err (sp_pass M n.toNat))))) (x8W u a r q ++ (svW ct r b ((nx + 1) % 4) (min (sz + 1) 4) (updS S nx M) ++ (sobjW a ++ (gridW ct a (sp_pass M n.toNat) ++ (benchW ct a (sp_pass M n.toNat) ++ (logW ct a (sp_pass M n.toNat) ++ (txtW ct q TX tl pl ft wd n1 n2)))))))) := by
  refine ZM.ofH (cc := cL_pass) (maxL := 3) (ret := (some .int)) (by decide +kernel) rfl (Nat.le_of_ble_eq_true rfl) ?_
  intro p e s m below meth c A ls hx hb hr hts hown hlocks hml hTab hE hP hD hA hS hl
  have hK := hE.1
  have hl : lv_has ls 3 [(0, .ref u), (1, .int (zI n))] := hl
  refine lv_aload_n hx hb dL_pass_0 rfl (lv_at hl 0 rfl) ?_
  refine lv_iload_n hx hb dL_pass_1 rfl (lv_at hl 1 rfl) ?_
  refine z_callV (C := RX8) (q0 := 0) (ci := 6) (As := [.int (zI n)]) (rest := []) ([] : va_W) ([] : va_W) hx hb hml hown hts hl hE hS hA (zr0 ([] : va_W) hP) (zr0D ([] : va_W) hD) (c_X8_pass l D ct ad u a r q b nx sz S M TX tl pl ft n1 n2 wd n (by assumption) (by omega) (by omega) (by omega) (by omega)) gL_pass_X8_pass rfl rfl k_X8_pass ⟨Nat.le_of_ble_eq_true rfl, Nat.le_of_ble_eq_true rfl⟩ rfl rfl rfl rfl (Nat.le_of_ble_eq_true rfl) ⟨Nat.le_of_ble_eq_true rfl, Nat.le_of_ble_eq_true rfl⟩ dL_pass_2 rfl (fun v w1 H locs hpost hP hD hS => ?_)
  obtain ⟨rfl, rfl⟩ := hpost
  have hP := zr0' hP
  have hD := zr0D' hD
  have hP : va_P D vwCl (x8W u a r q ++ (svW ct r b ((nx + 1) % 4) (min (sz + 1) 4) (updS S nx M) ++ (sobjW a ++ (gridW ct a (sp_pass M n.toNat) ++ (benchW ct a (sp_pass M n.toNat) ++ (logW ct a (sp_pass M n.toNat) ++ (txtW ct q TX tl pl ft wd n1 n2))))))) H := hP
  have hD : va_D A (x8W u a r q ++ (svW ct r b ((nx + 1) % 4) (min (sz + 1) 4) (updS S nx M) ++ (sobjW a ++ (gridW ct a (sp_pass M n.toNat) ++ (benchW ct a (sp_pass M n.toNat) ++ (logW ct a (sp_pass M n.toNat) ++ (txtW ct q TX tl pl ft wd n1 n2))))))) := hD
  refine W.eq (g2 := F0 m 5 ls [.int (zI (sp_err (sp_pass M n.toNat)))]) rfl ?_
  exact z_iret hx hb hr hlocks hP hD hS ⟨Nat.le_of_ble_eq_true rfl, Nat.le_of_ble_eq_true rfl⟩ dL_pass_5 (⟨congrArg (fun z => some (Value.int (zI z))) (rfl), rfl⟩)
set_option maxHeartbeats 4000000 in
set_option maxRecDepth 100000 in
theorem c_L_pass_no (l : Launch) (D : va_G) (ct ad : Nat → Nat) (u : Nat) (a r q : Nat → Nat) (b : Nat → Nat → Nat) (nx sz : Int) (S : Nat → Int → Int) (M TX : Int → Int) (tl pl ft n1 n2 : Int) (wd : Value) (n : Int) (hs : sInv M) (hst : l.stackTraces = false) (h1 : -2147483648 ≤ n ∧ n ≤ 2147483647) (hno : ck_hours M n ≠ 0) : ZM l yL_pass wsL_pass ({ frames := 8, cells := 1, slots := 6, locals := 123 } : Room) D ct ad [.ref u, .int (zI n)] (x8W u a r q ++ (svW ct r b nx sz S ++ (sobjW a ++ (gridW ct a M ++ (benchW ct a M ++ (logW ct a M ++ (txtW ct q TX tl pl ft wd n1 n2))))))) (zD (some (.int (zI (exK (ck_hours M n))))) (x8W u a r q ++ (svW ct r b nx sz S ++ (sobjW a ++ (gridW ct a M ++ (benchW ct a M ++ (logW ct a M ++ (txtW ct q TX tl pl ft wd n1 n2)))))))) := by
  refine ZM.ofH (cc := cL_pass) (maxL := 3) (ret := (some .int)) (by decide +kernel) rfl (Nat.le_of_ble_eq_true rfl) ?_
  intro p e s m below meth c A ls hx hb hr hts hown hlocks hml hTab hE hP hD hA hS hl
  have hK := hE.1
  have hf_0 := hts (.classLink RL 15 "java/lang/IllegalArgumentException") (by decide +kernel)
  have hf_1 := hts (.constant RL 17 (-2100000001)) (by decide +kernel)
  have hf_2 := hts (.classLink RL 18 "java/lang/IllegalStateException") (by decide +kernel)
  have hf_3 := hts (.constant RL 20 (-2100000002)) (by decide +kernel)
  have hl : lv_has ls 3 [(0, .ref u), (1, .int (zI n))] := hl
  refine lv_aload_n hx hb dL_pass_0 rfl (lv_at hl 0 rfl) ?_
  refine lv_iload_n hx hb dL_pass_1 rfl (lv_at hl 1 rfl) ?_
  rcases (show ck_hours M n = 2 ∨ ck_hours M n = 3 from (by have q9 := hno; unfold ck_hours at q9 ⊢; (repeat' split) <;> (repeat' split at q9) <;> omega)) with hck | hck
  · refine z_catV (C := RX8) (q0 := 0) (ci := 6) (E := "java/lang/IllegalArgumentException") (name := "java/lang/IllegalArgumentException") (As := [.int (zI n)]) (rest := []) ([] : va_W) ([] : va_W) hx hb hml hown hts hl hE hS hA (zr0 ([] : va_W) hP) (zr0D ([] : va_W) hD) (ZX.toE (c_X8_pass_x l D ct ad u a r q b nx sz S M TX tl pl ft n1 n2 wd n (by assumption) hst (by omega) (by omega)) ((by rw [hck]; rfl))) gL_pass_X8_pass rfl rfl k_X8_pass ⟨Nat.le_of_ble_eq_true rfl, Nat.le_of_ble_eq_true rfl⟩ rfl rfl rfl rfl (Nat.le_of_ble_eq_true rfl) ⟨Nat.le_of_ble_eq_true rfl, Nat.le_of_ble_eq_true rfl⟩ dL_pass_2 rfl [] ({ startPc := 0, endPc := 5, handlerPc := 6, catchType := 15 } : ExceptionTableEntry) [({ startPc := 0, endPc := 5, handlerPc := 10, catchType := 18 } : ExceptionTableEntry)] (hTab.trans rfl) (fun z hz => nomatch hz) (by decide) (by decide) hf_0 (hE.2.1.1 _ (List.mem_of_getElem? (i := 19) rfl)) (fun q9_2 H locs hP hD hS => ?_)
    have hP := zr0' hP
    have hD := zr0D' hD
    have hP : va_P D vwCl (x8W u a r q ++ (svW ct r b nx sz S ++ (sobjW a ++ (gridW ct a M ++ (benchW ct a M ++ (logW ct a M ++ (txtW ct q TX tl pl ft wd n1 n2))))))) H := hP
    have hD : va_D A (x8W u a r q ++ (svW ct r b nx sz S ++ (sobjW a ++ (gridW ct a M ++ (benchW ct a M ++ (logW ct a M ++ (txtW ct q TX tl pl ft wd n1 n2))))))) := hD
    refine W.eq (g2 := F0 m 6 ls [.ref q9_2]) rfl ?_
    refine lv_astore_n (lv' := [(2, .ref q9_2), (0, .ref u), (1, .int (zI n))]) hx hb dL_pass_6 rfl hl (by decide) rfl (fun ls hl => ?_)
    refine z_ldc hx hb (-2100000001) hown hf_1 (by decide) dL_pass_7 ?_
    exact z_iret hx hb hr hlocks hP hD hS ⟨Nat.le_of_ble_eq_true rfl, Nat.le_of_ble_eq_true rfl⟩ dL_pass_9 (⟨congrArg (fun z => some (Value.int (zI z))) (by first | rfl | (rw [hck]; rfl) | (rw [if_pos hck]) | (rw [if_neg hck])), rfl⟩)
  · refine z_catV (C := RX8) (q0 := 0) (ci := 6) (E := "java/lang/IllegalStateException") (name := "java/lang/IllegalStateException") (As := [.int (zI n)]) (rest := []) ([] : va_W) ([] : va_W) hx hb hml hown hts hl hE hS hA (zr0 ([] : va_W) hP) (zr0D ([] : va_W) hD) (ZX.toE (c_X8_pass_x l D ct ad u a r q b nx sz S M TX tl pl ft n1 n2 wd n (by assumption) hst (by omega) (by omega)) ((by rw [hck]; rfl))) gL_pass_X8_pass rfl rfl k_X8_pass ⟨Nat.le_of_ble_eq_true rfl, Nat.le_of_ble_eq_true rfl⟩ rfl rfl rfl rfl (Nat.le_of_ble_eq_true rfl) ⟨Nat.le_of_ble_eq_true rfl, Nat.le_of_ble_eq_true rfl⟩ dL_pass_2 rfl [({ startPc := 0, endPc := 5, handlerPc := 6, catchType := 15 } : ExceptionTableEntry)] ({ startPc := 0, endPc := 5, handlerPc := 10, catchType := 18 } : ExceptionTableEntry) [] (hTab.trans rfl) (fun z hz => by simp only [List.mem_cons, List.not_mem_nil, or_false] at hz; rcases hz with rfl; exact Or.inr ⟨by decide, "java/lang/IllegalArgumentException", hf_0, hE.2.1.2 ("java/lang/IllegalStateException", "java/lang/IllegalArgumentException") (by decide)⟩) (by decide) (by decide) hf_2 (hE.2.1.1 _ (List.mem_of_getElem? (i := 20) rfl)) (fun q9_2 H locs hP hD hS => ?_)
    have hP := zr0' hP
    have hD := zr0D' hD
    have hP : va_P D vwCl (x8W u a r q ++ (svW ct r b nx sz S ++ (sobjW a ++ (gridW ct a M ++ (benchW ct a M ++ (logW ct a M ++ (txtW ct q TX tl pl ft wd n1 n2))))))) H := hP
    have hD : va_D A (x8W u a r q ++ (svW ct r b nx sz S ++ (sobjW a ++ (gridW ct a M ++ (benchW ct a M ++ (logW ct a M ++ (txtW ct q TX tl pl ft wd n1 n2))))))) := hD
    refine W.eq (g2 := F0 m 10 ls [.ref q9_2]) rfl ?_
    refine lv_astore_n (lv' := [(2, .ref q9_2), (0, .ref u), (1, .int (zI n))]) hx hb dL_pass_10 rfl hl (by decide) rfl (fun ls hl => ?_)
    refine z_ldc hx hb (-2100000002) hown hf_3 (by decide) dL_pass_11 ?_
    exact z_iret hx hb hr hlocks hP hD hS ⟨Nat.le_of_ble_eq_true rfl, Nat.le_of_ble_eq_true rfl⟩ dL_pass_13 (⟨congrArg (fun z => some (Value.int (zI z))) (by first | rfl | (rw [hck]; rfl) | (rw [if_pos hck]) | (rw [if_neg hck])), rfl⟩)
set_option maxHeartbeats 4000000 in
set_option maxRecDepth 100000 in
theorem c_L_stretch_ok (l : Launch) (D : va_G) (ct ad : Nat → Nat) (u : Nat) (a r q : Nat → Nat) (b : Nat → Nat → Nat) (nx sz : Int) (S : Nat → Int → Int) (M TX : Int → Int) (tl pl ft n1 n2 : Int) (wd : Value) (k : Int) (hs : sInv M) (h1 : -2147483648 ≤ k ∧ k ≤ 2147483647) (hok : 0 ≤ k ∧ k < M 3) : ZM l yL_stretch wsL_stretch ({ frames := 4, cells := 0, slots := 0, locals := 85 } : Room) D ct ad [.ref u, .int (zI k)] (x8W u a r q ++ (svW ct r b nx sz S ++ (sobjW a ++ (gridW ct a M ++ (benchW ct a M ++ (logW ct a M ++ (txtW ct q TX tl pl ft wd n1 n2))))))) (zD (some (.int (zI (M (16 + k))))) (x8W u a r q ++ (svW ct r b nx sz S ++ (sobjW a ++ (gridW ct a M ++ (benchW ct a M ++ (logW ct a M ++ (txtW ct q TX tl pl ft wd n1 n2)))))))) := by
  refine ZM.ofH (cc := cL_stretch) (maxL := 3) (ret := (some .int)) (by decide +kernel) rfl (Nat.le_of_ble_eq_true rfl) ?_
  intro p e s m below meth c A ls hx hb hr hts hown hlocks hml hTab hE hP hD hA hS hl
  have hK := hE.1
  have hl : lv_has ls 3 [(0, .ref u), (1, .int (zI k))] := hl
  refine lv_aload_n hx hb dL_stretch_0 rfl (lv_at hl 0 rfl) ?_
  refine lv_iload_n hx hb dL_stretch_1 rfl (lv_at hl 1 rfl) ?_
  refine z_callV (C := RX8) (q0 := 0) (ci := 6) (As := [.int (zI k)]) (rest := []) ([] : va_W) ([] : va_W) hx hb hml hown hts hl hE hS hA (zr0 ([] : va_W) hP) (zr0D ([] : va_W) hD) (c_X8_stretch l D ct ad u a r q b nx sz S M TX tl pl ft n1 n2 wd k (by assumption) (by omega) (by omega)) gL_stretch_X8_stretch rfl rfl k_X8_stretch ⟨Nat.le_of_ble_eq_true rfl, Nat.le_of_ble_eq_true rfl⟩ rfl rfl rfl rfl (Nat.le_of_ble_eq_true rfl) ⟨Nat.le_of_ble_eq_true rfl, Nat.le_of_ble_eq_true rfl⟩ dL_stretch_2 rfl (fun v w1 H locs hpost hP hD hS => ?_)
  obtain ⟨rfl, rfl⟩ := hpost
  have hP := zr0' hP
  have hD := zr0D' hD
  have hP : va_P D vwCl (x8W u a r q ++ (svW ct r b nx sz S ++ (sobjW a ++ (gridW ct a M ++ (benchW ct a M ++ (logW ct a M ++ (txtW ct q TX tl pl ft wd n1 n2))))))) H := hP
  have hD : va_D A (x8W u a r q ++ (svW ct r b nx sz S ++ (sobjW a ++ (gridW ct a M ++ (benchW ct a M ++ (logW ct a M ++ (txtW ct q TX tl pl ft wd n1 n2))))))) := hD
  refine W.eq (g2 := F0 m 5 ls [.int (zI (M (16 + k)))]) rfl ?_
  exact z_iret hx hb hr hlocks hP hD hS ⟨Nat.le_of_ble_eq_true rfl, Nat.le_of_ble_eq_true rfl⟩ dL_stretch_5 (⟨congrArg (fun z => some (Value.int (zI z))) (rfl), rfl⟩)
set_option maxHeartbeats 4000000 in
set_option maxRecDepth 100000 in
theorem c_L_stretch_no (l : Launch) (D : va_G) (ct ad : Nat → Nat) (u : Nat) (a r q : Nat → Nat) (b : Nat → Nat → Nat) (nx sz : Int) (S : Nat → Int → Int) (M TX : Int → Int) (tl pl ft n1 n2 : Int) (wd : Value) (k : Int) (hs : sInv M) (hst : l.stackTraces = false) (h1 : -2147483648 ≤ k ∧ k ≤ 2147483647) (hno : ¬ (0 ≤ k ∧ k < M 3)) : ZM l yL_stretch wsL_stretch ({ frames := 8, cells := 1, slots := 6, locals := 123 } : Room) D ct ad [.ref u, .int (zI k)] (x8W u a r q ++ (svW ct r b nx sz S ++ (sobjW a ++ (gridW ct a M ++ (benchW ct a M ++ (logW ct a M ++ (txtW ct q TX tl pl ft wd n1 n2))))))) (zD (some (.int (zI (-2100000003)))) (x8W u a r q ++ (svW ct r b nx sz S ++ (sobjW a ++ (gridW ct a M ++ (benchW ct a M ++ (logW ct a M ++ (txtW ct q TX tl pl ft wd n1 n2)))))))) := by
  refine ZM.ofH (cc := cL_stretch) (maxL := 3) (ret := (some .int)) (by decide +kernel) rfl (Nat.le_of_ble_eq_true rfl) ?_
  intro p e s m below meth c A ls hx hb hr hts hown hlocks hml hTab hE hP hD hA hS hl
  have hK := hE.1
  have hf_0 := hts (.classLink RL 25 "java/lang/IndexOutOfBoundsException") (by decide +kernel)
  have hf_1 := hts (.constant RL 27 (-2100000003)) (by decide +kernel)
  have hl : lv_has ls 3 [(0, .ref u), (1, .int (zI k))] := hl
  refine lv_aload_n hx hb dL_stretch_0 rfl (lv_at hl 0 rfl) ?_
  refine lv_iload_n hx hb dL_stretch_1 rfl (lv_at hl 1 rfl) ?_
  rcases (show True from trivial) with hck
  · refine z_catV (C := RX8) (q0 := 0) (ci := 6) (E := "java/lang/IndexOutOfBoundsException") (name := "java/lang/IndexOutOfBoundsException") (As := [.int (zI k)]) (rest := []) ([] : va_W) ([] : va_W) hx hb hml hown hts hl hE hS hA (zr0 ([] : va_W) hP) (zr0D ([] : va_W) hD) (ZX.toE (c_X8_stretch_x l D ct ad u a r q b nx sz S M TX tl pl ft n1 n2 wd k (by assumption) hst (by omega) (by omega)) (rfl)) gL_stretch_X8_stretch rfl rfl k_X8_stretch ⟨Nat.le_of_ble_eq_true rfl, Nat.le_of_ble_eq_true rfl⟩ rfl rfl rfl rfl (Nat.le_of_ble_eq_true rfl) ⟨Nat.le_of_ble_eq_true rfl, Nat.le_of_ble_eq_true rfl⟩ dL_stretch_2 rfl [] ({ startPc := 0, endPc := 5, handlerPc := 6, catchType := 25 } : ExceptionTableEntry) [] (hTab.trans rfl) (fun z hz => nomatch hz) (by decide) (by decide) hf_0 (hE.2.1.1 _ (List.mem_of_getElem? (i := 18) rfl)) (fun q9_2 H locs hP hD hS => ?_)
    have hP := zr0' hP
    have hD := zr0D' hD
    have hP : va_P D vwCl (x8W u a r q ++ (svW ct r b nx sz S ++ (sobjW a ++ (gridW ct a M ++ (benchW ct a M ++ (logW ct a M ++ (txtW ct q TX tl pl ft wd n1 n2))))))) H := hP
    have hD : va_D A (x8W u a r q ++ (svW ct r b nx sz S ++ (sobjW a ++ (gridW ct a M ++ (benchW ct a M ++ (logW ct a M ++ (txtW ct q TX tl pl ft wd n1 n2))))))) := hD
    refine W.eq (g2 := F0 m 6 ls [.ref q9_2]) rfl ?_
    refine lv_astore_n (lv' := [(2, .ref q9_2), (0, .ref u), (1, .int (zI k))]) hx hb dL_stretch_6 rfl hl (by decide) rfl (fun ls hl => ?_)
    refine z_ldc hx hb (-2100000003) hown hf_1 (by decide) dL_stretch_7 ?_
    exact z_iret hx hb hr hlocks hP hD hS ⟨Nat.le_of_ble_eq_true rfl, Nat.le_of_ble_eq_true rfl⟩ dL_stretch_9 (⟨congrArg (fun z => some (Value.int (zI z))) (by first | rfl | (rw [hck]; rfl) | (rw [if_pos hck]) | (rw [if_neg hck])), rfl⟩)
set_option maxHeartbeats 4000000 in
set_option maxRecDepth 100000 in
theorem c_L_shelf_ok (l : Launch) (D : va_G) (ct ad : Nat → Nat) (u : Nat) (a r q : Nat → Nat) (b : Nat → Nat → Nat) (nx sz : Int) (S : Nat → Int → Int) (M TX : Int → Int) (tl pl ft n1 n2 : Int) (wd : Value) (k : Int) (hs : sInv M) (h1 : -2147483648 ≤ k ∧ k ≤ 2147483647) (hok : ck_shelf k = 0) : ZM l yL_shelf wsL_shelf ({ frames := 3, cells := 0, slots := 0, locals := 64 } : Room) D ct ad [.ref u, .int (zI k)] (x8W u a r q ++ (svW ct r b nx sz S ++ (sobjW a ++ (gridW ct a M ++ (benchW ct a M ++ (logW ct a M ++ (txtW ct q TX tl pl ft wd n1 n2))))))) (zD (some (.int (zI (M (49 + k))))) (x8W u a r q ++ (svW ct r b nx sz S ++ (sobjW a ++ (gridW ct a M ++ (benchW ct a M ++ (logW ct a M ++ (txtW ct q TX tl pl ft wd n1 n2)))))))) := by
  refine ZM.ofH (cc := cL_shelf) (maxL := 3) (ret := (some .int)) (by decide +kernel) rfl (Nat.le_of_ble_eq_true rfl) ?_
  intro p e s m below meth c A ls hx hb hr hts hown hlocks hml hTab hE hP hD hA hS hl
  have hK := hE.1
  have hl : lv_has ls 3 [(0, .ref u), (1, .int (zI k))] := hl
  refine lv_aload_n hx hb dL_shelf_0 rfl (lv_at hl 0 rfl) ?_
  refine lv_iload_n hx hb dL_shelf_1 rfl (lv_at hl 1 rfl) ?_
  refine z_callV (C := RX8) (q0 := 0) (ci := 6) (As := [.int (zI k)]) (rest := []) ([] : va_W) ([] : va_W) hx hb hml hown hts hl hE hS hA (zr0 ([] : va_W) hP) (zr0D ([] : va_W) hD) (c_X8_shelf l D ct ad u a r q b nx sz S M TX tl pl ft n1 n2 wd k (by assumption) (by omega) (by omega)) gL_shelf_X8_shelf rfl rfl k_X8_shelf ⟨Nat.le_of_ble_eq_true rfl, Nat.le_of_ble_eq_true rfl⟩ rfl rfl rfl rfl (Nat.le_of_ble_eq_true rfl) ⟨Nat.le_of_ble_eq_true rfl, Nat.le_of_ble_eq_true rfl⟩ dL_shelf_2 rfl (fun v w1 H locs hpost hP hD hS => ?_)
  obtain ⟨rfl, rfl⟩ := hpost
  have hP := zr0' hP
  have hD := zr0D' hD
  have hP : va_P D vwCl (x8W u a r q ++ (svW ct r b nx sz S ++ (sobjW a ++ (gridW ct a M ++ (benchW ct a M ++ (logW ct a M ++ (txtW ct q TX tl pl ft wd n1 n2))))))) H := hP
  have hD : va_D A (x8W u a r q ++ (svW ct r b nx sz S ++ (sobjW a ++ (gridW ct a M ++ (benchW ct a M ++ (logW ct a M ++ (txtW ct q TX tl pl ft wd n1 n2))))))) := hD
  refine W.eq (g2 := F0 m 5 ls [.int (zI (M (49 + k)))]) rfl ?_
  exact z_iret hx hb hr hlocks hP hD hS ⟨Nat.le_of_ble_eq_true rfl, Nat.le_of_ble_eq_true rfl⟩ dL_shelf_5 (⟨congrArg (fun z => some (Value.int (zI z))) (rfl), rfl⟩)
set_option maxHeartbeats 4000000 in
set_option maxRecDepth 100000 in
theorem c_L_shelf_no (l : Launch) (D : va_G) (ct ad : Nat → Nat) (u : Nat) (a r q : Nat → Nat) (b : Nat → Nat → Nat) (nx sz : Int) (S : Nat → Int → Int) (M TX : Int → Int) (tl pl ft n1 n2 : Int) (wd : Value) (k : Int) (hs : sInv M) (hst : l.stackTraces = false) (h1 : -2147483648 ≤ k ∧ k ≤ 2147483647) (hno : ck_shelf k ≠ 0) : ZM l yL_shelf wsL_shelf ({ frames := 8, cells := 1, slots := 6, locals := 123 } : Room) D ct ad [.ref u, .int (zI k)] (x8W u a r q ++ (svW ct r b nx sz S ++ (sobjW a ++ (gridW ct a M ++ (benchW ct a M ++ (logW ct a M ++ (txtW ct q TX tl pl ft wd n1 n2))))))) (zD (some (.int (zI (exK (ck_shelf k))))) (x8W u a r q ++ (svW ct r b nx sz S ++ (sobjW a ++ (gridW ct a M ++ (benchW ct a M ++ (logW ct a M ++ (txtW ct q TX tl pl ft wd n1 n2)))))))) := by
  refine ZM.ofH (cc := cL_shelf) (maxL := 3) (ret := (some .int)) (by decide +kernel) rfl (Nat.le_of_ble_eq_true rfl) ?_
  intro p e s m below meth c A ls hx hb hr hts hown hlocks hml hTab hE hP hD hA hS hl
  have hK := hE.1
  have hf_0 := hts (.classLink RL 25 "java/lang/IndexOutOfBoundsException") (by decide +kernel)
  have hf_1 := hts (.constant RL 27 (-2100000003)) (by decide +kernel)
  have hl : lv_has ls 3 [(0, .ref u), (1, .int (zI k))] := hl
  refine lv_aload_n hx hb dL_shelf_0 rfl (lv_at hl 0 rfl) ?_
  refine lv_iload_n hx hb dL_shelf_1 rfl (lv_at hl 1 rfl) ?_
  rcases (show ck_shelf k = 1 from (by have q9 := hno; unfold ck_shelf at q9 ⊢; (repeat' split) <;> (repeat' split at q9) <;> omega)) with hck
  · refine z_catV (C := RX8) (q0 := 0) (ci := 6) (E := "java/lang/IndexOutOfBoundsException") (name := "java/lang/IndexOutOfBoundsException") (As := [.int (zI k)]) (rest := []) ([] : va_W) ([] : va_W) hx hb hml hown hts hl hE hS hA (zr0 ([] : va_W) hP) (zr0D ([] : va_W) hD) (ZX.toE (c_X8_shelf_x l D ct ad u a r q b nx sz S M TX tl pl ft n1 n2 wd k (by assumption) hst (by omega) (by omega)) ((by rw [hck]; rfl))) gL_shelf_X8_shelf rfl rfl k_X8_shelf ⟨Nat.le_of_ble_eq_true rfl, Nat.le_of_ble_eq_true rfl⟩ rfl rfl rfl rfl (Nat.le_of_ble_eq_true rfl) ⟨Nat.le_of_ble_eq_true rfl, Nat.le_of_ble_eq_true rfl⟩ dL_shelf_2 rfl [] ({ startPc := 0, endPc := 5, handlerPc := 6, catchType := 25 } : ExceptionTableEntry) [] (hTab.trans rfl) (fun z hz => nomatch hz) (by decide) (by decide) hf_0 (hE.2.1.1 _ (List.mem_of_getElem? (i := 18) rfl)) (fun q9_2 H locs hP hD hS => ?_)
    have hP := zr0' hP
    have hD := zr0D' hD
    have hP : va_P D vwCl (x8W u a r q ++ (svW ct r b nx sz S ++ (sobjW a ++ (gridW ct a M ++ (benchW ct a M ++ (logW ct a M ++ (txtW ct q TX tl pl ft wd n1 n2))))))) H := hP
    have hD : va_D A (x8W u a r q ++ (svW ct r b nx sz S ++ (sobjW a ++ (gridW ct a M ++ (benchW ct a M ++ (logW ct a M ++ (txtW ct q TX tl pl ft wd n1 n2))))))) := hD
    refine W.eq (g2 := F0 m 6 ls [.ref q9_2]) rfl ?_
    refine lv_astore_n (lv' := [(2, .ref q9_2), (0, .ref u), (1, .int (zI k))]) hx hb dL_shelf_6 rfl hl (by decide) rfl (fun ls hl => ?_)
    refine z_ldc hx hb (-2100000003) hown hf_1 (by decide) dL_shelf_7 ?_
    exact z_iret hx hb hr hlocks hP hD hS ⟨Nat.le_of_ble_eq_true rfl, Nat.le_of_ble_eq_true rfl⟩ dL_shelf_9 (⟨congrArg (fun z => some (Value.int (zI z))) (by first | rfl | (rw [hck]; rfl) | (rw [if_pos hck]) | (rw [if_neg hck])), rfl⟩)
set_option maxHeartbeats 4000000 in
set_option maxRecDepth 100000 in
theorem c_L_whole_ok (l : Launch) (D : va_G) (ct ad : Nat → Nat) (u : Nat) (a r q : Nat → Nat) (b : Nat → Nat → Nat) (nx sz : Int) (S : Nat → Int → Int) (M TX : Int → Int) (tl pl ft n1 n2 : Int) (wd : Value) (w : Int) (hs : sInv M) (h1 : -2147483648 ≤ w ∧ w ≤ 2147483647) (hok : 0 ≤ w ∧ w ≤ 17) : ZM l yL_whole wsL_whole ({ frames := 6, cells := 0, slots := 0, locals := 142 } : Room) D ct ad [.ref u, .int (zI w)] (x8W u a r q ++ (svW ct r b nx sz S ++ (sobjW a ++ (gridW ct a M ++ (benchW ct a M ++ (logW ct a M ++ (txtW ct q TX tl pl ft wd n1 n2))))))) (zD (some (.int (zI (sp_wh M tl w)))) (x8W u a r q ++ (svW ct r b nx sz S ++ (sobjW a ++ (gridW ct a M ++ (benchW ct a M ++ (logW ct a M ++ (txtW ct q TX tl pl ft wd n1 n2)))))))) := by
  refine ZM.ofH (cc := cL_whole) (maxL := 3) (ret := (some .int)) (by decide +kernel) rfl (Nat.le_of_ble_eq_true rfl) ?_
  intro p e s m below meth c A ls hx hb hr hts hown hlocks hml hTab hE hP hD hA hS hl
  have hK := hE.1
  have hl : lv_has ls 3 [(0, .ref u), (1, .int (zI w))] := hl
  refine lv_aload_n hx hb dL_whole_0 rfl (lv_at hl 0 rfl) ?_
  refine lv_iload_n hx hb dL_whole_1 rfl (lv_at hl 1 rfl) ?_
  refine z_callV (C := RX8) (q0 := 0) (ci := 6) (As := [.int (zI w)]) (rest := []) ([] : va_W) ([] : va_W) hx hb hml hown hts hl hE hS hA (zr0 ([] : va_W) hP) (zr0D ([] : va_W) hD) (c_X8_whole l D ct ad u a r q b nx sz S M TX tl pl ft n1 n2 wd w (by assumption) (by omega) (by omega)) gL_whole_X8_whole rfl rfl k_X8_whole ⟨Nat.le_of_ble_eq_true rfl, Nat.le_of_ble_eq_true rfl⟩ rfl rfl rfl rfl (Nat.le_of_ble_eq_true rfl) ⟨Nat.le_of_ble_eq_true rfl, Nat.le_of_ble_eq_true rfl⟩ dL_whole_2 rfl (fun v w1 H locs hpost hP hD hS => ?_)
  obtain ⟨rfl, rfl⟩ := hpost
  have hP := zr0' hP
  have hD := zr0D' hD
  have hP : va_P D vwCl (x8W u a r q ++ (svW ct r b nx sz S ++ (sobjW a ++ (gridW ct a M ++ (benchW ct a M ++ (logW ct a M ++ (txtW ct q TX tl pl ft wd n1 n2))))))) H := hP
  have hD : va_D A (x8W u a r q ++ (svW ct r b nx sz S ++ (sobjW a ++ (gridW ct a M ++ (benchW ct a M ++ (logW ct a M ++ (txtW ct q TX tl pl ft wd n1 n2))))))) := hD
  refine W.eq (g2 := F0 m 5 ls [.int (zI (sp_wh M tl w))]) rfl ?_
  exact z_iret hx hb hr hlocks hP hD hS ⟨Nat.le_of_ble_eq_true rfl, Nat.le_of_ble_eq_true rfl⟩ dL_whole_5 (⟨congrArg (fun z => some (Value.int (zI z))) (rfl), rfl⟩)
set_option maxHeartbeats 4000000 in
set_option maxRecDepth 100000 in
theorem c_L_whole_no (l : Launch) (D : va_G) (ct ad : Nat → Nat) (u : Nat) (a r q : Nat → Nat) (b : Nat → Nat → Nat) (nx sz : Int) (S : Nat → Int → Int) (M TX : Int → Int) (tl pl ft n1 n2 : Int) (wd : Value) (w : Int) (hs : sInv M) (hst : l.stackTraces = false) (h1 : -2147483648 ≤ w ∧ w ≤ 2147483647) (hno : ¬ (0 ≤ w ∧ w ≤ 17)) : ZM l yL_whole wsL_whole ({ frames := 8, cells := 1, slots := 6, locals := 123 } : Room) D ct ad [.ref u, .int (zI w)] (x8W u a r q ++ (svW ct r b nx sz S ++ (sobjW a ++ (gridW ct a M ++ (benchW ct a M ++ (logW ct a M ++ (txtW ct q TX tl pl ft wd n1 n2))))))) (zD (some (.int (zI (-2100000001)))) (x8W u a r q ++ (svW ct r b nx sz S ++ (sobjW a ++ (gridW ct a M ++ (benchW ct a M ++ (logW ct a M ++ (txtW ct q TX tl pl ft wd n1 n2)))))))) := by
  refine ZM.ofH (cc := cL_whole) (maxL := 3) (ret := (some .int)) (by decide +kernel) rfl (Nat.le_of_ble_eq_true rfl) ?_
  intro p e s m below meth c A ls hx hb hr hts hown hlocks hml hTab hE hP hD hA hS hl
  have hK := hE.1
  have hf_0 := hts (.classLink RL 15 "java/lang/IllegalArgumentException") (by decide +kernel)
  have hf_1 := hts (.constant RL 17 (-2100000001)) (by decide +kernel)
  have hl : lv_has ls 3 [(0, .ref u), (1, .int (zI w))] := hl
  refine lv_aload_n hx hb dL_whole_0 rfl (lv_at hl 0 rfl) ?_
  refine lv_iload_n hx hb dL_whole_1 rfl (lv_at hl 1 rfl) ?_
  rcases (show True from trivial) with hck
  · refine z_catV (C := RX8) (q0 := 0) (ci := 6) (E := "java/lang/IllegalArgumentException") (name := "java/lang/IllegalArgumentException") (As := [.int (zI w)]) (rest := []) ([] : va_W) ([] : va_W) hx hb hml hown hts hl hE hS hA (zr0 ([] : va_W) hP) (zr0D ([] : va_W) hD) (ZX.toE (c_X8_whole_x l D ct ad u a r q b nx sz S M TX tl pl ft n1 n2 wd w (by assumption) hst (by omega) (by omega)) (rfl)) gL_whole_X8_whole rfl rfl k_X8_whole ⟨Nat.le_of_ble_eq_true rfl, Nat.le_of_ble_eq_true rfl⟩ rfl rfl rfl rfl (Nat.le_of_ble_eq_true rfl) ⟨Nat.le_of_ble_eq_true rfl, Nat.le_of_ble_eq_true rfl⟩ dL_whole_2 rfl [] ({ startPc := 0, endPc := 5, handlerPc := 6, catchType := 15 } : ExceptionTableEntry) [] (hTab.trans rfl) (fun z hz => nomatch hz) (by decide) (by decide) hf_0 (hE.2.1.1 _ (List.mem_of_getElem? (i := 19) rfl)) (fun q9_2 H locs hP hD hS => ?_)
    have hP := zr0' hP
    have hD := zr0D' hD
    have hP : va_P D vwCl (x8W u a r q ++ (svW ct r b nx sz S ++ (sobjW a ++ (gridW ct a M ++ (benchW ct a M ++ (logW ct a M ++ (txtW ct q TX tl pl ft wd n1 n2))))))) H := hP
    have hD : va_D A (x8W u a r q ++ (svW ct r b nx sz S ++ (sobjW a ++ (gridW ct a M ++ (benchW ct a M ++ (logW ct a M ++ (txtW ct q TX tl pl ft wd n1 n2))))))) := hD
    refine W.eq (g2 := F0 m 6 ls [.ref q9_2]) rfl ?_
    refine lv_astore_n (lv' := [(2, .ref q9_2), (0, .ref u), (1, .int (zI w))]) hx hb dL_whole_6 rfl hl (by decide) rfl (fun ls hl => ?_)
    refine z_ldc hx hb (-2100000001) hown hf_1 (by decide) dL_whole_7 ?_
    exact z_iret hx hb hr hlocks hP hD hS ⟨Nat.le_of_ble_eq_true rfl, Nat.le_of_ble_eq_true rfl⟩ dL_whole_9 (⟨congrArg (fun z => some (Value.int (zI z))) (by first | rfl | (rw [hck]; rfl) | (rw [if_pos hck]) | (rw [if_neg hck])), rfl⟩)
set_option maxHeartbeats 4000000 in
set_option maxRecDepth 100000 in
theorem c_L_day_ok (l : Launch) (D : va_G) (ct ad : Nat → Nat) (u : Nat) (a r q : Nat → Nat) (b : Nat → Nat → Nat) (nx sz : Int) (S : Nat → Int → Int) (M TX : Int → Int) (tl pl ft n1 n2 : Int) (wd : Value) (k w : Int) (hs : sInv M) (h1 : -2147483648 ≤ k ∧ k ≤ 2147483647) (h2 : -2147483648 ≤ w ∧ w ≤ 2147483647) (hok : 0 ≤ k ∧ 0 ≤ w ∧ w ≤ 3) : ZM l yL_day wsL_day ({ frames := 3, cells := 0, slots := 0, locals := 67 } : Room) D ct ad [.ref u, .int (zI k), .int (zI w)] (x8W u a r q ++ (svW ct r b nx sz S ++ (sobjW a ++ (gridW ct a M ++ (benchW ct a M ++ (logW ct a M ++ (txtW ct q TX tl pl ft wd n1 n2))))))) (zD (some (.long (zJ (sp_dayv M k w)))) (x8W u a r q ++ (svW ct r b nx sz S ++ (sobjW a ++ (gridW ct a M ++ (benchW ct a M ++ (logW ct a M ++ (txtW ct q TX tl pl ft wd n1 n2)))))))) := by
  refine ZM.ofH (cc := cL_day) (maxL := 4) (ret := (some .long)) (by decide +kernel) rfl (Nat.le_of_ble_eq_true rfl) ?_
  intro p e s m below meth c A ls hx hb hr hts hown hlocks hml hTab hE hP hD hA hS hl
  have hK := hE.1
  have hl : lv_has ls 4 [(0, .ref u), (1, .int (zI k)), (2, .int (zI w))] := hl
  refine lv_aload_n hx hb dL_day_0 rfl (lv_at hl 0 rfl) ?_
  refine lv_iload_n hx hb dL_day_1 rfl (lv_at hl 1 rfl) ?_
  refine lv_iload_n hx hb dL_day_2 rfl (lv_at hl 2 rfl) ?_
  refine z_callV (C := RX8) (q0 := 0) (ci := 6) (As := [.int (zI k), .int (zI w)]) (rest := []) ([] : va_W) ([] : va_W) hx hb hml hown hts hl hE hS hA (zr0 ([] : va_W) hP) (zr0D ([] : va_W) hD) (c_X8_day l D ct ad u a r q b nx sz S M TX tl pl ft n1 n2 wd k w (by assumption) (by omega) (by omega) (by omega)) gL_day_X8_day rfl rfl k_X8_day ⟨Nat.le_of_ble_eq_true rfl, Nat.le_of_ble_eq_true rfl⟩ rfl rfl rfl rfl (Nat.le_of_ble_eq_true rfl) ⟨Nat.le_of_ble_eq_true rfl, Nat.le_of_ble_eq_true rfl⟩ dL_day_3 rfl (fun v w1 H locs hpost hP hD hS => ?_)
  obtain ⟨rfl, rfl⟩ := hpost
  have hP := zr0' hP
  have hD := zr0D' hD
  have hP : va_P D vwCl (x8W u a r q ++ (svW ct r b nx sz S ++ (sobjW a ++ (gridW ct a M ++ (benchW ct a M ++ (logW ct a M ++ (txtW ct q TX tl pl ft wd n1 n2))))))) H := hP
  have hD : va_D A (x8W u a r q ++ (svW ct r b nx sz S ++ (sobjW a ++ (gridW ct a M ++ (benchW ct a M ++ (logW ct a M ++ (txtW ct q TX tl pl ft wd n1 n2))))))) := hD
  refine W.eq (g2 := F0 m 6 ls [.long (zJ (sp_dayv M k w))]) rfl ?_
  exact z_lret hx hb hr hlocks hP hD hS ⟨Nat.le_of_ble_eq_true rfl, Nat.le_of_ble_eq_true rfl⟩ dL_day_6 (⟨congrArg (fun z => some (Value.long (zJ z))) (rfl), rfl⟩)
set_option maxHeartbeats 4000000 in
set_option maxRecDepth 100000 in
theorem c_L_day_no (l : Launch) (D : va_G) (ct ad : Nat → Nat) (u : Nat) (a r q : Nat → Nat) (b : Nat → Nat → Nat) (nx sz : Int) (S : Nat → Int → Int) (M TX : Int → Int) (tl pl ft n1 n2 : Int) (wd : Value) (k w : Int) (hs : sInv M) (hst : l.stackTraces = false) (h1 : -2147483648 ≤ k ∧ k ≤ 2147483647) (h2 : -2147483648 ≤ w ∧ w ≤ 2147483647) (hno : ¬ (0 ≤ k ∧ 0 ≤ w ∧ w ≤ 3)) : ZM l yL_day wsL_day ({ frames := 8, cells := 1, slots := 6, locals := 124 } : Room) D ct ad [.ref u, .int (zI k), .int (zI w)] (x8W u a r q ++ (svW ct r b nx sz S ++ (sobjW a ++ (gridW ct a M ++ (benchW ct a M ++ (logW ct a M ++ (txtW ct q TX tl pl ft wd n1 n2))))))) (zD (some (.long (zJ (-2100000001)))) (x8W u a r q ++ (svW ct r b nx sz S ++ (sobjW a ++ (gridW ct a M ++ (benchW ct a M ++ (logW ct a M ++ (txtW ct q TX tl pl ft wd n1 n2)))))))) := by
  refine ZM.ofH (cc := cL_day) (maxL := 4) (ret := (some .long)) (by decide +kernel) rfl (Nat.le_of_ble_eq_true rfl) ?_
  intro p e s m below meth c A ls hx hb hr hts hown hlocks hml hTab hE hP hD hA hS hl
  have hK := hE.1
  have hf_0 := hts (.classLink RL 15 "java/lang/IllegalArgumentException") (by decide +kernel)
  have hf_1 := hts (.constantLong RL 69 (-2100000001)) (by decide +kernel)
  have hl : lv_has ls 4 [(0, .ref u), (1, .int (zI k)), (2, .int (zI w))] := hl
  refine lv_aload_n hx hb dL_day_0 rfl (lv_at hl 0 rfl) ?_
  refine lv_iload_n hx hb dL_day_1 rfl (lv_at hl 1 rfl) ?_
  refine lv_iload_n hx hb dL_day_2 rfl (lv_at hl 2 rfl) ?_
  rcases (show True from trivial) with hck
  · refine z_catV (C := RX8) (q0 := 0) (ci := 6) (E := "java/lang/IllegalArgumentException") (name := "java/lang/IllegalArgumentException") (As := [.int (zI k), .int (zI w)]) (rest := []) ([] : va_W) ([] : va_W) hx hb hml hown hts hl hE hS hA (zr0 ([] : va_W) hP) (zr0D ([] : va_W) hD) (ZX.toE (c_X8_day_x l D ct ad u a r q b nx sz S M TX tl pl ft n1 n2 wd k w (by assumption) hst (by omega) (by omega) (by omega)) (rfl)) gL_day_X8_day rfl rfl k_X8_day ⟨Nat.le_of_ble_eq_true rfl, Nat.le_of_ble_eq_true rfl⟩ rfl rfl rfl rfl (Nat.le_of_ble_eq_true rfl) ⟨Nat.le_of_ble_eq_true rfl, Nat.le_of_ble_eq_true rfl⟩ dL_day_3 rfl [] ({ startPc := 0, endPc := 6, handlerPc := 7, catchType := 15 } : ExceptionTableEntry) [] (hTab.trans rfl) (fun z hz => nomatch hz) (by decide) (by decide) hf_0 (hE.2.1.1 _ (List.mem_of_getElem? (i := 19) rfl)) (fun q9_3 H locs hP hD hS => ?_)
    have hP := zr0' hP
    have hD := zr0D' hD
    have hP : va_P D vwCl (x8W u a r q ++ (svW ct r b nx sz S ++ (sobjW a ++ (gridW ct a M ++ (benchW ct a M ++ (logW ct a M ++ (txtW ct q TX tl pl ft wd n1 n2))))))) H := hP
    have hD : va_D A (x8W u a r q ++ (svW ct r b nx sz S ++ (sobjW a ++ (gridW ct a M ++ (benchW ct a M ++ (logW ct a M ++ (txtW ct q TX tl pl ft wd n1 n2))))))) := hD
    refine W.eq (g2 := F0 m 7 ls [.ref q9_3]) rfl ?_
    refine lv_astore_n (lv' := [(3, .ref q9_3), (0, .ref u), (1, .int (zI k)), (2, .int (zI w))]) hx hb dL_day_7 rfl hl (by decide) rfl (fun ls hl => ?_)
    refine z_ldc2 hx hb (-2100000001) hown hf_1 (by decide) dL_day_8 ?_
    exact z_lret hx hb hr hlocks hP hD hS ⟨Nat.le_of_ble_eq_true rfl, Nat.le_of_ble_eq_true rfl⟩ dL_day_11 (⟨congrArg (fun z => some (Value.long (zJ z))) (by first | rfl | (rw [hck]; rfl) | (rw [if_pos hck]) | (rw [if_neg hck])), rfl⟩)
theorem k_X8_rateAt : yX8_rateAt.cls ≠ "java/lang/invoke/MethodHandle" ∧ yX8_rateAt.cls ≠ "java/lang/invoke/VarHandle" ∧ (parseMethodDescriptor yX8_rateAt.desc).map (fun d => d.parameters.length) = some 1 := by decide +kernel
set_option maxHeartbeats 4000000 in
set_option maxRecDepth 100000 in
theorem c_L_rateAt_ok (l : Launch) (D : va_G) (ct ad : Nat → Nat) (u : Nat) (a r q : Nat → Nat) (b : Nat → Nat → Nat) (nx sz : Int) (S : Nat → Int → Int) (M TX : Int → Int) (tl pl ft n1 n2 : Int) (wd : Value) (t : Int) (hs : sInv M) (h1 : -2147483648 ≤ t ∧ t ≤ 2147483647) (hok : -300 ≤ t ∧ t ≤ 600) : ZM l yL_rateAt wsL_rateAt ({ frames := 5, cells := 0, slots := 0, locals := 121 } : Room) D ct ad [.ref u, .int (zI t)] (x8W u a r q ++ (svW ct r b nx sz S ++ (sobjW a ++ (gridW ct a M ++ (benchW ct a M ++ (logW ct a M ++ (txtW ct q TX tl pl ft wd n1 n2))))))) (zD (some (.int (zI (sp_rt M t)))) (x8W u a r q ++ (svW ct r b nx sz S ++ (sobjW a ++ (gridW ct a M ++ (benchW ct a M ++ (logW ct a M ++ (txtW ct q TX tl pl ft wd n1 n2)))))))) := by
  refine ZM.ofH (cc := cL_rateAt) (maxL := 3) (ret := (some .int)) (by decide +kernel) rfl (Nat.le_of_ble_eq_true rfl) ?_
  intro p e s m below meth c A ls hx hb hr hts hown hlocks hml hTab hE hP hD hA hS hl
  have hK := hE.1
  have hl : lv_has ls 3 [(0, .ref u), (1, .int (zI t))] := hl
  refine lv_aload_n hx hb dL_rateAt_0 rfl (lv_at hl 0 rfl) ?_
  refine lv_iload_n hx hb dL_rateAt_1 rfl (lv_at hl 1 rfl) ?_
  refine z_callV (C := RX8) (q0 := 0) (ci := 6) (As := [.int (zI t)]) (rest := []) ([] : va_W) ([] : va_W) hx hb hml hown hts hl hE hS hA (zr0 ([] : va_W) hP) (zr0D ([] : va_W) hD) (c_X8_rateAt l D ct ad u a r q b nx sz S M TX tl pl ft n1 n2 wd t (by assumption) (by omega) (by omega)) gL_rateAt_X8_rateAt rfl rfl k_X8_rateAt ⟨Nat.le_of_ble_eq_true rfl, Nat.le_of_ble_eq_true rfl⟩ rfl rfl rfl rfl (Nat.le_of_ble_eq_true rfl) ⟨Nat.le_of_ble_eq_true rfl, Nat.le_of_ble_eq_true rfl⟩ dL_rateAt_2 rfl (fun v w1 H locs hpost hP hD hS => ?_)
  obtain ⟨rfl, rfl⟩ := hpost
  have hP := zr0' hP
  have hD := zr0D' hD
  have hP : va_P D vwCl (x8W u a r q ++ (svW ct r b nx sz S ++ (sobjW a ++ (gridW ct a M ++ (benchW ct a M ++ (logW ct a M ++ (txtW ct q TX tl pl ft wd n1 n2))))))) H := hP
  have hD : va_D A (x8W u a r q ++ (svW ct r b nx sz S ++ (sobjW a ++ (gridW ct a M ++ (benchW ct a M ++ (logW ct a M ++ (txtW ct q TX tl pl ft wd n1 n2))))))) := hD
  refine W.eq (g2 := F0 m 5 ls [.int (zI (sp_rt M t))]) rfl ?_
  exact z_iret hx hb hr hlocks hP hD hS ⟨Nat.le_of_ble_eq_true rfl, Nat.le_of_ble_eq_true rfl⟩ dL_rateAt_5 (⟨congrArg (fun z => some (Value.int (zI z))) (rfl), rfl⟩)
set_option maxHeartbeats 4000000 in
set_option maxRecDepth 100000 in
theorem c_L_rateAt_no (l : Launch) (D : va_G) (ct ad : Nat → Nat) (u : Nat) (a r q : Nat → Nat) (b : Nat → Nat → Nat) (nx sz : Int) (S : Nat → Int → Int) (M TX : Int → Int) (tl pl ft n1 n2 : Int) (wd : Value) (t : Int) (hs : sInv M) (hst : l.stackTraces = false) (h1 : -2147483648 ≤ t ∧ t ≤ 2147483647) (hno : ¬ (-300 ≤ t ∧ t ≤ 600)) : ZM l yL_rateAt wsL_rateAt ({ frames := 8, cells := 1, slots := 6, locals := 123 } : Room) D ct ad [.ref u, .int (zI t)] (x8W u a r q ++ (svW ct r b nx sz S ++ (sobjW a ++ (gridW ct a M ++ (benchW ct a M ++ (logW ct a M ++ (txtW ct q TX tl pl ft wd n1 n2))))))) (zD (some (.int (zI (-2100000001)))) (x8W u a r q ++ (svW ct r b nx sz S ++ (sobjW a ++ (gridW ct a M ++ (benchW ct a M ++ (logW ct a M ++ (txtW ct q TX tl pl ft wd n1 n2)))))))) := by
  refine ZM.ofH (cc := cL_rateAt) (maxL := 3) (ret := (some .int)) (by decide +kernel) rfl (Nat.le_of_ble_eq_true rfl) ?_
  intro p e s m below meth c A ls hx hb hr hts hown hlocks hml hTab hE hP hD hA hS hl
  have hK := hE.1
  have hf_0 := hts (.classLink RL 15 "java/lang/IllegalArgumentException") (by decide +kernel)
  have hf_1 := hts (.constant RL 17 (-2100000001)) (by decide +kernel)
  have hl : lv_has ls 3 [(0, .ref u), (1, .int (zI t))] := hl
  refine lv_aload_n hx hb dL_rateAt_0 rfl (lv_at hl 0 rfl) ?_
  refine lv_iload_n hx hb dL_rateAt_1 rfl (lv_at hl 1 rfl) ?_
  rcases (show True from trivial) with hck
  · refine z_catV (C := RX8) (q0 := 0) (ci := 6) (E := "java/lang/IllegalArgumentException") (name := "java/lang/IllegalArgumentException") (As := [.int (zI t)]) (rest := []) ([] : va_W) ([] : va_W) hx hb hml hown hts hl hE hS hA (zr0 ([] : va_W) hP) (zr0D ([] : va_W) hD) (ZX.toE (c_X8_rateAt_x l D ct ad u a r q b nx sz S M TX tl pl ft n1 n2 wd t (by assumption) hst (by omega) (by omega)) (rfl)) gL_rateAt_X8_rateAt rfl rfl k_X8_rateAt ⟨Nat.le_of_ble_eq_true rfl, Nat.le_of_ble_eq_true rfl⟩ rfl rfl rfl rfl (Nat.le_of_ble_eq_true rfl) ⟨Nat.le_of_ble_eq_true rfl, Nat.le_of_ble_eq_true rfl⟩ dL_rateAt_2 rfl [] ({ startPc := 0, endPc := 5, handlerPc := 6, catchType := 15 } : ExceptionTableEntry) [] (hTab.trans rfl) (fun z hz => nomatch hz) (by decide) (by decide) hf_0 (hE.2.1.1 _ (List.mem_of_getElem? (i := 19) rfl)) (fun q9_2 H locs hP hD hS => ?_)
    have hP := zr0' hP
    have hD := zr0D' hD
    have hP : va_P D vwCl (x8W u a r q ++ (svW ct r b nx sz S ++ (sobjW a ++ (gridW ct a M ++ (benchW ct a M ++ (logW ct a M ++ (txtW ct q TX tl pl ft wd n1 n2))))))) H := hP
    have hD : va_D A (x8W u a r q ++ (svW ct r b nx sz S ++ (sobjW a ++ (gridW ct a M ++ (benchW ct a M ++ (logW ct a M ++ (txtW ct q TX tl pl ft wd n1 n2))))))) := hD
    refine W.eq (g2 := F0 m 6 ls [.ref q9_2]) rfl ?_
    refine lv_astore_n (lv' := [(2, .ref q9_2), (0, .ref u), (1, .int (zI t))]) hx hb dL_rateAt_6 rfl hl (by decide) rfl (fun ls hl => ?_)
    refine z_ldc hx hb (-2100000001) hown hf_1 (by decide) dL_rateAt_7 ?_
    exact z_iret hx hb hr hlocks hP hD hS ⟨Nat.le_of_ble_eq_true rfl, Nat.le_of_ble_eq_true rfl⟩ dL_rateAt_9 (⟨congrArg (fun z => some (Value.int (zI z))) (by first | rfl | (rw [hck]; rfl) | (rw [if_pos hck]) | (rw [if_neg hck])), rfl⟩)
theorem k_X8_matchLength : yX8_matchLength.cls ≠ "java/lang/invoke/MethodHandle" ∧ yX8_matchLength.cls ≠ "java/lang/invoke/VarHandle" ∧ (parseMethodDescriptor yX8_matchLength.desc).map (fun d => d.parameters.length) = some 1 := by decide +kernel
set_option maxHeartbeats 4000000 in
set_option maxRecDepth 100000 in
theorem c_L_matchLength_ok (l : Launch) (D : va_G) (ct ad : Nat → Nat) (u : Nat) (a r q : Nat → Nat) (b : Nat → Nat → Nat) (nx sz : Int) (S : Nat → Int → Int) (M TX : Int → Int) (tl pl ft n1 n2 : Int) (wd : Value) (k : Int) (hs : sInv M) (h1 : -2147483648 ≤ k ∧ k ≤ 2147483647) (hok : 0 ≤ k ∧ k < M 4) : ZM l yL_matchLength wsL_matchLength ({ frames := 5, cells := 0, slots := 0, locals := 118 } : Room) D ct ad [.ref u, .int (zI k)] (x8W u a r q ++ (svW ct r b nx sz S ++ (sobjW a ++ (gridW ct a M ++ (benchW ct a M ++ (logW ct a M ++ (txtW ct q TX tl pl ft wd n1 n2))))))) (zD (some (.int (zI (sp_match M k)))) (x8W u a r q ++ (svW ct r b nx sz S ++ (sobjW a ++ (gridW ct a M ++ (benchW ct a M ++ (logW ct a M ++ (txtW ct q TX tl pl ft wd n1 n2)))))))) := by
  refine ZM.ofH (cc := cL_matchLength) (maxL := 3) (ret := (some .int)) (by decide +kernel) rfl (Nat.le_of_ble_eq_true rfl) ?_
  intro p e s m below meth c A ls hx hb hr hts hown hlocks hml hTab hE hP hD hA hS hl
  have hK := hE.1
  have hl : lv_has ls 3 [(0, .ref u), (1, .int (zI k))] := hl
  refine lv_aload_n hx hb dL_matchLength_0 rfl (lv_at hl 0 rfl) ?_
  refine lv_iload_n hx hb dL_matchLength_1 rfl (lv_at hl 1 rfl) ?_
  refine z_callV (C := RX8) (q0 := 0) (ci := 6) (As := [.int (zI k)]) (rest := []) ([] : va_W) ([] : va_W) hx hb hml hown hts hl hE hS hA (zr0 ([] : va_W) hP) (zr0D ([] : va_W) hD) (c_X8_matchLength l D ct ad u a r q b nx sz S M TX tl pl ft n1 n2 wd k (by assumption) (by omega) (by omega)) gL_matchLength_X8_matchLength rfl rfl k_X8_matchLength ⟨Nat.le_of_ble_eq_true rfl, Nat.le_of_ble_eq_true rfl⟩ rfl rfl rfl rfl (Nat.le_of_ble_eq_true rfl) ⟨Nat.le_of_ble_eq_true rfl, Nat.le_of_ble_eq_true rfl⟩ dL_matchLength_2 rfl (fun v w1 H locs hpost hP hD hS => ?_)
  obtain ⟨rfl, rfl⟩ := hpost
  have hP := zr0' hP
  have hD := zr0D' hD
  have hP : va_P D vwCl (x8W u a r q ++ (svW ct r b nx sz S ++ (sobjW a ++ (gridW ct a M ++ (benchW ct a M ++ (logW ct a M ++ (txtW ct q TX tl pl ft wd n1 n2))))))) H := hP
  have hD : va_D A (x8W u a r q ++ (svW ct r b nx sz S ++ (sobjW a ++ (gridW ct a M ++ (benchW ct a M ++ (logW ct a M ++ (txtW ct q TX tl pl ft wd n1 n2))))))) := hD
  refine W.eq (g2 := F0 m 5 ls [.int (zI (sp_match M k))]) rfl ?_
  exact z_iret hx hb hr hlocks hP hD hS ⟨Nat.le_of_ble_eq_true rfl, Nat.le_of_ble_eq_true rfl⟩ dL_matchLength_5 (⟨congrArg (fun z => some (Value.int (zI z))) (rfl), rfl⟩)
set_option maxHeartbeats 4000000 in
set_option maxRecDepth 100000 in
theorem c_L_matchLength_no (l : Launch) (D : va_G) (ct ad : Nat → Nat) (u : Nat) (a r q : Nat → Nat) (b : Nat → Nat → Nat) (nx sz : Int) (S : Nat → Int → Int) (M TX : Int → Int) (tl pl ft n1 n2 : Int) (wd : Value) (k : Int) (hs : sInv M) (hst : l.stackTraces = false) (h1 : -2147483648 ≤ k ∧ k ≤ 2147483647) (hno : ¬ (0 ≤ k ∧ k < M 4)) : ZM l yL_matchLength wsL_matchLength ({ frames := 8, cells := 1, slots := 6, locals := 123 } : Room) D ct ad [.ref u, .int (zI k)] (x8W u a r q ++ (svW ct r b nx sz S ++ (sobjW a ++ (gridW ct a M ++ (benchW ct a M ++ (logW ct a M ++ (txtW ct q TX tl pl ft wd n1 n2))))))) (zD (some (.int (zI (-2100000003)))) (x8W u a r q ++ (svW ct r b nx sz S ++ (sobjW a ++ (gridW ct a M ++ (benchW ct a M ++ (logW ct a M ++ (txtW ct q TX tl pl ft wd n1 n2)))))))) := by
  refine ZM.ofH (cc := cL_matchLength) (maxL := 3) (ret := (some .int)) (by decide +kernel) rfl (Nat.le_of_ble_eq_true rfl) ?_
  intro p e s m below meth c A ls hx hb hr hts hown hlocks hml hTab hE hP hD hA hS hl
  have hK := hE.1
  have hf_0 := hts (.classLink RL 25 "java/lang/IndexOutOfBoundsException") (by decide +kernel)
  have hf_1 := hts (.constant RL 27 (-2100000003)) (by decide +kernel)
  have hl : lv_has ls 3 [(0, .ref u), (1, .int (zI k))] := hl
  refine lv_aload_n hx hb dL_matchLength_0 rfl (lv_at hl 0 rfl) ?_
  refine lv_iload_n hx hb dL_matchLength_1 rfl (lv_at hl 1 rfl) ?_
  rcases (show True from trivial) with hck
  · refine z_catV (C := RX8) (q0 := 0) (ci := 6) (E := "java/lang/IndexOutOfBoundsException") (name := "java/lang/IndexOutOfBoundsException") (As := [.int (zI k)]) (rest := []) ([] : va_W) ([] : va_W) hx hb hml hown hts hl hE hS hA (zr0 ([] : va_W) hP) (zr0D ([] : va_W) hD) (ZX.toE (c_X8_matchLength_x l D ct ad u a r q b nx sz S M TX tl pl ft n1 n2 wd k (by assumption) hst (by omega) (by omega)) (rfl)) gL_matchLength_X8_matchLength rfl rfl k_X8_matchLength ⟨Nat.le_of_ble_eq_true rfl, Nat.le_of_ble_eq_true rfl⟩ rfl rfl rfl rfl (Nat.le_of_ble_eq_true rfl) ⟨Nat.le_of_ble_eq_true rfl, Nat.le_of_ble_eq_true rfl⟩ dL_matchLength_2 rfl [] ({ startPc := 0, endPc := 5, handlerPc := 6, catchType := 25 } : ExceptionTableEntry) [] (hTab.trans rfl) (fun z hz => nomatch hz) (by decide) (by decide) hf_0 (hE.2.1.1 _ (List.mem_of_getElem? (i := 18) rfl)) (fun q9_2 H locs hP hD hS => ?_)
    have hP := zr0' hP
    have hD := zr0D' hD
    have hP : va_P D vwCl (x8W u a r q ++ (svW ct r b nx sz S ++ (sobjW a ++ (gridW ct a M ++ (benchW ct a M ++ (logW ct a M ++ (txtW ct q TX tl pl ft wd n1 n2))))))) H := hP
    have hD : va_D A (x8W u a r q ++ (svW ct r b nx sz S ++ (sobjW a ++ (gridW ct a M ++ (benchW ct a M ++ (logW ct a M ++ (txtW ct q TX tl pl ft wd n1 n2))))))) := hD
    refine W.eq (g2 := F0 m 6 ls [.ref q9_2]) rfl ?_
    refine lv_astore_n (lv' := [(2, .ref q9_2), (0, .ref u), (1, .int (zI k))]) hx hb dL_matchLength_6 rfl hl (by decide) rfl (fun ls hl => ?_)
    refine z_ldc hx hb (-2100000003) hown hf_1 (by decide) dL_matchLength_7 ?_
    exact z_iret hx hb hr hlocks hP hD hS ⟨Nat.le_of_ble_eq_true rfl, Nat.le_of_ble_eq_true rfl⟩ dL_matchLength_9 (⟨congrArg (fun z => some (Value.int (zI z))) (by first | rfl | (rw [hck]; rfl) | (rw [if_pos hck]) | (rw [if_neg hck])), rfl⟩)
theorem k_X8_rangeOfRates : yX8_rangeOfRates.cls ≠ "java/lang/invoke/MethodHandle" ∧ yX8_rangeOfRates.cls ≠ "java/lang/invoke/VarHandle" ∧ (parseMethodDescriptor yX8_rangeOfRates.desc).map (fun d => d.parameters.length) = some 2 := by decide +kernel
set_option maxHeartbeats 4000000 in
set_option maxRecDepth 100000 in
theorem c_L_rangeOfRates_ok (l : Launch) (D : va_G) (ct ad : Nat → Nat) (u : Nat) (a r q : Nat → Nat) (b : Nat → Nat → Nat) (nx sz : Int) (S : Nat → Int → Int) (M TX : Int → Int) (tl pl ft n1 n2 : Int) (wd : Value) (lo hi : Int) (hs : sInv M) (h1 : -2147483648 ≤ lo ∧ lo ≤ 2147483647) (h2 : -2147483648 ≤ hi ∧ hi ≤ 2147483647) (hok : -300 ≤ lo ∧ lo ≤ hi ∧ hi ≤ 600) : ZM l yL_rangeOfRates wsL_rangeOfRates ({ frames := 6, cells := 0, slots := 0, locals := 148 } : Room) D ct ad [.ref u, .int (zI lo), .int (zI hi)] (x8W u a r q ++ (svW ct r b nx sz S ++ (sobjW a ++ (gridW ct a M ++ (benchW ct a M ++ (logW ct a M ++ (txtW ct q TX tl pl ft wd n1 n2))))))) (zD (some (.int (zI (sp_range M lo hi)))) (x8W u a r q ++ (svW ct r b nx sz S ++ (sobjW a ++ (gridW ct a M ++ (benchW ct a M ++ (logW ct a M ++ (txtW ct q TX tl pl ft wd n1 n2)))))))) := by
  refine ZM.ofH (cc := cL_rangeOfRates) (maxL := 4) (ret := (some .int)) (by decide +kernel) rfl (Nat.le_of_ble_eq_true rfl) ?_
  intro p e s m below meth c A ls hx hb hr hts hown hlocks hml hTab hE hP hD hA hS hl
  have hK := hE.1
  have hl : lv_has ls 4 [(0, .ref u), (1, .int (zI lo)), (2, .int (zI hi))] := hl
  refine lv_aload_n hx hb dL_rangeOfRates_0 rfl (lv_at hl 0 rfl) ?_
  refine lv_iload_n hx hb dL_rangeOfRates_1 rfl (lv_at hl 1 rfl) ?_
  refine lv_iload_n hx hb dL_rangeOfRates_2 rfl (lv_at hl 2 rfl) ?_
  refine z_callV (C := RX8) (q0 := 0) (ci := 6) (As := [.int (zI lo), .int (zI hi)]) (rest := []) ([] : va_W) ([] : va_W) hx hb hml hown hts hl hE hS hA (zr0 ([] : va_W) hP) (zr0D ([] : va_W) hD) (c_X8_rangeOfRates l D ct ad u a r q b nx sz S M TX tl pl ft n1 n2 wd lo hi (by assumption) (by omega) (by omega) (by omega)) gL_rangeOfRates_X8_rangeOfRates rfl rfl k_X8_rangeOfRates ⟨Nat.le_of_ble_eq_true rfl, Nat.le_of_ble_eq_true rfl⟩ rfl rfl rfl rfl (Nat.le_of_ble_eq_true rfl) ⟨Nat.le_of_ble_eq_true rfl, Nat.le_of_ble_eq_true rfl⟩ dL_rangeOfRates_3 rfl (fun v w1 H locs hpost hP hD hS => ?_)
  obtain ⟨rfl, rfl⟩ := hpost
  have hP := zr0' hP
  have hD := zr0D' hD
  have hP : va_P D vwCl (x8W u a r q ++ (svW ct r b nx sz S ++ (sobjW a ++ (gridW ct a M ++ (benchW ct a M ++ (logW ct a M ++ (txtW ct q TX tl pl ft wd n1 n2))))))) H := hP
  have hD : va_D A (x8W u a r q ++ (svW ct r b nx sz S ++ (sobjW a ++ (gridW ct a M ++ (benchW ct a M ++ (logW ct a M ++ (txtW ct q TX tl pl ft wd n1 n2))))))) := hD
  refine W.eq (g2 := F0 m 6 ls [.int (zI (sp_range M lo hi))]) rfl ?_
  exact z_iret hx hb hr hlocks hP hD hS ⟨Nat.le_of_ble_eq_true rfl, Nat.le_of_ble_eq_true rfl⟩ dL_rangeOfRates_6 (⟨congrArg (fun z => some (Value.int (zI z))) (rfl), rfl⟩)
set_option maxHeartbeats 4000000 in
set_option maxRecDepth 100000 in
theorem c_L_rangeOfRates_no (l : Launch) (D : va_G) (ct ad : Nat → Nat) (u : Nat) (a r q : Nat → Nat) (b : Nat → Nat → Nat) (nx sz : Int) (S : Nat → Int → Int) (M TX : Int → Int) (tl pl ft n1 n2 : Int) (wd : Value) (lo hi : Int) (hs : sInv M) (hst : l.stackTraces = false) (h1 : -2147483648 ≤ lo ∧ lo ≤ 2147483647) (h2 : -2147483648 ≤ hi ∧ hi ≤ 2147483647) (hno : ¬ (-300 ≤ lo ∧ lo ≤ hi ∧ hi ≤ 600)) : ZM l yL_rangeOfRates wsL_rangeOfRates ({ frames := 8, cells := 1, slots := 6, locals := 124 } : Room) D ct ad [.ref u, .int (zI lo), .int (zI hi)] (x8W u a r q ++ (svW ct r b nx sz S ++ (sobjW a ++ (gridW ct a M ++ (benchW ct a M ++ (logW ct a M ++ (txtW ct q TX tl pl ft wd n1 n2))))))) (zD (some (.int (zI (-2100000001)))) (x8W u a r q ++ (svW ct r b nx sz S ++ (sobjW a ++ (gridW ct a M ++ (benchW ct a M ++ (logW ct a M ++ (txtW ct q TX tl pl ft wd n1 n2)))))))) := by
  refine ZM.ofH (cc := cL_rangeOfRates) (maxL := 4) (ret := (some .int)) (by decide +kernel) rfl (Nat.le_of_ble_eq_true rfl) ?_
  intro p e s m below meth c A ls hx hb hr hts hown hlocks hml hTab hE hP hD hA hS hl
  have hK := hE.1
  have hf_0 := hts (.classLink RL 15 "java/lang/IllegalArgumentException") (by decide +kernel)
  have hf_1 := hts (.constant RL 17 (-2100000001)) (by decide +kernel)
  have hl : lv_has ls 4 [(0, .ref u), (1, .int (zI lo)), (2, .int (zI hi))] := hl
  refine lv_aload_n hx hb dL_rangeOfRates_0 rfl (lv_at hl 0 rfl) ?_
  refine lv_iload_n hx hb dL_rangeOfRates_1 rfl (lv_at hl 1 rfl) ?_
  refine lv_iload_n hx hb dL_rangeOfRates_2 rfl (lv_at hl 2 rfl) ?_
  rcases (show True from trivial) with hck
  · refine z_catV (C := RX8) (q0 := 0) (ci := 6) (E := "java/lang/IllegalArgumentException") (name := "java/lang/IllegalArgumentException") (As := [.int (zI lo), .int (zI hi)]) (rest := []) ([] : va_W) ([] : va_W) hx hb hml hown hts hl hE hS hA (zr0 ([] : va_W) hP) (zr0D ([] : va_W) hD) (ZX.toE (c_X8_rangeOfRates_x l D ct ad u a r q b nx sz S M TX tl pl ft n1 n2 wd lo hi (by assumption) hst (by omega) (by omega) (by omega)) (rfl)) gL_rangeOfRates_X8_rangeOfRates rfl rfl k_X8_rangeOfRates ⟨Nat.le_of_ble_eq_true rfl, Nat.le_of_ble_eq_true rfl⟩ rfl rfl rfl rfl (Nat.le_of_ble_eq_true rfl) ⟨Nat.le_of_ble_eq_true rfl, Nat.le_of_ble_eq_true rfl⟩ dL_rangeOfRates_3 rfl [] ({ startPc := 0, endPc := 6, handlerPc := 7, catchType := 15 } : ExceptionTableEntry) [] (hTab.trans rfl) (fun z hz => nomatch hz) (by decide) (by decide) hf_0 (hE.2.1.1 _ (List.mem_of_getElem? (i := 19) rfl)) (fun q9_3 H locs hP hD hS => ?_)
    have hP := zr0' hP
    have hD := zr0D' hD
    have hP : va_P D vwCl (x8W u a r q ++ (svW ct r b nx sz S ++ (sobjW a ++ (gridW ct a M ++ (benchW ct a M ++ (logW ct a M ++ (txtW ct q TX tl pl ft wd n1 n2))))))) H := hP
    have hD : va_D A (x8W u a r q ++ (svW ct r b nx sz S ++ (sobjW a ++ (gridW ct a M ++ (benchW ct a M ++ (logW ct a M ++ (txtW ct q TX tl pl ft wd n1 n2))))))) := hD
    refine W.eq (g2 := F0 m 7 ls [.ref q9_3]) rfl ?_
    refine lv_astore_n (lv' := [(3, .ref q9_3), (0, .ref u), (1, .int (zI lo)), (2, .int (zI hi))]) hx hb dL_rangeOfRates_7 rfl hl (by decide) rfl (fun ls hl => ?_)
    refine z_ldc hx hb (-2100000001) hown hf_1 (by decide) dL_rangeOfRates_8 ?_
    exact z_iret hx hb hr hlocks hP hD hS ⟨Nat.le_of_ble_eq_true rfl, Nat.le_of_ble_eq_true rfl⟩ dL_rangeOfRates_10 (⟨congrArg (fun z => some (Value.int (zI z))) (by first | rfl | (rw [hck]; rfl) | (rw [if_pos hck]) | (rw [if_neg hck])), rfl⟩)
theorem k_X8_changeWithin : yX8_changeWithin.cls ≠ "java/lang/invoke/MethodHandle" ∧ yX8_changeWithin.cls ≠ "java/lang/invoke/VarHandle" ∧ (parseMethodDescriptor yX8_changeWithin.desc).map (fun d => d.parameters.length) = some 1 := by decide +kernel
set_option maxHeartbeats 4000000 in
set_option maxRecDepth 100000 in
theorem c_L_changeWithin_ok (l : Launch) (D : va_G) (ct ad : Nat → Nat) (u : Nat) (a r q : Nat → Nat) (b : Nat → Nat → Nat) (nx sz : Int) (S : Nat → Int → Int) (M TX : Int → Int) (tl pl ft n1 n2 : Int) (wd : Value) (n : Int) (hs : sInv M) (h1 : -2147483648 ≤ n ∧ n ≤ 2147483647) (hok : 0 ≤ n ∧ n ≤ 500) : ZM l yL_changeWithin wsL_changeWithin ({ frames := 6, cells := 0, slots := 0, locals := 147 } : Room) D ct ad [.ref u, .int (zI n)] (x8W u a r q ++ (svW ct r b nx sz S ++ (sobjW a ++ (gridW ct a M ++ (benchW ct a M ++ (logW ct a M ++ (txtW ct q TX tl pl ft wd n1 n2))))))) (zD (some (.long (zJ (sp_cs M (min n (M 8)).toNat)))) (x8W u a r q ++ (svW ct r b nx sz S ++ (sobjW a ++ (gridW ct a M ++ (benchW ct a M ++ (logW ct a M ++ (txtW ct q TX tl pl ft wd n1 n2)))))))) := by
  refine ZM.ofH (cc := cL_changeWithin) (maxL := 3) (ret := (some .long)) (by decide +kernel) rfl (Nat.le_of_ble_eq_true rfl) ?_
  intro p e s m below meth c A ls hx hb hr hts hown hlocks hml hTab hE hP hD hA hS hl
  have hK := hE.1
  have hl : lv_has ls 3 [(0, .ref u), (1, .int (zI n))] := hl
  refine lv_aload_n hx hb dL_changeWithin_0 rfl (lv_at hl 0 rfl) ?_
  refine lv_iload_n hx hb dL_changeWithin_1 rfl (lv_at hl 1 rfl) ?_
  refine z_callV (C := RX8) (q0 := 0) (ci := 6) (As := [.int (zI n)]) (rest := []) ([] : va_W) ([] : va_W) hx hb hml hown hts hl hE hS hA (zr0 ([] : va_W) hP) (zr0D ([] : va_W) hD) (c_X8_changeWithin l D ct ad u a r q b nx sz S M TX tl pl ft n1 n2 wd n (by assumption) (by omega) (by omega)) gL_changeWithin_X8_changeWithin rfl rfl k_X8_changeWithin ⟨Nat.le_of_ble_eq_true rfl, Nat.le_of_ble_eq_true rfl⟩ rfl rfl rfl rfl (Nat.le_of_ble_eq_true rfl) ⟨Nat.le_of_ble_eq_true rfl, Nat.le_of_ble_eq_true rfl⟩ dL_changeWithin_2 rfl (fun v w1 H locs hpost hP hD hS => ?_)
  obtain ⟨rfl, rfl⟩ := hpost
  have hP := zr0' hP
  have hD := zr0D' hD
  have hP : va_P D vwCl (x8W u a r q ++ (svW ct r b nx sz S ++ (sobjW a ++ (gridW ct a M ++ (benchW ct a M ++ (logW ct a M ++ (txtW ct q TX tl pl ft wd n1 n2))))))) H := hP
  have hD : va_D A (x8W u a r q ++ (svW ct r b nx sz S ++ (sobjW a ++ (gridW ct a M ++ (benchW ct a M ++ (logW ct a M ++ (txtW ct q TX tl pl ft wd n1 n2))))))) := hD
  refine W.eq (g2 := F0 m 5 ls [.long (zJ (sp_cs M (min n (M 8)).toNat))]) rfl ?_
  exact z_lret hx hb hr hlocks hP hD hS ⟨Nat.le_of_ble_eq_true rfl, Nat.le_of_ble_eq_true rfl⟩ dL_changeWithin_5 (⟨congrArg (fun z => some (Value.long (zJ z))) (rfl), rfl⟩)
set_option maxHeartbeats 4000000 in
set_option maxRecDepth 100000 in
theorem c_L_changeWithin_no (l : Launch) (D : va_G) (ct ad : Nat → Nat) (u : Nat) (a r q : Nat → Nat) (b : Nat → Nat → Nat) (nx sz : Int) (S : Nat → Int → Int) (M TX : Int → Int) (tl pl ft n1 n2 : Int) (wd : Value) (n : Int) (hs : sInv M) (hst : l.stackTraces = false) (h1 : -2147483648 ≤ n ∧ n ≤ 2147483647) (hno : ¬ (0 ≤ n ∧ n ≤ 500)) : ZM l yL_changeWithin wsL_changeWithin ({ frames := 8, cells := 1, slots := 6, locals := 123 } : Room) D ct ad [.ref u, .int (zI n)] (x8W u a r q ++ (svW ct r b nx sz S ++ (sobjW a ++ (gridW ct a M ++ (benchW ct a M ++ (logW ct a M ++ (txtW ct q TX tl pl ft wd n1 n2))))))) (zD (some (.long (zJ (-2100000001)))) (x8W u a r q ++ (svW ct r b nx sz S ++ (sobjW a ++ (gridW ct a M ++ (benchW ct a M ++ (logW ct a M ++ (txtW ct q TX tl pl ft wd n1 n2)))))))) := by
  refine ZM.ofH (cc := cL_changeWithin) (maxL := 3) (ret := (some .long)) (by decide +kernel) rfl (Nat.le_of_ble_eq_true rfl) ?_
  intro p e s m below meth c A ls hx hb hr hts hown hlocks hml hTab hE hP hD hA hS hl
  have hK := hE.1
  have hf_0 := hts (.classLink RL 15 "java/lang/IllegalArgumentException") (by decide +kernel)
  have hf_1 := hts (.constantLong RL 69 (-2100000001)) (by decide +kernel)
  have hl : lv_has ls 3 [(0, .ref u), (1, .int (zI n))] := hl
  refine lv_aload_n hx hb dL_changeWithin_0 rfl (lv_at hl 0 rfl) ?_
  refine lv_iload_n hx hb dL_changeWithin_1 rfl (lv_at hl 1 rfl) ?_
  rcases (show True from trivial) with hck
  · refine z_catV (C := RX8) (q0 := 0) (ci := 6) (E := "java/lang/IllegalArgumentException") (name := "java/lang/IllegalArgumentException") (As := [.int (zI n)]) (rest := []) ([] : va_W) ([] : va_W) hx hb hml hown hts hl hE hS hA (zr0 ([] : va_W) hP) (zr0D ([] : va_W) hD) (ZX.toE (c_X8_changeWithin_x l D ct ad u a r q b nx sz S M TX tl pl ft n1 n2 wd n (by assumption) hst (by omega) (by omega)) (rfl)) gL_changeWithin_X8_changeWithin rfl rfl k_X8_changeWithin ⟨Nat.le_of_ble_eq_true rfl, Nat.le_of_ble_eq_true rfl⟩ rfl rfl rfl rfl (Nat.le_of_ble_eq_true rfl) ⟨Nat.le_of_ble_eq_true rfl, Nat.le_of_ble_eq_true rfl⟩ dL_changeWithin_2 rfl [] ({ startPc := 0, endPc := 5, handlerPc := 6, catchType := 15 } : ExceptionTableEntry) [] (hTab.trans rfl) (fun z hz => nomatch hz) (by decide) (by decide) hf_0 (hE.2.1.1 _ (List.mem_of_getElem? (i := 19) rfl)) (fun q9_2 H locs hP hD hS => ?_)
    have hP := zr0' hP
    have hD := zr0D' hD
    have hP : va_P D vwCl (x8W u a r q ++ (svW ct r b nx sz S ++ (sobjW a ++ (gridW ct a M ++ (benchW ct a M ++ (logW ct a M ++ (txtW ct q TX tl pl ft wd n1 n2))))))) H := hP
    have hD : va_D A (x8W u a r q ++ (svW ct r b nx sz S ++ (sobjW a ++ (gridW ct a M ++ (benchW ct a M ++ (logW ct a M ++ (txtW ct q TX tl pl ft wd n1 n2))))))) := hD
    refine W.eq (g2 := F0 m 6 ls [.ref q9_2]) rfl ?_
    refine lv_astore_n (lv' := [(2, .ref q9_2), (0, .ref u), (1, .int (zI n))]) hx hb dL_changeWithin_6 rfl hl (by decide) rfl (fun ls hl => ?_)
    refine z_ldc2 hx hb (-2100000001) hown hf_1 (by decide) dL_changeWithin_7 ?_
    exact z_lret hx hb hr hlocks hP hD hS ⟨Nat.le_of_ble_eq_true rfl, Nat.le_of_ble_eq_true rfl⟩ dL_changeWithin_10 (⟨congrArg (fun z => some (Value.long (zJ z))) (by first | rfl | (rw [hck]; rfl) | (rw [if_pos hck]) | (rw [if_neg hck])), rfl⟩)
set_option maxHeartbeats 4000000 in
set_option maxRecDepth 100000 in
theorem c_L_rod_ok (l : Launch) (D : va_G) (ct ad : Nat → Nat) (u : Nat) (a r q : Nat → Nat) (b : Nat → Nat → Nat) (nx sz : Int) (S : Nat → Int → Int) (M TX : Int → Int) (tl pl ft n1 n2 : Int) (wd : Value) (k w : Int) (hs : sInv M) (h1 : -2147483648 ≤ k ∧ k ≤ 2147483647) (h2 : -2147483648 ≤ w ∧ w ≤ 2147483647) (hok : (0 ≤ k ∧ k < M 4) ∧ 0 ≤ w ∧ w ≤ 4) : ZM l yL_rod wsL_rod ({ frames := 4, cells := 0, slots := 0, locals := 94 } : Room) D ct ad [.ref u, .int (zI k), .int (zI w)] (x8W u a r q ++ (svW ct r b nx sz S ++ (sobjW a ++ (gridW ct a M ++ (benchW ct a M ++ (logW ct a M ++ (txtW ct q TX tl pl ft wd n1 n2))))))) (zD (some (.int (zI (sp_rodv M k w (M 6))))) (x8W u a r q ++ (svW ct r b nx sz S ++ (sobjW a ++ (gridW ct a M ++ (benchW ct a M ++ (logW ct a M ++ (txtW ct q TX tl pl ft wd n1 n2)))))))) := by
  refine ZM.ofH (cc := cL_rod) (maxL := 4) (ret := (some .int)) (by decide +kernel) rfl (Nat.le_of_ble_eq_true rfl) ?_
  intro p e s m below meth c A ls hx hb hr hts hown hlocks hml hTab hE hP hD hA hS hl
  have hK := hE.1
  have hl : lv_has ls 4 [(0, .ref u), (1, .int (zI k)), (2, .int (zI w))] := hl
  refine lv_aload_n hx hb dL_rod_0 rfl (lv_at hl 0 rfl) ?_
  refine lv_iload_n hx hb dL_rod_1 rfl (lv_at hl 1 rfl) ?_
  refine lv_iload_n hx hb dL_rod_2 rfl (lv_at hl 2 rfl) ?_
  refine z_callV (C := RX8) (q0 := 0) (ci := 6) (As := [.int (zI k), .int (zI w)]) (rest := []) ([] : va_W) ([] : va_W) hx hb hml hown hts hl hE hS hA (zr0 ([] : va_W) hP) (zr0D ([] : va_W) hD) (c_X8_rod l D ct ad u a r q b nx sz S M TX tl pl ft n1 n2 wd k w (by assumption) (by omega) (by omega) (by omega)) gL_rod_X8_rod rfl rfl k_X8_rod ⟨Nat.le_of_ble_eq_true rfl, Nat.le_of_ble_eq_true rfl⟩ rfl rfl rfl rfl (Nat.le_of_ble_eq_true rfl) ⟨Nat.le_of_ble_eq_true rfl, Nat.le_of_ble_eq_true rfl⟩ dL_rod_3 rfl (fun v w1 H locs hpost hP hD hS => ?_)
  obtain ⟨rfl, rfl⟩ := hpost
  have hP := zr0' hP
  have hD := zr0D' hD
  have hP : va_P D vwCl (x8W u a r q ++ (svW ct r b nx sz S ++ (sobjW a ++ (gridW ct a M ++ (benchW ct a M ++ (logW ct a M ++ (txtW ct q TX tl pl ft wd n1 n2))))))) H := hP
  have hD : va_D A (x8W u a r q ++ (svW ct r b nx sz S ++ (sobjW a ++ (gridW ct a M ++ (benchW ct a M ++ (logW ct a M ++ (txtW ct q TX tl pl ft wd n1 n2))))))) := hD
  refine W.eq (g2 := F0 m 6 ls [.int (zI (sp_rodv M k w (M 6)))]) rfl ?_
  exact z_iret hx hb hr hlocks hP hD hS ⟨Nat.le_of_ble_eq_true rfl, Nat.le_of_ble_eq_true rfl⟩ dL_rod_6 (⟨congrArg (fun z => some (Value.int (zI z))) (rfl), rfl⟩)
set_option maxHeartbeats 4000000 in
set_option maxRecDepth 100000 in
theorem c_L_rod_no1 (l : Launch) (D : va_G) (ct ad : Nat → Nat) (u : Nat) (a r q : Nat → Nat) (b : Nat → Nat → Nat) (nx sz : Int) (S : Nat → Int → Int) (M TX : Int → Int) (tl pl ft n1 n2 : Int) (wd : Value) (k w : Int) (hs : sInv M) (hst : l.stackTraces = false) (h1 : -2147483648 ≤ k ∧ k ≤ 2147483647) (h2 : -2147483648 ≤ w ∧ w ≤ 2147483647) (hno : ¬ (0 ≤ k ∧ k < M 4)) : ZM l yL_rod wsL_rod ({ frames := 8, cells := 1, slots := 6, locals := 124 } : Room) D ct ad [.ref u, .int (zI k), .int (zI w)] (x8W u a r q ++ (svW ct r b nx sz S ++ (sobjW a ++ (gridW ct a M ++ (benchW ct a M ++ (logW ct a M ++ (txtW ct q TX tl pl ft wd n1 n2))))))) (zD (some (.int (zI (-2100000003)))) (x8W u a r q ++ (svW ct r b nx sz S ++ (sobjW a ++ (gridW ct a M ++ (benchW ct a M ++ (logW ct a M ++ (txtW ct q TX tl pl ft wd n1 n2)))))))) := by
  refine ZM.ofH (cc := cL_rod) (maxL := 4) (ret := (some .int)) (by decide +kernel) rfl (Nat.le_of_ble_eq_true rfl) ?_
  intro p e s m below meth c A ls hx hb hr hts hown hlocks hml hTab hE hP hD hA hS hl
  have hK := hE.1
  have hf_0 := hts (.classLink RL 25 "java/lang/IndexOutOfBoundsException") (by decide +kernel)
  have hf_1 := hts (.constant RL 27 (-2100000003)) (by decide +kernel)
  have hl : lv_has ls 4 [(0, .ref u), (1, .int (zI k)), (2, .int (zI w))] := hl
  refine lv_aload_n hx hb dL_rod_0 rfl (lv_at hl 0 rfl) ?_
  refine lv_iload_n hx hb dL_rod_1 rfl (lv_at hl 1 rfl) ?_
  refine lv_iload_n hx hb dL_rod_2 rfl (lv_at hl 2 rfl) ?_
  rcases (show True from trivial) with hck
  · refine z_catV (C := RX8) (q0 := 0) (ci := 6) (E := "java/lang/IndexOutOfBoundsException") (name := "java/lang/IndexOutOfBoundsException") (As := [.int (zI k), .int (zI w)]) (rest := []) ([] : va_W) ([] : va_W) hx hb hml hown hts hl hE hS hA (zr0 ([] : va_W) hP) (zr0D ([] : va_W) hD) (ZX.toE (c_X8_rod_x1 l D ct ad u a r q b nx sz S M TX tl pl ft n1 n2 wd k w (by assumption) hst (by omega) (by omega) (by omega)) (rfl)) gL_rod_X8_rod rfl rfl k_X8_rod ⟨Nat.le_of_ble_eq_true rfl, Nat.le_of_ble_eq_true rfl⟩ rfl rfl rfl rfl (Nat.le_of_ble_eq_true rfl) ⟨Nat.le_of_ble_eq_true rfl, Nat.le_of_ble_eq_true rfl⟩ dL_rod_3 rfl [] ({ startPc := 0, endPc := 6, handlerPc := 7, catchType := 25 } : ExceptionTableEntry) [({ startPc := 0, endPc := 6, handlerPc := 11, catchType := 15 } : ExceptionTableEntry)] (hTab.trans rfl) (fun z hz => nomatch hz) (by decide) (by decide) hf_0 (hE.2.1.1 _ (List.mem_of_getElem? (i := 18) rfl)) (fun q9_3 H locs hP hD hS => ?_)
    have hP := zr0' hP
    have hD := zr0D' hD
    have hP : va_P D vwCl (x8W u a r q ++ (svW ct r b nx sz S ++ (sobjW a ++ (gridW ct a M ++ (benchW ct a M ++ (logW ct a M ++ (txtW ct q TX tl pl ft wd n1 n2))))))) H := hP
    have hD : va_D A (x8W u a r q ++ (svW ct r b nx sz S ++ (sobjW a ++ (gridW ct a M ++ (benchW ct a M ++ (logW ct a M ++ (txtW ct q TX tl pl ft wd n1 n2))))))) := hD
    refine W.eq (g2 := F0 m 7 ls [.ref q9_3]) rfl ?_
    refine lv_astore_n (lv' := [(3, .ref q9_3), (0, .ref u), (1, .int (zI k)), (2, .int (zI w))]) hx hb dL_rod_7 rfl hl (by decide) rfl (fun ls hl => ?_)
    refine z_ldc hx hb (-2100000003) hown hf_1 (by decide) dL_rod_8 ?_
    exact z_iret hx hb hr hlocks hP hD hS ⟨Nat.le_of_ble_eq_true rfl, Nat.le_of_ble_eq_true rfl⟩ dL_rod_10 (⟨congrArg (fun z => some (Value.int (zI z))) (by first | rfl | (rw [hck]; rfl) | (rw [if_pos hck]) | (rw [if_neg hck])), rfl⟩)
theorem k_X8_type : yX8_type.cls ≠ "java/lang/invoke/MethodHandle" ∧ yX8_type.cls ≠ "java/lang/invoke/VarHandle" ∧ (parseMethodDescriptor yX8_type.desc).map (fun d => d.parameters.length) = some 1 := by decide +kernel
set_option maxHeartbeats 4000000 in
set_option maxRecDepth 100000 in
theorem c_L_type_no (l : Launch) (D : va_G) (ct ad : Nat → Nat) (u : Nat) (a r q : Nat → Nat) (b : Nat → Nat → Nat) (nx sz : Int) (S : Nat → Int → Int) (M TX : Int → Int) (tl pl ft n1 n2 : Int) (wd : Value) (v : Int) (hs : sInv M) (hst : l.stackTraces = false) (ht : tInv TX tl) (h1 : -2147483648 ≤ v ∧ v ≤ 2147483647) (hno : ¬ ((0 ≤ v ∧ v ≤ 127) ∧ tl < 150)) : ZM l yL_type wsL_type ({ frames := 8, cells := 1, slots := 6, locals := 123 } : Room) D ct ad [.ref u, .int (zI v)] (x8W u a r q ++ (svW ct r b nx sz S ++ (sobjW a ++ (gridW ct a M ++ (benchW ct a M ++ (logW ct a M ++ (txtW ct q TX tl pl ft wd n1 n2))))))) (zD (some (.int (zI (if 0 ≤ v ∧ v ≤ 127 then (-2100000002) else (-2100000001))))) (x8W u a r q ++ (svW ct r b nx sz S ++ (sobjW a ++ (gridW ct a M ++ (benchW ct a M ++ (logW ct a M ++ (txtW ct q TX tl pl ft wd n1 n2)))))))) := by
  refine ZM.ofH (cc := cL_type) (maxL := 3) (ret := (some .int)) (by decide +kernel) rfl (Nat.le_of_ble_eq_true rfl) ?_
  intro p e s m below meth c A ls hx hb hr hts hown hlocks hml hTab hE hP hD hA hS hl
  have hK := hE.1
  have hf_0 := hts (.classLink RL 15 "java/lang/IllegalArgumentException") (by decide +kernel)
  have hf_1 := hts (.constant RL 17 (-2100000001)) (by decide +kernel)
  have hf_2 := hts (.classLink RL 18 "java/lang/IllegalStateException") (by decide +kernel)
  have hf_3 := hts (.constant RL 20 (-2100000002)) (by decide +kernel)
  have hl : lv_has ls 3 [(0, .ref u), (1, .int (zI v))] := hl
  refine lv_aload_n hx hb dL_type_0 rfl (lv_at hl 0 rfl) ?_
  refine lv_iload_n hx hb dL_type_1 rfl (lv_at hl 1 rfl) ?_
  rcases (show ¬ (0 ≤ v ∧ v ≤ 127) ∨ (0 ≤ v ∧ v ≤ 127) from (by omega)) with hck | hck
  · refine z_catV (C := RX8) (q0 := 0) (ci := 6) (E := "java/lang/IllegalArgumentException") (name := "java/lang/IllegalArgumentException") (As := [.int (zI v)]) (rest := []) ([] : va_W) ([] : va_W) hx hb hml hown hts hl hE hS hA (zr0 ([] : va_W) hP) (zr0D ([] : va_W) hD) (ZX.toE (c_X8_type_x l D ct ad u a r q b nx sz S M TX tl pl ft n1 n2 wd v (by assumption) hst (by assumption) (by omega) (by omega)) ((by rw [if_neg hck]; rfl))) gL_type_X8_type rfl rfl k_X8_type ⟨Nat.le_of_ble_eq_true rfl, Nat.le_of_ble_eq_true rfl⟩ rfl rfl rfl rfl (Nat.le_of_ble_eq_true rfl) ⟨Nat.le_of_ble_eq_true rfl, Nat.le_of_ble_eq_true rfl⟩ dL_type_2 rfl [] ({ startPc := 0, endPc := 5, handlerPc := 6, catchType := 15 } : ExceptionTableEntry) [({ startPc := 0, endPc := 5, handlerPc := 10, catchType := 18 } : ExceptionTableEntry)] (hTab.trans rfl) (fun z hz => nomatch hz) (by decide) (by decide) hf_0 (hE.2.1.1 _ (List.mem_of_getElem? (i := 19) rfl)) (fun q9_2 H locs hP hD hS => ?_)
    have hP := zr0' hP
    have hD := zr0D' hD
    have hP : va_P D vwCl (x8W u a r q ++ (svW ct r b nx sz S ++ (sobjW a ++ (gridW ct a M ++ (benchW ct a M ++ (logW ct a M ++ (txtW ct q TX tl pl ft wd n1 n2))))))) H := hP
    have hD : va_D A (x8W u a r q ++ (svW ct r b nx sz S ++ (sobjW a ++ (gridW ct a M ++ (benchW ct a M ++ (logW ct a M ++ (txtW ct q TX tl pl ft wd n1 n2))))))) := hD
    refine W.eq (g2 := F0 m 6 ls [.ref q9_2]) rfl ?_
    refine lv_astore_n (lv' := [(2, .ref q9_2), (0, .ref u), (1, .int (zI v))]) hx hb dL_type_6 rfl hl (by decide) rfl (fun ls hl => ?_)
    refine z_ldc hx hb (-2100000001) hown hf_1 (by decide) dL_type_7 ?_
    exact z_iret hx hb hr hlocks hP hD hS ⟨Nat.le_of_ble_eq_true rfl, Nat.le_of_ble_eq_true rfl⟩ dL_type_9 (⟨congrArg (fun z => some (Value.int (zI z))) (by first | rfl | (rw [hck]; rfl) | (rw [if_pos hck]) | (rw [if_neg hck])), rfl⟩)
  · refine z_catV (C := RX8) (q0 := 0) (ci := 6) (E := "java/lang/IllegalStateException") (name := "java/lang/IllegalStateException") (As := [.int (zI v)]) (rest := []) ([] : va_W) ([] : va_W) hx hb hml hown hts hl hE hS hA (zr0 ([] : va_W) hP) (zr0D ([] : va_W) hD) (ZX.toE (c_X8_type_x l D ct ad u a r q b nx sz S M TX tl pl ft n1 n2 wd v (by assumption) hst (by assumption) (by omega) (by omega)) ((by rw [if_pos hck]; rfl))) gL_type_X8_type rfl rfl k_X8_type ⟨Nat.le_of_ble_eq_true rfl, Nat.le_of_ble_eq_true rfl⟩ rfl rfl rfl rfl (Nat.le_of_ble_eq_true rfl) ⟨Nat.le_of_ble_eq_true rfl, Nat.le_of_ble_eq_true rfl⟩ dL_type_2 rfl [({ startPc := 0, endPc := 5, handlerPc := 6, catchType := 15 } : ExceptionTableEntry)] ({ startPc := 0, endPc := 5, handlerPc := 10, catchType := 18 } : ExceptionTableEntry) [] (hTab.trans rfl) (fun z hz => by simp only [List.mem_cons, List.not_mem_nil, or_false] at hz; rcases hz with rfl; exact Or.inr ⟨by decide, "java/lang/IllegalArgumentException", hf_0, hE.2.1.2 ("java/lang/IllegalStateException", "java/lang/IllegalArgumentException") (by decide)⟩) (by decide) (by decide) hf_2 (hE.2.1.1 _ (List.mem_of_getElem? (i := 20) rfl)) (fun q9_2 H locs hP hD hS => ?_)
    have hP := zr0' hP
    have hD := zr0D' hD
    have hP : va_P D vwCl (x8W u a r q ++ (svW ct r b nx sz S ++ (sobjW a ++ (gridW ct a M ++ (benchW ct a M ++ (logW ct a M ++ (txtW ct q TX tl pl ft wd n1 n2))))))) H := hP
    have hD : va_D A (x8W u a r q ++ (svW ct r b nx sz S ++ (sobjW a ++ (gridW ct a M ++ (benchW ct a M ++ (logW ct a M ++ (txtW ct q TX tl pl ft wd n1 n2))))))) := hD
    refine W.eq (g2 := F0 m 10 ls [.ref q9_2]) rfl ?_
    refine lv_astore_n (lv' := [(2, .ref q9_2), (0, .ref u), (1, .int (zI v))]) hx hb dL_type_10 rfl hl (by decide) rfl (fun ls hl => ?_)
    refine z_ldc hx hb (-2100000002) hown hf_3 (by decide) dL_type_11 ?_
    exact z_iret hx hb hr hlocks hP hD hS ⟨Nat.le_of_ble_eq_true rfl, Nat.le_of_ble_eq_true rfl⟩ dL_type_13 (⟨congrArg (fun z => some (Value.int (zI z))) (by first | rfl | (rw [hck]; rfl) | (rw [if_pos hck]) | (rw [if_neg hck])), rfl⟩)
theorem k_X8_undo : yX8_undo.cls ≠ "java/lang/invoke/MethodHandle" ∧ yX8_undo.cls ≠ "java/lang/invoke/VarHandle" ∧ (parseMethodDescriptor yX8_undo.desc).map (fun d => d.parameters.length) = some 0 := by decide +kernel
set_option maxHeartbeats 4000000 in
set_option maxRecDepth 100000 in
theorem c_L_undo_ok (l : Launch) (D : va_G) (ct ad : Nat → Nat) (u : Nat) (a r q : Nat → Nat) (b : Nat → Nat → Nat) (nx sz : Int) (S : Nat → Int → Int) (M TX : Int → Int) (tl pl ft n1 n2 : Int) (wd : Value) (hs : sInv M) (hn : 0 ≤ nx ∧ nx ≤ 3) (hok : 1 ≤ sz ∧ sz ≤ 4) : ZM l yL_undo wsL_undo ({ frames := 5, cells := 0, slots := 0, locals := 102 } : Room) D ct ad [.ref u] (x8W u a r q ++ (svW ct r b nx sz S ++ (sobjW a ++ (gridW ct a M ++ (benchW ct a M ++ (logW ct a M ++ (txtW ct q TX tl pl ft wd n1 n2))))))) (zD (some (.int (zI (sz - 1)))) (x8W u a r q ++ (svW ct r b ((nx + 3) % 4) (sz - 1) S ++ (sobjW a ++ (gridW ct a (S ((nx + 3) % 4).toNat) ++ (benchW ct a (S ((nx + 3) % 4).toNat) ++ (logW ct a (S ((nx + 3) % 4).toNat) ++ (txtW ct q TX tl pl ft wd n1 n2)))))))) := by
  refine ZM.ofH (cc := cL_undo) (maxL := 2) (ret := (some .int)) (by decide +kernel) rfl (Nat.le_of_ble_eq_true rfl) ?_
  intro p e s m below meth c A ls hx hb hr hts hown hlocks hml hTab hE hP hD hA hS hl
  have hK := hE.1
  have hl : lv_has ls 2 [(0, .ref u)] := hl
  refine lv_aload_n hx hb dL_undo_0 rfl (lv_at hl 0 rfl) ?_
  refine z_callV (C := RX8) (q0 := 0) (ci := 6) (As := []) (rest := []) ([] : va_W) ([] : va_W) hx hb hml hown hts hl hE hS hA (zr0 ([] : va_W) hP) (zr0D ([] : va_W) hD) (c_X8_undo l D ct ad u a r q b nx sz S M TX tl pl ft n1 n2 wd (by assumption) (by omega) hok) gL_undo_X8_undo rfl rfl k_X8_undo ⟨Nat.le_of_ble_eq_true rfl, Nat.le_of_ble_eq_true rfl⟩ rfl rfl rfl rfl (Nat.le_of_ble_eq_true rfl) ⟨Nat.le_of_ble_eq_true rfl, Nat.le_of_ble_eq_true rfl⟩ dL_undo_1 rfl (fun v w1 H locs hpost hP hD hS => ?_)
  obtain ⟨rfl, rfl⟩ := hpost
  have hP := zr0' hP
  have hD := zr0D' hD
  have hP : va_P D vwCl (x8W u a r q ++ (svW ct r b ((nx + 3) % 4) (sz - 1) S ++ (sobjW a ++ (gridW ct a (S ((nx + 3) % 4).toNat) ++ (benchW ct a (S ((nx + 3) % 4).toNat) ++ (logW ct a (S ((nx + 3) % 4).toNat) ++ (txtW ct q TX tl pl ft wd n1 n2))))))) H := hP
  have hD : va_D A (x8W u a r q ++ (svW ct r b ((nx + 3) % 4) (sz - 1) S ++ (sobjW a ++ (gridW ct a (S ((nx + 3) % 4).toNat) ++ (benchW ct a (S ((nx + 3) % 4).toNat) ++ (logW ct a (S ((nx + 3) % 4).toNat) ++ (txtW ct q TX tl pl ft wd n1 n2))))))) := hD
  refine W.eq (g2 := F0 m 4 ls [.int (zI (sz - 1))]) rfl ?_
  exact z_iret hx hb hr hlocks hP hD hS ⟨Nat.le_of_ble_eq_true rfl, Nat.le_of_ble_eq_true rfl⟩ dL_undo_4 (⟨congrArg (fun z => some (Value.int (zI z))) (rfl), rfl⟩)
set_option maxHeartbeats 4000000 in
set_option maxRecDepth 100000 in
theorem c_L_undo_no (l : Launch) (D : va_G) (ct ad : Nat → Nat) (u : Nat) (a r q : Nat → Nat) (b : Nat → Nat → Nat) (nx sz : Int) (S : Nat → Int → Int) (M TX : Int → Int) (tl pl ft n1 n2 : Int) (wd : Value) (hs : sInv M) (hst : l.stackTraces = false) (hno : sz = 0) : ZM l yL_undo wsL_undo ({ frames := 8, cells := 1, slots := 6, locals := 122 } : Room) D ct ad [.ref u] (x8W u a r q ++ (svW ct r b nx sz S ++ (sobjW a ++ (gridW ct a M ++ (benchW ct a M ++ (logW ct a M ++ (txtW ct q TX tl pl ft wd n1 n2))))))) (zD (some (.int (zI (-2100000002)))) (x8W u a r q ++ (svW ct r b nx sz S ++ (sobjW a ++ (gridW ct a M ++ (benchW ct a M ++ (logW ct a M ++ (txtW ct q TX tl pl ft wd n1 n2)))))))) := by
  refine ZM.ofH (cc := cL_undo) (maxL := 2) (ret := (some .int)) (by decide +kernel) rfl (Nat.le_of_ble_eq_true rfl) ?_
  intro p e s m below meth c A ls hx hb hr hts hown hlocks hml hTab hE hP hD hA hS hl
  have hK := hE.1
  have hf_0 := hts (.classLink RL 18 "java/lang/IllegalStateException") (by decide +kernel)
  have hf_1 := hts (.constant RL 20 (-2100000002)) (by decide +kernel)
  have hl : lv_has ls 2 [(0, .ref u)] := hl
  refine lv_aload_n hx hb dL_undo_0 rfl (lv_at hl 0 rfl) ?_
  rcases (show True from trivial) with hck
  · refine z_catV (C := RX8) (q0 := 0) (ci := 6) (E := "java/lang/IllegalStateException") (name := "java/lang/IllegalStateException") (As := []) (rest := []) ([] : va_W) ([] : va_W) hx hb hml hown hts hl hE hS hA (zr0 ([] : va_W) hP) (zr0D ([] : va_W) hD) (ZX.toE (c_X8_undo_x l D ct ad u a r q b nx sz S M TX tl pl ft n1 n2 wd (by assumption) hst (by omega)) (rfl)) gL_undo_X8_undo rfl rfl k_X8_undo ⟨Nat.le_of_ble_eq_true rfl, Nat.le_of_ble_eq_true rfl⟩ rfl rfl rfl rfl (Nat.le_of_ble_eq_true rfl) ⟨Nat.le_of_ble_eq_true rfl, Nat.le_of_ble_eq_true rfl⟩ dL_undo_1 rfl [] ({ startPc := 0, endPc := 4, handlerPc := 5, catchType := 18 } : ExceptionTableEntry) [] (hTab.trans rfl) (fun z hz => nomatch hz) (by decide) (by decide) hf_0 (hE.2.1.1 _ (List.mem_of_getElem? (i := 20) rfl)) (fun q9_1 H locs hP hD hS => ?_)
    have hP := zr0' hP
    have hD := zr0D' hD
    have hP : va_P D vwCl (x8W u a r q ++ (svW ct r b nx sz S ++ (sobjW a ++ (gridW ct a M ++ (benchW ct a M ++ (logW ct a M ++ (txtW ct q TX tl pl ft wd n1 n2))))))) H := hP
    have hD : va_D A (x8W u a r q ++ (svW ct r b nx sz S ++ (sobjW a ++ (gridW ct a M ++ (benchW ct a M ++ (logW ct a M ++ (txtW ct q TX tl pl ft wd n1 n2))))))) := hD
    refine W.eq (g2 := F0 m 5 ls [.ref q9_1]) rfl ?_
    refine lv_astore_n (lv' := [(1, .ref q9_1), (0, .ref u)]) hx hb dL_undo_5 rfl hl (by decide) rfl (fun ls hl => ?_)
    refine z_ldc hx hb (-2100000002) hown hf_1 (by decide) dL_undo_6 ?_
    exact z_iret hx hb hr hlocks hP hD hS ⟨Nat.le_of_ble_eq_true rfl, Nat.le_of_ble_eq_true rfl⟩ dL_undo_8 (⟨congrArg (fun z => some (Value.int (zI z))) (by first | rfl | (rw [hck]; rfl) | (rw [if_pos hck]) | (rw [if_neg hck])), rfl⟩)
