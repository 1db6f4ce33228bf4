theorem k_L_addMetal : yL_addMetal.cls ≠ "java/lang/invoke/MethodHandle" ∧ yL_addMetal.cls ≠ "java/lang/invoke/VarHandle" ∧ (parseMethodDescriptor yL_addMetal.desc).map (fun d => d.parameters.length) = some 3 := by decide +kernel
theorem k_L_addRod : yL_addRod.cls ≠ "java/lang/invoke/MethodHandle" ∧ yL_addRod.cls ≠ "java/lang/invoke/VarHandle" ∧ (parseMethodDescriptor yL_addRod.desc).map (fun d => d.parameters.length) = some 5 := by decide +kernel
theorem k_L_changeWithin : yL_changeWithin.cls ≠ "java/lang/invoke/MethodHandle" ∧ yL_changeWithin.cls ≠ "java/lang/invoke/VarHandle" ∧ (parseMethodDescriptor yL_changeWithin.desc).map (fun d => d.parameters.length) = some 3 := by decide +kernel
theorem k_L_day : yL_day.cls ≠ "java/lang/invoke/MethodHandle" ∧ yL_day.cls ≠ "java/lang/invoke/VarHandle" ∧ (parseMethodDescriptor yL_day.desc).map (fun d => d.parameters.length) = some 4 := by decide +kernel
theorem k_L_hang : yL_hang.cls ≠ "java/lang/invoke/MethodHandle" ∧ yL_hang.cls ≠ "java/lang/invoke/VarHandle" ∧ (parseMethodDescriptor yL_hang.desc).map (fun d => d.parameters.length) = some 3 := by decide +kernel
theorem k_L_matchLength : yL_matchLength.cls ≠ "java/lang/invoke/MethodHandle" ∧ yL_matchLength.cls ≠ "java/lang/invoke/VarHandle" ∧ (parseMethodDescriptor yL_matchLength.desc).map (fun d => d.parameters.length) = some 3 := by decide +kernel
theorem k_L_pass : yL_pass.cls ≠ "java/lang/invoke/MethodHandle" ∧ yL_pass.cls ≠ "java/lang/invoke/VarHandle" ∧ (parseMethodDescriptor yL_pass.desc).map (fun d => d.parameters.length) = some 3 := by decide +kernel
theorem k_L_rangeOfRates : yL_rangeOfRates.cls ≠ "java/lang/invoke/MethodHandle" ∧ yL_rangeOfRates.cls ≠ "java/lang/invoke/VarHandle" ∧ (parseMethodDescriptor yL_rangeOfRates.desc).map (fun d => d.parameters.length) = some 4 := by decide +kernel
theorem k_L_rateAt : yL_rateAt.cls ≠ "java/lang/invoke/MethodHandle" ∧ yL_rateAt.cls ≠ "java/lang/invoke/VarHandle" ∧ (parseMethodDescriptor yL_rateAt.desc).map (fun d => d.parameters.length) = some 3 := by decide +kernel
theorem k_L_removeRod : yL_removeRod.cls ≠ "java/lang/invoke/MethodHandle" ∧ yL_removeRod.cls ≠ "java/lang/invoke/VarHandle" ∧ (parseMethodDescriptor yL_removeRod.desc).map (fun d => d.parameters.length) = some 3 := by decide +kernel
theorem k_L_rod : yL_rod.cls ≠ "java/lang/invoke/MethodHandle" ∧ yL_rod.cls ≠ "java/lang/invoke/VarHandle" ∧ (parseMethodDescriptor yL_rod.desc).map (fun d => d.parameters.length) = some 4 := by decide +kernel
theorem k_L_set : yL_set.cls ≠ "java/lang/invoke/MethodHandle" ∧ yL_set.cls ≠ "java/lang/invoke/VarHandle" ∧ (parseMethodDescriptor yL_set.desc).map (fun d => d.parameters.length) = some 4 := by decide +kernel
theorem k_L_setLength : yL_setLength.cls ≠ "java/lang/invoke/MethodHandle" ∧ yL_setLength.cls ≠ "java/lang/invoke/VarHandle" ∧ (parseMethodDescriptor yL_setLength.desc).map (fun d => d.parameters.length) = some 4 := by decide +kernel
theorem k_L_setShelf : yL_setShelf.cls ≠ "java/lang/invoke/MethodHandle" ∧ yL_setShelf.cls ≠ "java/lang/invoke/VarHandle" ∧ (parseMethodDescriptor yL_setShelf.desc).map (fun d => d.parameters.length) = some 4 := by decide +kernel
theorem k_L_setStretch : yL_setStretch.cls ≠ "java/lang/invoke/MethodHandle" ∧ yL_setStretch.cls ≠ "java/lang/invoke/VarHandle" ∧ (parseMethodDescriptor yL_setStretch.desc).map (fun d => d.parameters.length) = some 4 := by decide +kernel
theorem k_L_shelf : yL_shelf.cls ≠ "java/lang/invoke/MethodHandle" ∧ yL_shelf.cls ≠ "java/lang/invoke/VarHandle" ∧ (parseMethodDescriptor yL_shelf.desc).map (fun d => d.parameters.length) = some 3 := by decide +kernel
theorem k_L_stretch : yL_stretch.cls ≠ "java/lang/invoke/MethodHandle" ∧ yL_stretch.cls ≠ "java/lang/invoke/VarHandle" ∧ (parseMethodDescriptor yL_stretch.desc).map (fun d => d.parameters.length) = some 3 := by decide +kernel
theorem k_L_turnNut : yL_turnNut.cls ≠ "java/lang/invoke/MethodHandle" ∧ yL_turnNut.cls ≠ "java/lang/invoke/VarHandle" ∧ (parseMethodDescriptor yL_turnNut.desc).map (fun d => d.parameters.length) = some 3 := by decide +kernel
theorem k_L_type : yL_type.cls ≠ "java/lang/invoke/MethodHandle" ∧ yL_type.cls ≠ "java/lang/invoke/VarHandle" ∧ (parseMethodDescriptor yL_type.desc).map (fun d => d.parameters.length) = some 3 := by decide +kernel
theorem k_L_undo : yL_undo.cls ≠ "java/lang/invoke/MethodHandle" ∧ yL_undo.cls ≠ "java/lang/invoke/VarHandle" ∧ (parseMethodDescriptor yL_undo.desc).map (fun d => d.parameters.length) = some 2 := by decide +kernel
theorem k_L_whole : yL_whole.cls ≠ "java/lang/invoke/MethodHandle" ∧ yL_whole.cls ≠ "java/lang/invoke/VarHandle" ∧ (parseMethodDescriptor yL_whole.desc).map (fun d => d.parameters.length) = some 3 := by decide +kernel
theorem k_X8_clearCommands : yX8_clearCommands.cls ≠ "java/lang/invoke/MethodHandle" ∧ yX8_clearCommands.cls ≠ "java/lang/invoke/VarHandle" ∧ (parseMethodDescriptor yX8_clearCommands.desc).map (fun d => d.parameters.length) = some 0 := by decide +kernel
theorem k_X8_digest : yX8_digest.cls ≠ "java/lang/invoke/MethodHandle" ∧ yX8_digest.cls ≠ "java/lang/invoke/VarHandle" ∧ (parseMethodDescriptor yX8_digest.desc).map (fun d => d.parameters.length) = some 0 := by decide +kernel
theorem k_X8_meanRate : yX8_meanRate.cls ≠ "java/lang/invoke/MethodHandle" ∧ yX8_meanRate.cls ≠ "java/lang/invoke/VarHandle" ∧ (parseMethodDescriptor yX8_meanRate.desc).map (fun d => d.parameters.length) = some 0 := by decide +kernel
theorem k_X8_runCommands : yX8_runCommands.cls ≠ "java/lang/invoke/MethodHandle" ∧ yX8_runCommands.cls ≠ "java/lang/invoke/VarHandle" ∧ (parseMethodDescriptor yX8_runCommands.desc).map (fun d => d.parameters.length) = some 0 := by decide +kernel
theorem k_X8_wind : yX8_wind.cls ≠ "java/lang/invoke/MethodHandle" ∧ yX8_wind.cls ≠ "java/lang/invoke/VarHandle" ∧ (parseMethodDescriptor yX8_wind.desc).map (fun d => d.parameters.length) = some 0 := by decide +kernel
theorem k_X9_addMetal : yX9_addMetal.cls ≠ "java/lang/invoke/MethodHandle" ∧ yX9_addMetal.cls ≠ "java/lang/invoke/VarHandle" ∧ (parseMethodDescriptor yX9_addMetal.desc).map (fun d => d.parameters.length) = some 1 := by decide +kernel
theorem k_X9_addRod : yX9_addRod.cls ≠ "java/lang/invoke/MethodHandle" ∧ yX9_addRod.cls ≠ "java/lang/invoke/VarHandle" ∧ (parseMethodDescriptor yX9_addRod.desc).map (fun d => d.parameters.length) = some 3 := by decide +kernel
theorem k_X9_balance : yX9_balance.cls ≠ "java/lang/invoke/MethodHandle" ∧ yX9_balance.cls ≠ "java/lang/invoke/VarHandle" ∧ (parseMethodDescriptor yX9_balance.desc).map (fun d => d.parameters.length) = some 0 := by decide +kernel
theorem k_X9_balanceBits : yX9_balanceBits.cls ≠ "java/lang/invoke/MethodHandle" ∧ yX9_balanceBits.cls ≠ "java/lang/invoke/VarHandle" ∧ (parseMethodDescriptor yX9_balanceBits.desc).map (fun d => d.parameters.length) = some 0 := by decide +kernel
theorem k_X9_bestNut : yX9_bestNut.cls ≠ "java/lang/invoke/MethodHandle" ∧ yX9_bestNut.cls ≠ "java/lang/invoke/VarHandle" ∧ (parseMethodDescriptor yX9_bestNut.desc).map (fun d => d.parameters.length) = some 0 := by decide +kernel
theorem k_X9_changeWithin : yX9_changeWithin.cls ≠ "java/lang/invoke/MethodHandle" ∧ yX9_changeWithin.cls ≠ "java/lang/invoke/VarHandle" ∧ (parseMethodDescriptor yX9_changeWithin.desc).map (fun d => d.parameters.length) = some 1 := by decide +kernel
theorem k_X9_clearCommands : yX9_clearCommands.cls ≠ "java/lang/invoke/MethodHandle" ∧ yX9_clearCommands.cls ≠ "java/lang/invoke/VarHandle" ∧ (parseMethodDescriptor yX9_clearCommands.desc).map (fun d => d.parameters.length) = some 0 := by decide +kernel
theorem k_X9_day : yX9_day.cls ≠ "java/lang/invoke/MethodHandle" ∧ yX9_day.cls ≠ "java/lang/invoke/VarHandle" ∧ (parseMethodDescriptor yX9_day.desc).map (fun d => d.parameters.length) = some 2 := by decide +kernel
theorem k_X9_digest : yX9_digest.cls ≠ "java/lang/invoke/MethodHandle" ∧ yX9_digest.cls ≠ "java/lang/invoke/VarHandle" ∧ (parseMethodDescriptor yX9_digest.desc).map (fun d => d.parameters.length) = some 0 := by decide +kernel
theorem k_X9_hang : yX9_hang.cls ≠ "java/lang/invoke/MethodHandle" ∧ yX9_hang.cls ≠ "java/lang/invoke/VarHandle" ∧ (parseMethodDescriptor yX9_hang.desc).map (fun d => d.parameters.length) = some 1 := by decide +kernel
theorem k_X9_matchLength : yX9_matchLength.cls ≠ "java/lang/invoke/MethodHandle" ∧ yX9_matchLength.cls ≠ "java/lang/invoke/VarHandle" ∧ (parseMethodDescriptor yX9_matchLength.desc).map (fun d => d.parameters.length) = some 1 := by decide +kernel
theorem k_X9_meanRate : yX9_meanRate.cls ≠ "java/lang/invoke/MethodHandle" ∧ yX9_meanRate.cls ≠ "java/lang/invoke/VarHandle" ∧ (parseMethodDescriptor yX9_meanRate.desc).map (fun d => d.parameters.length) = some 0 := by decide +kernel
theorem k_X9_pass : yX9_pass.cls ≠ "java/lang/invoke/MethodHandle" ∧ yX9_pass.cls ≠ "java/lang/invoke/VarHandle" ∧ (parseMethodDescriptor yX9_pass.desc).map (fun d => d.parameters.length) = some 1 := by decide +kernel
theorem k_X9_rangeOfRates : yX9_rangeOfRates.cls ≠ "java/lang/invoke/MethodHandle" ∧ yX9_rangeOfRates.cls ≠ "java/lang/invoke/VarHandle" ∧ (parseMethodDescriptor yX9_rangeOfRates.desc).map (fun d => d.parameters.length) = some 2 := by decide +kernel
theorem k_X9_rateAt : yX9_rateAt.cls ≠ "java/lang/invoke/MethodHandle" ∧ yX9_rateAt.cls ≠ "java/lang/invoke/VarHandle" ∧ (parseMethodDescriptor yX9_rateAt.desc).map (fun d => d.parameters.length) = some 1 := by decide +kernel
theorem k_X9_rates : yX9_rates.cls ≠ "java/lang/invoke/MethodHandle" ∧ yX9_rates.cls ≠ "java/lang/invoke/VarHandle" ∧ (parseMethodDescriptor yX9_rates.desc).map (fun d => d.parameters.length) = some 0 := by decide +kernel
theorem k_X9_removeRod : yX9_removeRod.cls ≠ "java/lang/invoke/MethodHandle" ∧ yX9_removeRod.cls ≠ "java/lang/invoke/VarHandle" ∧ (parseMethodDescriptor yX9_removeRod.desc).map (fun d => d.parameters.length) = some 1 := by decide +kernel
theorem k_X9_rod : yX9_rod.cls ≠ "java/lang/invoke/MethodHandle" ∧ yX9_rod.cls ≠ "java/lang/invoke/VarHandle" ∧ (parseMethodDescriptor yX9_rod.desc).map (fun d => d.parameters.length) = some 2 := by decide +kernel
theorem k_X9_runCommands : yX9_runCommands.cls ≠ "java/lang/invoke/MethodHandle" ∧ yX9_runCommands.cls ≠ "java/lang/invoke/VarHandle" ∧ (parseMethodDescriptor yX9_runCommands.desc).map (fun d => d.parameters.length) = some 0 := by decide +kernel
theorem k_X9_set : yX9_set.cls ≠ "java/lang/invoke/MethodHandle" ∧ yX9_set.cls ≠ "java/lang/invoke/VarHandle" ∧ (parseMethodDescriptor yX9_set.desc).map (fun d => d.parameters.length) = some 2 := by decide +kernel
theorem k_X9_setLength : yX9_setLength.cls ≠ "java/lang/invoke/MethodHandle" ∧ yX9_setLength.cls ≠ "java/lang/invoke/VarHandle" ∧ (parseMethodDescriptor yX9_setLength.desc).map (fun d => d.parameters.length) = some 2 := by decide +kernel
theorem k_X9_setShelf : yX9_setShelf.cls ≠ "java/lang/invoke/MethodHandle" ∧ yX9_setShelf.cls ≠ "java/lang/invoke/VarHandle" ∧ (parseMethodDescriptor yX9_setShelf.desc).map (fun d => d.parameters.length) = some 2 := by decide +kernel
theorem k_X9_setStretch : yX9_setStretch.cls ≠ "java/lang/invoke/MethodHandle" ∧ yX9_setStretch.cls ≠ "java/lang/invoke/VarHandle" ∧ (parseMethodDescriptor yX9_setStretch.desc).map (fun d => d.parameters.length) = some 2 := by decide +kernel
theorem k_X9_shelf : yX9_shelf.cls ≠ "java/lang/invoke/MethodHandle" ∧ yX9_shelf.cls ≠ "java/lang/invoke/VarHandle" ∧ (parseMethodDescriptor yX9_shelf.desc).map (fun d => d.parameters.length) = some 1 := by decide +kernel
theorem k_X9_stretch : yX9_stretch.cls ≠ "java/lang/invoke/MethodHandle" ∧ yX9_stretch.cls ≠ "java/lang/invoke/VarHandle" ∧ (parseMethodDescriptor yX9_stretch.desc).map (fun d => d.parameters.length) = some 1 := by decide +kernel
theorem k_X9_thrown : yX9_thrown.cls ≠ "java/lang/invoke/MethodHandle" ∧ yX9_thrown.cls ≠ "java/lang/invoke/VarHandle" ∧ (parseMethodDescriptor yX9_thrown.desc).map (fun d => d.parameters.length) = some 0 := by decide +kernel
theorem k_X9_turnNut : yX9_turnNut.cls ≠ "java/lang/invoke/MethodHandle" ∧ yX9_turnNut.cls ≠ "java/lang/invoke/VarHandle" ∧ (parseMethodDescriptor yX9_turnNut.desc).map (fun d => d.parameters.length) = some 1 := by decide +kernel
theorem k_X9_type : yX9_type.cls ≠ "java/lang/invoke/MethodHandle" ∧ yX9_type.cls ≠ "java/lang/invoke/VarHandle" ∧ (parseMethodDescriptor yX9_type.desc).map (fun d => d.parameters.length) = some 1 := by decide +kernel
theorem k_X9_undo : yX9_undo.cls ≠ "java/lang/invoke/MethodHandle" ∧ yX9_undo.cls ≠ "java/lang/invoke/VarHandle" ∧ (parseMethodDescriptor yX9_undo.desc).map (fun d => d.parameters.length) = some 0 := by decide +kernel
theorem k_X9_whole : yX9_whole.cls ≠ "java/lang/invoke/MethodHandle" ∧ yX9_whole.cls ≠ "java/lang/invoke/VarHandle" ∧ (parseMethodDescriptor yX9_whole.desc).map (fun d => d.parameters.length) = some 1 := by decide +kernel
theorem k_X9_wind : yX9_wind.cls ≠ "java/lang/invoke/MethodHandle" ∧ yX9_wind.cls ≠ "java/lang/invoke/VarHandle" ∧ (parseMethodDescriptor yX9_wind.desc).map (fun d => d.parameters.length) = some 0 := by decide +kernel
set_option maxHeartbeats 4000000 in
set_option maxRecDepth 100000 in
theorem law_c0 (p : Program) (l : Launch) (e : Env) (s : State) (m : MethodId) (below : List Frame) (meth : Method) (c : Code) (D : va_G) (ct ad : Nat → Nat) (b L : Nat) (xs : Nat → Int32) (u : Nat) (a r q : Nat → Nat) (b2 : Nat → Nat → Nat) (o0 : Nat) (mb : Nat → Nat) (hC : lwC p l s m meth c D ct ad b L xs) (i : Int) (hi : 0 ≤ i ∧ i + 4 ≤ (L : Int)) (cells slots : Nat) (hcap : cells + 1 ≤ 601024 ∧ slots + 6 ≤ 7293034) (ih : ∀ (H : Heap) (locs : List Loc) (ls : Array Slot), lwI s D ct b u a r q b2 o0 mb i H locs ls → W p l e room_1 s m #[Value.ref b] below meth c H locs (cells + 1) (slots + 6) (lw_Z below #[Value.ref b] s) (F0 m 1590 ls [])) (H : Heap) (locs : List Loc) (ls : Array Slot) (hI0 : lwI s D ct b u a r q b2 o0 mb i H locs ls) : W p l e room_1 s m #[Value.ref b] below meth c H locs cells slots (lw_Z below #[Value.ref b] s) (F0 m 172 ls []) := by
  obtain ⟨hx, hb, hr, hml, hown, hts, hX, hbl, hlocks, hE, hst, hL⟩ := hC
  obtain ⟨nx, sz, S, M, TX, tl, pl, ft, n1, n2, wd, O, SP, SV, NB, cd, plm, cm, h, hR, hP, hD, hS, hl⟩ := hI0
  have hA : ∀ q : Nat, s.heap.size ≤ q → (fun q : Nat => s.heap.size ≤ q) q := fun _ h => h
  have hbA : ¬ (fun q : Nat => s.heap.size ≤ q) b := Nat.not_le.mpr hbl
  have hK := hE.1
  have hc0 : cells ≤ room_1.cells ∧ slots ≤ room_1.slots := by show cells ≤ 601024 ∧ slots ≤ 7293034; omega
  have hc1 : cells + 1 ≤ room_1.cells ∧ slots + 6 ≤ room_1.slots := hcap
  have hP : va_P D vwCl (x8W u a r q ++ (svW ct r b2 nx sz S ++ (sobjW a ++ (gridW ct a M ++ (benchW ct a M ++ (logW ct a M ++ (txtW ct q TX tl pl ft wd n1 n2 ++ (jrW ct o0 1 O ++ (moW mb sz tl cd plm cm h ++ (jrW ct (mb 1) 94 M ++ (jrW ct (mb 2) 94 SP ++ (jrW ct (mb 3) 376 SV ++ (irW ct (mb 4) 150 TX ++ (irW ct (mb 5) 2 NB)))))))))))))) H := hP
  have hD : va_D (fun q : Nat => s.heap.size ≤ q) (x8W u a r q ++ (svW ct r b2 nx sz S ++ (sobjW a ++ (gridW ct a M ++ (benchW ct a M ++ (logW ct a M ++ (txtW ct q TX tl pl ft wd n1 n2 ++ (jrW ct o0 1 O ++ (moW mb sz tl cd plm cm h ++ (jrW ct (mb 1) 94 M ++ (jrW ct (mb 2) 94 SP ++ (jrW ct (mb 3) 376 SV ++ (irW ct (mb 4) 150 TX ++ (irW ct (mb 5) 2 NB)))))))))))))) := hD
  have hs := hR.1
  have ht := hR.2.1
  have hI := hs.1
  have hB := hs.2.1
  have ha := hs.2.2
  have i3 := hI.1
  have i4 := hI.2.1
  have j0 := hB.1
  have j1 := hB.2.1
  have j2 := hB.2.2.1
  have j4 := hB.2.2.2.2
  have t1 := ht.1
  have hn := hR.2.2.1
  have hsz := hR.2.2.2.1
  have hsc := hR.2.2.2.1
  obtain ⟨v1, e1, r1⟩ := zI_any (xs (i + 1).toNat)
  by_cases hok : ck_metal M v1 = 0
  · skip
    have hv : -2147483648 ≤ M 3 ∧ M 3 ≤ 2147483647 := by omega
    refine lv_aload_n hx hb dL_law_172 rfl (lv_at hl 1 rfl) ?_
    refine lv_aload_n hx hb dL_law_173 rfl (lv_at hl 0 rfl) ?_
    refine lv_iload hx hb dL_law_174 (lv_at hl 4 rfl) ?_
    refine z_iconst hx hb dL_law_176 ?_
    refine z_iadd hx hb dL_law_177 ?_
    refine z_sld hx hb hX hbl hbA hS (by omega) hL e1 dL_law_178 ?_
    refine lv_aload_n hx hb dL_law_179 rfl (lv_at hl 3 rfl) ?_
    refine z_callSW (As := [.ref u, .int (zI v1), .ref o0]) (rest := []) ([] : va_W) (moW mb sz tl cd plm cm h ++ (jrW ct (mb 1) 94 M ++ (jrW ct (mb 2) 94 SP ++ (jrW ct (mb 3) 376 SV ++ (irW ct (mb 4) 150 TX ++ (irW ct (mb 5) 2 NB)))))) hx hb hml hown (fun w h => hts w (inL_88 w h)) hl hE hS hA hP hD (c_L_addMetal_ok l D ct ad u a r q b2 nx sz S M TX tl pl ft n1 n2 wd o0 O v1 (by assumption) (by omega) (by omega) (by omega) hok hv) gdL_88 rfl k_L_addMetal ⟨Nat.le_of_ble_eq_true rfl, Nat.le_of_ble_eq_true rfl⟩ rfl (Nat.le_of_ble_eq_true rfl) hc0 dL_law_180 rfl (fun v w1 H locs hpost hP hD hS => ?_)
    obtain ⟨rfl, rfl⟩ := hpost
    have hP : va_P D vwCl (x8W u a r q ++ (svW ct r b2 ((nx + 1) % 4) (min (sz + 1) 4) (updS S nx M) ++ (sobjW a ++ (gridW ct a (st_metal M v1) ++ (benchW ct a (st_metal M v1) ++ (logW ct a (st_metal M v1) ++ (txtW ct q TX tl pl ft wd n1 n2 ++ (jrW ct o0 1 (up O 0 (M 3)) ++ (moW mb sz tl cd plm cm h ++ (jrW ct (mb 1) 94 M ++ (jrW ct (mb 2) 94 SP ++ (jrW ct (mb 3) 376 SV ++ (irW ct (mb 4) 150 TX ++ (irW ct (mb 5) 2 NB)))))))))))))) H := hP
    have hD : va_D (fun q : Nat => s.heap.size ≤ q) (x8W u a r q ++ (svW ct r b2 ((nx + 1) % 4) (min (sz + 1) 4) (updS S nx M) ++ (sobjW a ++ (gridW ct a (st_metal M v1) ++ (benchW ct a (st_metal M v1) ++ (logW ct a (st_metal M v1) ++ (txtW ct q TX tl pl ft wd n1 n2 ++ (jrW ct o0 1 (up O 0 (M 3)) ++ (moW mb sz tl cd plm cm h ++ (jrW ct (mb 1) 94 M ++ (jrW ct (mb 2) 94 SP ++ (jrW ct (mb 3) 376 SV ++ (irW ct (mb 4) 150 TX ++ (irW ct (mb 5) 2 NB)))))))))))))) := hD
    refine W.eq (g2 := F0 m 183 ls [.int (zI 0)]) rfl ?_
    refine lv_istore (lv' := [(5, .int (zI 0)), (0, .ref b), (1, .ref u), (2, .ref (mb 0)), (3, .ref o0), (4, .int (zI i))]) hx hb dL_law_183 hl (by decide) rfl (fun ls hl => ?_)
    refine lv_aload_n hx hb dL_law_185 rfl (lv_at hl 3 rfl) ?_
    refine lv_aload_n hx hb dL_law_186 rfl (lv_at hl 1 rfl) ?_
    refine lv_iload hx hb dL_law_187 (lv_at hl 5 rfl) ?_
    refine z_iconst hx hb dL_law_189 ?_
    refine z_iadd hx hb dL_law_190 ?_
    refine z_sld hx hb hX hbl hbA hS (by omega) hL e1 dL_law_191 ?_
    refine z_callV (C := RX9) (q0 := 0) (ci := 7) (As := [.int (zI v1)]) (rest := []) (x8W u a r q ++ (svW ct r b2 ((nx + 1) % 4) (min (sz + 1) 4) (updS S nx M) ++ (sobjW a ++ (gridW ct a (st_metal M v1) ++ (benchW ct a (st_metal M v1) ++ (logW ct a (st_metal M v1) ++ (txtW ct q TX tl pl ft wd n1 n2 ++ (jrW ct o0 1 (up O 0 (M 3)))))))))) ([] : va_W) hx hb hml hown (fun w h => hts w (inL_93 w h)) hl hE hS hA (zr0 (x8W u a r q ++ (svW ct r b2 ((nx + 1) % 4) (min (sz + 1) 4) (updS S nx M) ++ (sobjW a ++ (gridW ct a (st_metal M v1) ++ (benchW ct a (st_metal M v1) ++ (logW ct a (st_metal M v1) ++ (txtW ct q TX tl pl ft wd n1 n2 ++ (jrW ct o0 1 (up O 0 (M 3)))))))))) hP) (zr0D (x8W u a r q ++ (svW ct r b2 ((nx + 1) % 4) (min (sz + 1) 4) (updS S nx M) ++ (sobjW a ++ (gridW ct a (st_metal M v1) ++ (benchW ct a (st_metal M v1) ++ (logW ct a (st_metal M v1) ++ (txtW ct q TX tl pl ft wd n1 n2 ++ (jrW ct o0 1 (up O 0 (M 3)))))))))) hD) (c_X9_addMetal_ok l D ct ad mb M SP SV TX NB sz tl cd plm cm h v1 (by assumption) (by omega) (by omega) (why_m.mpr hok)) gdL_93 rfl rfl k_X9_addMetal ⟨Nat.le_of_ble_eq_true rfl, Nat.le_of_ble_eq_true rfl⟩ rfl rfl rfl rfl (Nat.le_of_ble_eq_true rfl) hc0 dL_law_192 rfl (fun v w1 H locs hpost hP hD hS => ?_)
    obtain ⟨rfl, rfl⟩ := hpost
    have hP := zr0' hP
    have hD := zr0D' hD
    have hP : va_P D vwCl (x8W u a r q ++ (svW ct r b2 ((nx + 1) % 4) (min (sz + 1) 4) (updS S nx M) ++ (sobjW a ++ (gridW ct a (st_metal M v1) ++ (benchW ct a (st_metal M v1) ++ (logW ct a (st_metal M v1) ++ (txtW ct q TX tl pl ft wd n1 n2 ++ (jrW ct o0 1 (up O 0 (M 3)) ++ (moW mb (sv_n sz + 1) tl (ck1 (ck_metal M v1)) plm cm h ++ (jrW ct (mb 1) 94 (st_metal M v1) ++ (jrW ct (mb 2) 94 SP ++ (jrW ct (mb 3) 376 (sv_keep SV M sz) ++ (irW ct (mb 4) 150 TX ++ (irW ct (mb 5) 2 NB)))))))))))))) H := hP
    have hD : va_D (fun q : Nat => s.heap.size ≤ q) (x8W u a r q ++ (svW ct r b2 ((nx + 1) % 4) (min (sz + 1) 4) (updS S nx M) ++ (sobjW a ++ (gridW ct a (st_metal M v1) ++ (benchW ct a (st_metal M v1) ++ (logW ct a (st_metal M v1) ++ (txtW ct q TX tl pl ft wd n1 n2 ++ (jrW ct o0 1 (up O 0 (M 3)) ++ (moW mb (sv_n sz + 1) tl (ck1 (ck_metal M v1)) plm cm h ++ (jrW ct (mb 1) 94 (st_metal M v1) ++ (jrW ct (mb 2) 94 SP ++ (jrW ct (mb 3) 376 (sv_keep SV M sz) ++ (irW ct (mb 4) 150 TX ++ (irW ct (mb 5) 2 NB)))))))))))))) := hD
    refine W.eq (g2 := F0 m 195 ls [.int (zI (M 3))]) rfl ?_
    refine lv_istore (lv' := [(6, .int (zI (M 3))), (5, .int (zI 0)), (0, .ref b), (1, .ref u), (2, .ref (mb 0)), (3, .ref o0), (4, .int (zI i))]) hx hb dL_law_195 hl (by decide) rfl (fun ls hl => ?_)
    refine lv_aload_n hx hb dL_law_197 rfl (lv_at hl 4 rfl) ?_
    refine z_callV (C := RX9) (q0 := 0) (ci := 7) (As := []) (rest := []) (x8W u a r q ++ (svW ct r b2 ((nx + 1) % 4) (min (sz + 1) 4) (updS S nx M) ++ (sobjW a ++ (gridW ct a (st_metal M v1) ++ (benchW ct a (st_metal M v1) ++ (logW ct a (st_metal M v1) ++ (txtW ct q TX tl pl ft wd n1 n2 ++ (jrW ct o0 1 (up O 0 (M 3)))))))))) ([] : va_W) hx hb hml hown (fun w h => hts w (inL_94 w h)) hl hE hS hA (zr0 (x8W u a r q ++ (svW ct r b2 ((nx + 1) % 4) (min (sz + 1) 4) (updS S nx M) ++ (sobjW a ++ (gridW ct a (st_metal M v1) ++ (benchW ct a (st_metal M v1) ++ (logW ct a (st_metal M v1) ++ (txtW ct q TX tl pl ft wd n1 n2 ++ (jrW ct o0 1 (up O 0 (M 3)))))))))) hP) (zr0D (x8W u a r q ++ (svW ct r b2 ((nx + 1) % 4) (min (sz + 1) 4) (updS S nx M) ++ (sobjW a ++ (gridW ct a (st_metal M v1) ++ (benchW ct a (st_metal M v1) ++ (logW ct a (st_metal M v1) ++ (txtW ct q TX tl pl ft wd n1 n2 ++ (jrW ct o0 1 (up O 0 (M 3)))))))))) hD) (c_X9_thrown l D ct ad mb (st_metal M v1) SP (sv_keep SV M sz) TX NB (sv_n sz + 1) tl (ck1 (ck_metal M v1)) plm cm h) gdL_94 rfl rfl k_X9_thrown ⟨Nat.le_of_ble_eq_true rfl, Nat.le_of_ble_eq_true rfl⟩ rfl rfl rfl rfl (Nat.le_of_ble_eq_true rfl) hc0 dL_law_198 rfl (fun v w1 H locs hpost hP hD hS => ?_)
    obtain ⟨rfl, rfl⟩ := hpost
    have hP := zr0' hP
    have hD := zr0D' hD
    have hP : va_P D vwCl (x8W u a r q ++ (svW ct r b2 ((nx + 1) % 4) (min (sz + 1) 4) (updS S nx M) ++ (sobjW a ++ (gridW ct a (st_metal M v1) ++ (benchW ct a (st_metal M v1) ++ (logW ct a (st_metal M v1) ++ (txtW ct q TX tl pl ft wd n1 n2 ++ (jrW ct o0 1 (up O 0 (M 3)) ++ (moW mb (sv_n sz + 1) tl (ck1 (ck_metal M v1)) plm cm h ++ (jrW ct (mb 1) 94 (st_metal M v1) ++ (jrW ct (mb 2) 94 SP ++ (jrW ct (mb 3) 376 (sv_keep SV M sz) ++ (irW ct (mb 4) 150 TX ++ (irW ct (mb 5) 2 NB)))))))))))))) H := hP
    have hD : va_D (fun q : Nat => s.heap.size ≤ q) (x8W u a r q ++ (svW ct r b2 ((nx + 1) % 4) (min (sz + 1) 4) (updS S nx M) ++ (sobjW a ++ (gridW ct a (st_metal M v1) ++ (benchW ct a (st_metal M v1) ++ (logW ct a (st_metal M v1) ++ (txtW ct q TX tl pl ft wd n1 n2 ++ (jrW ct o0 1 (up O 0 (M 3)) ++ (moW mb (sv_n sz + 1) tl (ck1 (ck_metal M v1)) plm cm h ++ (jrW ct (mb 1) 94 (st_metal M v1) ++ (jrW ct (mb 2) 94 SP ++ (jrW ct (mb 3) 376 (sv_keep SV M sz) ++ (irW ct (mb 4) 150 TX ++ (irW ct (mb 5) 2 NB)))))))))))))) := hD
    refine W.eq (g2 := F0 m 201 ls [.int (zI (ck1 (ck_metal M v1)))]) rfl ?_
    refine lv_iload hx hb dL_law_201 (lv_at hl 1 rfl) ?_
    refine z_canI (show 0 = ck1 (ck_metal M v1) from (why_m.mpr hok).symm) ?_
    refine z_icmp_eqS (tgt := 208) hx hb dL_law_203 (by decide) ?_
    refine lv_iload hx hb dL_law_208 (lv_at hl 1 rfl) ?_
    refine z_if_ne (tgt := 225) hx hb dL_law_210 (by decide) (by omega) (fun hc_210 => ?_) (fun hc_210 => ?_)
    · have hc_210 := hc_210
      exfalso; first | omega | (revert hc_210; unfold ck1; split <;> omega)
    · have hc_210 := hc_210
      refine lv_aload_n hx hb dL_law_213 rfl (lv_at hl 5 rfl) ?_
      refine z_iconst hx hb dL_law_214 ?_
      refine z_lald (g := (up O 0 (M 3))) (v := M 3) hx hb hK hP 60 rfl (by decide) (by omega) (show (up O 0 (M 3)) 0 = M 3 from by rw [up_s]) dL_law_215 ?_
      refine lv_iload hx hb dL_law_216 (lv_at hl 0 rfl) ?_
      refine z_i2l hx hb dL_law_218 (by omega) ?_
      refine z_lcmp_eqS (tgt := 225) hx hb dL_law_219 dL_law_220 (by decide) ?_
      refine lv_goto (tgt := 1590) hx hb dL_law_225 (by decide) ?_
      refine W.widen (k := cells + 1) (n := slots + 6) (Nat.le_add_right _ _) (Nat.le_add_right _ _) ?_
      have e9 : (sv_n sz + 1) = (min (sz + 1) 4) := by have q9 := sv_min (sz := sz); have := hR.2.2.2.1; omega
      rw [e9] at hP hD
      exact ih _ _ _ ⟨((nx + 1) % 4), (min (sz + 1) 4), (updS S nx M), (st_metal M v1), TX, tl, pl, ft, n1, n2, wd, (up O 0 (M 3)), SP, (sv_keep SV M sz), NB, (ck1 (ck_metal M v1)), plm, cm, h, lwR_push hR (sInv_metal hs hok), hP, hD, hS, lv_sub hl [2, 3, 4, 5, 6] rfl⟩
  · skip
    have hcc : (1 ≤ ck1 (ck_metal M v1) ∧ ck1 (ck_metal M v1) ≤ 3) := by
      have q9 := hok
      revert q9
      unfold ck1 ck_metal
      (repeat' split) <;> intro q9 <;> omega
    refine lv_aload_n hx hb dL_law_172 rfl (lv_at hl 1 rfl) ?_
    refine lv_aload_n hx hb dL_law_173 rfl (lv_at hl 0 rfl) ?_
    refine lv_iload hx hb dL_law_174 (lv_at hl 4 rfl) ?_
    refine z_iconst hx hb dL_law_176 ?_
    refine z_iadd hx hb dL_law_177 ?_
    refine z_sld hx hb hX hbl hbA hS (by omega) hL e1 dL_law_178 ?_
    refine lv_aload_n hx hb dL_law_179 rfl (lv_at hl 3 rfl) ?_
    refine z_callSW (As := [.ref u, .int (zI v1), .ref o0]) (rest := []) ([] : va_W) (moW mb sz tl cd plm cm h ++ (jrW ct (mb 1) 94 M ++ (jrW ct (mb 2) 94 SP ++ (jrW ct (mb 3) 376 SV ++ (irW ct (mb 4) 150 TX ++ (irW ct (mb 5) 2 NB)))))) hx hb hml hown (fun w h => hts w (inL_88 w h)) hl hE hS hA hP hD (c_L_addMetal_no l D ct ad u a r q b2 nx sz S M TX tl pl ft n1 n2 wd o0 O v1 (by assumption) hst (by omega) hok) gdL_88 rfl k_L_addMetal ⟨Nat.le_of_ble_eq_true rfl, Nat.le_of_ble_eq_true rfl⟩ rfl (Nat.le_of_ble_eq_true rfl) hc1 dL_law_180 rfl (fun v w1 H locs hpost hP hD hS => ?_)
    obtain ⟨rfl, rfl⟩ := hpost
    have hP : va_P D vwCl (x8W u a r q ++ (svW ct r b2 nx sz S ++ (sobjW a ++ (gridW ct a M ++ (benchW ct a M ++ (logW ct a M ++ (txtW ct q TX tl pl ft wd n1 n2 ++ (jrW ct o0 1 O ++ (moW mb sz tl cd plm cm h ++ (jrW ct (mb 1) 94 M ++ (jrW ct (mb 2) 94 SP ++ (jrW ct (mb 3) 376 SV ++ (irW ct (mb 4) 150 TX ++ (irW ct (mb 5) 2 NB)))))))))))))) H := hP
    have hD : va_D (fun q : Nat => s.heap.size ≤ q) (x8W u a r q ++ (svW ct r b2 nx sz S ++ (sobjW a ++ (gridW ct a M ++ (benchW ct a M ++ (logW ct a M ++ (txtW ct q TX tl pl ft wd n1 n2 ++ (jrW ct o0 1 O ++ (moW mb sz tl cd plm cm h ++ (jrW ct (mb 1) 94 M ++ (jrW ct (mb 2) 94 SP ++ (jrW ct (mb 3) 376 SV ++ (irW ct (mb 4) 150 TX ++ (irW ct (mb 5) 2 NB)))))))))))))) := hD
    refine W.eq (g2 := F0 m 183 ls [.int (zI (ck1 (ck_metal M v1)))]) rfl ?_
    refine lv_istore (lv' := [(5, .int (zI (ck1 (ck_metal M v1)))), (0, .ref b), (1, .ref u), (2, .ref (mb 0)), (3, .ref o0), (4, .int (zI i))]) hx hb dL_law_183 hl (by decide) rfl (fun ls hl => ?_)
    refine lv_aload_n hx hb dL_law_185 rfl (lv_at hl 3 rfl) ?_
    refine lv_aload_n hx hb dL_law_186 rfl (lv_at hl 1 rfl) ?_
    refine lv_iload hx hb dL_law_187 (lv_at hl 5 rfl) ?_
    refine z_iconst hx hb dL_law_189 ?_
    refine z_iadd hx hb dL_law_190 ?_
    refine z_sld hx hb hX hbl hbA hS (by omega) hL e1 dL_law_191 ?_
    refine z_callV (C := RX9) (q0 := 0) (ci := 7) (As := [.int (zI v1)]) (rest := []) (x8W u a r q ++ (svW ct r b2 nx sz S ++ (sobjW a ++ (gridW ct a M ++ (benchW ct a M ++ (logW ct a M ++ (txtW ct q TX tl pl ft wd n1 n2 ++ (jrW ct o0 1 O)))))))) ([] : va_W) hx hb hml hown (fun w h => hts w (inL_93 w h)) hl hE hS hA (zr0 (x8W u a r q ++ (svW ct r b2 nx sz S ++ (sobjW a ++ (gridW ct a M ++ (benchW ct a M ++ (logW ct a M ++ (txtW ct q TX tl pl ft wd n1 n2 ++ (jrW ct o0 1 O)))))))) hP) (zr0D (x8W u a r q ++ (svW ct r b2 nx sz S ++ (sobjW a ++ (gridW ct a M ++ (benchW ct a M ++ (logW ct a M ++ (txtW ct q TX tl pl ft wd n1 n2 ++ (jrW ct o0 1 O)))))))) hD) (c_X9_addMetal_no l D ct ad mb M SP SV TX NB sz tl cd plm cm h v1 (by assumption) (by omega) (fun z => hok (why_m.mp z))) gdL_93 rfl rfl k_X9_addMetal ⟨Nat.le_of_ble_eq_true rfl, Nat.le_of_ble_eq_true rfl⟩ rfl rfl rfl rfl (Nat.le_of_ble_eq_true rfl) hc1 dL_law_192 rfl (fun v w1 H locs hpost hP hD hS => ?_)
    obtain ⟨rfl, rfl⟩ := hpost
    have hP := zr0' hP
    have hD := zr0D' hD
    have hP : va_P D vwCl (x8W u a r q ++ (svW ct r b2 nx sz S ++ (sobjW a ++ (gridW ct a M ++ (benchW ct a M ++ (logW ct a M ++ (txtW ct q TX tl pl ft wd n1 n2 ++ (jrW ct o0 1 O ++ (moW mb sz tl (ck1 (ck_metal M v1)) plm cm h ++ (jrW ct (mb 1) 94 M ++ (jrW ct (mb 2) 94 SP ++ (jrW ct (mb 3) 376 SV ++ (irW ct (mb 4) 150 TX ++ (irW ct (mb 5) 2 NB)))))))))))))) H := hP
    have hD : va_D (fun q : Nat => s.heap.size ≤ q) (x8W u a r q ++ (svW ct r b2 nx sz S ++ (sobjW a ++ (gridW ct a M ++ (benchW ct a M ++ (logW ct a M ++ (txtW ct q TX tl pl ft wd n1 n2 ++ (jrW ct o0 1 O ++ (moW mb sz tl (ck1 (ck_metal M v1)) plm cm h ++ (jrW ct (mb 1) 94 M ++ (jrW ct (mb 2) 94 SP ++ (jrW ct (mb 3) 376 SV ++ (irW ct (mb 4) 150 TX ++ (irW ct (mb 5) 2 NB)))))))))))))) := hD
    refine W.eq (g2 := F0 m 195 ls [.int (zI 0)]) rfl ?_
    refine lv_istore (lv' := [(6, .int (zI 0)), (5, .int (zI (ck1 (ck_metal M v1)))), (0, .ref b), (1, .ref u), (2, .ref (mb 0)), (3, .ref o0), (4, .int (zI i))]) hx hb dL_law_195 hl (by decide) rfl (fun ls hl => ?_)
    refine lv_aload_n hx hb dL_law_197 rfl (lv_at hl 4 rfl) ?_
    refine z_callV (C := RX9) (q0 := 0) (ci := 7) (As := []) (rest := []) (x8W u a r q ++ (svW ct r b2 nx sz S ++ (sobjW a ++ (gridW ct a M ++ (benchW ct a M ++ (logW ct a M ++ (txtW ct q TX tl pl ft wd n1 n2 ++ (jrW ct o0 1 O)))))))) ([] : va_W) hx hb hml hown (fun w h => hts w (inL_94 w h)) hl hE hS hA (zr0 (x8W u a r q ++ (svW ct r b2 nx sz S ++ (sobjW a ++ (gridW ct a M ++ (benchW ct a M ++ (logW ct a M ++ (txtW ct q TX tl pl ft wd n1 n2 ++ (jrW ct o0 1 O)))))))) hP) (zr0D (x8W u a r q ++ (svW ct r b2 nx sz S ++ (sobjW a ++ (gridW ct a M ++ (benchW ct a M ++ (logW ct a M ++ (txtW ct q TX tl pl ft wd n1 n2 ++ (jrW ct o0 1 O)))))))) hD) (c_X9_thrown l D ct ad mb M SP SV TX NB sz tl (ck1 (ck_metal M v1)) plm cm h) gdL_94 rfl rfl k_X9_thrown ⟨Nat.le_of_ble_eq_true rfl, Nat.le_of_ble_eq_true rfl⟩ rfl rfl rfl rfl (Nat.le_of_ble_eq_true rfl) hc1 dL_law_198 rfl (fun v w1 H locs hpost hP hD hS => ?_)
    obtain ⟨rfl, rfl⟩ := hpost
    have hP := zr0' hP
    have hD := zr0D' hD
    have hP : va_P D vwCl (x8W u a r q ++ (svW ct r b2 nx sz S ++ (sobjW a ++ (gridW ct a M ++ (benchW ct a M ++ (logW ct a M ++ (txtW ct q TX tl pl ft wd n1 n2 ++ (jrW ct o0 1 O ++ (moW mb sz tl (ck1 (ck_metal M v1)) plm cm h ++ (jrW ct (mb 1) 94 M ++ (jrW ct (mb 2) 94 SP ++ (jrW ct (mb 3) 376 SV ++ (irW ct (mb 4) 150 TX ++ (irW ct (mb 5) 2 NB)))))))))))))) H := hP
    have hD : va_D (fun q : Nat => s.heap.size ≤ q) (x8W u a r q ++ (svW ct r b2 nx sz S ++ (sobjW a ++ (gridW ct a M ++ (benchW ct a M ++ (logW ct a M ++ (txtW ct q TX tl pl ft wd n1 n2 ++ (jrW ct o0 1 O ++ (moW mb sz tl (ck1 (ck_metal M v1)) plm cm h ++ (jrW ct (mb 1) 94 M ++ (jrW ct (mb 2) 94 SP ++ (jrW ct (mb 3) 376 SV ++ (irW ct (mb 4) 150 TX ++ (irW ct (mb 5) 2 NB)))))))))))))) := hD
    refine W.eq (g2 := F0 m 201 ls [.int (zI (ck1 (ck_metal M v1)))]) rfl ?_
    refine lv_iload hx hb dL_law_201 (lv_at hl 1 rfl) ?_
    refine z_icmp_eqS (tgt := 208) hx hb dL_law_203 (by decide) ?_
    refine lv_iload hx hb dL_law_208 (lv_at hl 1 rfl) ?_
    refine z_if_ne (tgt := 225) hx hb dL_law_210 (by decide) (by omega) (fun hc_210 => ?_) (fun hc_210 => ?_)
    · have hc_210 := hc_210
      refine lv_goto (tgt := 1590) hx hb dL_law_225 (by decide) ?_
      exact ih _ _ _ ⟨nx, sz, S, M, TX, tl, pl, ft, n1, n2, wd, O, SP, SV, NB, (ck1 (ck_metal M v1)), plm, cm, h, hR, hP, hD, hS, lv_sub hl [2, 3, 4, 5, 6] rfl⟩
    · have hc_210 := hc_210
      exfalso; first | omega | (revert hc_210; unfold ck1; split <;> omega)
set_option maxHeartbeats 4000000 in
set_option maxRecDepth 100000 in
theorem law_c1 (p : Program) (l : Launch) (e : Env) (s : State) (m : MethodId) (below : List Frame) (meth : Method) (c : Code) (D : va_G) (ct ad : Nat → Nat) (b L : Nat) (xs : Nat → Int32) (u : Nat) (a r q : Nat → Nat) (b2 : Nat → Nat → Nat) (o0 : Nat) (mb : Nat → Nat) (hC : lwC p l s m meth c D ct ad b L xs) (i : Int) (hi : 0 ≤ i ∧ i + 4 ≤ (L : Int)) (cells slots : Nat) (hcap : cells + 1 ≤ 601024 ∧ slots + 6 ≤ 7293034) (ih : ∀ (H : Heap) (locs : List Loc) (ls : Array Slot), lwI s D ct b u a r q b2 o0 mb i H locs ls → W p l e room_1 s m #[Value.ref b] below meth c H locs (cells + 1) (slots + 6) (lw_Z below #[Value.ref b] s) (F0 m 1590 ls [])) (H : Heap) (locs : List Loc) (ls : Array Slot) (hI0 : lwI s D ct b u a r q b2 o0 mb i H locs ls) : W p l e room_1 s m #[Value.ref b] below meth c H locs cells slots (lw_Z below #[Value.ref b] s) (F0 m 228 ls []) := by
  obtain ⟨hx, hb, hr, hml, hown, hts, hX, hbl, hlocks, hE, hst, hL⟩ := hC
  obtain ⟨nx, sz, S, M, TX, tl, pl, ft, n1, n2, wd, O, SP, SV, NB, cd, plm, cm, h, hR, hP, hD, hS, hl⟩ := hI0
  have hA : ∀ q : Nat, s.heap.size ≤ q → (fun q : Nat => s.heap.size ≤ q) q := fun _ h => h
  have hbA : ¬ (fun q : Nat => s.heap.size ≤ q) b := Nat.not_le.mpr hbl
  have hK := hE.1
  have hc0 : cells ≤ room_1.cells ∧ slots ≤ room_1.slots := by show cells ≤ 601024 ∧ slots ≤ 7293034; omega
  have hc1 : cells + 1 ≤ room_1.cells ∧ slots + 6 ≤ room_1.slots := hcap
  have hP : va_P D vwCl (x8W u a r q ++ (svW ct r b2 nx sz S ++ (sobjW a ++ (gridW ct a M ++ (benchW ct a M ++ (logW ct a M ++ (txtW ct q TX tl pl ft wd n1 n2 ++ (jrW ct o0 1 O ++ (moW mb sz tl cd plm cm h ++ (jrW ct (mb 1) 94 M ++ (jrW ct (mb 2) 94 SP ++ (jrW ct (mb 3) 376 SV ++ (irW ct (mb 4) 150 TX ++ (irW ct (mb 5) 2 NB)))))))))))))) H := hP
  have hD : va_D (fun q : Nat => s.heap.size ≤ q) (x8W u a r q ++ (svW ct r b2 nx sz S ++ (sobjW a ++ (gridW ct a M ++ (benchW ct a M ++ (logW ct a M ++ (txtW ct q TX tl pl ft wd n1 n2 ++ (jrW ct o0 1 O ++ (moW mb sz tl cd plm cm h ++ (jrW ct (mb 1) 94 M ++ (jrW ct (mb 2) 94 SP ++ (jrW ct (mb 3) 376 SV ++ (irW ct (mb 4) 150 TX ++ (irW ct (mb 5) 2 NB)))))))))))))) := hD
  have hs := hR.1
  have ht := hR.2.1
  have hI := hs.1
  have hB := hs.2.1
  have ha := hs.2.2
  have i3 := hI.1
  have i4 := hI.2.1
  have j0 := hB.1
  have j1 := hB.2.1
  have j2 := hB.2.2.1
  have j4 := hB.2.2.2.2
  have t1 := ht.1
  have hn := hR.2.2.1
  have hsz := hR.2.2.2.1
  have hsc := hR.2.2.2.1
  obtain ⟨v1, e1, r1⟩ := zI_any (xs (i + 1).toNat)
  obtain ⟨v2, e2, r2⟩ := zI_any (xs (i + 2).toNat)
  by_cases hok : ck_stretch M v1 v2 = 0
  · skip
    have hk : 0 ≤ v1 ∧ v1 < M 3 := by revert hok; unfold ck_stretch; (repeat' split) <;> intro z <;> omega
    have hq := hI.2.2.1 v1 (by omega) (by omega)
    have hv : -2147483648 ≤ M (16 + v1) ∧ M (16 + v1) ≤ 2147483647 := by omega
    refine lv_aload_n hx hb dL_law_228 rfl (lv_at hl 1 rfl) ?_
    refine lv_aload_n hx hb dL_law_229 rfl (lv_at hl 0 rfl) ?_
    refine lv_iload hx hb dL_law_230 (lv_at hl 4 rfl) ?_
    refine z_iconst hx hb dL_law_232 ?_
    refine z_iadd hx hb dL_law_233 ?_
    refine z_sld hx hb hX hbl hbA hS (by omega) hL e1 dL_law_234 ?_
    refine lv_aload_n hx hb dL_law_235 rfl (lv_at hl 0 rfl) ?_
    refine lv_iload hx hb dL_law_236 (lv_at hl 4 rfl) ?_
    refine z_iconst hx hb dL_law_238 ?_
    refine z_iadd hx hb dL_law_239 ?_
    refine z_sld hx hb hX hbl hbA hS (by omega) hL e2 dL_law_240 ?_
    refine lv_aload_n hx hb dL_law_241 rfl (lv_at hl 3 rfl) ?_
    refine z_callSW (As := [.ref u, .int (zI v1), .int (zI v2), .ref o0]) (rest := []) ([] : va_W) (moW mb sz tl cd plm cm h ++ (jrW ct (mb 1) 94 M ++ (jrW ct (mb 2) 94 SP ++ (jrW ct (mb 3) 376 SV ++ (irW ct (mb 4) 150 TX ++ (irW ct (mb 5) 2 NB)))))) hx hb hml hown (fun w h => hts w (inL_97 w h)) hl hE hS hA hP hD (c_L_setStretch_ok l D ct ad u a r q b2 nx sz S M TX tl pl ft n1 n2 wd o0 O v1 v2 (by assumption) (by omega) (by omega) (by omega) (by omega) hok hv) gdL_97 rfl k_L_setStretch ⟨Nat.le_of_ble_eq_true rfl, Nat.le_of_ble_eq_true rfl⟩ rfl (Nat.le_of_ble_eq_true rfl) hc0 dL_law_242 rfl (fun v w1 H locs hpost hP hD hS => ?_)
    obtain ⟨rfl, rfl⟩ := hpost
    have hP : va_P D vwCl (x8W u a r q ++ (svW ct r b2 ((nx + 1) % 4) (min (sz + 1) 4) (updS S nx M) ++ (sobjW a ++ (gridW ct a (up M (16 + v1) v2) ++ (benchW ct a (up M (16 + v1) v2) ++ (logW ct a (up M (16 + v1) v2) ++ (txtW ct q TX tl pl ft wd n1 n2 ++ (jrW ct o0 1 (up O 0 (M (16 + v1))) ++ (moW mb sz tl cd plm cm h ++ (jrW ct (mb 1) 94 M ++ (jrW ct (mb 2) 94 SP ++ (jrW ct (mb 3) 376 SV ++ (irW ct (mb 4) 150 TX ++ (irW ct (mb 5) 2 NB)))))))))))))) H := hP
    have hD : va_D (fun q : Nat => s.heap.size ≤ q) (x8W u a r q ++ (svW ct r b2 ((nx + 1) % 4) (min (sz + 1) 4) (updS S nx M) ++ (sobjW a ++ (gridW ct a (up M (16 + v1) v2) ++ (benchW ct a (up M (16 + v1) v2) ++ (logW ct a (up M (16 + v1) v2) ++ (txtW ct q TX tl pl ft wd n1 n2 ++ (jrW ct o0 1 (up O 0 (M (16 + v1))) ++ (moW mb sz tl cd plm cm h ++ (jrW ct (mb 1) 94 M ++ (jrW ct (mb 2) 94 SP ++ (jrW ct (mb 3) 376 SV ++ (irW ct (mb 4) 150 TX ++ (irW ct (mb 5) 2 NB)))))))))))))) := hD
    refine W.eq (g2 := F0 m 245 ls [.int (zI 0)]) rfl ?_
    refine lv_istore (lv' := [(5, .int (zI 0)), (0, .ref b), (1, .ref u), (2, .ref (mb 0)), (3, .ref o0), (4, .int (zI i))]) hx hb dL_law_245 hl (by decide) rfl (fun ls hl => ?_)
    refine lv_aload_n hx hb dL_law_247 rfl (lv_at hl 3 rfl) ?_
    refine lv_aload_n hx hb dL_law_248 rfl (lv_at hl 1 rfl) ?_
    refine lv_iload hx hb dL_law_249 (lv_at hl 5 rfl) ?_
    refine z_iconst hx hb dL_law_251 ?_
    refine z_iadd hx hb dL_law_252 ?_
    refine z_sld hx hb hX hbl hbA hS (by omega) hL e1 dL_law_253 ?_
    refine lv_aload_n hx hb dL_law_254 rfl (lv_at hl 1 rfl) ?_
    refine lv_iload hx hb dL_law_255 (lv_at hl 5 rfl) ?_
    refine z_iconst hx hb dL_law_257 ?_
    refine z_iadd hx hb dL_law_258 ?_
    refine z_sld hx hb hX hbl hbA hS (by omega) hL e2 dL_law_259 ?_
    refine z_callV (C := RX9) (q0 := 0) (ci := 7) (As := [.int (zI v1), .int (zI v2)]) (rest := []) (x8W u a r q ++ (svW ct r b2 ((nx + 1) % 4) (min (sz + 1) 4) (updS S nx M) ++ (sobjW a ++ (gridW ct a (up M (16 + v1) v2) ++ (benchW ct a (up M (16 + v1) v2) ++ (logW ct a (up M (16 + v1) v2) ++ (txtW ct q TX tl pl ft wd n1 n2 ++ (jrW ct o0 1 (up O 0 (M (16 + v1))))))))))) ([] : va_W) hx hb hml hown (fun w h => hts w (inL_100 w h)) hl hE hS hA (zr0 (x8W u a r q ++ (svW ct r b2 ((nx + 1) % 4) (min (sz + 1) 4) (updS S nx M) ++ (sobjW a ++ (gridW ct a (up M (16 + v1) v2) ++ (benchW ct a (up M (16 + v1) v2) ++ (logW ct a (up M (16 + v1) v2) ++ (txtW ct q TX tl pl ft wd n1 n2 ++ (jrW ct o0 1 (up O 0 (M (16 + v1))))))))))) hP) (zr0D (x8W u a r q ++ (svW ct r b2 ((nx + 1) % 4) (min (sz + 1) 4) (updS S nx M) ++ (sobjW a ++ (gridW ct a (up M (16 + v1) v2) ++ (benchW ct a (up M (16 + v1) v2) ++ (logW ct a (up M (16 + v1) v2) ++ (txtW ct q TX tl pl ft wd n1 n2 ++ (jrW ct o0 1 (up O 0 (M (16 + v1))))))))))) hD) (c_X9_setStretch_ok l D ct ad mb M SP SV TX NB sz tl cd plm cm h v1 v2 (by assumption) (by omega) (by omega) (by omega) (hok)) gdL_100 rfl rfl k_X9_setStretch ⟨Nat.le_of_ble_eq_true rfl, Nat.le_of_ble_eq_true rfl⟩ rfl rfl rfl rfl (Nat.le_of_ble_eq_true rfl) hc0 dL_law_260 rfl (fun v w1 H locs hpost hP hD hS => ?_)
    obtain ⟨rfl, rfl⟩ := hpost
    have hP := zr0' hP
    have hD := zr0D' hD
    have hP : va_P D vwCl (x8W u a r q ++ (svW ct r b2 ((nx + 1) % 4) (min (sz + 1) 4) (updS S nx M) ++ (sobjW a ++ (gridW ct a (up M (16 + v1) v2) ++ (benchW ct a (up M (16 + v1) v2) ++ (logW ct a (up M (16 + v1) v2) ++ (txtW ct q TX tl pl ft wd n1 n2 ++ (jrW ct o0 1 (up O 0 (M (16 + v1))) ++ (moW mb (sv_n sz + 1) tl (ck_stretch M v1 v2) plm cm h ++ (jrW ct (mb 1) 94 (up M (16 + v1) v2) ++ (jrW ct (mb 2) 94 SP ++ (jrW ct (mb 3) 376 (sv_keep SV M sz) ++ (irW ct (mb 4) 150 TX ++ (irW ct (mb 5) 2 NB)))))))))))))) H := hP
    have hD : va_D (fun q : Nat => s.heap.size ≤ q) (x8W u a r q ++ (svW ct r b2 ((nx + 1) % 4) (min (sz + 1) 4) (updS S nx M) ++ (sobjW a ++ (gridW ct a (up M (16 + v1) v2) ++ (benchW ct a (up M (16 + v1) v2) ++ (logW ct a (up M (16 + v1) v2) ++ (txtW ct q TX tl pl ft wd n1 n2 ++ (jrW ct o0 1 (up O 0 (M (16 + v1))) ++ (moW mb (sv_n sz + 1) tl (ck_stretch M v1 v2) plm cm h ++ (jrW ct (mb 1) 94 (up M (16 + v1) v2) ++ (jrW ct (mb 2) 94 SP ++ (jrW ct (mb 3) 376 (sv_keep SV M sz) ++ (irW ct (mb 4) 150 TX ++ (irW ct (mb 5) 2 NB)))))))))))))) := hD
    refine W.eq (g2 := F0 m 263 ls [.int (zI (M (16 + v1)))]) rfl ?_
    refine lv_istore (lv' := [(6, .int (zI (M (16 + v1)))), (5, .int (zI 0)), (0, .ref b), (1, .ref u), (2, .ref (mb 0)), (3, .ref o0), (4, .int (zI i))]) hx hb dL_law_263 hl (by decide) rfl (fun ls hl => ?_)
    refine lv_aload_n hx hb dL_law_265 rfl (lv_at hl 4 rfl) ?_
    refine z_callV (C := RX9) (q0 := 0) (ci := 7) (As := []) (rest := []) (x8W u a r q ++ (svW ct r b2 ((nx + 1) % 4) (min (sz + 1) 4) (updS S nx M) ++ (sobjW a ++ (gridW ct a (up M (16 + v1) v2) ++ (benchW ct a (up M (16 + v1) v2) ++ (logW ct a (up M (16 + v1) v2) ++ (txtW ct q TX tl pl ft wd n1 n2 ++ (jrW ct o0 1 (up O 0 (M (16 + v1))))))))))) ([] : va_W) hx hb hml hown (fun w h => hts w (inL_94 w h)) hl hE hS hA (zr0 (x8W u a r q ++ (svW ct r b2 ((nx + 1) % 4) (min (sz + 1) 4) (updS S nx M) ++ (sobjW a ++ (gridW ct a (up M (16 + v1) v2) ++ (benchW ct a (up M (16 + v1) v2) ++ (logW ct a (up M (16 + v1) v2) ++ (txtW ct q TX tl pl ft wd n1 n2 ++ (jrW ct o0 1 (up O 0 (M (16 + v1))))))))))) hP) (zr0D (x8W u a r q ++ (svW ct r b2 ((nx + 1) % 4) (min (sz + 1) 4) (updS S nx M) ++ (sobjW a ++ (gridW ct a (up M (16 + v1) v2) ++ (benchW ct a (up M (16 + v1) v2) ++ (logW ct a (up M (16 + v1) v2) ++ (txtW ct q TX tl pl ft wd n1 n2 ++ (jrW ct o0 1 (up O 0 (M (16 + v1))))))))))) hD) (c_X9_thrown l D ct ad mb (up M (16 + v1) v2) SP (sv_keep SV M sz) TX NB (sv_n sz + 1) tl (ck_stretch M v1 v2) plm cm h) gdL_94 rfl rfl k_X9_thrown ⟨Nat.le_of_ble_eq_true rfl, Nat.le_of_ble_eq_true rfl⟩ rfl rfl rfl rfl (Nat.le_of_ble_eq_true rfl) hc0 dL_law_266 rfl (fun v w1 H locs hpost hP hD hS => ?_)
    obtain ⟨rfl, rfl⟩ := hpost
    have hP := zr0' hP
    have hD := zr0D' hD
    have hP : va_P D vwCl (x8W u a r q ++ (svW ct r b2 ((nx + 1) % 4) (min (sz + 1) 4) (updS S nx M) ++ (sobjW a ++ (gridW ct a (up M (16 + v1) v2) ++ (benchW ct a (up M (16 + v1) v2) ++ (logW ct a (up M (16 + v1) v2) ++ (txtW ct q TX tl pl ft wd n1 n2 ++ (jrW ct o0 1 (up O 0 (M (16 + v1))) ++ (moW mb (sv_n sz + 1) tl (ck_stretch M v1 v2) plm cm h ++ (jrW ct (mb 1) 94 (up M (16 + v1) v2) ++ (jrW ct (mb 2) 94 SP ++ (jrW ct (mb 3) 376 (sv_keep SV M sz) ++ (irW ct (mb 4) 150 TX ++ (irW ct (mb 5) 2 NB)))))))))))))) H := hP
    have hD : va_D (fun q : Nat => s.heap.size ≤ q) (x8W u a r q ++ (svW ct r b2 ((nx + 1) % 4) (min (sz + 1) 4) (updS S nx M) ++ (sobjW a ++ (gridW ct a (up M (16 + v1) v2) ++ (benchW ct a (up M (16 + v1) v2) ++ (logW ct a (up M (16 + v1) v2) ++ (txtW ct q TX tl pl ft wd n1 n2 ++ (jrW ct o0 1 (up O 0 (M (16 + v1))) ++ (moW mb (sv_n sz + 1) tl (ck_stretch M v1 v2) plm cm h ++ (jrW ct (mb 1) 94 (up M (16 + v1) v2) ++ (jrW ct (mb 2) 94 SP ++ (jrW ct (mb 3) 376 (sv_keep SV M sz) ++ (irW ct (mb 4) 150 TX ++ (irW ct (mb 5) 2 NB)))))))))))))) := hD
    refine W.eq (g2 := F0 m 269 ls [.int (zI (ck_stretch M v1 v2))]) rfl ?_
    refine lv_iload hx hb dL_law_269 (lv_at hl 1 rfl) ?_
    refine z_canI (show 0 = ck_stretch M v1 v2 from hok.symm) ?_
    refine z_icmp_eqS (tgt := 276) hx hb dL_law_271 (by decide) ?_
    refine lv_iload hx hb dL_law_276 (lv_at hl 1 rfl) ?_
    refine z_if_ne (tgt := 293) hx hb dL_law_278 (by decide) (by omega) (fun hc_278 => ?_) (fun hc_278 => ?_)
    · have hc_278 := hc_278
      exfalso; first | omega | (revert hc_278; unfold ck1; split <;> omega)
    · have hc_278 := hc_278
      refine lv_aload_n hx hb dL_law_281 rfl (lv_at hl 5 rfl) ?_
      refine z_iconst hx hb dL_law_282 ?_
      refine z_lald (g := (up O 0 (M (16 + v1)))) (v := M (16 + v1)) hx hb hK hP 60 rfl (by decide) (by omega) (show (up O 0 (M (16 + v1))) 0 = M (16 + v1) from by rw [up_s]) dL_law_283 ?_
      refine lv_iload hx hb dL_law_284 (lv_at hl 0 rfl) ?_
      refine z_i2l hx hb dL_law_286 (by omega) ?_
      refine z_lcmp_eqS (tgt := 293) hx hb dL_law_287 dL_law_288 (by decide) ?_
      refine lv_goto (tgt := 1590) hx hb dL_law_293 (by decide) ?_
      refine W.widen (k := cells + 1) (n := slots + 6) (Nat.le_add_right _ _) (Nat.le_add_right _ _) ?_
      have e9 : (sv_n sz + 1) = (min (sz + 1) 4) := by have q9 := sv_min (sz := sz); have := hR.2.2.2.1; omega
      rw [e9] at hP hD
      exact ih _ _ _ ⟨((nx + 1) % 4), (min (sz + 1) 4), (updS S nx M), (up M (16 + v1) v2), TX, tl, pl, ft, n1, n2, wd, (up O 0 (M (16 + v1))), SP, (sv_keep SV M sz), NB, (ck_stretch M v1 v2), plm, cm, h, lwR_push hR (sInv_stretch hs hok), hP, hD, hS, lv_sub hl [2, 3, 4, 5, 6] rfl⟩
  · skip
    have hcc : (1 ≤ ck_stretch M v1 v2 ∧ ck_stretch M v1 v2 ≤ 3) := by
      have q9 := hok
      revert q9
      unfold ck_stretch
      (repeat' split) <;> intro q9 <;> omega
    refine lv_aload_n hx hb dL_law_228 rfl (lv_at hl 1 rfl) ?_
    refine lv_aload_n hx hb dL_law_229 rfl (lv_at hl 0 rfl) ?_
    refine lv_iload hx hb dL_law_230 (lv_at hl 4 rfl) ?_
    refine z_iconst hx hb dL_law_232 ?_
    refine z_iadd hx hb dL_law_233 ?_
    refine z_sld hx hb hX hbl hbA hS (by omega) hL e1 dL_law_234 ?_
    refine lv_aload_n hx hb dL_law_235 rfl (lv_at hl 0 rfl) ?_
    refine lv_iload hx hb dL_law_236 (lv_at hl 4 rfl) ?_
    refine z_iconst hx hb dL_law_238 ?_
    refine z_iadd hx hb dL_law_239 ?_
    refine z_sld hx hb hX hbl hbA hS (by omega) hL e2 dL_law_240 ?_
    refine lv_aload_n hx hb dL_law_241 rfl (lv_at hl 3 rfl) ?_
    refine z_callSW (As := [.ref u, .int (zI v1), .int (zI v2), .ref o0]) (rest := []) ([] : va_W) (moW mb sz tl cd plm cm h ++ (jrW ct (mb 1) 94 M ++ (jrW ct (mb 2) 94 SP ++ (jrW ct (mb 3) 376 SV ++ (irW ct (mb 4) 150 TX ++ (irW ct (mb 5) 2 NB)))))) hx hb hml hown (fun w h => hts w (inL_97 w h)) hl hE hS hA hP hD (c_L_setStretch_no l D ct ad u a r q b2 nx sz S M TX tl pl ft n1 n2 wd o0 O v1 v2 (by assumption) hst (by omega) (by omega) hok) gdL_97 rfl k_L_setStretch ⟨Nat.le_of_ble_eq_true rfl, Nat.le_of_ble_eq_true rfl⟩ rfl (Nat.le_of_ble_eq_true rfl) hc1 dL_law_242 rfl (fun v w1 H locs hpost hP hD hS => ?_)
    obtain ⟨rfl, rfl⟩ := hpost
    have hP : va_P D vwCl (x8W u a r q ++ (svW ct r b2 nx sz S ++ (sobjW a ++ (gridW ct a M ++ (benchW ct a M ++ (logW ct a M ++ (txtW ct q TX tl pl ft wd n1 n2 ++ (jrW ct o0 1 O ++ (moW mb sz tl cd plm cm h ++ (jrW ct (mb 1) 94 M ++ (jrW ct (mb 2) 94 SP ++ (jrW ct (mb 3) 376 SV ++ (irW ct (mb 4) 150 TX ++ (irW ct (mb 5) 2 NB)))))))))))))) H := hP
    have hD : va_D (fun q : Nat => s.heap.size ≤ q) (x8W u a r q ++ (svW ct r b2 nx sz S ++ (sobjW a ++ (gridW ct a M ++ (benchW ct a M ++ (logW ct a M ++ (txtW ct q TX tl pl ft wd n1 n2 ++ (jrW ct o0 1 O ++ (moW mb sz tl cd plm cm h ++ (jrW ct (mb 1) 94 M ++ (jrW ct (mb 2) 94 SP ++ (jrW ct (mb 3) 376 SV ++ (irW ct (mb 4) 150 TX ++ (irW ct (mb 5) 2 NB)))))))))))))) := hD
    refine W.eq (g2 := F0 m 245 ls [.int (zI (ck_stretch M v1 v2))]) rfl ?_
    refine lv_istore (lv' := [(5, .int (zI (ck_stretch M v1 v2))), (0, .ref b), (1, .ref u), (2, .ref (mb 0)), (3, .ref o0), (4, .int (zI i))]) hx hb dL_law_245 hl (by decide) rfl (fun ls hl => ?_)
    refine lv_aload_n hx hb dL_law_247 rfl (lv_at hl 3 rfl) ?_
    refine lv_aload_n hx hb dL_law_248 rfl (lv_at hl 1 rfl) ?_
    refine lv_iload hx hb dL_law_249 (lv_at hl 5 rfl) ?_
    refine z_iconst hx hb dL_law_251 ?_
    refine z_iadd hx hb dL_law_252 ?_
    refine z_sld hx hb hX hbl hbA hS (by omega) hL e1 dL_law_253 ?_
    refine lv_aload_n hx hb dL_law_254 rfl (lv_at hl 1 rfl) ?_
    refine lv_iload hx hb dL_law_255 (lv_at hl 5 rfl) ?_
    refine z_iconst hx hb dL_law_257 ?_
    refine z_iadd hx hb dL_law_258 ?_
    refine z_sld hx hb hX hbl hbA hS (by omega) hL e2 dL_law_259 ?_
    refine z_callV (C := RX9) (q0 := 0) (ci := 7) (As := [.int (zI v1), .int (zI v2)]) (rest := []) (x8W u a r q ++ (svW ct r b2 nx sz S ++ (sobjW a ++ (gridW ct a M ++ (benchW ct a M ++ (logW ct a M ++ (txtW ct q TX tl pl ft wd n1 n2 ++ (jrW ct o0 1 O)))))))) ([] : va_W) hx hb hml hown (fun w h => hts w (inL_100 w h)) hl hE hS hA (zr0 (x8W u a r q ++ (svW ct r b2 nx sz S ++ (sobjW a ++ (gridW ct a M ++ (benchW ct a M ++ (logW ct a M ++ (txtW ct q TX tl pl ft wd n1 n2 ++ (jrW ct o0 1 O)))))))) hP) (zr0D (x8W u a r q ++ (svW ct r b2 nx sz S ++ (sobjW a ++ (gridW ct a M ++ (benchW ct a M ++ (logW ct a M ++ (txtW ct q TX tl pl ft wd n1 n2 ++ (jrW ct o0 1 O)))))))) hD) (c_X9_setStretch_no l D ct ad mb M SP SV TX NB sz tl cd plm cm h v1 v2 (by assumption) (by omega) (by omega) (hok)) gdL_100 rfl rfl k_X9_setStretch ⟨Nat.le_of_ble_eq_true rfl, Nat.le_of_ble_eq_true rfl⟩ rfl rfl rfl rfl (Nat.le_of_ble_eq_true rfl) hc1 dL_law_260 rfl (fun v w1 H locs hpost hP hD hS => ?_)
    obtain ⟨rfl, rfl⟩ := hpost
    have hP := zr0' hP
    have hD := zr0D' hD
    have hP : va_P D vwCl (x8W u a r q ++ (svW ct r b2 nx sz S ++ (sobjW a ++ (gridW ct a M ++ (benchW ct a M ++ (logW ct a M ++ (txtW ct q TX tl pl ft wd n1 n2 ++ (jrW ct o0 1 O ++ (moW mb sz tl (ck_stretch M v1 v2) plm cm h ++ (jrW ct (mb 1) 94 M ++ (jrW ct (mb 2) 94 SP ++ (jrW ct (mb 3) 376 SV ++ (irW ct (mb 4) 150 TX ++ (irW ct (mb 5) 2 NB)))))))))))))) H := hP
    have hD : va_D (fun q : Nat => s.heap.size ≤ q) (x8W u a r q ++ (svW ct r b2 nx sz S ++ (sobjW a ++ (gridW ct a M ++ (benchW ct a M ++ (logW ct a M ++ (txtW ct q TX tl pl ft wd n1 n2 ++ (jrW ct o0 1 O ++ (moW mb sz tl (ck_stretch M v1 v2) plm cm h ++ (jrW ct (mb 1) 94 M ++ (jrW ct (mb 2) 94 SP ++ (jrW ct (mb 3) 376 SV ++ (irW ct (mb 4) 150 TX ++ (irW ct (mb 5) 2 NB)))))))))))))) := hD
    refine W.eq (g2 := F0 m 263 ls [.int (zI 0)]) rfl ?_
    refine lv_istore (lv' := [(6, .int (zI 0)), (5, .int (zI (ck_stretch M v1 v2))), (0, .ref b), (1, .ref u), (2, .ref (mb 0)), (3, .ref o0), (4, .int (zI i))]) hx hb dL_law_263 hl (by decide) rfl (fun ls hl => ?_)
    refine lv_aload_n hx hb dL_law_265 rfl (lv_at hl 4 rfl) ?_
    refine z_callV (C := RX9) (q0 := 0) (ci := 7) (As := []) (rest := []) (x8W u a r q ++ (svW ct r b2 nx sz S ++ (sobjW a ++ (gridW ct a M ++ (benchW ct a M ++ (logW ct a M ++ (txtW ct q TX tl pl ft wd n1 n2 ++ (jrW ct o0 1 O)))))))) ([] : va_W) hx hb hml hown (fun w h => hts w (inL_94 w h)) hl hE hS hA (zr0 (x8W u a r q ++ (svW ct r b2 nx sz S ++ (sobjW a ++ (gridW ct a M ++ (benchW ct a M ++ (logW ct a M ++ (txtW ct q TX tl pl ft wd n1 n2 ++ (jrW ct o0 1 O)))))))) hP) (zr0D (x8W u a r q ++ (svW ct r b2 nx sz S ++ (sobjW a ++ (gridW ct a M ++ (benchW ct a M ++ (logW ct a M ++ (txtW ct q TX tl pl ft wd n1 n2 ++ (jrW ct o0 1 O)))))))) hD) (c_X9_thrown l D ct ad mb M SP SV TX NB sz tl (ck_stretch M v1 v2) plm cm h) gdL_94 rfl rfl k_X9_thrown ⟨Nat.le_of_ble_eq_true rfl, Nat.le_of_ble_eq_true rfl⟩ rfl rfl rfl rfl (Nat.le_of_ble_eq_true rfl) hc1 dL_law_266 rfl (fun v w1 H locs hpost hP hD hS => ?_)
    obtain ⟨rfl, rfl⟩ := hpost
    have hP := zr0' hP
    have hD := zr0D' hD
    have hP : va_P D vwCl (x8W u a r q ++ (svW ct r b2 nx sz S ++ (sobjW a ++ (gridW ct a M ++ (benchW ct a M ++ (logW ct a M ++ (txtW ct q TX tl pl ft wd n1 n2 ++ (jrW ct o0 1 O ++ (moW mb sz tl (ck_stretch M v1 v2) plm cm h ++ (jrW ct (mb 1) 94 M ++ (jrW ct (mb 2) 94 SP ++ (jrW ct (mb 3) 376 SV ++ (irW ct (mb 4) 150 TX ++ (irW ct (mb 5) 2 NB)))))))))))))) H := hP
    have hD : va_D (fun q : Nat => s.heap.size ≤ q) (x8W u a r q ++ (svW ct r b2 nx sz S ++ (sobjW a ++ (gridW ct a M ++ (benchW ct a M ++ (logW ct a M ++ (txtW ct q TX tl pl ft wd n1 n2 ++ (jrW ct o0 1 O ++ (moW mb sz tl (ck_stretch M v1 v2) plm cm h ++ (jrW ct (mb 1) 94 M ++ (jrW ct (mb 2) 94 SP ++ (jrW ct (mb 3) 376 SV ++ (irW ct (mb 4) 150 TX ++ (irW ct (mb 5) 2 NB)))))))))))))) := hD
    refine W.eq (g2 := F0 m 269 ls [.int (zI (ck_stretch M v1 v2))]) rfl ?_
    refine lv_iload hx hb dL_law_269 (lv_at hl 1 rfl) ?_
    refine z_icmp_eqS (tgt := 276) hx hb dL_law_271 (by decide) ?_
    refine lv_iload hx hb dL_law_276 (lv_at hl 1 rfl) ?_
    refine z_if_ne (tgt := 293) hx hb dL_law_278 (by decide) (by omega) (fun hc_278 => ?_) (fun hc_278 => ?_)
    · have hc_278 := hc_278
      refine lv_goto (tgt := 1590) hx hb dL_law_293 (by decide) ?_
      exact ih _ _ _ ⟨nx, sz, S, M, TX, tl, pl, ft, n1, n2, wd, O, SP, SV, NB, (ck_stretch M v1 v2), plm, cm, h, hR, hP, hD, hS, lv_sub hl [2, 3, 4, 5, 6] rfl⟩
    · have hc_278 := hc_278
      exfalso; first | omega | (revert hc_278; unfold ck1; split <;> omega)
set_option maxHeartbeats 4000000 in
set_option maxRecDepth 100000 in
theorem law_c2 (p : Program) (l : Launch) (e : Env) (s : State) (m : MethodId) (below : List Frame) (meth : Method) (c : Code) (D : va_G) (ct ad : Nat → Nat) (b L : Nat) (xs : Nat → Int32) (u : Nat) (a r q : Nat → Nat) (b2 : Nat → Nat → Nat) (o0 : Nat) (mb : Nat → Nat) (hC : lwC p l s m meth c D ct ad b L xs) (i : Int) (hi : 0 ≤ i ∧ i + 4 ≤ (L : Int)) (cells slots : Nat) (hcap : cells + 1 ≤ 601024 ∧ slots + 6 ≤ 7293034) (ih : ∀ (H : Heap) (locs : List Loc) (ls : Array Slot), lwI s D ct b u a r q b2 o0 mb i H locs ls → W p l e room_1 s m #[Value.ref b] below meth c H locs (cells + 1) (slots + 6) (lw_Z below #[Value.ref b] s) (F0 m 1590 ls [])) (H : Heap) (locs : List Loc) (ls : Array Slot) (hI0 : lwI s D ct b u a r q b2 o0 mb i H locs ls) : W p l e room_1 s m #[Value.ref b] below meth c H locs cells slots (lw_Z below #[Value.ref b] s) (F0 m 296 ls []) := by
  obtain ⟨hx, hb, hr, hml, hown, hts, hX, hbl, hlocks, hE, hst, hL⟩ := hC
  obtain ⟨nx, sz, S, M, TX, tl, pl, ft, n1, n2, wd, O, SP, SV, NB, cd, plm, cm, h, hR, hP, hD, hS, hl⟩ := hI0
  have hA : ∀ q : Nat, s.heap.size ≤ q → (fun q : Nat => s.heap.size ≤ q) q := fun _ h => h
  have hbA : ¬ (fun q : Nat => s.heap.size ≤ q) b := Nat.not_le.mpr hbl
  have hK := hE.1
  have hc0 : cells ≤ room_1.cells ∧ slots ≤ room_1.slots := by show cells ≤ 601024 ∧ slots ≤ 7293034; omega
  have hc1 : cells + 1 ≤ room_1.cells ∧ slots + 6 ≤ room_1.slots := hcap
  have hP : va_P D vwCl (x8W u a r q ++ (svW ct r b2 nx sz S ++ (sobjW a ++ (gridW ct a M ++ (benchW ct a M ++ (logW ct a M ++ (txtW ct q TX tl pl ft wd n1 n2 ++ (jrW ct o0 1 O ++ (moW mb sz tl cd plm cm h ++ (jrW ct (mb 1) 94 M ++ (jrW ct (mb 2) 94 SP ++ (jrW ct (mb 3) 376 SV ++ (irW ct (mb 4) 150 TX ++ (irW ct (mb 5) 2 NB)))))))))))))) H := hP
  have hD : va_D (fun q : Nat => s.heap.size ≤ q) (x8W u a r q ++ (svW ct r b2 nx sz S ++ (sobjW a ++ (gridW ct a M ++ (benchW ct a M ++ (logW ct a M ++ (txtW ct q TX tl pl ft wd n1 n2 ++ (jrW ct o0 1 O ++ (moW mb sz tl cd plm cm h ++ (jrW ct (mb 1) 94 M ++ (jrW ct (mb 2) 94 SP ++ (jrW ct (mb 3) 376 SV ++ (irW ct (mb 4) 150 TX ++ (irW ct (mb 5) 2 NB)))))))))))))) := hD
  have hs := hR.1
  have ht := hR.2.1
  have hI := hs.1
  have hB := hs.2.1
  have ha := hs.2.2
  have i3 := hI.1
  have i4 := hI.2.1
  have j0 := hB.1
  have j1 := hB.2.1
  have j2 := hB.2.2.1
  have j4 := hB.2.2.2.2
  have t1 := ht.1
  have hn := hR.2.2.1
  have hsz := hR.2.2.2.1
  have hsc := hR.2.2.2.1
  obtain ⟨v1, e1, r1⟩ := zI_any (xs (i + 1).toNat)
  obtain ⟨v2, e2, r2⟩ := zI_any (xs (i + 2).toNat)
  obtain ⟨v3, e3, r3⟩ := zI_any (xs (i + 3).toNat)
  by_cases hok : ck_rod M v1 v2 v3 = 0
  · skip
    have hv : -2147483648 ≤ M 4 ∧ M 4 ≤ 2147483647 := by omega
    refine lv_aload_n hx hb dL_law_296 rfl (lv_at hl 1 rfl) ?_
    refine lv_aload_n hx hb dL_law_297 rfl (lv_at hl 0 rfl) ?_
    refine lv_iload hx hb dL_law_298 (lv_at hl 4 rfl) ?_
    refine z_iconst hx hb dL_law_300 ?_
    refine z_iadd hx hb dL_law_301 ?_
    refine z_sld hx hb hX hbl hbA hS (by omega) hL e1 dL_law_302 ?_
    refine lv_aload_n hx hb dL_law_303 rfl (lv_at hl 0 rfl) ?_
    refine lv_iload hx hb dL_law_304 (lv_at hl 4 rfl) ?_
    refine z_iconst hx hb dL_law_306 ?_
    refine z_iadd hx hb dL_law_307 ?_
    refine z_sld hx hb hX hbl hbA hS (by omega) hL e2 dL_law_308 ?_
    refine lv_aload_n hx hb dL_law_309 rfl (lv_at hl 0 rfl) ?_
    refine lv_iload hx hb dL_law_310 (lv_at hl 4 rfl) ?_
    refine z_iconst hx hb dL_law_312 ?_
    refine z_iadd hx hb dL_law_313 ?_
    refine z_sld hx hb hX hbl hbA hS (by omega) hL e3 dL_law_314 ?_
    refine lv_aload_n hx hb dL_law_315 rfl (lv_at hl 3 rfl) ?_
    refine z_callSW (As := [.ref u, .int (zI v1), .int (zI v2), .int (zI v3), .ref o0]) (rest := []) ([] : va_W) (moW mb sz tl cd plm cm h ++ (jrW ct (mb 1) 94 M ++ (jrW ct (mb 2) 94 SP ++ (jrW ct (mb 3) 376 SV ++ (irW ct (mb 4) 150 TX ++ (irW ct (mb 5) 2 NB)))))) hx hb hml hown (fun w h => hts w (inL_101 w h)) hl hE hS hA hP hD (c_L_addRod_ok l D ct ad u a r q b2 nx sz S M TX tl pl ft n1 n2 wd o0 O v1 v2 v3 (by assumption) (by omega) (by omega) (by omega) (by omega) (by omega) hok hv) gdL_101 rfl k_L_addRod ⟨Nat.le_of_ble_eq_true rfl, Nat.le_of_ble_eq_true rfl⟩ rfl (Nat.le_of_ble_eq_true rfl) hc0 dL_law_316 rfl (fun v w1 H locs hpost hP hD hS => ?_)
    obtain ⟨rfl, rfl⟩ := hpost
    have hP : va_P D vwCl (x8W u a r q ++ (svW ct r b2 ((nx + 1) % 4) (min (sz + 1) 4) (updS S nx M) ++ (sobjW a ++ (gridW ct a (st_rod M v1 v2 v3) ++ (benchW ct a (st_rod M v1 v2 v3) ++ (logW ct a (st_rod M v1 v2 v3) ++ (txtW ct q TX tl pl ft wd n1 n2 ++ (jrW ct o0 1 (up O 0 (M 4)) ++ (moW mb sz tl cd plm cm h ++ (jrW ct (mb 1) 94 M ++ (jrW ct (mb 2) 94 SP ++ (jrW ct (mb 3) 376 SV ++ (irW ct (mb 4) 150 TX ++ (irW ct (mb 5) 2 NB)))))))))))))) H := hP
    have hD : va_D (fun q : Nat => s.heap.size ≤ q) (x8W u a r q ++ (svW ct r b2 ((nx + 1) % 4) (min (sz + 1) 4) (updS S nx M) ++ (sobjW a ++ (gridW ct a (st_rod M v1 v2 v3) ++ (benchW ct a (st_rod M v1 v2 v3) ++ (logW ct a (st_rod M v1 v2 v3) ++ (txtW ct q TX tl pl ft wd n1 n2 ++ (jrW ct o0 1 (up O 0 (M 4)) ++ (moW mb sz tl cd plm cm h ++ (jrW ct (mb 1) 94 M ++ (jrW ct (mb 2) 94 SP ++ (jrW ct (mb 3) 376 SV ++ (irW ct (mb 4) 150 TX ++ (irW ct (mb 5) 2 NB)))))))))))))) := hD
    refine W.eq (g2 := F0 m 319 ls [.int (zI 0)]) rfl ?_
    refine lv_istore (lv' := [(5, .int (zI 0)), (0, .ref b), (1, .ref u), (2, .ref (mb 0)), (3, .ref o0), (4, .int (zI i))]) hx hb dL_law_319 hl (by decide) rfl (fun ls hl => ?_)
    refine lv_aload_n hx hb dL_law_321 rfl (lv_at hl 3 rfl) ?_
    refine lv_aload_n hx hb dL_law_322 rfl (lv_at hl 1 rfl) ?_
    refine lv_iload hx hb dL_law_323 (lv_at hl 5 rfl) ?_
    refine z_iconst hx hb dL_law_325 ?_
    refine z_iadd hx hb dL_law_326 ?_
    refine z_sld hx hb hX hbl hbA hS (by omega) hL e1 dL_law_327 ?_
    refine lv_aload_n hx hb dL_law_328 rfl (lv_at hl 1 rfl) ?_
    refine lv_iload hx hb dL_law_329 (lv_at hl 5 rfl) ?_
    refine z_iconst hx hb dL_law_331 ?_
    refine z_iadd hx hb dL_law_332 ?_
    refine z_sld hx hb hX hbl hbA hS (by omega) hL e2 dL_law_333 ?_
    refine lv_aload_n hx hb dL_law_334 rfl (lv_at hl 1 rfl) ?_
    refine lv_iload hx hb dL_law_335 (lv_at hl 5 rfl) ?_
    refine z_iconst hx hb dL_law_337 ?_
    refine z_iadd hx hb dL_law_338 ?_
    refine z_sld hx hb hX hbl hbA hS (by omega) hL e3 dL_law_339 ?_
    refine z_callV (C := RX9) (q0 := 0) (ci := 7) (As := [.int (zI v1), .int (zI v2), .int (zI v3)]) (rest := []) (x8W u a r q ++ (svW ct r b2 ((nx + 1) % 4) (min (sz + 1) 4) (updS S nx M) ++ (sobjW a ++ (gridW ct a (st_rod M v1 v2 v3) ++ (benchW ct a (st_rod M v1 v2 v3) ++ (logW ct a (st_rod M v1 v2 v3) ++ (txtW ct q TX tl pl ft wd n1 n2 ++ (jrW ct o0 1 (up O 0 (M 4)))))))))) ([] : va_W) hx hb hml hown (fun w h => hts w (inL_104 w h)) hl hE hS hA (zr0 (x8W u a r q ++ (svW ct r b2 ((nx + 1) % 4) (min (sz + 1) 4) (updS S nx M) ++ (sobjW a ++ (gridW ct a (st_rod M v1 v2 v3) ++ (benchW ct a (st_rod M v1 v2 v3) ++ (logW ct a (st_rod M v1 v2 v3) ++ (txtW ct q TX tl pl ft wd n1 n2 ++ (jrW ct o0 1 (up O 0 (M 4)))))))))) hP) (zr0D (x8W u a r q ++ (svW ct r b2 ((nx + 1) % 4) (min (sz + 1) 4) (updS S nx M) ++ (sobjW a ++ (gridW ct a (st_rod M v1 v2 v3) ++ (benchW ct a (st_rod M v1 v2 v3) ++ (logW ct a (st_rod M v1 v2 v3) ++ (txtW ct q TX tl pl ft wd n1 n2 ++ (jrW ct o0 1 (up O 0 (M 4)))))))))) hD) (c_X9_addRod_ok l D ct ad mb M SP SV TX NB sz tl cd plm cm h v1 v2 v3 (by assumption) (by omega) (by omega) (by omega) (by omega) (hok)) gdL_104 rfl rfl k_X9_addRod ⟨Nat.le_of_ble_eq_true rfl, Nat.le_of_ble_eq_true rfl⟩ rfl rfl rfl rfl (Nat.le_of_ble_eq_true rfl) hc0 dL_law_340 rfl (fun v w1 H locs hpost hP hD hS => ?_)
    obtain ⟨rfl, rfl⟩ := hpost
    have hP := zr0' hP
    have hD := zr0D' hD
    have hP : va_P D vwCl (x8W u a r q ++ (svW ct r b2 ((nx + 1) % 4) (min (sz + 1) 4) (updS S nx M) ++ (sobjW a ++ (gridW ct a (st_rod M v1 v2 v3) ++ (benchW ct a (st_rod M v1 v2 v3) ++ (logW ct a (st_rod M v1 v2 v3) ++ (txtW ct q TX tl pl ft wd n1 n2 ++ (jrW ct o0 1 (up O 0 (M 4)) ++ (moW mb (sv_n sz + 1) tl (ck_rod M v1 v2 v3) plm cm h ++ (jrW ct (mb 1) 94 (st_rod M v1 v2 v3) ++ (jrW ct (mb 2) 94 SP ++ (jrW ct (mb 3) 376 (sv_keep SV M sz) ++ (irW ct (mb 4) 150 TX ++ (irW ct (mb 5) 2 NB)))))))))))))) H := hP
    have hD : va_D (fun q : Nat => s.heap.size ≤ q) (x8W u a r q ++ (svW ct r b2 ((nx + 1) % 4) (min (sz + 1) 4) (updS S nx M) ++ (sobjW a ++ (gridW ct a (st_rod M v1 v2 v3) ++ (benchW ct a (st_rod M v1 v2 v3) ++ (logW ct a (st_rod M v1 v2 v3) ++ (txtW ct q TX tl pl ft wd n1 n2 ++ (jrW ct o0 1 (up O 0 (M 4)) ++ (moW mb (sv_n sz + 1) tl (ck_rod M v1 v2 v3) plm cm h ++ (jrW ct (mb 1) 94 (st_rod M v1 v2 v3) ++ (jrW ct (mb 2) 94 SP ++ (jrW ct (mb 3) 376 (sv_keep SV M sz) ++ (irW ct (mb 4) 150 TX ++ (irW ct (mb 5) 2 NB)))))))))))))) := hD
    refine W.eq (g2 := F0 m 343 ls [.int (zI (M 4))]) rfl ?_
    refine lv_istore (lv' := [(6, .int (zI (M 4))), (5, .int (zI 0)), (0, .ref b), (1, .ref u), (2, .ref (mb 0)), (3, .ref o0), (4, .int (zI i))]) hx hb dL_law_343 hl (by decide) rfl (fun ls hl => ?_)
    refine lv_aload_n hx hb dL_law_345 rfl (lv_at hl 4 rfl) ?_
    refine z_callV (C := RX9) (q0 := 0) (ci := 7) (As := []) (rest := []) (x8W u a r q ++ (svW ct r b2 ((nx + 1) % 4) (min (sz + 1) 4) (updS S nx M) ++ (sobjW a ++ (gridW ct a (st_rod M v1 v2 v3) ++ (benchW ct a (st_rod M v1 v2 v3) ++ (logW ct a (st_rod M v1 v2 v3) ++ (txtW ct q TX tl pl ft wd n1 n2 ++ (jrW ct o0 1 (up O 0 (M 4)))))))))) ([] : va_W) hx hb hml hown (fun w h => hts w (inL_94 w h)) hl hE hS hA (zr0 (x8W u a r q ++ (svW ct r b2 ((nx + 1) % 4) (min (sz + 1) 4) (updS S nx M) ++ (sobjW a ++ (gridW ct a (st_rod M v1 v2 v3) ++ (benchW ct a (st_rod M v1 v2 v3) ++ (logW ct a (st_rod M v1 v2 v3) ++ (txtW ct q TX tl pl ft wd n1 n2 ++ (jrW ct o0 1 (up O 0 (M 4)))))))))) hP) (zr0D (x8W u a r q ++ (svW ct r b2 ((nx + 1) % 4) (min (sz + 1) 4) (updS S nx M) ++ (sobjW a ++ (gridW ct a (st_rod M v1 v2 v3) ++ (benchW ct a (st_rod M v1 v2 v3) ++ (logW ct a (st_rod M v1 v2 v3) ++ (txtW ct q TX tl pl ft wd n1 n2 ++ (jrW ct o0 1 (up O 0 (M 4)))))))))) hD) (c_X9_thrown l D ct ad mb (st_rod M v1 v2 v3) SP (sv_keep SV M sz) TX NB (sv_n sz + 1) tl (ck_rod M v1 v2 v3) plm cm h) gdL_94 rfl rfl k_X9_thrown ⟨Nat.le_of_ble_eq_true rfl, Nat.le_of_ble_eq_true rfl⟩ rfl rfl rfl rfl (Nat.le_of_ble_eq_true rfl) hc0 dL_law_346 rfl (fun v w1 H locs hpost hP hD hS => ?_)
    obtain ⟨rfl, rfl⟩ := hpost
    have hP := zr0' hP
    have hD := zr0D' hD
    have hP : va_P D vwCl (x8W u a r q ++ (svW ct r b2 ((nx + 1) % 4) (min (sz + 1) 4) (updS S nx M) ++ (sobjW a ++ (gridW ct a (st_rod M v1 v2 v3) ++ (benchW ct a (st_rod M v1 v2 v3) ++ (logW ct a (st_rod M v1 v2 v3) ++ (txtW ct q TX tl pl ft wd n1 n2 ++ (jrW ct o0 1 (up O 0 (M 4)) ++ (moW mb (sv_n sz + 1) tl (ck_rod M v1 v2 v3) plm cm h ++ (jrW ct (mb 1) 94 (st_rod M v1 v2 v3) ++ (jrW ct (mb 2) 94 SP ++ (jrW ct (mb 3) 376 (sv_keep SV M sz) ++ (irW ct (mb 4) 150 TX ++ (irW ct (mb 5) 2 NB)))))))))))))) H := hP
    have hD : va_D (fun q : Nat => s.heap.size ≤ q) (x8W u a r q ++ (svW ct r b2 ((nx + 1) % 4) (min (sz + 1) 4) (updS S nx M) ++ (sobjW a ++ (gridW ct a (st_rod M v1 v2 v3) ++ (benchW ct a (st_rod M v1 v2 v3) ++ (logW ct a (st_rod M v1 v2 v3) ++ (txtW ct q TX tl pl ft wd n1 n2 ++ (jrW ct o0 1 (up O 0 (M 4)) ++ (moW mb (sv_n sz + 1) tl (ck_rod M v1 v2 v3) plm cm h ++ (jrW ct (mb 1) 94 (st_rod M v1 v2 v3) ++ (jrW ct (mb 2) 94 SP ++ (jrW ct (mb 3) 376 (sv_keep SV M sz) ++ (irW ct (mb 4) 150 TX ++ (irW ct (mb 5) 2 NB)))))))))))))) := hD
    refine W.eq (g2 := F0 m 349 ls [.int (zI (ck_rod M v1 v2 v3))]) rfl ?_
    refine lv_iload hx hb dL_law_349 (lv_at hl 1 rfl) ?_
    refine z_canI (show 0 = ck_rod M v1 v2 v3 from hok.symm) ?_
    refine z_icmp_eqS (tgt := 356) hx hb dL_law_351 (by decide) ?_
    refine lv_iload hx hb dL_law_356 (lv_at hl 1 rfl) ?_
    refine z_if_ne (tgt := 373) hx hb dL_law_358 (by decide) (by omega) (fun hc_358 => ?_) (fun hc_358 => ?_)
    · have hc_358 := hc_358
      exfalso; first | omega | (revert hc_358; unfold ck1; split <;> omega)
    · have hc_358 := hc_358
      refine lv_aload_n hx hb dL_law_361 rfl (lv_at hl 5 rfl) ?_
      refine z_iconst hx hb dL_law_362 ?_
      refine z_lald (g := (up O 0 (M 4))) (v := M 4) hx hb hK hP 60 rfl (by decide) (by omega) (show (up O 0 (M 4)) 0 = M 4 from by rw [up_s]) dL_law_363 ?_
      refine lv_iload hx hb dL_law_364 (lv_at hl 0 rfl) ?_
      refine z_i2l hx hb dL_law_366 (by omega) ?_
      refine z_lcmp_eqS (tgt := 373) hx hb dL_law_367 dL_law_368 (by decide) ?_
      refine lv_goto (tgt := 1590) hx hb dL_law_373 (by decide) ?_
      refine W.widen (k := cells + 1) (n := slots + 6) (Nat.le_add_right _ _) (Nat.le_add_right _ _) ?_
      have e9 : (sv_n sz + 1) = (min (sz + 1) 4) := by have q9 := sv_min (sz := sz); have := hR.2.2.2.1; omega
      rw [e9] at hP hD
      exact ih _ _ _ ⟨((nx + 1) % 4), (min (sz + 1) 4), (updS S nx M), (st_rod M v1 v2 v3), TX, tl, pl, ft, n1, n2, wd, (up O 0 (M 4)), SP, (sv_keep SV M sz), NB, (ck_rod M v1 v2 v3), plm, cm, h, lwR_push hR (sInv_rod hs hok), hP, hD, hS, lv_sub hl [2, 3, 4, 5, 6] rfl⟩
  · skip
    have hcc : (1 ≤ ck_rod M v1 v2 v3 ∧ ck_rod M v1 v2 v3 ≤ 3) := by
      have q9 := hok
      revert q9
      unfold ck_rod
      (repeat' split) <;> intro q9 <;> omega
    refine lv_aload_n hx hb dL_law_296 rfl (lv_at hl 1 rfl) ?_
    refine lv_aload_n hx hb dL_law_297 rfl (lv_at hl 0 rfl) ?_
    refine lv_iload hx hb dL_law_298 (lv_at hl 4 rfl) ?_
    refine z_iconst hx hb dL_law_300 ?_
    refine z_iadd hx hb dL_law_301 ?_
    refine z_sld hx hb hX hbl hbA hS (by omega) hL e1 dL_law_302 ?_
    refine lv_aload_n hx hb dL_law_303 rfl (lv_at hl 0 rfl) ?_
    refine lv_iload hx hb dL_law_304 (lv_at hl 4 rfl) ?_
    refine z_iconst hx hb dL_law_306 ?_
    refine z_iadd hx hb dL_law_307 ?_
    refine z_sld hx hb hX hbl hbA hS (by omega) hL e2 dL_law_308 ?_
    refine lv_aload_n hx hb dL_law_309 rfl (lv_at hl 0 rfl) ?_
    refine lv_iload hx hb dL_law_310 (lv_at hl 4 rfl) ?_
    refine z_iconst hx hb dL_law_312 ?_
    refine z_iadd hx hb dL_law_313 ?_
    refine z_sld hx hb hX hbl hbA hS (by omega) hL e3 dL_law_314 ?_
    refine lv_aload_n hx hb dL_law_315 rfl (lv_at hl 3 rfl) ?_
    refine z_callSW (As := [.ref u, .int (zI v1), .int (zI v2), .int (zI v3), .ref o0]) (rest := []) ([] : va_W) (moW mb sz tl cd plm cm h ++ (jrW ct (mb 1) 94 M ++ (jrW ct (mb 2) 94 SP ++ (jrW ct (mb 3) 376 SV ++ (irW ct (mb 4) 150 TX ++ (irW ct (mb 5) 2 NB)))))) hx hb hml hown (fun w h => hts w (inL_101 w h)) hl hE hS hA hP hD (c_L_addRod_no l D ct ad u a r q b2 nx sz S M TX tl pl ft n1 n2 wd o0 O v1 v2 v3 (by assumption) hst (by omega) (by omega) (by omega) hok) gdL_101 rfl k_L_addRod ⟨Nat.le_of_ble_eq_true rfl, Nat.le_of_ble_eq_true rfl⟩ rfl (Nat.le_of_ble_eq_true rfl) hc1 dL_law_316 rfl (fun v w1 H locs hpost hP hD hS => ?_)
    obtain ⟨rfl, rfl⟩ := hpost
    have hP : va_P D vwCl (x8W u a r q ++ (svW ct r b2 nx sz S ++ (sobjW a ++ (gridW ct a M ++ (benchW ct a M ++ (logW ct a M ++ (txtW ct q TX tl pl ft wd n1 n2 ++ (jrW ct o0 1 O ++ (moW mb sz tl cd plm cm h ++ (jrW ct (mb 1) 94 M ++ (jrW ct (mb 2) 94 SP ++ (jrW ct (mb 3) 376 SV ++ (irW ct (mb 4) 150 TX ++ (irW ct (mb 5) 2 NB)))))))))))))) H := hP
    have hD : va_D (fun q : Nat => s.heap.size ≤ q) (x8W u a r q ++ (svW ct r b2 nx sz S ++ (sobjW a ++ (gridW ct a M ++ (benchW ct a M ++ (logW ct a M ++ (txtW ct q TX tl pl ft wd n1 n2 ++ (jrW ct o0 1 O ++ (moW mb sz tl cd plm cm h ++ (jrW ct (mb 1) 94 M ++ (jrW ct (mb 2) 94 SP ++ (jrW ct (mb 3) 376 SV ++ (irW ct (mb 4) 150 TX ++ (irW ct (mb 5) 2 NB)))))))))))))) := hD
    refine W.eq (g2 := F0 m 319 ls [.int (zI (ck_rod M v1 v2 v3))]) rfl ?_
    refine lv_istore (lv' := [(5, .int (zI (ck_rod M v1 v2 v3))), (0, .ref b), (1, .ref u), (2, .ref (mb 0)), (3, .ref o0), (4, .int (zI i))]) hx hb dL_law_319 hl (by decide) rfl (fun ls hl => ?_)
    refine lv_aload_n hx hb dL_law_321 rfl (lv_at hl 3 rfl) ?_
    refine lv_aload_n hx hb dL_law_322 rfl (lv_at hl 1 rfl) ?_
    refine lv_iload hx hb dL_law_323 (lv_at hl 5 rfl) ?_
    refine z_iconst hx hb dL_law_325 ?_
    refine z_iadd hx hb dL_law_326 ?_
    refine z_sld hx hb hX hbl hbA hS (by omega) hL e1 dL_law_327 ?_
    refine lv_aload_n hx hb dL_law_328 rfl (lv_at hl 1 rfl) ?_
    refine lv_iload hx hb dL_law_329 (lv_at hl 5 rfl) ?_
    refine z_iconst hx hb dL_law_331 ?_
    refine z_iadd hx hb dL_law_332 ?_
    refine z_sld hx hb hX hbl hbA hS (by omega) hL e2 dL_law_333 ?_
    refine lv_aload_n hx hb dL_law_334 rfl (lv_at hl 1 rfl) ?_
    refine lv_iload hx hb dL_law_335 (lv_at hl 5 rfl) ?_
    refine z_iconst hx hb dL_law_337 ?_
    refine z_iadd hx hb dL_law_338 ?_
    refine z_sld hx hb hX hbl hbA hS (by omega) hL e3 dL_law_339 ?_
    refine z_callV (C := RX9) (q0 := 0) (ci := 7) (As := [.int (zI v1), .int (zI v2), .int (zI v3)]) (rest := []) (x8W u a r q ++ (svW ct r b2 nx sz S ++ (sobjW a ++ (gridW ct a M ++ (benchW ct a M ++ (logW ct a M ++ (txtW ct q TX tl pl ft wd n1 n2 ++ (jrW ct o0 1 O)))))))) ([] : va_W) hx hb hml hown (fun w h => hts w (inL_104 w h)) hl hE hS hA (zr0 (x8W u a r q ++ (svW ct r b2 nx sz S ++ (sobjW a ++ (gridW ct a M ++ (benchW ct a M ++ (logW ct a M ++ (txtW ct q TX tl pl ft wd n1 n2 ++ (jrW ct o0 1 O)))))))) hP) (zr0D (x8W u a r q ++ (svW ct r b2 nx sz S ++ (sobjW a ++ (gridW ct a M ++ (benchW ct a M ++ (logW ct a M ++ (txtW ct q TX tl pl ft wd n1 n2 ++ (jrW ct o0 1 O)))))))) hD) (c_X9_addRod_no l D ct ad mb M SP SV TX NB sz tl cd plm cm h v1 v2 v3 (by assumption) (by omega) (by omega) (by omega) (hok)) gdL_104 rfl rfl k_X9_addRod ⟨Nat.le_of_ble_eq_true rfl, Nat.le_of_ble_eq_true rfl⟩ rfl rfl rfl rfl (Nat.le_of_ble_eq_true rfl) hc1 dL_law_340 rfl (fun v w1 H locs hpost hP hD hS => ?_)
    obtain ⟨rfl, rfl⟩ := hpost
    have hP := zr0' hP
    have hD := zr0D' hD
    have hP : va_P D vwCl (x8W u a r q ++ (svW ct r b2 nx sz S ++ (sobjW a ++ (gridW ct a M ++ (benchW ct a M ++ (logW ct a M ++ (txtW ct q TX tl pl ft wd n1 n2 ++ (jrW ct o0 1 O ++ (moW mb sz tl (ck_rod M v1 v2 v3) plm cm h ++ (jrW ct (mb 1) 94 M ++ (jrW ct (mb 2) 94 SP ++ (jrW ct (mb 3) 376 SV ++ (irW ct (mb 4) 150 TX ++ (irW ct (mb 5) 2 NB)))))))))))))) H := hP
    have hD : va_D (fun q : Nat => s.heap.size ≤ q) (x8W u a r q ++ (svW ct r b2 nx sz S ++ (sobjW a ++ (gridW ct a M ++ (benchW ct a M ++ (logW ct a M ++ (txtW ct q TX tl pl ft wd n1 n2 ++ (jrW ct o0 1 O ++ (moW mb sz tl (ck_rod M v1 v2 v3) plm cm h ++ (jrW ct (mb 1) 94 M ++ (jrW ct (mb 2) 94 SP ++ (jrW ct (mb 3) 376 SV ++ (irW ct (mb 4) 150 TX ++ (irW ct (mb 5) 2 NB)))))))))))))) := hD
    refine W.eq (g2 := F0 m 343 ls [.int (zI 0)]) rfl ?_
    refine lv_istore (lv' := [(6, .int (zI 0)), (5, .int (zI (ck_rod M v1 v2 v3))), (0, .ref b), (1, .ref u), (2, .ref (mb 0)), (3, .ref o0), (4, .int (zI i))]) hx hb dL_law_343 hl (by decide) rfl (fun ls hl => ?_)
    refine lv_aload_n hx hb dL_law_345 rfl (lv_at hl 4 rfl) ?_
    refine z_callV (C := RX9) (q0 := 0) (ci := 7) (As := []) (rest := []) (x8W u a r q ++ (svW ct r b2 nx sz S ++ (sobjW a ++ (gridW ct a M ++ (benchW ct a M ++ (logW ct a M ++ (txtW ct q TX tl pl ft wd n1 n2 ++ (jrW ct o0 1 O)))))))) ([] : va_W) hx hb hml hown (fun w h => hts w (inL_94 w h)) hl hE hS hA (zr0 (x8W u a r q ++ (svW ct r b2 nx sz S ++ (sobjW a ++ (gridW ct a M ++ (benchW ct a M ++ (logW ct a M ++ (txtW ct q TX tl pl ft wd n1 n2 ++ (jrW ct o0 1 O)))))))) hP) (zr0D (x8W u a r q ++ (svW ct r b2 nx sz S ++ (sobjW a ++ (gridW ct a M ++ (benchW ct a M ++ (logW ct a M ++ (txtW ct q TX tl pl ft wd n1 n2 ++ (jrW ct o0 1 O)))))))) hD) (c_X9_thrown l D ct ad mb M SP SV TX NB sz tl (ck_rod M v1 v2 v3) plm cm h) gdL_94 rfl rfl k_X9_thrown ⟨Nat.le_of_ble_eq_true rfl, Nat.le_of_ble_eq_true rfl⟩ rfl rfl rfl rfl (Nat.le_of_ble_eq_true rfl) hc1 dL_law_346 rfl (fun v w1 H locs hpost hP hD hS => ?_)
    obtain ⟨rfl, rfl⟩ := hpost
    have hP := zr0' hP
    have hD := zr0D' hD
    have hP : va_P D vwCl (x8W u a r q ++ (svW ct r b2 nx sz S ++ (sobjW a ++ (gridW ct a M ++ (benchW ct a M ++ (logW ct a M ++ (txtW ct q TX tl pl ft wd n1 n2 ++ (jrW ct o0 1 O ++ (moW mb sz tl (ck_rod M v1 v2 v3) plm cm h ++ (jrW ct (mb 1) 94 M ++ (jrW ct (mb 2) 94 SP ++ (jrW ct (mb 3) 376 SV ++ (irW ct (mb 4) 150 TX ++ (irW ct (mb 5) 2 NB)))))))))))))) H := hP
    have hD : va_D (fun q : Nat => s.heap.size ≤ q) (x8W u a r q ++ (svW ct r b2 nx sz S ++ (sobjW a ++ (gridW ct a M ++ (benchW ct a M ++ (logW ct a M ++ (txtW ct q TX tl pl ft wd n1 n2 ++ (jrW ct o0 1 O ++ (moW mb sz tl (ck_rod M v1 v2 v3) plm cm h ++ (jrW ct (mb 1) 94 M ++ (jrW ct (mb 2) 94 SP ++ (jrW ct (mb 3) 376 SV ++ (irW ct (mb 4) 150 TX ++ (irW ct (mb 5) 2 NB)))))))))))))) := hD
    refine W.eq (g2 := F0 m 349 ls [.int (zI (ck_rod M v1 v2 v3))]) rfl ?_
    refine lv_iload hx hb dL_law_349 (lv_at hl 1 rfl) ?_
    refine z_icmp_eqS (tgt := 356) hx hb dL_law_351 (by decide) ?_
    refine lv_iload hx hb dL_law_356 (lv_at hl 1 rfl) ?_
    refine z_if_ne (tgt := 373) hx hb dL_law_358 (by decide) (by omega) (fun hc_358 => ?_) (fun hc_358 => ?_)
    · have hc_358 := hc_358
      refine lv_goto (tgt := 1590) hx hb dL_law_373 (by decide) ?_
      exact ih _ _ _ ⟨nx, sz, S, M, TX, tl, pl, ft, n1, n2, wd, O, SP, SV, NB, (ck_rod M v1 v2 v3), plm, cm, h, hR, hP, hD, hS, lv_sub hl [2, 3, 4, 5, 6] rfl⟩
    · have hc_358 := hc_358
      exfalso; first | omega | (revert hc_358; unfold ck1; split <;> omega)
set_option maxHeartbeats 4000000 in
set_option maxRecDepth 100000 in
theorem law_c3 (p : Program) (l : Launch) (e : Env) (s : State) (m : MethodId) (below : List Frame) (meth : Method) (c : Code) (D : va_G) (ct ad : Nat → Nat) (b L : Nat) (xs : Nat → Int32) (u : Nat) (a r q : Nat → Nat) (b2 : Nat → Nat → Nat) (o0 : Nat) (mb : Nat → Nat) (hC : lwC p l s m meth c D ct ad b L xs) (i : Int) (hi : 0 ≤ i ∧ i + 4 ≤ (L : Int)) (cells slots : Nat) (hcap : cells + 1 ≤ 601024 ∧ slots + 6 ≤ 7293034) (ih : ∀ (H : Heap) (locs : List Loc) (ls : Array Slot), lwI s D ct b u a r q b2 o0 mb i H locs ls → W p l e room_1 s m #[Value.ref b] below meth c H locs (cells + 1) (slots + 6) (lw_Z below #[Value.ref b] s) (F0 m 1590 ls [])) (H : Heap) (locs : List Loc) (ls : Array Slot) (hI0 : lwI s D ct b u a r q b2 o0 mb i H locs ls) : W p l e room_1 s m #[Value.ref b] below meth c H locs cells slots (lw_Z below #[Value.ref b] s) (F0 m 376 ls []) := by
  obtain ⟨hx, hb, hr, hml, hown, hts, hX, hbl, hlocks, hE, hst, hL⟩ := hC
  obtain ⟨nx, sz, S, M, TX, tl, pl, ft, n1, n2, wd, O, SP, SV, NB, cd, plm, cm, h, hR, hP, hD, hS, hl⟩ := hI0
  have hA : ∀ q : Nat, s.heap.size ≤ q → (fun q : Nat => s.heap.size ≤ q) q := fun _ h => h
  have hbA : ¬ (fun q : Nat => s.heap.size ≤ q) b := Nat.not_le.mpr hbl
  have hK := hE.1
  have hc0 : cells ≤ room_1.cells ∧ slots ≤ room_1.slots := by show cells ≤ 601024 ∧ slots ≤ 7293034; omega
  have hc1 : cells + 1 ≤ room_1.cells ∧ slots + 6 ≤ room_1.slots := hcap
  have hP : va_P D vwCl (x8W u a r q ++ (svW ct r b2 nx sz S ++ (sobjW a ++ (gridW ct a M ++ (benchW ct a M ++ (logW ct a M ++ (txtW ct q TX tl pl ft wd n1 n2 ++ (jrW ct o0 1 O ++ (moW mb sz tl cd plm cm h ++ (jrW ct (mb 1) 94 M ++ (jrW ct (mb 2) 94 SP ++ (jrW ct (mb 3) 376 SV ++ (irW ct (mb 4) 150 TX ++ (irW ct (mb 5) 2 NB)))))))))))))) H := hP
  have hD : va_D (fun q : Nat => s.heap.size ≤ q) (x8W u a r q ++ (svW ct r b2 nx sz S ++ (sobjW a ++ (gridW ct a M ++ (benchW ct a M ++ (logW ct a M ++ (txtW ct q TX tl pl ft wd n1 n2 ++ (jrW ct o0 1 O ++ (moW mb sz tl cd plm cm h ++ (jrW ct (mb 1) 94 M ++ (jrW ct (mb 2) 94 SP ++ (jrW ct (mb 3) 376 SV ++ (irW ct (mb 4) 150 TX ++ (irW ct (mb 5) 2 NB)))))))))))))) := hD
  have hs := hR.1
  have ht := hR.2.1
  have hI := hs.1
  have hB := hs.2.1
  have ha := hs.2.2
  have i3 := hI.1
  have i4 := hI.2.1
  have j0 := hB.1
  have j1 := hB.2.1
  have j2 := hB.2.2.1
  have j4 := hB.2.2.2.2
  have t1 := ht.1
  have hn := hR.2.2.1
  have hsz := hR.2.2.2.1
  have hsc := hR.2.2.2.1
  obtain ⟨v1, e1, r1⟩ := zI_any (xs (i + 1).toNat)
  by_cases hok : 0 ≤ v1 ∧ v1 < M 4
  · skip
    have hv : -2147483648 ≤ M 4 - 1 ∧ M 4 - 1 ≤ 2147483647 := by omega
    refine lv_aload_n hx hb dL_law_376 rfl (lv_at hl 1 rfl) ?_
    refine lv_aload_n hx hb dL_law_377 rfl (lv_at hl 0 rfl) ?_
    refine lv_iload hx hb dL_law_378 (lv_at hl 4 rfl) ?_
    refine z_iconst hx hb dL_law_380 ?_
    refine z_iadd hx hb dL_law_381 ?_
    refine z_sld hx hb hX hbl hbA hS (by omega) hL e1 dL_law_382 ?_
    refine lv_aload_n hx hb dL_law_383 rfl (lv_at hl 3 rfl) ?_
    refine z_callSW (As := [.ref u, .int (zI v1), .ref o0]) (rest := []) ([] : va_W) (moW mb sz tl cd plm cm h ++ (jrW ct (mb 1) 94 M ++ (jrW ct (mb 2) 94 SP ++ (jrW ct (mb 3) 376 SV ++ (irW ct (mb 4) 150 TX ++ (irW ct (mb 5) 2 NB)))))) hx hb hml hown (fun w h => hts w (inL_105 w h)) hl hE hS hA hP hD (c_L_removeRod_ok l D ct ad u a r q b2 nx sz S M TX tl pl ft n1 n2 wd o0 O v1 (by assumption) (by omega) (by omega) (by omega) hok hv) gdL_105 rfl k_L_removeRod ⟨Nat.le_of_ble_eq_true rfl, Nat.le_of_ble_eq_true rfl⟩ rfl (Nat.le_of_ble_eq_true rfl) hc0 dL_law_384 rfl (fun v w1 H locs hpost hP hD hS => ?_)
    obtain ⟨rfl, rfl⟩ := hpost
    have hP : va_P D vwCl (x8W u a r q ++ (svW ct r b2 ((nx + 1) % 4) (min (sz + 1) 4) (updS S nx M) ++ (sobjW a ++ (gridW ct a (st_drop M v1) ++ (benchW ct a (st_drop M v1) ++ (logW ct a (st_drop M v1) ++ (txtW ct q TX tl pl ft wd n1 n2 ++ (jrW ct o0 1 (up O 0 (M 4 - 1)) ++ (moW mb sz tl cd plm cm h ++ (jrW ct (mb 1) 94 M ++ (jrW ct (mb 2) 94 SP ++ (jrW ct (mb 3) 376 SV ++ (irW ct (mb 4) 150 TX ++ (irW ct (mb 5) 2 NB)))))))))))))) H := hP
    have hD : va_D (fun q : Nat => s.heap.size ≤ q) (x8W u a r q ++ (svW ct r b2 ((nx + 1) % 4) (min (sz + 1) 4) (updS S nx M) ++ (sobjW a ++ (gridW ct a (st_drop M v1) ++ (benchW ct a (st_drop M v1) ++ (logW ct a (st_drop M v1) ++ (txtW ct q TX tl pl ft wd n1 n2 ++ (jrW ct o0 1 (up O 0 (M 4 - 1)) ++ (moW mb sz tl cd plm cm h ++ (jrW ct (mb 1) 94 M ++ (jrW ct (mb 2) 94 SP ++ (jrW ct (mb 3) 376 SV ++ (irW ct (mb 4) 150 TX ++ (irW ct (mb 5) 2 NB)))))))))))))) := hD
    refine W.eq (g2 := F0 m 387 ls [.int (zI 0)]) rfl ?_
    refine lv_istore (lv' := [(5, .int (zI 0)), (0, .ref b), (1, .ref u), (2, .ref (mb 0)), (3, .ref o0), (4, .int (zI i))]) hx hb dL_law_387 hl (by decide) rfl (fun ls hl => ?_)
    refine lv_aload_n hx hb dL_law_389 rfl (lv_at hl 3 rfl) ?_
    refine lv_aload_n hx hb dL_law_390 rfl (lv_at hl 1 rfl) ?_
    refine lv_iload hx hb dL_law_391 (lv_at hl 5 rfl) ?_
    refine z_iconst hx hb dL_law_393 ?_
    refine z_iadd hx hb dL_law_394 ?_
    refine z_sld hx hb hX hbl hbA hS (by omega) hL e1 dL_law_395 ?_
    refine z_callV (C := RX9) (q0 := 0) (ci := 7) (As := [.int (zI v1)]) (rest := []) (x8W u a r q ++ (svW ct r b2 ((nx + 1) % 4) (min (sz + 1) 4) (updS S nx M) ++ (sobjW a ++ (gridW ct a (st_drop M v1) ++ (benchW ct a (st_drop M v1) ++ (logW ct a (st_drop M v1) ++ (txtW ct q TX tl pl ft wd n1 n2 ++ (jrW ct o0 1 (up O 0 (M 4 - 1)))))))))) ([] : va_W) hx hb hml hown (fun w h => hts w (inL_107 w h)) hl hE hS hA (zr0 (x8W u a r q ++ (svW ct r b2 ((nx + 1) % 4) (min (sz + 1) 4) (updS S nx M) ++ (sobjW a ++ (gridW ct a (st_drop M v1) ++ (benchW ct a (st_drop M v1) ++ (logW ct a (st_drop M v1) ++ (txtW ct q TX tl pl ft wd n1 n2 ++ (jrW ct o0 1 (up O 0 (M 4 - 1)))))))))) hP) (zr0D (x8W u a r q ++ (svW ct r b2 ((nx + 1) % 4) (min (sz + 1) 4) (updS S nx M) ++ (sobjW a ++ (gridW ct a (st_drop M v1) ++ (benchW ct a (st_drop M v1) ++ (logW ct a (st_drop M v1) ++ (txtW ct q TX tl pl ft wd n1 n2 ++ (jrW ct o0 1 (up O 0 (M 4 - 1)))))))))) hD) (c_X9_removeRod_ok l D ct ad mb M SP SV TX NB sz tl cd plm cm h v1 (by assumption) (by omega) (by omega) (if_pos hok)) gdL_107 rfl rfl k_X9_removeRod ⟨Nat.le_of_ble_eq_true rfl, Nat.le_of_ble_eq_true rfl⟩ rfl rfl rfl rfl (Nat.le_of_ble_eq_true rfl) hc0 dL_law_396 rfl (fun v w1 H locs hpost hP hD hS => ?_)
    obtain ⟨rfl, rfl⟩ := hpost
    have hP := zr0' hP
    have hD := zr0D' hD
    have hP : va_P D vwCl (x8W u a r q ++ (svW ct r b2 ((nx + 1) % 4) (min (sz + 1) 4) (updS S nx M) ++ (sobjW a ++ (gridW ct a (st_drop M v1) ++ (benchW ct a (st_drop M v1) ++ (logW ct a (st_drop M v1) ++ (txtW ct q TX tl pl ft wd n1 n2 ++ (jrW ct o0 1 (up O 0 (M 4 - 1)) ++ (moW mb (sv_n sz + 1) tl (ck_b (0 ≤ v1 ∧ v1 < M 4)) plm cm h ++ (jrW ct (mb 1) 94 (st_drop M v1) ++ (jrW ct (mb 2) 94 SP ++ (jrW ct (mb 3) 376 (sv_keep SV M sz) ++ (irW ct (mb 4) 150 TX ++ (irW ct (mb 5) 2 NB)))))))))))))) H := hP
    have hD : va_D (fun q : Nat => s.heap.size ≤ q) (x8W u a r q ++ (svW ct r b2 ((nx + 1) % 4) (min (sz + 1) 4) (updS S nx M) ++ (sobjW a ++ (gridW ct a (st_drop M v1) ++ (benchW ct a (st_drop M v1) ++ (logW ct a (st_drop M v1) ++ (txtW ct q TX tl pl ft wd n1 n2 ++ (jrW ct o0 1 (up O 0 (M 4 - 1)) ++ (moW mb (sv_n sz + 1) tl (ck_b (0 ≤ v1 ∧ v1 < M 4)) plm cm h ++ (jrW ct (mb 1) 94 (st_drop M v1) ++ (jrW ct (mb 2) 94 SP ++ (jrW ct (mb 3) 376 (sv_keep SV M sz) ++ (irW ct (mb 4) 150 TX ++ (irW ct (mb 5) 2 NB)))))))))))))) := hD
    refine W.eq (g2 := F0 m 399 ls [.int (zI (M 4 - 1))]) rfl ?_
    refine lv_istore (lv' := [(6, .int (zI (M 4 - 1))), (5, .int (zI 0)), (0, .ref b), (1, .ref u), (2, .ref (mb 0)), (3, .ref o0), (4, .int (zI i))]) hx hb dL_law_399 hl (by decide) rfl (fun ls hl => ?_)
    refine lv_aload_n hx hb dL_law_401 rfl (lv_at hl 4 rfl) ?_
    refine z_callV (C := RX9) (q0 := 0) (ci := 7) (As := []) (rest := []) (x8W u a r q ++ (svW ct r b2 ((nx + 1) % 4) (min (sz + 1) 4) (updS S nx M) ++ (sobjW a ++ (gridW ct a (st_drop M v1) ++ (benchW ct a (st_drop M v1) ++ (logW ct a (st_drop M v1) ++ (txtW ct q TX tl pl ft wd n1 n2 ++ (jrW ct o0 1 (up O 0 (M 4 - 1)))))))))) ([] : va_W) hx hb hml hown (fun w h => hts w (inL_94 w h)) hl hE hS hA (zr0 (x8W u a r q ++ (svW ct r b2 ((nx + 1) % 4) (min (sz + 1) 4) (updS S nx M) ++ (sobjW a ++ (gridW ct a (st_drop M v1) ++ (benchW ct a (st_drop M v1) ++ (logW ct a (st_drop M v1) ++ (txtW ct q TX tl pl ft wd n1 n2 ++ (jrW ct o0 1 (up O 0 (M 4 - 1)))))))))) hP) (zr0D (x8W u a r q ++ (svW ct r b2 ((nx + 1) % 4) (min (sz + 1) 4) (updS S nx M) ++ (sobjW a ++ (gridW ct a (st_drop M v1) ++ (benchW ct a (st_drop M v1) ++ (logW ct a (st_drop M v1) ++ (txtW ct q TX tl pl ft wd n1 n2 ++ (jrW ct o0 1 (up O 0 (M 4 - 1)))))))))) hD) (c_X9_thrown l D ct ad mb (st_drop M v1) SP (sv_keep SV M sz) TX NB (sv_n sz + 1) tl (ck_b (0 ≤ v1 ∧ v1 < M 4)) plm cm h) gdL_94 rfl rfl k_X9_thrown ⟨Nat.le_of_ble_eq_true rfl, Nat.le_of_ble_eq_true rfl⟩ rfl rfl rfl rfl (Nat.le_of_ble_eq_true rfl) hc0 dL_law_402 rfl (fun v w1 H locs hpost hP hD hS => ?_)
    obtain ⟨rfl, rfl⟩ := hpost
    have hP := zr0' hP
    have hD := zr0D' hD
    have hP : va_P D vwCl (x8W u a r q ++ (svW ct r b2 ((nx + 1) % 4) (min (sz + 1) 4) (updS S nx M) ++ (sobjW a ++ (gridW ct a (st_drop M v1) ++ (benchW ct a (st_drop M v1) ++ (logW ct a (st_drop M v1) ++ (txtW ct q TX tl pl ft wd n1 n2 ++ (jrW ct o0 1 (up O 0 (M 4 - 1)) ++ (moW mb (sv_n sz + 1) tl (ck_b (0 ≤ v1 ∧ v1 < M 4)) plm cm h ++ (jrW ct (mb 1) 94 (st_drop M v1) ++ (jrW ct (mb 2) 94 SP ++ (jrW ct (mb 3) 376 (sv_keep SV M sz) ++ (irW ct (mb 4) 150 TX ++ (irW ct (mb 5) 2 NB)))))))))))))) H := hP
    have hD : va_D (fun q : Nat => s.heap.size ≤ q) (x8W u a r q ++ (svW ct r b2 ((nx + 1) % 4) (min (sz + 1) 4) (updS S nx M) ++ (sobjW a ++ (gridW ct a (st_drop M v1) ++ (benchW ct a (st_drop M v1) ++ (logW ct a (st_drop M v1) ++ (txtW ct q TX tl pl ft wd n1 n2 ++ (jrW ct o0 1 (up O 0 (M 4 - 1)) ++ (moW mb (sv_n sz + 1) tl (ck_b (0 ≤ v1 ∧ v1 < M 4)) plm cm h ++ (jrW ct (mb 1) 94 (st_drop M v1) ++ (jrW ct (mb 2) 94 SP ++ (jrW ct (mb 3) 376 (sv_keep SV M sz) ++ (irW ct (mb 4) 150 TX ++ (irW ct (mb 5) 2 NB)))))))))))))) := hD
    refine W.eq (g2 := F0 m 405 ls [.int (zI (ck_b (0 ≤ v1 ∧ v1 < M 4)))]) rfl ?_
    refine lv_iload hx hb dL_law_405 (lv_at hl 1 rfl) ?_
    refine z_canI (show 0 = ck_b (0 ≤ v1 ∧ v1 < M 4) from (if_pos hok).symm) ?_
    refine z_icmp_eqS (tgt := 412) hx hb dL_law_407 (by decide) ?_
    refine lv_iload hx hb dL_law_412 (lv_at hl 1 rfl) ?_
    refine z_if_ne (tgt := 429) hx hb dL_law_414 (by decide) (by omega) (fun hc_414 => ?_) (fun hc_414 => ?_)
    · have hc_414 := hc_414
      exfalso; first | omega | (revert hc_414; unfold ck1; split <;> omega)
    · have hc_414 := hc_414
      refine lv_aload_n hx hb dL_law_417 rfl (lv_at hl 5 rfl) ?_
      refine z_iconst hx hb dL_law_418 ?_
      refine z_lald (g := (up O 0 (M 4 - 1))) (v := M 4 - 1) hx hb hK hP 60 rfl (by decide) (by omega) (show (up O 0 (M 4 - 1)) 0 = M 4 - 1 from by rw [up_s]) dL_law_419 ?_
      refine lv_iload hx hb dL_law_420 (lv_at hl 0 rfl) ?_
      refine z_i2l hx hb dL_law_422 (by omega) ?_
      refine z_lcmp_eqS (tgt := 429) hx hb dL_law_423 dL_law_424 (by decide) ?_
      refine lv_goto (tgt := 1590) hx hb dL_law_429 (by decide) ?_
      refine W.widen (k := cells + 1) (n := slots + 6) (Nat.le_add_right _ _) (Nat.le_add_right _ _) ?_
      have e9 : (sv_n sz + 1) = (min (sz + 1) 4) := by have q9 := sv_min (sz := sz); have := hR.2.2.2.1; omega
      rw [e9] at hP hD
      exact ih _ _ _ ⟨((nx + 1) % 4), (min (sz + 1) 4), (updS S nx M), (st_drop M v1), TX, tl, pl, ft, n1, n2, wd, (up O 0 (M 4 - 1)), SP, (sv_keep SV M sz), NB, (ck_b (0 ≤ v1 ∧ v1 < M 4)), plm, cm, h, lwR_push hR (sInv_drop hs hok), hP, hD, hS, lv_sub hl [2, 3, 4, 5, 6] rfl⟩
  · skip
    refine lv_aload_n hx hb dL_law_376 rfl (lv_at hl 1 rfl) ?_
    refine lv_aload_n hx hb dL_law_377 rfl (lv_at hl 0 rfl) ?_
    refine lv_iload hx hb dL_law_378 (lv_at hl 4 rfl) ?_
    refine z_iconst hx hb dL_law_380 ?_
    refine z_iadd hx hb dL_law_381 ?_
    refine z_sld hx hb hX hbl hbA hS (by omega) hL e1 dL_law_382 ?_
    refine lv_aload_n hx hb dL_law_383 rfl (lv_at hl 3 rfl) ?_
    refine z_callSW (As := [.ref u, .int (zI v1), .ref o0]) (rest := []) ([] : va_W) (moW mb sz tl cd plm cm h ++ (jrW ct (mb 1) 94 M ++ (jrW ct (mb 2) 94 SP ++ (jrW ct (mb 3) 376 SV ++ (irW ct (mb 4) 150 TX ++ (irW ct (mb 5) 2 NB)))))) hx hb hml hown (fun w h => hts w (inL_105 w h)) hl hE hS hA hP hD (c_L_removeRod_no l D ct ad u a r q b2 nx sz S M TX tl pl ft n1 n2 wd o0 O v1 (by assumption) hst (by omega) hok) gdL_105 rfl k_L_removeRod ⟨Nat.le_of_ble_eq_true rfl, Nat.le_of_ble_eq_true rfl⟩ rfl (Nat.le_of_ble_eq_true rfl) hc1 dL_law_384 rfl (fun v w1 H locs hpost hP hD hS => ?_)
    obtain ⟨rfl, rfl⟩ := hpost
    have hP : va_P D vwCl (x8W u a r q ++ (svW ct r b2 nx sz S ++ (sobjW a ++ (gridW ct a M ++ (benchW ct a M ++ (logW ct a M ++ (txtW ct q TX tl pl ft wd n1 n2 ++ (jrW ct o0 1 O ++ (moW mb sz tl cd plm cm h ++ (jrW ct (mb 1) 94 M ++ (jrW ct (mb 2) 94 SP ++ (jrW ct (mb 3) 376 SV ++ (irW ct (mb 4) 150 TX ++ (irW ct (mb 5) 2 NB)))))))))))))) H := hP
    have hD : va_D (fun q : Nat => s.heap.size ≤ q) (x8W u a r q ++ (svW ct r b2 nx sz S ++ (sobjW a ++ (gridW ct a M ++ (benchW ct a M ++ (logW ct a M ++ (txtW ct q TX tl pl ft wd n1 n2 ++ (jrW ct o0 1 O ++ (moW mb sz tl cd plm cm h ++ (jrW ct (mb 1) 94 M ++ (jrW ct (mb 2) 94 SP ++ (jrW ct (mb 3) 376 SV ++ (irW ct (mb 4) 150 TX ++ (irW ct (mb 5) 2 NB)))))))))))))) := hD
    refine W.eq (g2 := F0 m 387 ls [.int (zI 1)]) rfl ?_
    refine lv_istore (lv' := [(5, .int (zI 1)), (0, .ref b), (1, .ref u), (2, .ref (mb 0)), (3, .ref o0), (4, .int (zI i))]) hx hb dL_law_387 hl (by decide) rfl (fun ls hl => ?_)
    refine lv_aload_n hx hb dL_law_389 rfl (lv_at hl 3 rfl) ?_
    refine lv_aload_n hx hb dL_law_390 rfl (lv_at hl 1 rfl) ?_
    refine lv_iload hx hb dL_law_391 (lv_at hl 5 rfl) ?_
    refine z_iconst hx hb dL_law_393 ?_
    refine z_iadd hx hb dL_law_394 ?_
    refine z_sld hx hb hX hbl hbA hS (by omega) hL e1 dL_law_395 ?_
    refine z_callV (C := RX9) (q0 := 0) (ci := 7) (As := [.int (zI v1)]) (rest := []) (x8W u a r q ++ (svW ct r b2 nx sz S ++ (sobjW a ++ (gridW ct a M ++ (benchW ct a M ++ (logW ct a M ++ (txtW ct q TX tl pl ft wd n1 n2 ++ (jrW ct o0 1 O)))))))) ([] : va_W) hx hb hml hown (fun w h => hts w (inL_107 w h)) hl hE hS hA (zr0 (x8W u a r q ++ (svW ct r b2 nx sz S ++ (sobjW a ++ (gridW ct a M ++ (benchW ct a M ++ (logW ct a M ++ (txtW ct q TX tl pl ft wd n1 n2 ++ (jrW ct o0 1 O)))))))) hP) (zr0D (x8W u a r q ++ (svW ct r b2 nx sz S ++ (sobjW a ++ (gridW ct a M ++ (benchW ct a M ++ (logW ct a M ++ (txtW ct q TX tl pl ft wd n1 n2 ++ (jrW ct o0 1 O)))))))) hD) (c_X9_removeRod_no l D ct ad mb M SP SV TX NB sz tl cd plm cm h v1 (by assumption) (by omega) (by unfold ck_b; rw [if_neg hok]; omega)) gdL_107 rfl rfl k_X9_removeRod ⟨Nat.le_of_ble_eq_true rfl, Nat.le_of_ble_eq_true rfl⟩ rfl rfl rfl rfl (Nat.le_of_ble_eq_true rfl) hc1 dL_law_396 rfl (fun v w1 H locs hpost hP hD hS => ?_)
    obtain ⟨rfl, rfl⟩ := hpost
    have hP := zr0' hP
    have hD := zr0D' hD
    have hP : va_P D vwCl (x8W u a r q ++ (svW ct r b2 nx sz S ++ (sobjW a ++ (gridW ct a M ++ (benchW ct a M ++ (logW ct a M ++ (txtW ct q TX tl pl ft wd n1 n2 ++ (jrW ct o0 1 O ++ (moW mb sz tl (ck_b (0 ≤ v1 ∧ v1 < M 4)) plm cm h ++ (jrW ct (mb 1) 94 M ++ (jrW ct (mb 2) 94 SP ++ (jrW ct (mb 3) 376 SV ++ (irW ct (mb 4) 150 TX ++ (irW ct (mb 5) 2 NB)))))))))))))) H := hP
    have hD : va_D (fun q : Nat => s.heap.size ≤ q) (x8W u a r q ++ (svW ct r b2 nx sz S ++ (sobjW a ++ (gridW ct a M ++ (benchW ct a M ++ (logW ct a M ++ (txtW ct q TX tl pl ft wd n1 n2 ++ (jrW ct o0 1 O ++ (moW mb sz tl (ck_b (0 ≤ v1 ∧ v1 < M 4)) plm cm h ++ (jrW ct (mb 1) 94 M ++ (jrW ct (mb 2) 94 SP ++ (jrW ct (mb 3) 376 SV ++ (irW ct (mb 4) 150 TX ++ (irW ct (mb 5) 2 NB)))))))))))))) := hD
    refine W.eq (g2 := F0 m 399 ls [.int (zI 0)]) rfl ?_
    refine lv_istore (lv' := [(6, .int (zI 0)), (5, .int (zI 1)), (0, .ref b), (1, .ref u), (2, .ref (mb 0)), (3, .ref o0), (4, .int (zI i))]) hx hb dL_law_399 hl (by decide) rfl (fun ls hl => ?_)
    refine lv_aload_n hx hb dL_law_401 rfl (lv_at hl 4 rfl) ?_
    refine z_callV (C := RX9) (q0 := 0) (ci := 7) (As := []) (rest := []) (x8W u a r q ++ (svW ct r b2 nx sz S ++ (sobjW a ++ (gridW ct a M ++ (benchW ct a M ++ (logW ct a M ++ (txtW ct q TX tl pl ft wd n1 n2 ++ (jrW ct o0 1 O)))))))) ([] : va_W) hx hb hml hown (fun w h => hts w (inL_94 w h)) hl hE hS hA (zr0 (x8W u a r q ++ (svW ct r b2 nx sz S ++ (sobjW a ++ (gridW ct a M ++ (benchW ct a M ++ (logW ct a M ++ (txtW ct q TX tl pl ft wd n1 n2 ++ (jrW ct o0 1 O)))))))) hP) (zr0D (x8W u a r q ++ (svW ct r b2 nx sz S ++ (sobjW a ++ (gridW ct a M ++ (benchW ct a M ++ (logW ct a M ++ (txtW ct q TX tl pl ft wd n1 n2 ++ (jrW ct o0 1 O)))))))) hD) (c_X9_thrown l D ct ad mb M SP SV TX NB sz tl (ck_b (0 ≤ v1 ∧ v1 < M 4)) plm cm h) gdL_94 rfl rfl k_X9_thrown ⟨Nat.le_of_ble_eq_true rfl, Nat.le_of_ble_eq_true rfl⟩ rfl rfl rfl rfl (Nat.le_of_ble_eq_true rfl) hc1 dL_law_402 rfl (fun v w1 H locs hpost hP hD hS => ?_)
    obtain ⟨rfl, rfl⟩ := hpost
    have hP := zr0' hP
    have hD := zr0D' hD
    have hP : va_P D vwCl (x8W u a r q ++ (svW ct r b2 nx sz S ++ (sobjW a ++ (gridW ct a M ++ (benchW ct a M ++ (logW ct a M ++ (txtW ct q TX tl pl ft wd n1 n2 ++ (jrW ct o0 1 O ++ (moW mb sz tl (ck_b (0 ≤ v1 ∧ v1 < M 4)) plm cm h ++ (jrW ct (mb 1) 94 M ++ (jrW ct (mb 2) 94 SP ++ (jrW ct (mb 3) 376 SV ++ (irW ct (mb 4) 150 TX ++ (irW ct (mb 5) 2 NB)))))))))))))) H := hP
    have hD : va_D (fun q : Nat => s.heap.size ≤ q) (x8W u a r q ++ (svW ct r b2 nx sz S ++ (sobjW a ++ (gridW ct a M ++ (benchW ct a M ++ (logW ct a M ++ (txtW ct q TX tl pl ft wd n1 n2 ++ (jrW ct o0 1 O ++ (moW mb sz tl (ck_b (0 ≤ v1 ∧ v1 < M 4)) plm cm h ++ (jrW ct (mb 1) 94 M ++ (jrW ct (mb 2) 94 SP ++ (jrW ct (mb 3) 376 SV ++ (irW ct (mb 4) 150 TX ++ (irW ct (mb 5) 2 NB)))))))))))))) := hD
    refine W.eq (g2 := F0 m 405 ls [.int (zI (ck_b (0 ≤ v1 ∧ v1 < M 4)))]) rfl ?_
    refine lv_iload hx hb dL_law_405 (lv_at hl 1 rfl) ?_
    refine z_canI (show 1 = ck_b (0 ≤ v1 ∧ v1 < M 4) from (if_neg hok).symm) ?_
    refine z_icmp_eqS (tgt := 412) hx hb dL_law_407 (by decide) ?_
    refine lv_iload hx hb dL_law_412 (lv_at hl 1 rfl) ?_
    refine z_if_ne (tgt := 429) hx hb dL_law_414 (by decide) (by omega) (fun hc_414 => ?_) (fun hc_414 => ?_)
    · have hc_414 := hc_414
      refine lv_goto (tgt := 1590) hx hb dL_law_429 (by decide) ?_
      exact ih _ _ _ ⟨nx, sz, S, M, TX, tl, pl, ft, n1, n2, wd, O, SP, SV, NB, (ck_b (0 ≤ v1 ∧ v1 < M 4)), plm, cm, h, hR, hP, hD, hS, lv_sub hl [2, 3, 4, 5, 6] rfl⟩
    · have hc_414 := hc_414
      exfalso; first | omega | (revert hc_414; unfold ck1; split <;> omega)
set_option maxHeartbeats 4000000 in
set_option maxRecDepth 100000 in
theorem law_c4 (p : Program) (l : Launch) (e : Env) (s : State) (m : MethodId) (below : List Frame) (meth : Method) (c : Code) (D : va_G) (ct ad : Nat → Nat) (b L : Nat) (xs : Nat → Int32) (u : Nat) (a r q : Nat → Nat) (b2 : Nat → Nat → Nat) (o0 : Nat) (mb : Nat → Nat) (hC : lwC p l s m meth c D ct ad b L xs) (i : Int) (hi : 0 ≤ i ∧ i + 4 ≤ (L : Int)) (cells slots : Nat) (hcap : cells + 1 ≤ 601024 ∧ slots + 6 ≤ 7293034) (ih : ∀ (H : Heap) (locs : List Loc) (ls : Array Slot), lwI s D ct b u a r q b2 o0 mb i H locs ls → W p l e room_1 s m #[Value.ref b] below meth c H locs (cells + 1) (slots + 6) (lw_Z below #[Value.ref b] s) (F0 m 1590 ls [])) (H : Heap) (locs : List Loc) (ls : Array Slot) (hI0 : lwI s D ct b u a r q b2 o0 mb i H locs ls) : W p l e room_1 s m #[Value.ref b] below meth c H locs cells slots (lw_Z below #[Value.ref b] s) (F0 m 432 ls []) := by
  obtain ⟨hx, hb, hr, hml, hown, hts, hX, hbl, hlocks, hE, hst, hL⟩ := hC
  obtain ⟨nx, sz, S, M, TX, tl, pl, ft, n1, n2, wd, O, SP, SV, NB, cd, plm, cm, h, hR, hP, hD, hS, hl⟩ := hI0
  have hA : ∀ q : Nat, s.heap.size ≤ q → (fun q : Nat => s.heap.size ≤ q) q := fun _ h => h
  have hbA : ¬ (fun q : Nat => s.heap.size ≤ q) b := Nat.not_le.mpr hbl
  have hK := hE.1
  have hc0 : cells ≤ room_1.cells ∧ slots ≤ room_1.slots := by show cells ≤ 601024 ∧ slots ≤ 7293034; omega
  have hc1 : cells + 1 ≤ room_1.cells ∧ slots + 6 ≤ room_1.slots := hcap
  have hP : va_P D vwCl (x8W u a r q ++ (svW ct r b2 nx sz S ++ (sobjW a ++ (gridW ct a M ++ (benchW ct a M ++ (logW ct a M ++ (txtW ct q TX tl pl ft wd n1 n2 ++ (jrW ct o0 1 O ++ (moW mb sz tl cd plm cm h ++ (jrW ct (mb 1) 94 M ++ (jrW ct (mb 2) 94 SP ++ (jrW ct (mb 3) 376 SV ++ (irW ct (mb 4) 150 TX ++ (irW ct (mb 5) 2 NB)))))))))))))) H := hP
  have hD : va_D (fun q : Nat => s.heap.size ≤ q) (x8W u a r q ++ (svW ct r b2 nx sz S ++ (sobjW a ++ (gridW ct a M ++ (benchW ct a M ++ (logW ct a M ++ (txtW ct q TX tl pl ft wd n1 n2 ++ (jrW ct o0 1 O ++ (moW mb sz tl cd plm cm h ++ (jrW ct (mb 1) 94 M ++ (jrW ct (mb 2) 94 SP ++ (jrW ct (mb 3) 376 SV ++ (irW ct (mb 4) 150 TX ++ (irW ct (mb 5) 2 NB)))))))))))))) := hD
  have hs := hR.1
  have ht := hR.2.1
  have hI := hs.1
  have hB := hs.2.1
  have ha := hs.2.2
  have i3 := hI.1
  have i4 := hI.2.1
  have j0 := hB.1
  have j1 := hB.2.1
  have j2 := hB.2.2.1
  have j4 := hB.2.2.2.2
  have t1 := ht.1
  have hn := hR.2.2.1
  have hsz := hR.2.2.2.1
  have hsc := hR.2.2.2.1
  obtain ⟨v1, e1, r1⟩ := zI_any (xs (i + 1).toNat)
  obtain ⟨v2, e2, r2⟩ := zI_any (xs (i + 2).toNat)
  by_cases hok : ck_length M v1 v2 = 0
  · skip
    have hk : 0 ≤ v1 ∧ v1 < M 4 := by revert hok; unfold ck_length; (repeat' split) <;> intro z <;> omega
    have hq := (hI.2.2.2.1 v1 (by omega) (by omega)).2.2
    have hv : -2147483648 ≤ M (24 + 3 * v1) ∧ M (24 + 3 * v1) ≤ 2147483647 := by omega
    refine lv_aload_n hx hb dL_law_432 rfl (lv_at hl 1 rfl) ?_
    refine lv_aload_n hx hb dL_law_433 rfl (lv_at hl 0 rfl) ?_
    refine lv_iload hx hb dL_law_434 (lv_at hl 4 rfl) ?_
    refine z_iconst hx hb dL_law_436 ?_
    refine z_iadd hx hb dL_law_437 ?_
    refine z_sld hx hb hX hbl hbA hS (by omega) hL e1 dL_law_438 ?_
    refine lv_aload_n hx hb dL_law_439 rfl (lv_at hl 0 rfl) ?_
    refine lv_iload hx hb dL_law_440 (lv_at hl 4 rfl) ?_
    refine z_iconst hx hb dL_law_442 ?_
    refine z_iadd hx hb dL_law_443 ?_
    refine z_sld hx hb hX hbl hbA hS (by omega) hL e2 dL_law_444 ?_
    refine lv_aload_n hx hb dL_law_445 rfl (lv_at hl 3 rfl) ?_
    refine z_callSW (As := [.ref u, .int (zI v1), .int (zI v2), .ref o0]) (rest := []) ([] : va_W) (moW mb sz tl cd plm cm h ++ (jrW ct (mb 1) 94 M ++ (jrW ct (mb 2) 94 SP ++ (jrW ct (mb 3) 376 SV ++ (irW ct (mb 4) 150 TX ++ (irW ct (mb 5) 2 NB)))))) hx hb hml hown (fun w h => hts w (inL_108 w h)) hl hE hS hA hP hD (c_L_setLength_ok l D ct ad u a r q b2 nx sz S M TX tl pl ft n1 n2 wd o0 O v1 v2 (by assumption) (by omega) (by omega) (by omega) (by omega) hok hv) gdL_108 rfl k_L_setLength ⟨Nat.le_of_ble_eq_true rfl, Nat.le_of_ble_eq_true rfl⟩ rfl (Nat.le_of_ble_eq_true rfl) hc0 dL_law_446 rfl (fun v w1 H locs hpost hP hD hS => ?_)
    obtain ⟨rfl, rfl⟩ := hpost
    have hP : va_P D vwCl (x8W u a r q ++ (svW ct r b2 ((nx + 1) % 4) (min (sz + 1) 4) (updS S nx M) ++ (sobjW a ++ (gridW ct a (up M (24 + 3 * v1) v2) ++ (benchW ct a (up M (24 + 3 * v1) v2) ++ (logW ct a (up M (24 + 3 * v1) v2) ++ (txtW ct q TX tl pl ft wd n1 n2 ++ (jrW ct o0 1 (up O 0 (M (24 + 3 * v1))) ++ (moW mb sz tl cd plm cm h ++ (jrW ct (mb 1) 94 M ++ (jrW ct (mb 2) 94 SP ++ (jrW ct (mb 3) 376 SV ++ (irW ct (mb 4) 150 TX ++ (irW ct (mb 5) 2 NB)))))))))))))) H := hP
    have hD : va_D (fun q : Nat => s.heap.size ≤ q) (x8W u a r q ++ (svW ct r b2 ((nx + 1) % 4) (min (sz + 1) 4) (updS S nx M) ++ (sobjW a ++ (gridW ct a (up M (24 + 3 * v1) v2) ++ (benchW ct a (up M (24 + 3 * v1) v2) ++ (logW ct a (up M (24 + 3 * v1) v2) ++ (txtW ct q TX tl pl ft wd n1 n2 ++ (jrW ct o0 1 (up O 0 (M (24 + 3 * v1))) ++ (moW mb sz tl cd plm cm h ++ (jrW ct (mb 1) 94 M ++ (jrW ct (mb 2) 94 SP ++ (jrW ct (mb 3) 376 SV ++ (irW ct (mb 4) 150 TX ++ (irW ct (mb 5) 2 NB)))))))))))))) := hD
    refine W.eq (g2 := F0 m 449 ls [.int (zI 0)]) rfl ?_
    refine lv_istore (lv' := [(5, .int (zI 0)), (0, .ref b), (1, .ref u), (2, .ref (mb 0)), (3, .ref o0), (4, .int (zI i))]) hx hb dL_law_449 hl (by decide) rfl (fun ls hl => ?_)
    refine lv_aload_n hx hb dL_law_451 rfl (lv_at hl 3 rfl) ?_
    refine lv_aload_n hx hb dL_law_452 rfl (lv_at hl 1 rfl) ?_
    refine lv_iload hx hb dL_law_453 (lv_at hl 5 rfl) ?_
    refine z_iconst hx hb dL_law_455 ?_
    refine z_iadd hx hb dL_law_456 ?_
    refine z_sld hx hb hX hbl hbA hS (by omega) hL e1 dL_law_457 ?_
    refine lv_aload_n hx hb dL_law_458 rfl (lv_at hl 1 rfl) ?_
    refine lv_iload hx hb dL_law_459 (lv_at hl 5 rfl) ?_
    refine z_iconst hx hb dL_law_461 ?_
    refine z_iadd hx hb dL_law_462 ?_
    refine z_sld hx hb hX hbl hbA hS (by omega) hL e2 dL_law_463 ?_
    refine z_callV (C := RX9) (q0 := 0) (ci := 7) (As := [.int (zI v1), .int (zI v2)]) (rest := []) (x8W u a r q ++ (svW ct r b2 ((nx + 1) % 4) (min (sz + 1) 4) (updS S nx M) ++ (sobjW a ++ (gridW ct a (up M (24 + 3 * v1) v2) ++ (benchW ct a (up M (24 + 3 * v1) v2) ++ (logW ct a (up M (24 + 3 * v1) v2) ++ (txtW ct q TX tl pl ft wd n1 n2 ++ (jrW ct o0 1 (up O 0 (M (24 + 3 * v1))))))))))) ([] : va_W) hx hb hml hown (fun w h => hts w (inL_110 w h)) hl hE hS hA (zr0 (x8W u a r q ++ (svW ct r b2 ((nx + 1) % 4) (min (sz + 1) 4) (updS S nx M) ++ (sobjW a ++ (gridW ct a (up M (24 + 3 * v1) v2) ++ (benchW ct a (up M (24 + 3 * v1) v2) ++ (logW ct a (up M (24 + 3 * v1) v2) ++ (txtW ct q TX tl pl ft wd n1 n2 ++ (jrW ct o0 1 (up O 0 (M (24 + 3 * v1))))))))))) hP) (zr0D (x8W u a r q ++ (svW ct r b2 ((nx + 1) % 4) (min (sz + 1) 4) (updS S nx M) ++ (sobjW a ++ (gridW ct a (up M (24 + 3 * v1) v2) ++ (benchW ct a (up M (24 + 3 * v1) v2) ++ (logW ct a (up M (24 + 3 * v1) v2) ++ (txtW ct q TX tl pl ft wd n1 n2 ++ (jrW ct o0 1 (up O 0 (M (24 + 3 * v1))))))))))) hD) (c_X9_setLength_ok l D ct ad mb M SP SV TX NB sz tl cd plm cm h v1 v2 (by assumption) (by omega) (by omega) (by omega) (hok)) gdL_110 rfl rfl k_X9_setLength ⟨Nat.le_of_ble_eq_true rfl, Nat.le_of_ble_eq_true rfl⟩ rfl rfl rfl rfl (Nat.le_of_ble_eq_true rfl) hc0 dL_law_464 rfl (fun v w1 H locs hpost hP hD hS => ?_)
    obtain ⟨rfl, rfl⟩ := hpost
    have hP := zr0' hP
    have hD := zr0D' hD
    have hP : va_P D vwCl (x8W u a r q ++ (svW ct r b2 ((nx + 1) % 4) (min (sz + 1) 4) (updS S nx M) ++ (sobjW a ++ (gridW ct a (up M (24 + 3 * v1) v2) ++ (benchW ct a (up M (24 + 3 * v1) v2) ++ (logW ct a (up M (24 + 3 * v1) v2) ++ (txtW ct q TX tl pl ft wd n1 n2 ++ (jrW ct o0 1 (up O 0 (M (24 + 3 * v1))) ++ (moW mb (sv_n sz + 1) tl (ck_length M v1 v2) plm cm h ++ (jrW ct (mb 1) 94 (up M (24 + 3 * v1) v2) ++ (jrW ct (mb 2) 94 SP ++ (jrW ct (mb 3) 376 (sv_keep SV M sz) ++ (irW ct (mb 4) 150 TX ++ (irW ct (mb 5) 2 NB)))))))))))))) H := hP
    have hD : va_D (fun q : Nat => s.heap.size ≤ q) (x8W u a r q ++ (svW ct r b2 ((nx + 1) % 4) (min (sz + 1) 4) (updS S nx M) ++ (sobjW a ++ (gridW ct a (up M (24 + 3 * v1) v2) ++ (benchW ct a (up M (24 + 3 * v1) v2) ++ (logW ct a (up M (24 + 3 * v1) v2) ++ (txtW ct q TX tl pl ft wd n1 n2 ++ (jrW ct o0 1 (up O 0 (M (24 + 3 * v1))) ++ (moW mb (sv_n sz + 1) tl (ck_length M v1 v2) plm cm h ++ (jrW ct (mb 1) 94 (up M (24 + 3 * v1) v2) ++ (jrW ct (mb 2) 94 SP ++ (jrW ct (mb 3) 376 (sv_keep SV M sz) ++ (irW ct (mb 4) 150 TX ++ (irW ct (mb 5) 2 NB)))))))))))))) := hD
    refine W.eq (g2 := F0 m 467 ls [.int (zI (M (24 + 3 * v1)))]) rfl ?_
    refine lv_istore (lv' := [(6, .int (zI (M (24 + 3 * v1)))), (5, .int (zI 0)), (0, .ref b), (1, .ref u), (2, .ref (mb 0)), (3, .ref o0), (4, .int (zI i))]) hx hb dL_law_467 hl (by decide) rfl (fun ls hl => ?_)
    refine lv_aload_n hx hb dL_law_469 rfl (lv_at hl 4 rfl) ?_
    refine z_callV (C := RX9) (q0 := 0) (ci := 7) (As := []) (rest := []) (x8W u a r q ++ (svW ct r b2 ((nx + 1) % 4) (min (sz + 1) 4) (updS S nx M) ++ (sobjW a ++ (gridW ct a (up M (24 + 3 * v1) v2) ++ (benchW ct a (up M (24 + 3 * v1) v2) ++ (logW ct a (up M (24 + 3 * v1) v2) ++ (txtW ct q TX tl pl ft wd n1 n2 ++ (jrW ct o0 1 (up O 0 (M (24 + 3 * v1))))))))))) ([] : va_W) hx hb hml hown (fun w h => hts w (inL_94 w h)) hl hE hS hA (zr0 (x8W u a r q ++ (svW ct r b2 ((nx + 1) % 4) (min (sz + 1) 4) (updS S nx M) ++ (sobjW a ++ (gridW ct a (up M (24 + 3 * v1) v2) ++ (benchW ct a (up M (24 + 3 * v1) v2) ++ (logW ct a (up M (24 + 3 * v1) v2) ++ (txtW ct q TX tl pl ft wd n1 n2 ++ (jrW ct o0 1 (up O 0 (M (24 + 3 * v1))))))))))) hP) (zr0D (x8W u a r q ++ (svW ct r b2 ((nx + 1) % 4) (min (sz + 1) 4) (updS S nx M) ++ (sobjW a ++ (gridW ct a (up M (24 + 3 * v1) v2) ++ (benchW ct a (up M (24 + 3 * v1) v2) ++ (logW ct a (up M (24 + 3 * v1) v2) ++ (txtW ct q TX tl pl ft wd n1 n2 ++ (jrW ct o0 1 (up O 0 (M (24 + 3 * v1))))))))))) hD) (c_X9_thrown l D ct ad mb (up M (24 + 3 * v1) v2) SP (sv_keep SV M sz) TX NB (sv_n sz + 1) tl (ck_length M v1 v2) plm cm h) gdL_94 rfl rfl k_X9_thrown ⟨Nat.le_of_ble_eq_true rfl, Nat.le_of_ble_eq_true rfl⟩ rfl rfl rfl rfl (Nat.le_of_ble_eq_true rfl) hc0 dL_law_470 rfl (fun v w1 H locs hpost hP hD hS => ?_)
    obtain ⟨rfl, rfl⟩ := hpost
    have hP := zr0' hP
    have hD := zr0D' hD
    have hP : va_P D vwCl (x8W u a r q ++ (svW ct r b2 ((nx + 1) % 4) (min (sz + 1) 4) (updS S nx M) ++ (sobjW a ++ (gridW ct a (up M (24 + 3 * v1) v2) ++ (benchW ct a (up M (24 + 3 * v1) v2) ++ (logW ct a (up M (24 + 3 * v1) v2) ++ (txtW ct q TX tl pl ft wd n1 n2 ++ (jrW ct o0 1 (up O 0 (M (24 + 3 * v1))) ++ (moW mb (sv_n sz + 1) tl (ck_length M v1 v2) plm cm h ++ (jrW ct (mb 1) 94 (up M (24 + 3 * v1) v2) ++ (jrW ct (mb 2) 94 SP ++ (jrW ct (mb 3) 376 (sv_keep SV M sz) ++ (irW ct (mb 4) 150 TX ++ (irW ct (mb 5) 2 NB)))))))))))))) H := hP
    have hD : va_D (fun q : Nat => s.heap.size ≤ q) (x8W u a r q ++ (svW ct r b2 ((nx + 1) % 4) (min (sz + 1) 4) (updS S nx M) ++ (sobjW a ++ (gridW ct a (up M (24 + 3 * v1) v2) ++ (benchW ct a (up M (24 + 3 * v1) v2) ++ (logW ct a (up M (24 + 3 * v1) v2) ++ (txtW ct q TX tl pl ft wd n1 n2 ++ (jrW ct o0 1 (up O 0 (M (24 + 3 * v1))) ++ (moW mb (sv_n sz + 1) tl (ck_length M v1 v2) plm cm h ++ (jrW ct (mb 1) 94 (up M (24 + 3 * v1) v2) ++ (jrW ct (mb 2) 94 SP ++ (jrW ct (mb 3) 376 (sv_keep SV M sz) ++ (irW ct (mb 4) 150 TX ++ (irW ct (mb 5) 2 NB)))))))))))))) := hD
    refine W.eq (g2 := F0 m 473 ls [.int (zI (ck_length M v1 v2))]) rfl ?_
    refine lv_iload hx hb dL_law_473 (lv_at hl 1 rfl) ?_
    refine z_canI (show 0 = ck_length M v1 v2 from hok.symm) ?_
    refine z_icmp_eqS (tgt := 480) hx hb dL_law_475 (by decide) ?_
    refine lv_iload hx hb dL_law_480 (lv_at hl 1 rfl) ?_
    refine z_if_ne (tgt := 497) hx hb dL_law_482 (by decide) (by omega) (fun hc_482 => ?_) (fun hc_482 => ?_)
    · have hc_482 := hc_482
      exfalso; first | omega | (revert hc_482; unfold ck1; split <;> omega)
    · have hc_482 := hc_482
      refine lv_aload_n hx hb dL_law_485 rfl (lv_at hl 5 rfl) ?_
      refine z_iconst hx hb dL_law_486 ?_
      refine z_lald (g := (up O 0 (M (24 + 3 * v1)))) (v := M (24 + 3 * v1)) hx hb hK hP 60 rfl (by decide) (by omega) (show (up O 0 (M (24 + 3 * v1))) 0 = M (24 + 3 * v1) from by rw [up_s]) dL_law_487 ?_
      refine lv_iload hx hb dL_law_488 (lv_at hl 0 rfl) ?_
      refine z_i2l hx hb dL_law_490 (by omega) ?_
      refine z_lcmp_eqS (tgt := 497) hx hb dL_law_491 dL_law_492 (by decide) ?_
      refine lv_goto (tgt := 1590) hx hb dL_law_497 (by decide) ?_
      refine W.widen (k := cells + 1) (n := slots + 6) (Nat.le_add_right _ _) (Nat.le_add_right _ _) ?_
      have e9 : (sv_n sz + 1) = (min (sz + 1) 4) := by have q9 := sv_min (sz := sz); have := hR.2.2.2.1; omega
      rw [e9] at hP hD
      exact ih _ _ _ ⟨((nx + 1) % 4), (min (sz + 1) 4), (updS S nx M), (up M (24 + 3 * v1) v2), TX, tl, pl, ft, n1, n2, wd, (up O 0 (M (24 + 3 * v1))), SP, (sv_keep SV M sz), NB, (ck_length M v1 v2), plm, cm, h, lwR_push hR (sInv_len hs hok), hP, hD, hS, lv_sub hl [2, 3, 4, 5, 6] rfl⟩
  · skip
    have hcc : (1 ≤ ck_length M v1 v2 ∧ ck_length M v1 v2 ≤ 3) := by
      have q9 := hok
      revert q9
      unfold ck_length
      (repeat' split) <;> intro q9 <;> omega
    refine lv_aload_n hx hb dL_law_432 rfl (lv_at hl 1 rfl) ?_
    refine lv_aload_n hx hb dL_law_433 rfl (lv_at hl 0 rfl) ?_
    refine lv_iload hx hb dL_law_434 (lv_at hl 4 rfl) ?_
    refine z_iconst hx hb dL_law_436 ?_
    refine z_iadd hx hb dL_law_437 ?_
    refine z_sld hx hb hX hbl hbA hS (by omega) hL e1 dL_law_438 ?_
    refine lv_aload_n hx hb dL_law_439 rfl (lv_at hl 0 rfl) ?_
    refine lv_iload hx hb dL_law_440 (lv_at hl 4 rfl) ?_
    refine z_iconst hx hb dL_law_442 ?_
    refine z_iadd hx hb dL_law_443 ?_
    refine z_sld hx hb hX hbl hbA hS (by omega) hL e2 dL_law_444 ?_
    refine lv_aload_n hx hb dL_law_445 rfl (lv_at hl 3 rfl) ?_
    refine z_callSW (As := [.ref u, .int (zI v1), .int (zI v2), .ref o0]) (rest := []) ([] : va_W) (moW mb sz tl cd plm cm h ++ (jrW ct (mb 1) 94 M ++ (jrW ct (mb 2) 94 SP ++ (jrW ct (mb 3) 376 SV ++ (irW ct (mb 4) 150 TX ++ (irW ct (mb 5) 2 NB)))))) hx hb hml hown (fun w h => hts w (inL_108 w h)) hl hE hS hA hP hD (c_L_setLength_no l D ct ad u a r q b2 nx sz S M TX tl pl ft n1 n2 wd o0 O v1 v2 (by assumption) hst (by omega) (by omega) hok) gdL_108 rfl k_L_setLength ⟨Nat.le_of_ble_eq_true rfl, Nat.le_of_ble_eq_true rfl⟩ rfl (Nat.le_of_ble_eq_true rfl) hc1 dL_law_446 rfl (fun v w1 H locs hpost hP hD hS => ?_)
    obtain ⟨rfl, rfl⟩ := hpost
    have hP : va_P D vwCl (x8W u a r q ++ (svW ct r b2 nx sz S ++ (sobjW a ++ (gridW ct a M ++ (benchW ct a M ++ (logW ct a M ++ (txtW ct q TX tl pl ft wd n1 n2 ++ (jrW ct o0 1 O ++ (moW mb sz tl cd plm cm h ++ (jrW ct (mb 1) 94 M ++ (jrW ct (mb 2) 94 SP ++ (jrW ct (mb 3) 376 SV ++ (irW ct (mb 4) 150 TX ++ (irW ct (mb 5) 2 NB)))))))))))))) H := hP
    have hD : va_D (fun q : Nat => s.heap.size ≤ q) (x8W u a r q ++ (svW ct r b2 nx sz S ++ (sobjW a ++ (gridW ct a M ++ (benchW ct a M ++ (logW ct a M ++ (txtW ct q TX tl pl ft wd n1 n2 ++ (jrW ct o0 1 O ++ (moW mb sz tl cd plm cm h ++ (jrW ct (mb 1) 94 M ++ (jrW ct (mb 2) 94 SP ++ (jrW ct (mb 3) 376 SV ++ (irW ct (mb 4) 150 TX ++ (irW ct (mb 5) 2 NB)))))))))))))) := hD
    refine W.eq (g2 := F0 m 449 ls [.int (zI (ck_length M v1 v2))]) rfl ?_
    refine lv_istore (lv' := [(5, .int (zI (ck_length M v1 v2))), (0, .ref b), (1, .ref u), (2, .ref (mb 0)), (3, .ref o0), (4, .int (zI i))]) hx hb dL_law_449 hl (by decide) rfl (fun ls hl => ?_)
    refine lv_aload_n hx hb dL_law_451 rfl (lv_at hl 3 rfl) ?_
    refine lv_aload_n hx hb dL_law_452 rfl (lv_at hl 1 rfl) ?_
    refine lv_iload hx hb dL_law_453 (lv_at hl 5 rfl) ?_
    refine z_iconst hx hb dL_law_455 ?_
    refine z_iadd hx hb dL_law_456 ?_
    refine z_sld hx hb hX hbl hbA hS (by omega) hL e1 dL_law_457 ?_
    refine lv_aload_n hx hb dL_law_458 rfl (lv_at hl 1 rfl) ?_
    refine lv_iload hx hb dL_law_459 (lv_at hl 5 rfl) ?_
    refine z_iconst hx hb dL_law_461 ?_
    refine z_iadd hx hb dL_law_462 ?_
    refine z_sld hx hb hX hbl hbA hS (by omega) hL e2 dL_law_463 ?_
    refine z_callV (C := RX9) (q0 := 0) (ci := 7) (As := [.int (zI v1), .int (zI v2)]) (rest := []) (x8W u a r q ++ (svW ct r b2 nx sz S ++ (sobjW a ++ (gridW ct a M ++ (benchW ct a M ++ (logW ct a M ++ (txtW ct q TX tl pl ft wd n1 n2 ++ (jrW ct o0 1 O)))))))) ([] : va_W) hx hb hml hown (fun w h => hts w (inL_110 w h)) hl hE hS hA (zr0 (x8W u a r q ++ (svW ct r b2 nx sz S ++ (sobjW a ++ (gridW ct a M ++ (benchW ct a M ++ (logW ct a M ++ (txtW ct q TX tl pl ft wd n1 n2 ++ (jrW ct o0 1 O)))))))) hP) (zr0D (x8W u a r q ++ (svW ct r b2 nx sz S ++ (sobjW a ++ (gridW ct a M ++ (benchW ct a M ++ (logW ct a M ++ (txtW ct q TX tl pl ft wd n1 n2 ++ (jrW ct o0 1 O)))))))) hD) (c_X9_setLength_no l D ct ad mb M SP SV TX NB sz tl cd plm cm h v1 v2 (by assumption) (by omega) (by omega) (hok)) gdL_110 rfl rfl k_X9_setLength ⟨Nat.le_of_ble_eq_true rfl, Nat.le_of_ble_eq_true rfl⟩ rfl rfl rfl rfl (Nat.le_of_ble_eq_true rfl) hc1 dL_law_464 rfl (fun v w1 H locs hpost hP hD hS => ?_)
    obtain ⟨rfl, rfl⟩ := hpost
    have hP := zr0' hP
    have hD := zr0D' hD
    have hP : va_P D vwCl (x8W u a r q ++ (svW ct r b2 nx sz S ++ (sobjW a ++ (gridW ct a M ++ (benchW ct a M ++ (logW ct a M ++ (txtW ct q TX tl pl ft wd n1 n2 ++ (jrW ct o0 1 O ++ (moW mb sz tl (ck_length M v1 v2) plm cm h ++ (jrW ct (mb 1) 94 M ++ (jrW ct (mb 2) 94 SP ++ (jrW ct (mb 3) 376 SV ++ (irW ct (mb 4) 150 TX ++ (irW ct (mb 5) 2 NB)))))))))))))) H := hP
    have hD : va_D (fun q : Nat => s.heap.size ≤ q) (x8W u a r q ++ (svW ct r b2 nx sz S ++ (sobjW a ++ (gridW ct a M ++ (benchW ct a M ++ (logW ct a M ++ (txtW ct q TX tl pl ft wd n1 n2 ++ (jrW ct o0 1 O ++ (moW mb sz tl (ck_length M v1 v2) plm cm h ++ (jrW ct (mb 1) 94 M ++ (jrW ct (mb 2) 94 SP ++ (jrW ct (mb 3) 376 SV ++ (irW ct (mb 4) 150 TX ++ (irW ct (mb 5) 2 NB)))))))))))))) := hD
    refine W.eq (g2 := F0 m 467 ls [.int (zI 0)]) rfl ?_
    refine lv_istore (lv' := [(6, .int (zI 0)), (5, .int (zI (ck_length M v1 v2))), (0, .ref b), (1, .ref u), (2, .ref (mb 0)), (3, .ref o0), (4, .int (zI i))]) hx hb dL_law_467 hl (by decide) rfl (fun ls hl => ?_)
    refine lv_aload_n hx hb dL_law_469 rfl (lv_at hl 4 rfl) ?_
    refine z_callV (C := RX9) (q0 := 0) (ci := 7) (As := []) (rest := []) (x8W u a r q ++ (svW ct r b2 nx sz S ++ (sobjW a ++ (gridW ct a M ++ (benchW ct a M ++ (logW ct a M ++ (txtW ct q TX tl pl ft wd n1 n2 ++ (jrW ct o0 1 O)))))))) ([] : va_W) hx hb hml hown (fun w h => hts w (inL_94 w h)) hl hE hS hA (zr0 (x8W u a r q ++ (svW ct r b2 nx sz S ++ (sobjW a ++ (gridW ct a M ++ (benchW ct a M ++ (logW ct a M ++ (txtW ct q TX tl pl ft wd n1 n2 ++ (jrW ct o0 1 O)))))))) hP) (zr0D (x8W u a r q ++ (svW ct r b2 nx sz S ++ (sobjW a ++ (gridW ct a M ++ (benchW ct a M ++ (logW ct a M ++ (txtW ct q TX tl pl ft wd n1 n2 ++ (jrW ct o0 1 O)))))))) hD) (c_X9_thrown l D ct ad mb M SP SV TX NB sz tl (ck_length M v1 v2) plm cm h) gdL_94 rfl rfl k_X9_thrown ⟨Nat.le_of_ble_eq_true rfl, Nat.le_of_ble_eq_true rfl⟩ rfl rfl rfl rfl (Nat.le_of_ble_eq_true rfl) hc1 dL_law_470 rfl (fun v w1 H locs hpost hP hD hS => ?_)
    obtain ⟨rfl, rfl⟩ := hpost
    have hP := zr0' hP
    have hD := zr0D' hD
    have hP : va_P D vwCl (x8W u a r q ++ (svW ct r b2 nx sz S ++ (sobjW a ++ (gridW ct a M ++ (benchW ct a M ++ (logW ct a M ++ (txtW ct q TX tl pl ft wd n1 n2 ++ (jrW ct o0 1 O ++ (moW mb sz tl (ck_length M v1 v2) plm cm h ++ (jrW ct (mb 1) 94 M ++ (jrW ct (mb 2) 94 SP ++ (jrW ct (mb 3) 376 SV ++ (irW ct (mb 4) 150 TX ++ (irW ct (mb 5) 2 NB)))))))))))))) H := hP
    have hD : va_D (fun q : Nat => s.heap.size ≤ q) (x8W u a r q ++ (svW ct r b2 nx sz S ++ (sobjW a ++ (gridW ct a M ++ (benchW ct a M ++ (logW ct a M ++ (txtW ct q TX tl pl ft wd n1 n2 ++ (jrW ct o0 1 O ++ (moW mb sz tl (ck_length M v1 v2) plm cm h ++ (jrW ct (mb 1) 94 M ++ (jrW ct (mb 2) 94 SP ++ (jrW ct (mb 3) 376 SV ++ (irW ct (mb 4) 150 TX ++ (irW ct (mb 5) 2 NB)))))))))))))) := hD
    refine W.eq (g2 := F0 m 473 ls [.int (zI (ck_length M v1 v2))]) rfl ?_
    refine lv_iload hx hb dL_law_473 (lv_at hl 1 rfl) ?_
    refine z_icmp_eqS (tgt := 480) hx hb dL_law_475 (by decide) ?_
    refine lv_iload hx hb dL_law_480 (lv_at hl 1 rfl) ?_
    refine z_if_ne (tgt := 497) hx hb dL_law_482 (by decide) (by omega) (fun hc_482 => ?_) (fun hc_482 => ?_)
    · have hc_482 := hc_482
      refine lv_goto (tgt := 1590) hx hb dL_law_497 (by decide) ?_
      exact ih _ _ _ ⟨nx, sz, S, M, TX, tl, pl, ft, n1, n2, wd, O, SP, SV, NB, (ck_length M v1 v2), plm, cm, h, hR, hP, hD, hS, lv_sub hl [2, 3, 4, 5, 6] rfl⟩
    · have hc_482 := hc_482
      exfalso; first | omega | (revert hc_482; unfold ck1; split <;> omega)
set_option maxHeartbeats 4000000 in
set_option maxRecDepth 100000 in
theorem law_c5 (p : Program) (l : Launch) (e : Env) (s : State) (m : MethodId) (below : List Frame) (meth : Method) (c : Code) (D : va_G) (ct ad : Nat → Nat) (b L : Nat) (xs : Nat → Int32) (u : Nat) (a r q : Nat → Nat) (b2 : Nat → Nat → Nat) (o0 : Nat) (mb : Nat → Nat) (hC : lwC p l s m meth c D ct ad b L xs) (i : Int) (hi : 0 ≤ i ∧ i + 4 ≤ (L : Int)) (cells slots : Nat) (hcap : cells + 1 ≤ 601024 ∧ slots + 6 ≤ 7293034) (ih : ∀ (H : Heap) (locs : List Loc) (ls : Array Slot), lwI s D ct b u a r q b2 o0 mb i H locs ls → W p l e room_1 s m #[Value.ref b] below meth c H locs (cells + 1) (slots + 6) (lw_Z below #[Value.ref b] s) (F0 m 1590 ls [])) (H : Heap) (locs : List Loc) (ls : Array Slot) (hI0 : lwI s D ct b u a r q b2 o0 mb i H locs ls) : W p l e room_1 s m #[Value.ref b] below meth c H locs cells slots (lw_Z below #[Value.ref b] s) (F0 m 500 ls []) := by
  obtain ⟨hx, hb, hr, hml, hown, hts, hX, hbl, hlocks, hE, hst, hL⟩ := hC
  obtain ⟨nx, sz, S, M, TX, tl, pl, ft, n1, n2, wd, O, SP, SV, NB, cd, plm, cm, h, hR, hP, hD, hS, hl⟩ := hI0
  have hA : ∀ q : Nat, s.heap.size ≤ q → (fun q : Nat => s.heap.size ≤ q) q := fun _ h => h
  have hbA : ¬ (fun q : Nat => s.heap.size ≤ q) b := Nat.not_le.mpr hbl
  have hK := hE.1
  have hc0 : cells ≤ room_1.cells ∧ slots ≤ room_1.slots := by show cells ≤ 601024 ∧ slots ≤ 7293034; omega
  have hc1 : cells + 1 ≤ room_1.cells ∧ slots + 6 ≤ room_1.slots := hcap
  have hP : va_P D vwCl (x8W u a r q ++ (svW ct r b2 nx sz S ++ (sobjW a ++ (gridW ct a M ++ (benchW ct a M ++ (logW ct a M ++ (txtW ct q TX tl pl ft wd n1 n2 ++ (jrW ct o0 1 O ++ (moW mb sz tl cd plm cm h ++ (jrW ct (mb 1) 94 M ++ (jrW ct (mb 2) 94 SP ++ (jrW ct (mb 3) 376 SV ++ (irW ct (mb 4) 150 TX ++ (irW ct (mb 5) 2 NB)))))))))))))) H := hP
  have hD : va_D (fun q : Nat => s.heap.size ≤ q) (x8W u a r q ++ (svW ct r b2 nx sz S ++ (sobjW a ++ (gridW ct a M ++ (benchW ct a M ++ (logW ct a M ++ (txtW ct q TX tl pl ft wd n1 n2 ++ (jrW ct o0 1 O ++ (moW mb sz tl cd plm cm h ++ (jrW ct (mb 1) 94 M ++ (jrW ct (mb 2) 94 SP ++ (jrW ct (mb 3) 376 SV ++ (irW ct (mb 4) 150 TX ++ (irW ct (mb 5) 2 NB)))))))))))))) := hD
  have hs := hR.1
  have ht := hR.2.1
  have hI := hs.1
  have hB := hs.2.1
  have ha := hs.2.2
  have i3 := hI.1
  have i4 := hI.2.1
  have j0 := hB.1
  have j1 := hB.2.1
  have j2 := hB.2.2.1
  have j4 := hB.2.2.2.2
  have t1 := ht.1
  have hn := hR.2.2.1
  have hsz := hR.2.2.2.1
  have hsc := hR.2.2.2.1
  obtain ⟨v1, e1, r1⟩ := zI_any (xs (i + 1).toNat)
  obtain ⟨v2, e2, r2⟩ := zI_any (xs (i + 2).toNat)
  by_cases hok : ck_warm v1 v2 = 0
  · skip
    have hk : 0 ≤ v1 ∧ v1 ≤ 4 := by revert hok; unfold ck_warm; (repeat' split) <;> intro z <;> omega
    have hq := hB.2.2.2.1 v1 (by omega) (by omega)
    have hv : -2147483648 ≤ M (49 + v1) ∧ M (49 + v1) ≤ 2147483647 := by omega
    refine lv_aload_n hx hb dL_law_500 rfl (lv_at hl 1 rfl) ?_
    refine lv_aload_n hx hb dL_law_501 rfl (lv_at hl 0 rfl) ?_
    refine lv_iload hx hb dL_law_502 (lv_at hl 4 rfl) ?_
    refine z_iconst hx hb dL_law_504 ?_
    refine z_iadd hx hb dL_law_505 ?_
    refine z_sld hx hb hX hbl hbA hS (by omega) hL e1 dL_law_506 ?_
    refine lv_aload_n hx hb dL_law_507 rfl (lv_at hl 0 rfl) ?_
    refine lv_iload hx hb dL_law_508 (lv_at hl 4 rfl) ?_
    refine z_iconst hx hb dL_law_510 ?_
    refine z_iadd hx hb dL_law_511 ?_
    refine z_sld hx hb hX hbl hbA hS (by omega) hL e2 dL_law_512 ?_
    refine lv_aload_n hx hb dL_law_513 rfl (lv_at hl 3 rfl) ?_
    refine z_callSW (As := [.ref u, .int (zI v1), .int (zI v2), .ref o0]) (rest := []) ([] : va_W) (moW mb sz tl cd plm cm h ++ (jrW ct (mb 1) 94 M ++ (jrW ct (mb 2) 94 SP ++ (jrW ct (mb 3) 376 SV ++ (irW ct (mb 4) 150 TX ++ (irW ct (mb 5) 2 NB)))))) hx hb hml hown (fun w h => hts w (inL_111 w h)) hl hE hS hA hP hD (c_L_setShelf_ok l D ct ad u a r q b2 nx sz S M TX tl pl ft n1 n2 wd o0 O v1 v2 (by assumption) (by omega) (by omega) (by omega) (by omega) hok hv) gdL_111 rfl k_L_setShelf ⟨Nat.le_of_ble_eq_true rfl, Nat.le_of_ble_eq_true rfl⟩ rfl (Nat.le_of_ble_eq_true rfl) hc0 dL_law_514 rfl (fun v w1 H locs hpost hP hD hS => ?_)
    obtain ⟨rfl, rfl⟩ := hpost
    have hP : va_P D vwCl (x8W u a r q ++ (svW ct r b2 ((nx + 1) % 4) (min (sz + 1) 4) (updS S nx M) ++ (sobjW a ++ (gridW ct a (up M (49 + v1) v2) ++ (benchW ct a (up M (49 + v1) v2) ++ (logW ct a (up M (49 + v1) v2) ++ (txtW ct q TX tl pl ft wd n1 n2 ++ (jrW ct o0 1 (up O 0 (M (49 + v1))) ++ (moW mb sz tl cd plm cm h ++ (jrW ct (mb 1) 94 M ++ (jrW ct (mb 2) 94 SP ++ (jrW ct (mb 3) 376 SV ++ (irW ct (mb 4) 150 TX ++ (irW ct (mb 5) 2 NB)))))))))))))) H := hP
    have hD : va_D (fun q : Nat => s.heap.size ≤ q) (x8W u a r q ++ (svW ct r b2 ((nx + 1) % 4) (min (sz + 1) 4) (updS S nx M) ++ (sobjW a ++ (gridW ct a (up M (49 + v1) v2) ++ (benchW ct a (up M (49 + v1) v2) ++ (logW ct a (up M (49 + v1) v2) ++ (txtW ct q TX tl pl ft wd n1 n2 ++ (jrW ct o0 1 (up O 0 (M (49 + v1))) ++ (moW mb sz tl cd plm cm h ++ (jrW ct (mb 1) 94 M ++ (jrW ct (mb 2) 94 SP ++ (jrW ct (mb 3) 376 SV ++ (irW ct (mb 4) 150 TX ++ (irW ct (mb 5) 2 NB)))))))))))))) := hD
    refine W.eq (g2 := F0 m 517 ls [.int (zI 0)]) rfl ?_
    refine lv_istore (lv' := [(5, .int (zI 0)), (0, .ref b), (1, .ref u), (2, .ref (mb 0)), (3, .ref o0), (4, .int (zI i))]) hx hb dL_law_517 hl (by decide) rfl (fun ls hl => ?_)
    refine lv_aload_n hx hb dL_law_519 rfl (lv_at hl 3 rfl) ?_
    refine lv_aload_n hx hb dL_law_520 rfl (lv_at hl 1 rfl) ?_
    refine lv_iload hx hb dL_law_521 (lv_at hl 5 rfl) ?_
    refine z_iconst hx hb dL_law_523 ?_
    refine z_iadd hx hb dL_law_524 ?_
    refine z_sld hx hb hX hbl hbA hS (by omega) hL e1 dL_law_525 ?_
    refine lv_aload_n hx hb dL_law_526 rfl (lv_at hl 1 rfl) ?_
    refine lv_iload hx hb dL_law_527 (lv_at hl 5 rfl) ?_
    refine z_iconst hx hb dL_law_529 ?_
    refine z_iadd hx hb dL_law_530 ?_
    refine z_sld hx hb hX hbl hbA hS (by omega) hL e2 dL_law_531 ?_
    refine z_callV (C := RX9) (q0 := 0) (ci := 7) (As := [.int (zI v1), .int (zI v2)]) (rest := []) (x8W u a r q ++ (svW ct r b2 ((nx + 1) % 4) (min (sz + 1) 4) (updS S nx M) ++ (sobjW a ++ (gridW ct a (up M (49 + v1) v2) ++ (benchW ct a (up M (49 + v1) v2) ++ (logW ct a (up M (49 + v1) v2) ++ (txtW ct q TX tl pl ft wd n1 n2 ++ (jrW ct o0 1 (up O 0 (M (49 + v1))))))))))) ([] : va_W) hx hb hml hown (fun w h => hts w (inL_113 w h)) hl hE hS hA (zr0 (x8W u a r q ++ (svW ct r b2 ((nx + 1) % 4) (min (sz + 1) 4) (updS S nx M) ++ (sobjW a ++ (gridW ct a (up M (49 + v1) v2) ++ (benchW ct a (up M (49 + v1) v2) ++ (logW ct a (up M (49 + v1) v2) ++ (txtW ct q TX tl pl ft wd n1 n2 ++ (jrW ct o0 1 (up O 0 (M (49 + v1))))))))))) hP) (zr0D (x8W u a r q ++ (svW ct r b2 ((nx + 1) % 4) (min (sz + 1) 4) (updS S nx M) ++ (sobjW a ++ (gridW ct a (up M (49 + v1) v2) ++ (benchW ct a (up M (49 + v1) v2) ++ (logW ct a (up M (49 + v1) v2) ++ (txtW ct q TX tl pl ft wd n1 n2 ++ (jrW ct o0 1 (up O 0 (M (49 + v1))))))))))) hD) (c_X9_setShelf_ok l D ct ad mb M SP SV TX NB sz tl cd plm cm h v1 v2 (by omega) (by omega) (by omega) (hok)) gdL_113 rfl rfl k_X9_setShelf ⟨Nat.le_of_ble_eq_true rfl, Nat.le_of_ble_eq_true rfl⟩ rfl rfl rfl rfl (Nat.le_of_ble_eq_true rfl) hc0 dL_law_532 rfl (fun v w1 H locs hpost hP hD hS => ?_)
    obtain ⟨rfl, rfl⟩ := hpost
    have hP := zr0' hP
    have hD := zr0D' hD
    have hP : va_P D vwCl (x8W u a r q ++ (svW ct r b2 ((nx + 1) % 4) (min (sz + 1) 4) (updS S nx M) ++ (sobjW a ++ (gridW ct a (up M (49 + v1) v2) ++ (benchW ct a (up M (49 + v1) v2) ++ (logW ct a (up M (49 + v1) v2) ++ (txtW ct q TX tl pl ft wd n1 n2 ++ (jrW ct o0 1 (up O 0 (M (49 + v1))) ++ (moW mb (sv_n sz + 1) tl (ck_warm v1 v2) plm cm h ++ (jrW ct (mb 1) 94 (up M (49 + v1) v2) ++ (jrW ct (mb 2) 94 SP ++ (jrW ct (mb 3) 376 (sv_keep SV M sz) ++ (irW ct (mb 4) 150 TX ++ (irW ct (mb 5) 2 NB)))))))))))))) H := hP
    have hD : va_D (fun q : Nat => s.heap.size ≤ q) (x8W u a r q ++ (svW ct r b2 ((nx + 1) % 4) (min (sz + 1) 4) (updS S nx M) ++ (sobjW a ++ (gridW ct a (up M (49 + v1) v2) ++ (benchW ct a (up M (49 + v1) v2) ++ (logW ct a (up M (49 + v1) v2) ++ (txtW ct q TX tl pl ft wd n1 n2 ++ (jrW ct o0 1 (up O 0 (M (49 + v1))) ++ (moW mb (sv_n sz + 1) tl (ck_warm v1 v2) plm cm h ++ (jrW ct (mb 1) 94 (up M (49 + v1) v2) ++ (jrW ct (mb 2) 94 SP ++ (jrW ct (mb 3) 376 (sv_keep SV M sz) ++ (irW ct (mb 4) 150 TX ++ (irW ct (mb 5) 2 NB)))))))))))))) := hD
    refine W.eq (g2 := F0 m 535 ls [.int (zI (M (49 + v1)))]) rfl ?_
    refine lv_istore (lv' := [(6, .int (zI (M (49 + v1)))), (5, .int (zI 0)), (0, .ref b), (1, .ref u), (2, .ref (mb 0)), (3, .ref o0), (4, .int (zI i))]) hx hb dL_law_535 hl (by decide) rfl (fun ls hl => ?_)
    refine lv_aload_n hx hb dL_law_537 rfl (lv_at hl 4 rfl) ?_
    refine z_callV (C := RX9) (q0 := 0) (ci := 7) (As := []) (rest := []) (x8W u a r q ++ (svW ct r b2 ((nx + 1) % 4) (min (sz + 1) 4) (updS S nx M) ++ (sobjW a ++ (gridW ct a (up M (49 + v1) v2) ++ (benchW ct a (up M (49 + v1) v2) ++ (logW ct a (up M (49 + v1) v2) ++ (txtW ct q TX tl pl ft wd n1 n2 ++ (jrW ct o0 1 (up O 0 (M (49 + v1))))))))))) ([] : va_W) hx hb hml hown (fun w h => hts w (inL_94 w h)) hl hE hS hA (zr0 (x8W u a r q ++ (svW ct r b2 ((nx + 1) % 4) (min (sz + 1) 4) (updS S nx M) ++ (sobjW a ++ (gridW ct a (up M (49 + v1) v2) ++ (benchW ct a (up M (49 + v1) v2) ++ (logW ct a (up M (49 + v1) v2) ++ (txtW ct q TX tl pl ft wd n1 n2 ++ (jrW ct o0 1 (up O 0 (M (49 + v1))))))))))) hP) (zr0D (x8W u a r q ++ (svW ct r b2 ((nx + 1) % 4) (min (sz + 1) 4) (updS S nx M) ++ (sobjW a ++ (gridW ct a (up M (49 + v1) v2) ++ (benchW ct a (up M (49 + v1) v2) ++ (logW ct a (up M (49 + v1) v2) ++ (txtW ct q TX tl pl ft wd n1 n2 ++ (jrW ct o0 1 (up O 0 (M (49 + v1))))))))))) hD) (c_X9_thrown l D ct ad mb (up M (49 + v1) v2) SP (sv_keep SV M sz) TX NB (sv_n sz + 1) tl (ck_warm v1 v2) plm cm h) gdL_94 rfl rfl k_X9_thrown ⟨Nat.le_of_ble_eq_true rfl, Nat.le_of_ble_eq_true rfl⟩ rfl rfl rfl rfl (Nat.le_of_ble_eq_true rfl) hc0 dL_law_538 rfl (fun v w1 H locs hpost hP hD hS => ?_)
    obtain ⟨rfl, rfl⟩ := hpost
    have hP := zr0' hP
    have hD := zr0D' hD
    have hP : va_P D vwCl (x8W u a r q ++ (svW ct r b2 ((nx + 1) % 4) (min (sz + 1) 4) (updS S nx M) ++ (sobjW a ++ (gridW ct a (up M (49 + v1) v2) ++ (benchW ct a (up M (49 + v1) v2) ++ (logW ct a (up M (49 + v1) v2) ++ (txtW ct q TX tl pl ft wd n1 n2 ++ (jrW ct o0 1 (up O 0 (M (49 + v1))) ++ (moW mb (sv_n sz + 1) tl (ck_warm v1 v2) plm cm h ++ (jrW ct (mb 1) 94 (up M (49 + v1) v2) ++ (jrW ct (mb 2) 94 SP ++ (jrW ct (mb 3) 376 (sv_keep SV M sz) ++ (irW ct (mb 4) 150 TX ++ (irW ct (mb 5) 2 NB)))))))))))))) H := hP
    have hD : va_D (fun q : Nat => s.heap.size ≤ q) (x8W u a r q ++ (svW ct r b2 ((nx + 1) % 4) (min (sz + 1) 4) (updS S nx M) ++ (sobjW a ++ (gridW ct a (up M (49 + v1) v2) ++ (benchW ct a (up M (49 + v1) v2) ++ (logW ct a (up M (49 + v1) v2) ++ (txtW ct q TX tl pl ft wd n1 n2 ++ (jrW ct o0 1 (up O 0 (M (49 + v1))) ++ (moW mb (sv_n sz + 1) tl (ck_warm v1 v2) plm cm h ++ (jrW ct (mb 1) 94 (up M (49 + v1) v2) ++ (jrW ct (mb 2) 94 SP ++ (jrW ct (mb 3) 376 (sv_keep SV M sz) ++ (irW ct (mb 4) 150 TX ++ (irW ct (mb 5) 2 NB)))))))))))))) := hD
    refine W.eq (g2 := F0 m 541 ls [.int (zI (ck_warm v1 v2))]) rfl ?_
    refine lv_iload hx hb dL_law_541 (lv_at hl 1 rfl) ?_
    refine z_canI (show 0 = ck_warm v1 v2 from hok.symm) ?_
    refine z_icmp_eqS (tgt := 548) hx hb dL_law_543 (by decide) ?_
    refine lv_iload hx hb dL_law_548 (lv_at hl 1 rfl) ?_
    refine z_if_ne (tgt := 565) hx hb dL_law_550 (by decide) (by omega) (fun hc_550 => ?_) (fun hc_550 => ?_)
    · have hc_550 := hc_550
      exfalso; first | omega | (revert hc_550; unfold ck1; split <;> omega)
    · have hc_550 := hc_550
      refine lv_aload_n hx hb dL_law_553 rfl (lv_at hl 5 rfl) ?_
      refine z_iconst hx hb dL_law_554 ?_
      refine z_lald (g := (up O 0 (M (49 + v1)))) (v := M (49 + v1)) hx hb hK hP 60 rfl (by decide) (by omega) (show (up O 0 (M (49 + v1))) 0 = M (49 + v1) from by rw [up_s]) dL_law_555 ?_
      refine lv_iload hx hb dL_law_556 (lv_at hl 0 rfl) ?_
      refine z_i2l hx hb dL_law_558 (by omega) ?_
      refine z_lcmp_eqS (tgt := 565) hx hb dL_law_559 dL_law_560 (by decide) ?_
      refine lv_goto (tgt := 1590) hx hb dL_law_565 (by decide) ?_
      refine W.widen (k := cells + 1) (n := slots + 6) (Nat.le_add_right _ _) (Nat.le_add_right _ _) ?_
      have e9 : (sv_n sz + 1) = (min (sz + 1) 4) := by have q9 := sv_min (sz := sz); have := hR.2.2.2.1; omega
      rw [e9] at hP hD
      exact ih _ _ _ ⟨((nx + 1) % 4), (min (sz + 1) 4), (updS S nx M), (up M (49 + v1) v2), TX, tl, pl, ft, n1, n2, wd, (up O 0 (M (49 + v1))), SP, (sv_keep SV M sz), NB, (ck_warm v1 v2), plm, cm, h, lwR_push hR (sInv_warm hs hok), hP, hD, hS, lv_sub hl [2, 3, 4, 5, 6] rfl⟩
  · skip
    have hcc : (1 ≤ ck_warm v1 v2 ∧ ck_warm v1 v2 ≤ 3) := by
      have q9 := hok
      revert q9
      unfold ck_warm
      (repeat' split) <;> intro q9 <;> omega
    refine lv_aload_n hx hb dL_law_500 rfl (lv_at hl 1 rfl) ?_
    refine lv_aload_n hx hb dL_law_501 rfl (lv_at hl 0 rfl) ?_
    refine lv_iload hx hb dL_law_502 (lv_at hl 4 rfl) ?_
    refine z_iconst hx hb dL_law_504 ?_
    refine z_iadd hx hb dL_law_505 ?_
    refine z_sld hx hb hX hbl hbA hS (by omega) hL e1 dL_law_506 ?_
    refine lv_aload_n hx hb dL_law_507 rfl (lv_at hl 0 rfl) ?_
    refine lv_iload hx hb dL_law_508 (lv_at hl 4 rfl) ?_
    refine z_iconst hx hb dL_law_510 ?_
    refine z_iadd hx hb dL_law_511 ?_
    refine z_sld hx hb hX hbl hbA hS (by omega) hL e2 dL_law_512 ?_
    refine lv_aload_n hx hb dL_law_513 rfl (lv_at hl 3 rfl) ?_
    refine z_callSW (As := [.ref u, .int (zI v1), .int (zI v2), .ref o0]) (rest := []) ([] : va_W) (moW mb sz tl cd plm cm h ++ (jrW ct (mb 1) 94 M ++ (jrW ct (mb 2) 94 SP ++ (jrW ct (mb 3) 376 SV ++ (irW ct (mb 4) 150 TX ++ (irW ct (mb 5) 2 NB)))))) hx hb hml hown (fun w h => hts w (inL_111 w h)) hl hE hS hA hP hD (c_L_setShelf_no l D ct ad u a r q b2 nx sz S M TX tl pl ft n1 n2 wd o0 O v1 v2 (by assumption) hst (by omega) (by omega) hok) gdL_111 rfl k_L_setShelf ⟨Nat.le_of_ble_eq_true rfl, Nat.le_of_ble_eq_true rfl⟩ rfl (Nat.le_of_ble_eq_true rfl) hc1 dL_law_514 rfl (fun v w1 H locs hpost hP hD hS => ?_)
    obtain ⟨rfl, rfl⟩ := hpost
    have hP : va_P D vwCl (x8W u a r q ++ (svW ct r b2 nx sz S ++ (sobjW a ++ (gridW ct a M ++ (benchW ct a M ++ (logW ct a M ++ (txtW ct q TX tl pl ft wd n1 n2 ++ (jrW ct o0 1 O ++ (moW mb sz tl cd plm cm h ++ (jrW ct (mb 1) 94 M ++ (jrW ct (mb 2) 94 SP ++ (jrW ct (mb 3) 376 SV ++ (irW ct (mb 4) 150 TX ++ (irW ct (mb 5) 2 NB)))))))))))))) H := hP
    have hD : va_D (fun q : Nat => s.heap.size ≤ q) (x8W u a r q ++ (svW ct r b2 nx sz S ++ (sobjW a ++ (gridW ct a M ++ (benchW ct a M ++ (logW ct a M ++ (txtW ct q TX tl pl ft wd n1 n2 ++ (jrW ct o0 1 O ++ (moW mb sz tl cd plm cm h ++ (jrW ct (mb 1) 94 M ++ (jrW ct (mb 2) 94 SP ++ (jrW ct (mb 3) 376 SV ++ (irW ct (mb 4) 150 TX ++ (irW ct (mb 5) 2 NB)))))))))))))) := hD
    refine W.eq (g2 := F0 m 517 ls [.int (zI (ck_warm v1 v2))]) rfl ?_
    refine lv_istore (lv' := [(5, .int (zI (ck_warm v1 v2))), (0, .ref b), (1, .ref u), (2, .ref (mb 0)), (3, .ref o0), (4, .int (zI i))]) hx hb dL_law_517 hl (by decide) rfl (fun ls hl => ?_)
    refine lv_aload_n hx hb dL_law_519 rfl (lv_at hl 3 rfl) ?_
    refine lv_aload_n hx hb dL_law_520 rfl (lv_at hl 1 rfl) ?_
    refine lv_iload hx hb dL_law_521 (lv_at hl 5 rfl) ?_
    refine z_iconst hx hb dL_law_523 ?_
    refine z_iadd hx hb dL_law_524 ?_
    refine z_sld hx hb hX hbl hbA hS (by omega) hL e1 dL_law_525 ?_
    refine lv_aload_n hx hb dL_law_526 rfl (lv_at hl 1 rfl) ?_
    refine lv_iload hx hb dL_law_527 (lv_at hl 5 rfl) ?_
    refine z_iconst hx hb dL_law_529 ?_
    refine z_iadd hx hb dL_law_530 ?_
    refine z_sld hx hb hX hbl hbA hS (by omega) hL e2 dL_law_531 ?_
    refine z_callV (C := RX9) (q0 := 0) (ci := 7) (As := [.int (zI v1), .int (zI v2)]) (rest := []) (x8W u a r q ++ (svW ct r b2 nx sz S ++ (sobjW a ++ (gridW ct a M ++ (benchW ct a M ++ (logW ct a M ++ (txtW ct q TX tl pl ft wd n1 n2 ++ (jrW ct o0 1 O)))))))) ([] : va_W) hx hb hml hown (fun w h => hts w (inL_113 w h)) hl hE hS hA (zr0 (x8W u a r q ++ (svW ct r b2 nx sz S ++ (sobjW a ++ (gridW ct a M ++ (benchW ct a M ++ (logW ct a M ++ (txtW ct q TX tl pl ft wd n1 n2 ++ (jrW ct o0 1 O)))))))) hP) (zr0D (x8W u a r q ++ (svW ct r b2 nx sz S ++ (sobjW a ++ (gridW ct a M ++ (benchW ct a M ++ (logW ct a M ++ (txtW ct q TX tl pl ft wd n1 n2 ++ (jrW ct o0 1 O)))))))) hD) (c_X9_setShelf_no l D ct ad mb M SP SV TX NB sz tl cd plm cm h v1 v2 (by omega) (by omega) (hok)) gdL_113 rfl rfl k_X9_setShelf ⟨Nat.le_of_ble_eq_true rfl, Nat.le_of_ble_eq_true rfl⟩ rfl rfl rfl rfl (Nat.le_of_ble_eq_true rfl) hc1 dL_law_532 rfl (fun v w1 H locs hpost hP hD hS => ?_)
    obtain ⟨rfl, rfl⟩ := hpost
    have hP := zr0' hP
    have hD := zr0D' hD
    have hP : va_P D vwCl (x8W u a r q ++ (svW ct r b2 nx sz S ++ (sobjW a ++ (gridW ct a M ++ (benchW ct a M ++ (logW ct a M ++ (txtW ct q TX tl pl ft wd n1 n2 ++ (jrW ct o0 1 O ++ (moW mb sz tl (ck_warm v1 v2) plm cm h ++ (jrW ct (mb 1) 94 M ++ (jrW ct (mb 2) 94 SP ++ (jrW ct (mb 3) 376 SV ++ (irW ct (mb 4) 150 TX ++ (irW ct (mb 5) 2 NB)))))))))))))) H := hP
    have hD : va_D (fun q : Nat => s.heap.size ≤ q) (x8W u a r q ++ (svW ct r b2 nx sz S ++ (sobjW a ++ (gridW ct a M ++ (benchW ct a M ++ (logW ct a M ++ (txtW ct q TX tl pl ft wd n1 n2 ++ (jrW ct o0 1 O ++ (moW mb sz tl (ck_warm v1 v2) plm cm h ++ (jrW ct (mb 1) 94 M ++ (jrW ct (mb 2) 94 SP ++ (jrW ct (mb 3) 376 SV ++ (irW ct (mb 4) 150 TX ++ (irW ct (mb 5) 2 NB)))))))))))))) := hD
    refine W.eq (g2 := F0 m 535 ls [.int (zI 0)]) rfl ?_
    refine lv_istore (lv' := [(6, .int (zI 0)), (5, .int (zI (ck_warm v1 v2))), (0, .ref b), (1, .ref u), (2, .ref (mb 0)), (3, .ref o0), (4, .int (zI i))]) hx hb dL_law_535 hl (by decide) rfl (fun ls hl => ?_)
    refine lv_aload_n hx hb dL_law_537 rfl (lv_at hl 4 rfl) ?_
    refine z_callV (C := RX9) (q0 := 0) (ci := 7) (As := []) (rest := []) (x8W u a r q ++ (svW ct r b2 nx sz S ++ (sobjW a ++ (gridW ct a M ++ (benchW ct a M ++ (logW ct a M ++ (txtW ct q TX tl pl ft wd n1 n2 ++ (jrW ct o0 1 O)))))))) ([] : va_W) hx hb hml hown (fun w h => hts w (inL_94 w h)) hl hE hS hA (zr0 (x8W u a r q ++ (svW ct r b2 nx sz S ++ (sobjW a ++ (gridW ct a M ++ (benchW ct a M ++ (logW ct a M ++ (txtW ct q TX tl pl ft wd n1 n2 ++ (jrW ct o0 1 O)))))))) hP) (zr0D (x8W u a r q ++ (svW ct r b2 nx sz S ++ (sobjW a ++ (gridW ct a M ++ (benchW ct a M ++ (logW ct a M ++ (txtW ct q TX tl pl ft wd n1 n2 ++ (jrW ct o0 1 O)))))))) hD) (c_X9_thrown l D ct ad mb M SP SV TX NB sz tl (ck_warm v1 v2) plm cm h) gdL_94 rfl rfl k_X9_thrown ⟨Nat.le_of_ble_eq_true rfl, Nat.le_of_ble_eq_true rfl⟩ rfl rfl rfl rfl (Nat.le_of_ble_eq_true rfl) hc1 dL_law_538 rfl (fun v w1 H locs hpost hP hD hS => ?_)
    obtain ⟨rfl, rfl⟩ := hpost
    have hP := zr0' hP
    have hD := zr0D' hD
    have hP : va_P D vwCl (x8W u a r q ++ (svW ct r b2 nx sz S ++ (sobjW a ++ (gridW ct a M ++ (benchW ct a M ++ (logW ct a M ++ (txtW ct q TX tl pl ft wd n1 n2 ++ (jrW ct o0 1 O ++ (moW mb sz tl (ck_warm v1 v2) plm cm h ++ (jrW ct (mb 1) 94 M ++ (jrW ct (mb 2) 94 SP ++ (jrW ct (mb 3) 376 SV ++ (irW ct (mb 4) 150 TX ++ (irW ct (mb 5) 2 NB)))))))))))))) H := hP
    have hD : va_D (fun q : Nat => s.heap.size ≤ q) (x8W u a r q ++ (svW ct r b2 nx sz S ++ (sobjW a ++ (gridW ct a M ++ (benchW ct a M ++ (logW ct a M ++ (txtW ct q TX tl pl ft wd n1 n2 ++ (jrW ct o0 1 O ++ (moW mb sz tl (ck_warm v1 v2) plm cm h ++ (jrW ct (mb 1) 94 M ++ (jrW ct (mb 2) 94 SP ++ (jrW ct (mb 3) 376 SV ++ (irW ct (mb 4) 150 TX ++ (irW ct (mb 5) 2 NB)))))))))))))) := hD
    refine W.eq (g2 := F0 m 541 ls [.int (zI (ck_warm v1 v2))]) rfl ?_
    refine lv_iload hx hb dL_law_541 (lv_at hl 1 rfl) ?_
    refine z_icmp_eqS (tgt := 548) hx hb dL_law_543 (by decide) ?_
    refine lv_iload hx hb dL_law_548 (lv_at hl 1 rfl) ?_
    refine z_if_ne (tgt := 565) hx hb dL_law_550 (by decide) (by omega) (fun hc_550 => ?_) (fun hc_550 => ?_)
    · have hc_550 := hc_550
      refine lv_goto (tgt := 1590) hx hb dL_law_565 (by decide) ?_
      exact ih _ _ _ ⟨nx, sz, S, M, TX, tl, pl, ft, n1, n2, wd, O, SP, SV, NB, (ck_warm v1 v2), plm, cm, h, hR, hP, hD, hS, lv_sub hl [2, 3, 4, 5, 6] rfl⟩
    · have hc_550 := hc_550
      exfalso; first | omega | (revert hc_550; unfold ck1; split <;> omega)
set_option maxHeartbeats 4000000 in
set_option maxRecDepth 100000 in
theorem law_c6 (p : Program) (l : Launch) (e : Env) (s : State) (m : MethodId) (below : List Frame) (meth : Method) (c : Code) (D : va_G) (ct ad : Nat → Nat) (b L : Nat) (xs : Nat → Int32) (u : Nat) (a r q : Nat → Nat) (b2 : Nat → Nat → Nat) (o0 : Nat) (mb : Nat → Nat) (hC : lwC p l s m meth c D ct ad b L xs) (i : Int) (hi : 0 ≤ i ∧ i + 4 ≤ (L : Int)) (cells slots : Nat) (hcap : cells + 1 ≤ 601024 ∧ slots + 6 ≤ 7293034) (ih : ∀ (H : Heap) (locs : List Loc) (ls : Array Slot), lwI s D ct b u a r q b2 o0 mb i H locs ls → W p l e room_1 s m #[Value.ref b] below meth c H locs (cells + 1) (slots + 6) (lw_Z below #[Value.ref b] s) (F0 m 1590 ls [])) (H : Heap) (locs : List Loc) (ls : Array Slot) (hI0 : lwI s D ct b u a r q b2 o0 mb i H locs ls) : W p l e room_1 s m #[Value.ref b] below meth c H locs cells slots (lw_Z below #[Value.ref b] s) (F0 m 568 ls []) := by
  obtain ⟨hx, hb, hr, hml, hown, hts, hX, hbl, hlocks, hE, hst, hL⟩ := hC
  obtain ⟨nx, sz, S, M, TX, tl, pl, ft, n1, n2, wd, O, SP, SV, NB, cd, plm, cm, h, hR, hP, hD, hS, hl⟩ := hI0
  have hA : ∀ q : Nat, s.heap.size ≤ q → (fun q : Nat => s.heap.size ≤ q) q := fun _ h => h
  have hbA : ¬ (fun q : Nat => s.heap.size ≤ q) b := Nat.not_le.mpr hbl
  have hK := hE.1
  have hc0 : cells ≤ room_1.cells ∧ slots ≤ room_1.slots := by show cells ≤ 601024 ∧ slots ≤ 7293034; omega
  have hc1 : cells + 1 ≤ room_1.cells ∧ slots + 6 ≤ room_1.slots := hcap
  have hP : va_P D vwCl (x8W u a r q ++ (svW ct r b2 nx sz S ++ (sobjW a ++ (gridW ct a M ++ (benchW ct a M ++ (logW ct a M ++ (txtW ct q TX tl pl ft wd n1 n2 ++ (jrW ct o0 1 O ++ (moW mb sz tl cd plm cm h ++ (jrW ct (mb 1) 94 M ++ (jrW ct (mb 2) 94 SP ++ (jrW ct (mb 3) 376 SV ++ (irW ct (mb 4) 150 TX ++ (irW ct (mb 5) 2 NB)))))))))))))) H := hP
  have hD : va_D (fun q : Nat => s.heap.size ≤ q) (x8W u a r q ++ (svW ct r b2 nx sz S ++ (sobjW a ++ (gridW ct a M ++ (benchW ct a M ++ (logW ct a M ++ (txtW ct q TX tl pl ft wd n1 n2 ++ (jrW ct o0 1 O ++ (moW mb sz tl cd plm cm h ++ (jrW ct (mb 1) 94 M ++ (jrW ct (mb 2) 94 SP ++ (jrW ct (mb 3) 376 SV ++ (irW ct (mb 4) 150 TX ++ (irW ct (mb 5) 2 NB)))))))))))))) := hD
  have hs := hR.1
  have ht := hR.2.1
  have hI := hs.1
  have hB := hs.2.1
  have ha := hs.2.2
  have i3 := hI.1
  have i4 := hI.2.1
  have j0 := hB.1
  have j1 := hB.2.1
  have j2 := hB.2.2.1
  have j4 := hB.2.2.2.2
  have t1 := ht.1
  have hn := hR.2.2.1
  have hsz := hR.2.2.2.1
  have hsc := hR.2.2.2.1
  obtain ⟨v1, e1, r1⟩ := zI_any (xs (i + 1).toNat)
  by_cases hok : ck_shelf v1 = 0
  · skip
    have hv : -2147483648 ≤ M 5 ∧ M 5 ≤ 2147483647 := by omega
    refine lv_aload_n hx hb dL_law_568 rfl (lv_at hl 1 rfl) ?_
    refine lv_aload_n hx hb dL_law_569 rfl (lv_at hl 0 rfl) ?_
    refine lv_iload hx hb dL_law_570 (lv_at hl 4 rfl) ?_
    refine z_iconst hx hb dL_law_572 ?_
    refine z_iadd hx hb dL_law_573 ?_
    refine z_sld hx hb hX hbl hbA hS (by omega) hL e1 dL_law_574 ?_
    refine lv_aload_n hx hb dL_law_575 rfl (lv_at hl 3 rfl) ?_
    refine z_callSW (As := [.ref u, .int (zI v1), .ref o0]) (rest := []) ([] : va_W) (moW mb sz tl cd plm cm h ++ (jrW ct (mb 1) 94 M ++ (jrW ct (mb 2) 94 SP ++ (jrW ct (mb 3) 376 SV ++ (irW ct (mb 4) 150 TX ++ (irW ct (mb 5) 2 NB)))))) hx hb hml hown (fun w h => hts w (inL_114 w h)) hl hE hS hA hP hD (c_L_hang_ok l D ct ad u a r q b2 nx sz S M TX tl pl ft n1 n2 wd o0 O v1 (by assumption) (by omega) (by omega) (by omega) hok hv) gdL_114 rfl k_L_hang ⟨Nat.le_of_ble_eq_true rfl, Nat.le_of_ble_eq_true rfl⟩ rfl (Nat.le_of_ble_eq_true rfl) hc0 dL_law_576 rfl (fun v w1 H locs hpost hP hD hS => ?_)
    obtain ⟨rfl, rfl⟩ := hpost
    have hP : va_P D vwCl (x8W u a r q ++ (svW ct r b2 ((nx + 1) % 4) (min (sz + 1) 4) (updS S nx M) ++ (sobjW a ++ (gridW ct a (up M 5 v1) ++ (benchW ct a (up M 5 v1) ++ (logW ct a (up M 5 v1) ++ (txtW ct q TX tl pl ft wd n1 n2 ++ (jrW ct o0 1 (up O 0 (M 5)) ++ (moW mb sz tl cd plm cm h ++ (jrW ct (mb 1) 94 M ++ (jrW ct (mb 2) 94 SP ++ (jrW ct (mb 3) 376 SV ++ (irW ct (mb 4) 150 TX ++ (irW ct (mb 5) 2 NB)))))))))))))) H := hP
    have hD : va_D (fun q : Nat => s.heap.size ≤ q) (x8W u a r q ++ (svW ct r b2 ((nx + 1) % 4) (min (sz + 1) 4) (updS S nx M) ++ (sobjW a ++ (gridW ct a (up M 5 v1) ++ (benchW ct a (up M 5 v1) ++ (logW ct a (up M 5 v1) ++ (txtW ct q TX tl pl ft wd n1 n2 ++ (jrW ct o0 1 (up O 0 (M 5)) ++ (moW mb sz tl cd plm cm h ++ (jrW ct (mb 1) 94 M ++ (jrW ct (mb 2) 94 SP ++ (jrW ct (mb 3) 376 SV ++ (irW ct (mb 4) 150 TX ++ (irW ct (mb 5) 2 NB)))))))))))))) := hD
    refine W.eq (g2 := F0 m 579 ls [.int (zI 0)]) rfl ?_
    refine lv_istore (lv' := [(5, .int (zI 0)), (0, .ref b), (1, .ref u), (2, .ref (mb 0)), (3, .ref o0), (4, .int (zI i))]) hx hb dL_law_579 hl (by decide) rfl (fun ls hl => ?_)
    refine lv_aload_n hx hb dL_law_581 rfl (lv_at hl 3 rfl) ?_
    refine lv_aload_n hx hb dL_law_582 rfl (lv_at hl 1 rfl) ?_
    refine lv_iload hx hb dL_law_583 (lv_at hl 5 rfl) ?_
    refine z_iconst hx hb dL_law_585 ?_
    refine z_iadd hx hb dL_law_586 ?_
    refine z_sld hx hb hX hbl hbA hS (by omega) hL e1 dL_law_587 ?_
    refine z_callV (C := RX9) (q0 := 0) (ci := 7) (As := [.int (zI v1)]) (rest := []) (x8W u a r q ++ (svW ct r b2 ((nx + 1) % 4) (min (sz + 1) 4) (updS S nx M) ++ (sobjW a ++ (gridW ct a (up M 5 v1) ++ (benchW ct a (up M 5 v1) ++ (logW ct a (up M 5 v1) ++ (txtW ct q TX tl pl ft wd n1 n2 ++ (jrW ct o0 1 (up O 0 (M 5)))))))))) ([] : va_W) hx hb hml hown (fun w h => hts w (inL_116 w h)) hl hE hS hA (zr0 (x8W u a r q ++ (svW ct r b2 ((nx + 1) % 4) (min (sz + 1) 4) (updS S nx M) ++ (sobjW a ++ (gridW ct a (up M 5 v1) ++ (benchW ct a (up M 5 v1) ++ (logW ct a (up M 5 v1) ++ (txtW ct q TX tl pl ft wd n1 n2 ++ (jrW ct o0 1 (up O 0 (M 5)))))))))) hP) (zr0D (x8W u a r q ++ (svW ct r b2 ((nx + 1) % 4) (min (sz + 1) 4) (updS S nx M) ++ (sobjW a ++ (gridW ct a (up M 5 v1) ++ (benchW ct a (up M 5 v1) ++ (logW ct a (up M 5 v1) ++ (txtW ct q TX tl pl ft wd n1 n2 ++ (jrW ct o0 1 (up O 0 (M 5)))))))))) hD) (c_X9_hang_ok l D ct ad mb M SP SV TX NB sz tl cd plm cm h v1 (by omega) (by omega) (hok)) gdL_116 rfl rfl k_X9_hang ⟨Nat.le_of_ble_eq_true rfl, Nat.le_of_ble_eq_true rfl⟩ rfl rfl rfl rfl (Nat.le_of_ble_eq_true rfl) hc0 dL_law_588 rfl (fun v w1 H locs hpost hP hD hS => ?_)
    obtain ⟨rfl, rfl⟩ := hpost
    have hP := zr0' hP
    have hD := zr0D' hD
    have hP : va_P D vwCl (x8W u a r q ++ (svW ct r b2 ((nx + 1) % 4) (min (sz + 1) 4) (updS S nx M) ++ (sobjW a ++ (gridW ct a (up M 5 v1) ++ (benchW ct a (up M 5 v1) ++ (logW ct a (up M 5 v1) ++ (txtW ct q TX tl pl ft wd n1 n2 ++ (jrW ct o0 1 (up O 0 (M 5)) ++ (moW mb (sv_n sz + 1) tl (ck_shelf v1) plm cm h ++ (jrW ct (mb 1) 94 (up M 5 v1) ++ (jrW ct (mb 2) 94 SP ++ (jrW ct (mb 3) 376 (sv_keep SV M sz) ++ (irW ct (mb 4) 150 TX ++ (irW ct (mb 5) 2 NB)))))))))))))) H := hP
    have hD : va_D (fun q : Nat => s.heap.size ≤ q) (x8W u a r q ++ (svW ct r b2 ((nx + 1) % 4) (min (sz + 1) 4) (updS S nx M) ++ (sobjW a ++ (gridW ct a (up M 5 v1) ++ (benchW ct a (up M 5 v1) ++ (logW ct a (up M 5 v1) ++ (txtW ct q TX tl pl ft wd n1 n2 ++ (jrW ct o0 1 (up O 0 (M 5)) ++ (moW mb (sv_n sz + 1) tl (ck_shelf v1) plm cm h ++ (jrW ct (mb 1) 94 (up M 5 v1) ++ (jrW ct (mb 2) 94 SP ++ (jrW ct (mb 3) 376 (sv_keep SV M sz) ++ (irW ct (mb 4) 150 TX ++ (irW ct (mb 5) 2 NB)))))))))))))) := hD
    refine W.eq (g2 := F0 m 591 ls [.int (zI (M 5))]) rfl ?_
    refine lv_istore (lv' := [(6, .int (zI (M 5))), (5, .int (zI 0)), (0, .ref b), (1, .ref u), (2, .ref (mb 0)), (3, .ref o0), (4, .int (zI i))]) hx hb dL_law_591 hl (by decide) rfl (fun ls hl => ?_)
    refine lv_aload_n hx hb dL_law_593 rfl (lv_at hl 4 rfl) ?_
    refine z_callV (C := RX9) (q0 := 0) (ci := 7) (As := []) (rest := []) (x8W u a r q ++ (svW ct r b2 ((nx + 1) % 4) (min (sz + 1) 4) (updS S nx M) ++ (sobjW a ++ (gridW ct a (up M 5 v1) ++ (benchW ct a (up M 5 v1) ++ (logW ct a (up M 5 v1) ++ (txtW ct q TX tl pl ft wd n1 n2 ++ (jrW ct o0 1 (up O 0 (M 5)))))))))) ([] : va_W) hx hb hml hown (fun w h => hts w (inL_94 w h)) hl hE hS hA (zr0 (x8W u a r q ++ (svW ct r b2 ((nx + 1) % 4) (min (sz + 1) 4) (updS S nx M) ++ (sobjW a ++ (gridW ct a (up M 5 v1) ++ (benchW ct a (up M 5 v1) ++ (logW ct a (up M 5 v1) ++ (txtW ct q TX tl pl ft wd n1 n2 ++ (jrW ct o0 1 (up O 0 (M 5)))))))))) hP) (zr0D (x8W u a r q ++ (svW ct r b2 ((nx + 1) % 4) (min (sz + 1) 4) (updS S nx M) ++ (sobjW a ++ (gridW ct a (up M 5 v1) ++ (benchW ct a (up M 5 v1) ++ (logW ct a (up M 5 v1) ++ (txtW ct q TX tl pl ft wd n1 n2 ++ (jrW ct o0 1 (up O 0 (M 5)))))))))) hD) (c_X9_thrown l D ct ad mb (up M 5 v1) SP (sv_keep SV M sz) TX NB (sv_n sz + 1) tl (ck_shelf v1) plm cm h) gdL_94 rfl rfl k_X9_thrown ⟨Nat.le_of_ble_eq_true rfl, Nat.le_of_ble_eq_true rfl⟩ rfl rfl rfl rfl (Nat.le_of_ble_eq_true rfl) hc0 dL_law_594 rfl (fun v w1 H locs hpost hP hD hS => ?_)
    obtain ⟨rfl, rfl⟩ := hpost
    have hP := zr0' hP
    have hD := zr0D' hD
    have hP : va_P D vwCl (x8W u a r q ++ (svW ct r b2 ((nx + 1) % 4) (min (sz + 1) 4) (updS S nx M) ++ (sobjW a ++ (gridW ct a (up M 5 v1) ++ (benchW ct a (up M 5 v1) ++ (logW ct a (up M 5 v1) ++ (txtW ct q TX tl pl ft wd n1 n2 ++ (jrW ct o0 1 (up O 0 (M 5)) ++ (moW mb (sv_n sz + 1) tl (ck_shelf v1) plm cm h ++ (jrW ct (mb 1) 94 (up M 5 v1) ++ (jrW ct (mb 2) 94 SP ++ (jrW ct (mb 3) 376 (sv_keep SV M sz) ++ (irW ct (mb 4) 150 TX ++ (irW ct (mb 5) 2 NB)))))))))))))) H := hP
    have hD : va_D (fun q : Nat => s.heap.size ≤ q) (x8W u a r q ++ (svW ct r b2 ((nx + 1) % 4) (min (sz + 1) 4) (updS S nx M) ++ (sobjW a ++ (gridW ct a (up M 5 v1) ++ (benchW ct a (up M 5 v1) ++ (logW ct a (up M 5 v1) ++ (txtW ct q TX tl pl ft wd n1 n2 ++ (jrW ct o0 1 (up O 0 (M 5)) ++ (moW mb (sv_n sz + 1) tl (ck_shelf v1) plm cm h ++ (jrW ct (mb 1) 94 (up M 5 v1) ++ (jrW ct (mb 2) 94 SP ++ (jrW ct (mb 3) 376 (sv_keep SV M sz) ++ (irW ct (mb 4) 150 TX ++ (irW ct (mb 5) 2 NB)))))))))))))) := hD
    refine W.eq (g2 := F0 m 597 ls [.int (zI (ck_shelf v1))]) rfl ?_
    refine lv_iload hx hb dL_law_597 (lv_at hl 1 rfl) ?_
    refine z_canI (show 0 = ck_shelf v1 from hok.symm) ?_
    refine z_icmp_eqS (tgt := 604) hx hb dL_law_599 (by decide) ?_
    refine lv_iload hx hb dL_law_604 (lv_at hl 1 rfl) ?_
    refine z_if_ne (tgt := 621) hx hb dL_law_606 (by decide) (by omega) (fun hc_606 => ?_) (fun hc_606 => ?_)
    · have hc_606 := hc_606
      exfalso; first | omega | (revert hc_606; unfold ck1; split <;> omega)
    · have hc_606 := hc_606
      refine lv_aload_n hx hb dL_law_609 rfl (lv_at hl 5 rfl) ?_
      refine z_iconst hx hb dL_law_610 ?_
      refine z_lald (g := (up O 0 (M 5))) (v := M 5) hx hb hK hP 60 rfl (by decide) (by omega) (show (up O 0 (M 5)) 0 = M 5 from by rw [up_s]) dL_law_611 ?_
      refine lv_iload hx hb dL_law_612 (lv_at hl 0 rfl) ?_
      refine z_i2l hx hb dL_law_614 (by omega) ?_
      refine z_lcmp_eqS (tgt := 621) hx hb dL_law_615 dL_law_616 (by decide) ?_
      refine lv_goto (tgt := 1590) hx hb dL_law_621 (by decide) ?_
      refine W.widen (k := cells + 1) (n := slots + 6) (Nat.le_add_right _ _) (Nat.le_add_right _ _) ?_
      have e9 : (sv_n sz + 1) = (min (sz + 1) 4) := by have q9 := sv_min (sz := sz); have := hR.2.2.2.1; omega
      rw [e9] at hP hD
      exact ih _ _ _ ⟨((nx + 1) % 4), (min (sz + 1) 4), (updS S nx M), (up M 5 v1), TX, tl, pl, ft, n1, n2, wd, (up O 0 (M 5)), SP, (sv_keep SV M sz), NB, (ck_shelf v1), plm, cm, h, lwR_push hR (sInv_shelf hs hok), hP, hD, hS, lv_sub hl [2, 3, 4, 5, 6] rfl⟩
  · skip
    have hcc : (1 ≤ ck_shelf v1 ∧ ck_shelf v1 ≤ 3) := by
      have q9 := hok
      revert q9
      unfold ck_shelf
      (repeat' split) <;> intro q9 <;> omega
    refine lv_aload_n hx hb dL_law_568 rfl (lv_at hl 1 rfl) ?_
    refine lv_aload_n hx hb dL_law_569 rfl (lv_at hl 0 rfl) ?_
    refine lv_iload hx hb dL_law_570 (lv_at hl 4 rfl) ?_
    refine z_iconst hx hb dL_law_572 ?_
    refine z_iadd hx hb dL_law_573 ?_
    refine z_sld hx hb hX hbl hbA hS (by omega) hL e1 dL_law_574 ?_
    refine lv_aload_n hx hb dL_law_575 rfl (lv_at hl 3 rfl) ?_
    refine z_callSW (As := [.ref u, .int (zI v1), .ref o0]) (rest := []) ([] : va_W) (moW mb sz tl cd plm cm h ++ (jrW ct (mb 1) 94 M ++ (jrW ct (mb 2) 94 SP ++ (jrW ct (mb 3) 376 SV ++ (irW ct (mb 4) 150 TX ++ (irW ct (mb 5) 2 NB)))))) hx hb hml hown (fun w h => hts w (inL_114 w h)) hl hE hS hA hP hD (c_L_hang_no l D ct ad u a r q b2 nx sz S M TX tl pl ft n1 n2 wd o0 O v1 (by assumption) hst (by omega) hok) gdL_114 rfl k_L_hang ⟨Nat.le_of_ble_eq_true rfl, Nat.le_of_ble_eq_true rfl⟩ rfl (Nat.le_of_ble_eq_true rfl) hc1 dL_law_576 rfl (fun v w1 H locs hpost hP hD hS => ?_)
    obtain ⟨rfl, rfl⟩ := hpost
    have hP : va_P D vwCl (x8W u a r q ++ (svW ct r b2 nx sz S ++ (sobjW a ++ (gridW ct a M ++ (benchW ct a M ++ (logW ct a M ++ (txtW ct q TX tl pl ft wd n1 n2 ++ (jrW ct o0 1 O ++ (moW mb sz tl cd plm cm h ++ (jrW ct (mb 1) 94 M ++ (jrW ct (mb 2) 94 SP ++ (jrW ct (mb 3) 376 SV ++ (irW ct (mb 4) 150 TX ++ (irW ct (mb 5) 2 NB)))))))))))))) H := hP
    have hD : va_D (fun q : Nat => s.heap.size ≤ q) (x8W u a r q ++ (svW ct r b2 nx sz S ++ (sobjW a ++ (gridW ct a M ++ (benchW ct a M ++ (logW ct a M ++ (txtW ct q TX tl pl ft wd n1 n2 ++ (jrW ct o0 1 O ++ (moW mb sz tl cd plm cm h ++ (jrW ct (mb 1) 94 M ++ (jrW ct (mb 2) 94 SP ++ (jrW ct (mb 3) 376 SV ++ (irW ct (mb 4) 150 TX ++ (irW ct (mb 5) 2 NB)))))))))))))) := hD
    refine W.eq (g2 := F0 m 579 ls [.int (zI (ck_shelf v1))]) rfl ?_
    refine lv_istore (lv' := [(5, .int (zI (ck_shelf v1))), (0, .ref b), (1, .ref u), (2, .ref (mb 0)), (3, .ref o0), (4, .int (zI i))]) hx hb dL_law_579 hl (by decide) rfl (fun ls hl => ?_)
    refine lv_aload_n hx hb dL_law_581 rfl (lv_at hl 3 rfl) ?_
    refine lv_aload_n hx hb dL_law_582 rfl (lv_at hl 1 rfl) ?_
    refine lv_iload hx hb dL_law_583 (lv_at hl 5 rfl) ?_
    refine z_iconst hx hb dL_law_585 ?_
    refine z_iadd hx hb dL_law_586 ?_
    refine z_sld hx hb hX hbl hbA hS (by omega) hL e1 dL_law_587 ?_
    refine z_callV (C := RX9) (q0 := 0) (ci := 7) (As := [.int (zI v1)]) (rest := []) (x8W u a r q ++ (svW ct r b2 nx sz S ++ (sobjW a ++ (gridW ct a M ++ (benchW ct a M ++ (logW ct a M ++ (txtW ct q TX tl pl ft wd n1 n2 ++ (jrW ct o0 1 O)))))))) ([] : va_W) hx hb hml hown (fun w h => hts w (inL_116 w h)) hl hE hS hA (zr0 (x8W u a r q ++ (svW ct r b2 nx sz S ++ (sobjW a ++ (gridW ct a M ++ (benchW ct a M ++ (logW ct a M ++ (txtW ct q TX tl pl ft wd n1 n2 ++ (jrW ct o0 1 O)))))))) hP) (zr0D (x8W u a r q ++ (svW ct r b2 nx sz S ++ (sobjW a ++ (gridW ct a M ++ (benchW ct a M ++ (logW ct a M ++ (txtW ct q TX tl pl ft wd n1 n2 ++ (jrW ct o0 1 O)))))))) hD) (c_X9_hang_no l D ct ad mb M SP SV TX NB sz tl cd plm cm h v1 (by omega) (hok)) gdL_116 rfl rfl k_X9_hang ⟨Nat.le_of_ble_eq_true rfl, Nat.le_of_ble_eq_true rfl⟩ rfl rfl rfl rfl (Nat.le_of_ble_eq_true rfl) hc1 dL_law_588 rfl (fun v w1 H locs hpost hP hD hS => ?_)
    obtain ⟨rfl, rfl⟩ := hpost
    have hP := zr0' hP
    have hD := zr0D' hD
    have hP : va_P D vwCl (x8W u a r q ++ (svW ct r b2 nx sz S ++ (sobjW a ++ (gridW ct a M ++ (benchW ct a M ++ (logW ct a M ++ (txtW ct q TX tl pl ft wd n1 n2 ++ (jrW ct o0 1 O ++ (moW mb sz tl (ck_shelf v1) plm cm h ++ (jrW ct (mb 1) 94 M ++ (jrW ct (mb 2) 94 SP ++ (jrW ct (mb 3) 376 SV ++ (irW ct (mb 4) 150 TX ++ (irW ct (mb 5) 2 NB)))))))))))))) H := hP
    have hD : va_D (fun q : Nat => s.heap.size ≤ q) (x8W u a r q ++ (svW ct r b2 nx sz S ++ (sobjW a ++ (gridW ct a M ++ (benchW ct a M ++ (logW ct a M ++ (txtW ct q TX tl pl ft wd n1 n2 ++ (jrW ct o0 1 O ++ (moW mb sz tl (ck_shelf v1) plm cm h ++ (jrW ct (mb 1) 94 M ++ (jrW ct (mb 2) 94 SP ++ (jrW ct (mb 3) 376 SV ++ (irW ct (mb 4) 150 TX ++ (irW ct (mb 5) 2 NB)))))))))))))) := hD
    refine W.eq (g2 := F0 m 591 ls [.int (zI 0)]) rfl ?_
    refine lv_istore (lv' := [(6, .int (zI 0)), (5, .int (zI (ck_shelf v1))), (0, .ref b), (1, .ref u), (2, .ref (mb 0)), (3, .ref o0), (4, .int (zI i))]) hx hb dL_law_591 hl (by decide) rfl (fun ls hl => ?_)
    refine lv_aload_n hx hb dL_law_593 rfl (lv_at hl 4 rfl) ?_
    refine z_callV (C := RX9) (q0 := 0) (ci := 7) (As := []) (rest := []) (x8W u a r q ++ (svW ct r b2 nx sz S ++ (sobjW a ++ (gridW ct a M ++ (benchW ct a M ++ (logW ct a M ++ (txtW ct q TX tl pl ft wd n1 n2 ++ (jrW ct o0 1 O)))))))) ([] : va_W) hx hb hml hown (fun w h => hts w (inL_94 w h)) hl hE hS hA (zr0 (x8W u a r q ++ (svW ct r b2 nx sz S ++ (sobjW a ++ (gridW ct a M ++ (benchW ct a M ++ (logW ct a M ++ (txtW ct q TX tl pl ft wd n1 n2 ++ (jrW ct o0 1 O)))))))) hP) (zr0D (x8W u a r q ++ (svW ct r b2 nx sz S ++ (sobjW a ++ (gridW ct a M ++ (benchW ct a M ++ (logW ct a M ++ (txtW ct q TX tl pl ft wd n1 n2 ++ (jrW ct o0 1 O)))))))) hD) (c_X9_thrown l D ct ad mb M SP SV TX NB sz tl (ck_shelf v1) plm cm h) gdL_94 rfl rfl k_X9_thrown ⟨Nat.le_of_ble_eq_true rfl, Nat.le_of_ble_eq_true rfl⟩ rfl rfl rfl rfl (Nat.le_of_ble_eq_true rfl) hc1 dL_law_594 rfl (fun v w1 H locs hpost hP hD hS => ?_)
    obtain ⟨rfl, rfl⟩ := hpost
    have hP := zr0' hP
    have hD := zr0D' hD
    have hP : va_P D vwCl (x8W u a r q ++ (svW ct r b2 nx sz S ++ (sobjW a ++ (gridW ct a M ++ (benchW ct a M ++ (logW ct a M ++ (txtW ct q TX tl pl ft wd n1 n2 ++ (jrW ct o0 1 O ++ (moW mb sz tl (ck_shelf v1) plm cm h ++ (jrW ct (mb 1) 94 M ++ (jrW ct (mb 2) 94 SP ++ (jrW ct (mb 3) 376 SV ++ (irW ct (mb 4) 150 TX ++ (irW ct (mb 5) 2 NB)))))))))))))) H := hP
    have hD : va_D (fun q : Nat => s.heap.size ≤ q) (x8W u a r q ++ (svW ct r b2 nx sz S ++ (sobjW a ++ (gridW ct a M ++ (benchW ct a M ++ (logW ct a M ++ (txtW ct q TX tl pl ft wd n1 n2 ++ (jrW ct o0 1 O ++ (moW mb sz tl (ck_shelf v1) plm cm h ++ (jrW ct (mb 1) 94 M ++ (jrW ct (mb 2) 94 SP ++ (jrW ct (mb 3) 376 SV ++ (irW ct (mb 4) 150 TX ++ (irW ct (mb 5) 2 NB)))))))))))))) := hD
    refine W.eq (g2 := F0 m 597 ls [.int (zI (ck_shelf v1))]) rfl ?_
    refine lv_iload hx hb dL_law_597 (lv_at hl 1 rfl) ?_
    refine z_icmp_eqS (tgt := 604) hx hb dL_law_599 (by decide) ?_
    refine lv_iload hx hb dL_law_604 (lv_at hl 1 rfl) ?_
    refine z_if_ne (tgt := 621) hx hb dL_law_606 (by decide) (by omega) (fun hc_606 => ?_) (fun hc_606 => ?_)
    · have hc_606 := hc_606
      refine lv_goto (tgt := 1590) hx hb dL_law_621 (by decide) ?_
      exact ih _ _ _ ⟨nx, sz, S, M, TX, tl, pl, ft, n1, n2, wd, O, SP, SV, NB, (ck_shelf v1), plm, cm, h, hR, hP, hD, hS, lv_sub hl [2, 3, 4, 5, 6] rfl⟩
    · have hc_606 := hc_606
      exfalso; first | omega | (revert hc_606; unfold ck1; split <;> omega)
set_option maxHeartbeats 4000000 in
set_option maxRecDepth 100000 in
theorem law_c7 (p : Program) (l : Launch) (e : Env) (s : State) (m : MethodId) (below : List Frame) (meth : Method) (c : Code) (D : va_G) (ct ad : Nat → Nat) (b L : Nat) (xs : Nat → Int32) (u : Nat) (a r q : Nat → Nat) (b2 : Nat → Nat → Nat) (o0 : Nat) (mb : Nat → Nat) (hC : lwC p l s m meth c D ct ad b L xs) (i : Int) (hi : 0 ≤ i ∧ i + 4 ≤ (L : Int)) (cells slots : Nat) (hcap : cells + 1 ≤ 601024 ∧ slots + 6 ≤ 7293034) (ih : ∀ (H : Heap) (locs : List Loc) (ls : Array Slot), lwI s D ct b u a r q b2 o0 mb i H locs ls → W p l e room_1 s m #[Value.ref b] below meth c H locs (cells + 1) (slots + 6) (lw_Z below #[Value.ref b] s) (F0 m 1590 ls [])) (H : Heap) (locs : List Loc) (ls : Array Slot) (hI0 : lwI s D ct b u a r q b2 o0 mb i H locs ls) : W p l e room_1 s m #[Value.ref b] below meth c H locs cells slots (lw_Z below #[Value.ref b] s) (F0 m 624 ls []) := by
  obtain ⟨hx, hb, hr, hml, hown, hts, hX, hbl, hlocks, hE, hst, hL⟩ := hC
  obtain ⟨nx, sz, S, M, TX, tl, pl, ft, n1, n2, wd, O, SP, SV, NB, cd, plm, cm, h, hR, hP, hD, hS, hl⟩ := hI0
  have hA : ∀ q : Nat, s.heap.size ≤ q → (fun q : Nat => s.heap.size ≤ q) q := fun _ h => h
  have hbA : ¬ (fun q : Nat => s.heap.size ≤ q) b := Nat.not_le.mpr hbl
  have hK := hE.1
  have hc0 : cells ≤ room_1.cells ∧ slots ≤ room_1.slots := by show cells ≤ 601024 ∧ slots ≤ 7293034; omega
  have hc1 : cells + 1 ≤ room_1.cells ∧ slots + 6 ≤ room_1.slots := hcap
  have hP : va_P D vwCl (x8W u a r q ++ (svW ct r b2 nx sz S ++ (sobjW a ++ (gridW ct a M ++ (benchW ct a M ++ (logW ct a M ++ (txtW ct q TX tl pl ft wd n1 n2 ++ (jrW ct o0 1 O ++ (moW mb sz tl cd plm cm h ++ (jrW ct (mb 1) 94 M ++ (jrW ct (mb 2) 94 SP ++ (jrW ct (mb 3) 376 SV ++ (irW ct (mb 4) 150 TX ++ (irW ct (mb 5) 2 NB)))))))))))))) H := hP
  have hD : va_D (fun q : Nat => s.heap.size ≤ q) (x8W u a r q ++ (svW ct r b2 nx sz S ++ (sobjW a ++ (gridW ct a M ++ (benchW ct a M ++ (logW ct a M ++ (txtW ct q TX tl pl ft wd n1 n2 ++ (jrW ct o0 1 O ++ (moW mb sz tl cd plm cm h ++ (jrW ct (mb 1) 94 M ++ (jrW ct (mb 2) 94 SP ++ (jrW ct (mb 3) 376 SV ++ (irW ct (mb 4) 150 TX ++ (irW ct (mb 5) 2 NB)))))))))))))) := hD
  have hs := hR.1
  have ht := hR.2.1
  have hI := hs.1
  have hB := hs.2.1
  have ha := hs.2.2
  have i3 := hI.1
  have i4 := hI.2.1
  have j0 := hB.1
  have j1 := hB.2.1
  have j2 := hB.2.2.1
  have j4 := hB.2.2.2.2
  have t1 := ht.1
  have hn := hR.2.2.1
  have hsz := hR.2.2.2.1
  have hsc := hR.2.2.2.1
  obtain ⟨v1, e1, r1⟩ := zI_any (xs (i + 1).toNat)
  by_cases hok : ck_turn M v1 = 0
  · skip
    have hk : -500 ≤ M 7 + v1 ∧ M 7 + v1 ≤ 500 := by revert hok; unfold ck_turn; (repeat' split) <;> intro z <;> omega
    have hv : -2147483648 ≤ M 7 + v1 ∧ M 7 + v1 ≤ 2147483647 := by omega
    refine lv_aload_n hx hb dL_law_624 rfl (lv_at hl 1 rfl) ?_
    refine lv_aload_n hx hb dL_law_625 rfl (lv_at hl 0 rfl) ?_
    refine lv_iload hx hb dL_law_626 (lv_at hl 4 rfl) ?_
    refine z_iconst hx hb dL_law_628 ?_
    refine z_iadd hx hb dL_law_629 ?_
    refine z_sld hx hb hX hbl hbA hS (by omega) hL e1 dL_law_630 ?_
    refine lv_aload_n hx hb dL_law_631 rfl (lv_at hl 3 rfl) ?_
    refine z_callSW (As := [.ref u, .int (zI v1), .ref o0]) (rest := []) ([] : va_W) (moW mb sz tl cd plm cm h ++ (jrW ct (mb 1) 94 M ++ (jrW ct (mb 2) 94 SP ++ (jrW ct (mb 3) 376 SV ++ (irW ct (mb 4) 150 TX ++ (irW ct (mb 5) 2 NB)))))) hx hb hml hown (fun w h => hts w (inL_117 w h)) hl hE hS hA hP hD (c_L_turnNut_ok l D ct ad u a r q b2 nx sz S M TX tl pl ft n1 n2 wd o0 O v1 (by assumption) (by omega) (by omega) (by omega) hok hv) gdL_117 rfl k_L_turnNut ⟨Nat.le_of_ble_eq_true rfl, Nat.le_of_ble_eq_true rfl⟩ rfl (Nat.le_of_ble_eq_true rfl) hc0 dL_law_632 rfl (fun v w1 H locs hpost hP hD hS => ?_)
    obtain ⟨rfl, rfl⟩ := hpost
    have hP : va_P D vwCl (x8W u a r q ++ (svW ct r b2 ((nx + 1) % 4) (min (sz + 1) 4) (updS S nx M) ++ (sobjW a ++ (gridW ct a (up M 7 (M 7 + v1)) ++ (benchW ct a (up M 7 (M 7 + v1)) ++ (logW ct a (up M 7 (M 7 + v1)) ++ (txtW ct q TX tl pl ft wd n1 n2 ++ (jrW ct o0 1 (up O 0 (M 7 + v1)) ++ (moW mb sz tl cd plm cm h ++ (jrW ct (mb 1) 94 M ++ (jrW ct (mb 2) 94 SP ++ (jrW ct (mb 3) 376 SV ++ (irW ct (mb 4) 150 TX ++ (irW ct (mb 5) 2 NB)))))))))))))) H := hP
    have hD : va_D (fun q : Nat => s.heap.size ≤ q) (x8W u a r q ++ (svW ct r b2 ((nx + 1) % 4) (min (sz + 1) 4) (updS S nx M) ++ (sobjW a ++ (gridW ct a (up M 7 (M 7 + v1)) ++ (benchW ct a (up M 7 (M 7 + v1)) ++ (logW ct a (up M 7 (M 7 + v1)) ++ (txtW ct q TX tl pl ft wd n1 n2 ++ (jrW ct o0 1 (up O 0 (M 7 + v1)) ++ (moW mb sz tl cd plm cm h ++ (jrW ct (mb 1) 94 M ++ (jrW ct (mb 2) 94 SP ++ (jrW ct (mb 3) 376 SV ++ (irW ct (mb 4) 150 TX ++ (irW ct (mb 5) 2 NB)))))))))))))) := hD
    refine W.eq (g2 := F0 m 635 ls [.int (zI 0)]) rfl ?_
    refine lv_istore (lv' := [(5, .int (zI 0)), (0, .ref b), (1, .ref u), (2, .ref (mb 0)), (3, .ref o0), (4, .int (zI i))]) hx hb dL_law_635 hl (by decide) rfl (fun ls hl => ?_)
    refine lv_aload_n hx hb dL_law_637 rfl (lv_at hl 3 rfl) ?_
    refine lv_aload_n hx hb dL_law_638 rfl (lv_at hl 1 rfl) ?_
    refine lv_iload hx hb dL_law_639 (lv_at hl 5 rfl) ?_
    refine z_iconst hx hb dL_law_641 ?_
    refine z_iadd hx hb dL_law_642 ?_
    refine z_sld hx hb hX hbl hbA hS (by omega) hL e1 dL_law_643 ?_
    refine z_callV (C := RX9) (q0 := 0) (ci := 7) (As := [.int (zI v1)]) (rest := []) (x8W u a r q ++ (svW ct r b2 ((nx + 1) % 4) (min (sz + 1) 4) (updS S nx M) ++ (sobjW a ++ (gridW ct a (up M 7 (M 7 + v1)) ++ (benchW ct a (up M 7 (M 7 + v1)) ++ (logW ct a (up M 7 (M 7 + v1)) ++ (txtW ct q TX tl pl ft wd n1 n2 ++ (jrW ct o0 1 (up O 0 (M 7 + v1)))))))))) ([] : va_W) hx hb hml hown (fun w h => hts w (inL_119 w h)) hl hE hS hA (zr0 (x8W u a r q ++ (svW ct r b2 ((nx + 1) % 4) (min (sz + 1) 4) (updS S nx M) ++ (sobjW a ++ (gridW ct a (up M 7 (M 7 + v1)) ++ (benchW ct a (up M 7 (M 7 + v1)) ++ (logW ct a (up M 7 (M 7 + v1)) ++ (txtW ct q TX tl pl ft wd n1 n2 ++ (jrW ct o0 1 (up O 0 (M 7 + v1)))))))))) hP) (zr0D (x8W u a r q ++ (svW ct r b2 ((nx + 1) % 4) (min (sz + 1) 4) (updS S nx M) ++ (sobjW a ++ (gridW ct a (up M 7 (M 7 + v1)) ++ (benchW ct a (up M 7 (M 7 + v1)) ++ (logW ct a (up M 7 (M 7 + v1)) ++ (txtW ct q TX tl pl ft wd n1 n2 ++ (jrW ct o0 1 (up O 0 (M 7 + v1)))))))))) hD) (c_X9_turnNut_ok l D ct ad mb M SP SV TX NB sz tl cd plm cm h v1 (by assumption) (by assumption) (by omega) (by omega) (why_t.mpr hok)) gdL_119 rfl rfl k_X9_turnNut ⟨Nat.le_of_ble_eq_true rfl, Nat.le_of_ble_eq_true rfl⟩ rfl rfl rfl rfl (Nat.le_of_ble_eq_true rfl) hc0 dL_law_644 rfl (fun v w1 H locs hpost hP hD hS => ?_)
    obtain ⟨rfl, rfl⟩ := hpost
    have hP := zr0' hP
    have hD := zr0D' hD
    have hP : va_P D vwCl (x8W u a r q ++ (svW ct r b2 ((nx + 1) % 4) (min (sz + 1) 4) (updS S nx M) ++ (sobjW a ++ (gridW ct a (up M 7 (M 7 + v1)) ++ (benchW ct a (up M 7 (M 7 + v1)) ++ (logW ct a (up M 7 (M 7 + v1)) ++ (txtW ct q TX tl pl ft wd n1 n2 ++ (jrW ct o0 1 (up O 0 (M 7 + v1)) ++ (moW mb (sv_n sz + 1) tl (ck1 (ck_turn M v1)) plm cm h ++ (jrW ct (mb 1) 94 (up M 7 (M 7 + v1)) ++ (jrW ct (mb 2) 94 SP ++ (jrW ct (mb 3) 376 (sv_keep SV M sz) ++ (irW ct (mb 4) 150 TX ++ (irW ct (mb 5) 2 NB)))))))))))))) H := hP
    have hD : va_D (fun q : Nat => s.heap.size ≤ q) (x8W u a r q ++ (svW ct r b2 ((nx + 1) % 4) (min (sz + 1) 4) (updS S nx M) ++ (sobjW a ++ (gridW ct a (up M 7 (M 7 + v1)) ++ (benchW ct a (up M 7 (M 7 + v1)) ++ (logW ct a (up M 7 (M 7 + v1)) ++ (txtW ct q TX tl pl ft wd n1 n2 ++ (jrW ct o0 1 (up O 0 (M 7 + v1)) ++ (moW mb (sv_n sz + 1) tl (ck1 (ck_turn M v1)) plm cm h ++ (jrW ct (mb 1) 94 (up M 7 (M 7 + v1)) ++ (jrW ct (mb 2) 94 SP ++ (jrW ct (mb 3) 376 (sv_keep SV M sz) ++ (irW ct (mb 4) 150 TX ++ (irW ct (mb 5) 2 NB)))))))))))))) := hD
    refine W.eq (g2 := F0 m 647 ls [.int (zI (M 7 + v1))]) rfl ?_
    refine lv_istore (lv' := [(6, .int (zI (M 7 + v1))), (5, .int (zI 0)), (0, .ref b), (1, .ref u), (2, .ref (mb 0)), (3, .ref o0), (4, .int (zI i))]) hx hb dL_law_647 hl (by decide) rfl (fun ls hl => ?_)
    refine lv_aload_n hx hb dL_law_649 rfl (lv_at hl 4 rfl) ?_
    refine z_callV (C := RX9) (q0 := 0) (ci := 7) (As := []) (rest := []) (x8W u a r q ++ (svW ct r b2 ((nx + 1) % 4) (min (sz + 1) 4) (updS S nx M) ++ (sobjW a ++ (gridW ct a (up M 7 (M 7 + v1)) ++ (benchW ct a (up M 7 (M 7 + v1)) ++ (logW ct a (up M 7 (M 7 + v1)) ++ (txtW ct q TX tl pl ft wd n1 n2 ++ (jrW ct o0 1 (up O 0 (M 7 + v1)))))))))) ([] : va_W) hx hb hml hown (fun w h => hts w (inL_94 w h)) hl hE hS hA (zr0 (x8W u a r q ++ (svW ct r b2 ((nx + 1) % 4) (min (sz + 1) 4) (updS S nx M) ++ (sobjW a ++ (gridW ct a (up M 7 (M 7 + v1)) ++ (benchW ct a (up M 7 (M 7 + v1)) ++ (logW ct a (up M 7 (M 7 + v1)) ++ (txtW ct q TX tl pl ft wd n1 n2 ++ (jrW ct o0 1 (up O 0 (M 7 + v1)))))))))) hP) (zr0D (x8W u a r q ++ (svW ct r b2 ((nx + 1) % 4) (min (sz + 1) 4) (updS S nx M) ++ (sobjW a ++ (gridW ct a (up M 7 (M 7 + v1)) ++ (benchW ct a (up M 7 (M 7 + v1)) ++ (logW ct a (up M 7 (M 7 + v1)) ++ (txtW ct q TX tl pl ft wd n1 n2 ++ (jrW ct o0 1 (up O 0 (M 7 + v1)))))))))) hD) (c_X9_thrown l D ct ad mb (up M 7 (M 7 + v1)) SP (sv_keep SV M sz) TX NB (sv_n sz + 1) tl (ck1 (ck_turn M v1)) plm cm h) gdL_94 rfl rfl k_X9_thrown ⟨Nat.le_of_ble_eq_true rfl, Nat.le_of_ble_eq_true rfl⟩ rfl rfl rfl rfl (Nat.le_of_ble_eq_true rfl) hc0 dL_law_650 rfl (fun v w1 H locs hpost hP hD hS => ?_)
    obtain ⟨rfl, rfl⟩ := hpost
    have hP := zr0' hP
    have hD := zr0D' hD
    have hP : va_P D vwCl (x8W u a r q ++ (svW ct r b2 ((nx + 1) % 4) (min (sz + 1) 4) (updS S nx M) ++ (sobjW a ++ (gridW ct a (up M 7 (M 7 + v1)) ++ (benchW ct a (up M 7 (M 7 + v1)) ++ (logW ct a (up M 7 (M 7 + v1)) ++ (txtW ct q TX tl pl ft wd n1 n2 ++ (jrW ct o0 1 (up O 0 (M 7 + v1)) ++ (moW mb (sv_n sz + 1) tl (ck1 (ck_turn M v1)) plm cm h ++ (jrW ct (mb 1) 94 (up M 7 (M 7 + v1)) ++ (jrW ct (mb 2) 94 SP ++ (jrW ct (mb 3) 376 (sv_keep SV M sz) ++ (irW ct (mb 4) 150 TX ++ (irW ct (mb 5) 2 NB)))))))))))))) H := hP
    have hD : va_D (fun q : Nat => s.heap.size ≤ q) (x8W u a r q ++ (svW ct r b2 ((nx + 1) % 4) (min (sz + 1) 4) (updS S nx M) ++ (sobjW a ++ (gridW ct a (up M 7 (M 7 + v1)) ++ (benchW ct a (up M 7 (M 7 + v1)) ++ (logW ct a (up M 7 (M 7 + v1)) ++ (txtW ct q TX tl pl ft wd n1 n2 ++ (jrW ct o0 1 (up O 0 (M 7 + v1)) ++ (moW mb (sv_n sz + 1) tl (ck1 (ck_turn M v1)) plm cm h ++ (jrW ct (mb 1) 94 (up M 7 (M 7 + v1)) ++ (jrW ct (mb 2) 94 SP ++ (jrW ct (mb 3) 376 (sv_keep SV M sz) ++ (irW ct (mb 4) 150 TX ++ (irW ct (mb 5) 2 NB)))))))))))))) := hD
    refine W.eq (g2 := F0 m 653 ls [.int (zI (ck1 (ck_turn M v1)))]) rfl ?_
    refine lv_iload hx hb dL_law_653 (lv_at hl 1 rfl) ?_
    refine z_canI (show 0 = ck1 (ck_turn M v1) from (why_t.mpr hok).symm) ?_
    refine z_icmp_eqS (tgt := 660) hx hb dL_law_655 (by decide) ?_
    refine lv_iload hx hb dL_law_660 (lv_at hl 1 rfl) ?_
    refine z_if_ne (tgt := 677) hx hb dL_law_662 (by decide) (by omega) (fun hc_662 => ?_) (fun hc_662 => ?_)
    · have hc_662 := hc_662
      exfalso; first | omega | (revert hc_662; unfold ck1; split <;> omega)
    · have hc_662 := hc_662
      refine lv_aload_n hx hb dL_law_665 rfl (lv_at hl 5 rfl) ?_
      refine z_iconst hx hb dL_law_666 ?_
      refine z_lald (g := (up O 0 (M 7 + v1))) (v := M 7 + v1) hx hb hK hP 60 rfl (by decide) (by omega) (show (up O 0 (M 7 + v1)) 0 = M 7 + v1 from by rw [up_s]) dL_law_667 ?_
      refine lv_iload hx hb dL_law_668 (lv_at hl 0 rfl) ?_
      refine z_i2l hx hb dL_law_670 (by omega) ?_
      refine z_lcmp_eqS (tgt := 677) hx hb dL_law_671 dL_law_672 (by decide) ?_
      refine lv_goto (tgt := 1590) hx hb dL_law_677 (by decide) ?_
      refine W.widen (k := cells + 1) (n := slots + 6) (Nat.le_add_right _ _) (Nat.le_add_right _ _) ?_
      have e9 : (sv_n sz + 1) = (min (sz + 1) 4) := by have q9 := sv_min (sz := sz); have := hR.2.2.2.1; omega
      rw [e9] at hP hD
      exact ih _ _ _ ⟨((nx + 1) % 4), (min (sz + 1) 4), (updS S nx M), (up M 7 (M 7 + v1)), TX, tl, pl, ft, n1, n2, wd, (up O 0 (M 7 + v1)), SP, (sv_keep SV M sz), NB, (ck1 (ck_turn M v1)), plm, cm, h, lwR_push hR (sInv_turn hs hok), hP, hD, hS, lv_sub hl [2, 3, 4, 5, 6] rfl⟩
  · skip
    have hcc : (1 ≤ ck1 (ck_turn M v1) ∧ ck1 (ck_turn M v1) ≤ 3) := by
      have q9 := hok
      revert q9
      unfold ck1 ck_turn
      (repeat' split) <;> intro q9 <;> omega
    refine lv_aload_n hx hb dL_law_624 rfl (lv_at hl 1 rfl) ?_
    refine lv_aload_n hx hb dL_law_625 rfl (lv_at hl 0 rfl) ?_
    refine lv_iload hx hb dL_law_626 (lv_at hl 4 rfl) ?_
    refine z_iconst hx hb dL_law_628 ?_
    refine z_iadd hx hb dL_law_629 ?_
    refine z_sld hx hb hX hbl hbA hS (by omega) hL e1 dL_law_630 ?_
    refine lv_aload_n hx hb dL_law_631 rfl (lv_at hl 3 rfl) ?_
    refine z_callSW (As := [.ref u, .int (zI v1), .ref o0]) (rest := []) ([] : va_W) (moW mb sz tl cd plm cm h ++ (jrW ct (mb 1) 94 M ++ (jrW ct (mb 2) 94 SP ++ (jrW ct (mb 3) 376 SV ++ (irW ct (mb 4) 150 TX ++ (irW ct (mb 5) 2 NB)))))) hx hb hml hown (fun w h => hts w (inL_117 w h)) hl hE hS hA hP hD (c_L_turnNut_no l D ct ad u a r q b2 nx sz S M TX tl pl ft n1 n2 wd o0 O v1 (by assumption) hst (by omega) hok) gdL_117 rfl k_L_turnNut ⟨Nat.le_of_ble_eq_true rfl, Nat.le_of_ble_eq_true rfl⟩ rfl (Nat.le_of_ble_eq_true rfl) hc1 dL_law_632 rfl (fun v w1 H locs hpost hP hD hS => ?_)
    obtain ⟨rfl, rfl⟩ := hpost
    have hP : va_P D vwCl (x8W u a r q ++ (svW ct r b2 nx sz S ++ (sobjW a ++ (gridW ct a M ++ (benchW ct a M ++ (logW ct a M ++ (txtW ct q TX tl pl ft wd n1 n2 ++ (jrW ct o0 1 O ++ (moW mb sz tl cd plm cm h ++ (jrW ct (mb 1) 94 M ++ (jrW ct (mb 2) 94 SP ++ (jrW ct (mb 3) 376 SV ++ (irW ct (mb 4) 150 TX ++ (irW ct (mb 5) 2 NB)))))))))))))) H := hP
    have hD : va_D (fun q : Nat => s.heap.size ≤ q) (x8W u a r q ++ (svW ct r b2 nx sz S ++ (sobjW a ++ (gridW ct a M ++ (benchW ct a M ++ (logW ct a M ++ (txtW ct q TX tl pl ft wd n1 n2 ++ (jrW ct o0 1 O ++ (moW mb sz tl cd plm cm h ++ (jrW ct (mb 1) 94 M ++ (jrW ct (mb 2) 94 SP ++ (jrW ct (mb 3) 376 SV ++ (irW ct (mb 4) 150 TX ++ (irW ct (mb 5) 2 NB)))))))))))))) := hD
    refine W.eq (g2 := F0 m 635 ls [.int (zI (ck1 (ck_turn M v1)))]) rfl ?_
    refine lv_istore (lv' := [(5, .int (zI (ck1 (ck_turn M v1)))), (0, .ref b), (1, .ref u), (2, .ref (mb 0)), (3, .ref o0), (4, .int (zI i))]) hx hb dL_law_635 hl (by decide) rfl (fun ls hl => ?_)
    refine lv_aload_n hx hb dL_law_637 rfl (lv_at hl 3 rfl) ?_
    refine lv_aload_n hx hb dL_law_638 rfl (lv_at hl 1 rfl) ?_
    refine lv_iload hx hb dL_law_639 (lv_at hl 5 rfl) ?_
    refine z_iconst hx hb dL_law_641 ?_
    refine z_iadd hx hb dL_law_642 ?_
    refine z_sld hx hb hX hbl hbA hS (by omega) hL e1 dL_law_643 ?_
    refine z_callV (C := RX9) (q0 := 0) (ci := 7) (As := [.int (zI v1)]) (rest := []) (x8W u a r q ++ (svW ct r b2 nx sz S ++ (sobjW a ++ (gridW ct a M ++ (benchW ct a M ++ (logW ct a M ++ (txtW ct q TX tl pl ft wd n1 n2 ++ (jrW ct o0 1 O)))))))) ([] : va_W) hx hb hml hown (fun w h => hts w (inL_119 w h)) hl hE hS hA (zr0 (x8W u a r q ++ (svW ct r b2 nx sz S ++ (sobjW a ++ (gridW ct a M ++ (benchW ct a M ++ (logW ct a M ++ (txtW ct q TX tl pl ft wd n1 n2 ++ (jrW ct o0 1 O)))))))) hP) (zr0D (x8W u a r q ++ (svW ct r b2 nx sz S ++ (sobjW a ++ (gridW ct a M ++ (benchW ct a M ++ (logW ct a M ++ (txtW ct q TX tl pl ft wd n1 n2 ++ (jrW ct o0 1 O)))))))) hD) (c_X9_turnNut_no l D ct ad mb M SP SV TX NB sz tl cd plm cm h v1 (by assumption) (by assumption) (by omega) (fun z => hok (why_t.mp z))) gdL_119 rfl rfl k_X9_turnNut ⟨Nat.le_of_ble_eq_true rfl, Nat.le_of_ble_eq_true rfl⟩ rfl rfl rfl rfl (Nat.le_of_ble_eq_true rfl) hc1 dL_law_644 rfl (fun v w1 H locs hpost hP hD hS => ?_)
    obtain ⟨rfl, rfl⟩ := hpost
    have hP := zr0' hP
    have hD := zr0D' hD
    have hP : va_P D vwCl (x8W u a r q ++ (svW ct r b2 nx sz S ++ (sobjW a ++ (gridW ct a M ++ (benchW ct a M ++ (logW ct a M ++ (txtW ct q TX tl pl ft wd n1 n2 ++ (jrW ct o0 1 O ++ (moW mb sz tl (ck1 (ck_turn M v1)) plm cm h ++ (jrW ct (mb 1) 94 M ++ (jrW ct (mb 2) 94 SP ++ (jrW ct (mb 3) 376 SV ++ (irW ct (mb 4) 150 TX ++ (irW ct (mb 5) 2 NB)))))))))))))) H := hP
    have hD : va_D (fun q : Nat => s.heap.size ≤ q) (x8W u a r q ++ (svW ct r b2 nx sz S ++ (sobjW a ++ (gridW ct a M ++ (benchW ct a M ++ (logW ct a M ++ (txtW ct q TX tl pl ft wd n1 n2 ++ (jrW ct o0 1 O ++ (moW mb sz tl (ck1 (ck_turn M v1)) plm cm h ++ (jrW ct (mb 1) 94 M ++ (jrW ct (mb 2) 94 SP ++ (jrW ct (mb 3) 376 SV ++ (irW ct (mb 4) 150 TX ++ (irW ct (mb 5) 2 NB)))))))))))))) := hD
    refine W.eq (g2 := F0 m 647 ls [.int (zI 0)]) rfl ?_
    refine lv_istore (lv' := [(6, .int (zI 0)), (5, .int (zI (ck1 (ck_turn M v1)))), (0, .ref b), (1, .ref u), (2, .ref (mb 0)), (3, .ref o0), (4, .int (zI i))]) hx hb dL_law_647 hl (by decide) rfl (fun ls hl => ?_)
    refine lv_aload_n hx hb dL_law_649 rfl (lv_at hl 4 rfl) ?_
    refine z_callV (C := RX9) (q0 := 0) (ci := 7) (As := []) (rest := []) (x8W u a r q ++ (svW ct r b2 nx sz S ++ (sobjW a ++ (gridW ct a M ++ (benchW ct a M ++ (logW ct a M ++ (txtW ct q TX tl pl ft wd n1 n2 ++ (jrW ct o0 1 O)))))))) ([] : va_W) hx hb hml hown (fun w h => hts w (inL_94 w h)) hl hE hS hA (zr0 (x8W u a r q ++ (svW ct r b2 nx sz S ++ (sobjW a ++ (gridW ct a M ++ (benchW ct a M ++ (logW ct a M ++ (txtW ct q TX tl pl ft wd n1 n2 ++ (jrW ct o0 1 O)))))))) hP) (zr0D (x8W u a r q ++ (svW ct r b2 nx sz S ++ (sobjW a ++ (gridW ct a M ++ (benchW ct a M ++ (logW ct a M ++ (txtW ct q TX tl pl ft wd n1 n2 ++ (jrW ct o0 1 O)))))))) hD) (c_X9_thrown l D ct ad mb M SP SV TX NB sz tl (ck1 (ck_turn M v1)) plm cm h) gdL_94 rfl rfl k_X9_thrown ⟨Nat.le_of_ble_eq_true rfl, Nat.le_of_ble_eq_true rfl⟩ rfl rfl rfl rfl (Nat.le_of_ble_eq_true rfl) hc1 dL_law_650 rfl (fun v w1 H locs hpost hP hD hS => ?_)
    obtain ⟨rfl, rfl⟩ := hpost
    have hP := zr0' hP
    have hD := zr0D' hD
    have hP : va_P D vwCl (x8W u a r q ++ (svW ct r b2 nx sz S ++ (sobjW a ++ (gridW ct a M ++ (benchW ct a M ++ (logW ct a M ++ (txtW ct q TX tl pl ft wd n1 n2 ++ (jrW ct o0 1 O ++ (moW mb sz tl (ck1 (ck_turn M v1)) plm cm h ++ (jrW ct (mb 1) 94 M ++ (jrW ct (mb 2) 94 SP ++ (jrW ct (mb 3) 376 SV ++ (irW ct (mb 4) 150 TX ++ (irW ct (mb 5) 2 NB)))))))))))))) H := hP
    have hD : va_D (fun q : Nat => s.heap.size ≤ q) (x8W u a r q ++ (svW ct r b2 nx sz S ++ (sobjW a ++ (gridW ct a M ++ (benchW ct a M ++ (logW ct a M ++ (txtW ct q TX tl pl ft wd n1 n2 ++ (jrW ct o0 1 O ++ (moW mb sz tl (ck1 (ck_turn M v1)) plm cm h ++ (jrW ct (mb 1) 94 M ++ (jrW ct (mb 2) 94 SP ++ (jrW ct (mb 3) 376 SV ++ (irW ct (mb 4) 150 TX ++ (irW ct (mb 5) 2 NB)))))))))))))) := hD
    refine W.eq (g2 := F0 m 653 ls [.int (zI (ck1 (ck_turn M v1)))]) rfl ?_
    refine lv_iload hx hb dL_law_653 (lv_at hl 1 rfl) ?_
    refine z_icmp_eqS (tgt := 660) hx hb dL_law_655 (by decide) ?_
    refine lv_iload hx hb dL_law_660 (lv_at hl 1 rfl) ?_
    refine z_if_ne (tgt := 677) hx hb dL_law_662 (by decide) (by omega) (fun hc_662 => ?_) (fun hc_662 => ?_)
    · have hc_662 := hc_662
      refine lv_goto (tgt := 1590) hx hb dL_law_677 (by decide) ?_
      exact ih _ _ _ ⟨nx, sz, S, M, TX, tl, pl, ft, n1, n2, wd, O, SP, SV, NB, (ck1 (ck_turn M v1)), plm, cm, h, hR, hP, hD, hS, lv_sub hl [2, 3, 4, 5, 6] rfl⟩
    · have hc_662 := hc_662
      exfalso; first | omega | (revert hc_662; unfold ck1; split <;> omega)
