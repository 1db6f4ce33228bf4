/-! the start: what the claim gives of the state -/
theorem z_scr {b L : Nat} {xs : Nat → Int32} {s : State} {A : Nat → Prop} {ad : Nat → Nat} (hX : va_X b L xs s s.heap) (hb : ¬ A b) (h67 : ad 67 = b) (h68 : ad 68 = L) (hL : L ≤ 260) (hv : ∀ j, j < L → ad (100 + j) = ((xs j).toInt + 2147483648).toNat) : zX ad A s s.heap := by
  obtain ⟨scr, x1, x2, x3, x4, x5⟩ := hX
  unfold zX
  rw [h67, h68]
  refine ⟨⟨hL, fun j hj => ?_⟩, scr, x1, x2, x3, by omega, by rw [x4] <;> rfl, fun j hj => ?_, hb⟩
  · rw [hv j hj]
    have h1 := (xs j).toInt_lt
    have h2 := (xs j).le_toInt
    omega
  · show scr.slots[j]? = some (Value.int (zI ((ad (100 + j) : Int) - 2147483648)))
    rw [x5 j hj, hv j hj]
    have h2 := (xs j).le_toInt
    have e : ((((xs j).toInt + 2147483648).toNat : Int) - 2147483648) = (xs j).toInt := by omega
    rw [e]
    exact congrArg (fun z => some (Value.int z)) (Int32.ofInt_toInt _).symm
def nrw : List Cond := flatC (Jvm.Cond.and given_1 narrow_1)
def zLix : List Nat := [68, 74, 77, 80, 83, 86, 89, 92, 95, 98, 101, 104]
def zSb : List Nat := [309, 321, 333, 344, 357, 372, 388, 405, 422, 441, 461, 481]
def zWt (k : Nat) : Term := .static "RodGrids$Word" (zWn.getD k "") "LRodGrids$Word;"
def zLt (k : Nat) : Term := .string "RodGrids$Word" (zLix.getD k 0)
theorem nw_ex : ∀ k, k < 12 → nrw[2 + (53 + 4 * k + k * (k - 1) / 2)]? = some (.exactly (zWt k) "RodGrids$Word") := by decide +kernel
theorem nw_or : ∀ k, k < 12 → nrw[2 + (53 + 4 * k + k * (k - 1) / 2) + 1]? = some (.eq (.field (zWt k) "java/lang/Enum" "ordinal" "I") (.int (([0, 1, 2, 3, 4, 5, 6, 7, 8, 9, 10, 11] : List Int32).getD k 0))) := by decide +kernel
theorem nw_le : ∀ k, k < 12 → nrw[2 + (53 + 4 * k + k * (k - 1) / 2) + 2]? = some (.eq (.field (zWt k) "RodGrids$Word" "letters" "Ljava/lang/String;") (zLt k)) := by decide +kernel
theorem nw_nu : ∀ k, k < 12 → nrw[2 + (53 + 4 * k + k * (k - 1) / 2) + 3]? = some (.eq (.field (zWt k) "RodGrids$Word" "numbers" "I") (.int (zWnums.getD k 0))) := by decide +kernel
theorem nw_sx : ∀ k, k < 12 → nrw[2 + zSb.getD k 0]? = some (.exactly (zLt k) "java/lang/String") := by decide +kernel
theorem nw_sc : ∀ k, k < 12 → nrw[2 + zSb.getD k 0 + 1]? = some (.eq (.field (zLt k) "java/lang/String" "coder" "B") (.int 0)) := by decide +kernel
theorem nw_sa : ∀ k, k < 12 → nrw[2 + zSb.getD k 0 + 2]? = some (.arrayOf (.field (zLt k) "java/lang/String" "value" "[B") .byte) := by decide +kernel
theorem nw_sl : ∀ k, k < 12 → nrw[2 + zSb.getD k 0 + 3]? = some (.eq (.length (.field (zLt k) "java/lang/String" "value" "[B")) (.int (Int32.ofNat (zWlen.getD k 0)))) := by decide +kernel
theorem nw_se : ∀ k, k < 12 → ∀ j, j < zWlen.getD k 0 → nrw[2 + zSb.getD k 0 + 4 + j]? = some (.eq (.elem (.field (zLt k) "java/lang/String" "value" "[B") (.int (Int32.ofNat j))) (.int ((zWbyt.getD k []).getD j 0))) := by decide +kernel
theorem nw_sn : ∀ k, k < 12 → ∀ j, j < k → nrw[2 + zSb.getD k 0 + 4 + zWlen.getD k 0 + 3 + j]? = some (.not (.eq (zLt j) (zLt k))) := by decide +kernel
theorem nw_ww : ∀ j, j < 12 → nrw[2 + 7 + j]? = some (.eq (.elem (.static "RodGrids" "WORDS" "[LRodGrids$Word;") (.int (Int32.ofNat j))) (zWt j)) := by decide +kernel
theorem nw_wm : ∀ j, j < 12 → nrw[2 + 27 + j]? = some (.eq (.elem (.static "RodGrids$1" "$SwitchMap$RodGrids$Word" "[I") (.int (Int32.ofNat j))) (.int (zI (zSwm j)))) := by decide +kernel
theorem nw_wl : ∀ j, j < 3 → nrw[2 + 42 + j]? = some (.eq (.elem (.static "RodGrids" "LEAST_SETTINGS" "[I") (.int (Int32.ofNat j))) (.int (zI (zLo j)))) := by decide +kernel
theorem nw_wh : ∀ j, j < 3 → nrw[2 + 48 + j]? = some (.eq (.elem (.static "RodGrids" "MOST_SETTINGS" "[I") (.int (Int32.ofNat j))) (.int (zI (zHi j)))) := by decide +kernel
theorem in_zNest : ∀ w ∈ zNest, w ∈ lw_tbl := zin [416, 418, 287, 178, 34, 399, 400, 469, 536, 967, 816, 375, 944, 946, 164, 499, 502, 129, 559, 626, 642, 561, 563, 565] (by decide +kernel)
theorem ot_zNest : ∀ w ∈ zNest, w.onTables = true := by decide +kernel
theorem z_arr {args : Array Value} {s : State} {ty : FieldType} (hp : ty = .int ∨ ty = .long ∨ ty = .byte) (h : (Cond.arrayClass ty).before args s = true) : ∃ cA : ClassId, ArrOfT s cA ty ∧ va_RA s cA ty := by
  obtain ⟨cA, kA, comp, h1, h2, h3⟩ := Cond.arrayClass_spec h
  rcases hp with e | e | e <;> subst e <;> exact ⟨cA, (fun n z => ⟨fun k h => (by cases h), kA, h2, comp, h3⟩), h1⟩
theorem z_arrO {args : Array Value} {s : State} {C : String} (h : (Cond.arrayOver (.object C)).before args s = true) : ∃ cA : ClassId, ArrOfT s cA (.object C) ∧ va_RA s cA (.object C) := by
  obtain ⟨comp, cA, kA, f1, f0, f2, f3, f4⟩ := Cond.arrayOver_spec h
  exact ⟨cA, (fun N z => ⟨(fun k h => by cases h), kA, f2, comp, f3⟩), kA, comp, f2, f3, f1, f4⟩
theorem zEnof {args : Array Value} {s : State} {A : Nat → Prop} (hex : ∀ i, i < 12 → (Cond.exactly (zWt i) "RodGrids$Word").before args s = true) (ho : ∀ i, i < 12 → (Cond.eq (.field (zWt i) "java/lang/Enum" "ordinal" "I") (.int (([0, 1, 2, 3, 4, 5, 6, 7, 8, 9, 10, 11] : List Int32).getD i 0))).before args s = true) (hu : ∀ i, i < 12 → (Cond.eq (.field (zWt i) "RodGrids$Word" "numbers" "I") (.int (zWnums.getD i 0))).before args s = true) (hA : ∀ a : Nat, a < s.heap.size → ¬ A a) : ∃ ad : Nat → Nat, zEn ad A s s.heap ∧ ∀ i, i < 12 → (zWt i).eval args s none [] s = some (.ref (ad i)) := by
  have h0 : ∀ i : Nat, ∃ a : Nat, i < 12 → (zWt i).eval args s none [] s = some (.ref a) := by
    intro i
    by_cases hi : i < 12
    · obtain ⟨a, c, cA, kA, q1, -⟩ := Cond.exactly_spec (args := args) (first := s) (o := none) (s := s) (idx := []) (t := zWt i) (cls := "RodGrids$Word") (hex i hi)
      exact ⟨a, fun _ => q1⟩
    · exact ⟨0, fun h => absurd h hi⟩
  obtain ⟨ad, had⟩ := Classical.axiomOfChoice h0
  exact ⟨ad, fun i hi => ⟨va_Oof (hex i hi) (had i hi) hA, vk_OFof (had i hi) (va_eqt (ho i hi)) hA, vk_OFof (had i hi) (va_eqt (hu i hi)) hA⟩, had⟩
theorem va_T_cg {ty : FieldType} {t N : Nat} {f g : Nat → Value} {A : Nat → Prop} {U : State} {H : Heap} (h : va_T ty t N f A U H) (e : ∀ j, j < N → f j = g j) : va_T ty t N g A U H := by
  obtain ⟨cell, h1, h2, h3, h4, h5, h6, h7⟩ := h
  exact ⟨cell, h1, h2, h3, h4, h5, fun j hj => by rw [← e j hj]; exact h6 j hj, h7⟩
theorem z_rof {args : Array Value} {s : State} {own tx : String} {k : Nat} (h1 : (Cond.stringRef own k tx).before args s = true) (h2 : (Cond.exactly (.string own k) "java/lang/String").before args s = true) : ∃ a : Nat, vk_R own k tx a s := by
  obtain ⟨a, c, cA, kA, q1, -⟩ := Cond.exactly_spec (args := args) (first := s) (o := none) (s := s) (idx := []) (t := .string own k) (cls := "java/lang/String") h2
  exact ⟨a, vk_R.of h1 q1⟩
set_option maxHeartbeats 4000000 in
set_option maxRecDepth 100000 in
theorem z_env {s : State} {b L : Nat} {xs : Nat → Int32} (hX : va_X b L xs s s.heap) (hbl : b < s.heap.size) (hL : L ≤ 260) (hts : ∀ w ∈ lw_tbl, w.before #[Value.ref b] s = true) (hgv : (Jvm.Cond.and given_1 narrow_1).before #[Value.ref b] s = true) : ∃ (D : va_G) (ct ad : Nat → Nat), zE D ct ad (fun q : Nat => s.heap.size ≤ q) s s.heap ∧ va_AO "RodGrids$State" s ∧ ad 67 = b := by
  have hfl := flat_of_before _ hgv
  have hn : ∀ (i : Nat) (w : Cond), nrw[i]? = some w → w.before #[Value.ref b] s = true := fun i w h => hfl w (List.mem_of_getElem? h)
  have hA : ∀ a : Nat, a < s.heap.size → ¬ (fun q : Nat => s.heap.size ≤ q) a := fun a h => Nat.not_le.mpr h
  obtain ⟨c0, i0, k0⟩ := u_known hts in_uX1 (hts (.instantiable RX1 12) (zin [69] (by decide +kernel) _ (List.mem_singleton.mpr rfl)))
  obtain ⟨c1, i1, k1⟩ := u_known hts in_uX2 (hts (.instantiable RX2 7) (zin [177] (by decide +kernel) _ (List.mem_singleton.mpr rfl)))
  obtain ⟨c2, i2, k2⟩ := u_known hts in_uX3 (hts (.instantiable RX3 2) (zin [128] (by decide +kernel) _ (List.mem_singleton.mpr rfl)))
  obtain ⟨c3, i3, k3⟩ := u_known hts in_uX4 (hts (.instantiable RX4 6) (zin [39] (by decide +kernel) _ (List.mem_singleton.mpr rfl)))
  obtain ⟨c4, i4, k4⟩ := u_known hts in_uX5 (hts (.instantiable RX5 3) (zin [157] (by decide +kernel) _ (List.mem_singleton.mpr rfl)))
  obtain ⟨c5, i5, k5⟩ := u_known hts in_uX6 (hts (.instantiable RX6 3) (zin [33] (by decide +kernel) _ (List.mem_singleton.mpr rfl)))
  obtain ⟨c6, i6, k6⟩ := u_known hts in_uX8 (hts (.instantiable RX8 3) (zin [25] (by decide +kernel) _ (List.mem_singleton.mpr rfl)))
  obtain ⟨g0, a0, r0⟩ := z_arr (Or.inl rfl) (hts (.arrayClass .int) (zin [67] (by decide +kernel) _ (List.mem_singleton.mpr rfl)))
  obtain ⟨g1, a1, r1⟩ := z_arr (Or.inr (Or.inl rfl)) (hts (.arrayClass .long) (zin [142] (by decide +kernel) _ (List.mem_singleton.mpr rfl)))
  obtain ⟨g2, a2, r2⟩ := z_arr (Or.inr (Or.inr rfl)) (hts (.arrayClass .byte) (zin [208] (by decide +kernel) _ (List.mem_singleton.mpr rfl)))
  have hO : (Cond.arrayOver (.object "RodGrids$State")).before #[Value.ref b] s = true := (hts (.arrayOver (.object "RodGrids$State")) (zin [163] (by decide +kernel) _ (List.mem_singleton.mpr rfl)))
  obtain ⟨g3, a3, r3⟩ := z_arrO hO
  have hK : va_K (fun k => match k with | 0 => c0 | 1 => c1 | 2 => c2 | 3 => c3 | 4 => c4 | 5 => c5 | _ => c6, fun k => match k with | 0 => i0 | 1 => i1 | 2 => i2 | 3 => i3 | 4 => i4 | 5 => i5 | _ => i6) vwCl (zT (fun k => match k with | 0 => g0 | 1 => g1 | 2 => g2 | _ => g3)) s := by
    refine ⟨fun k q hq => ?_, fun k q hq => ?_⟩
    · match k, hq with
      | 0, hq => cases hq; exact k0
      | 1, hq => cases hq; exact k1
      | 2, hq => cases hq; exact k2
      | 3, hq => cases hq; exact k3
      | 4, hq => cases hq; exact k4
      | 5, hq => cases hq; exact k5
      | 6, hq => cases hq; exact k6
      | k + 7, hq => simp [vwCl] at hq
    · match k, hq with
      | 0, hq => cases hq; exact ⟨a0, r0⟩
      | 1, hq => cases hq; exact ⟨a1, r1⟩
      | 2, hq => cases hq; exact ⟨a2, r2⟩
      | 3, hq => cases hq; exact ⟨a3, r3⟩
      | k + 4, hq => simp [zT] at hq
  have hN : zN s := by
    refine ⟨fun w hw => va_Nw.of (ot_zNest w hw) (hts w (in_zNest w hw)), ?_⟩
    intro q hq
    simp only [zNc, List.mem_cons, List.not_mem_nil, or_false] at hq
    rcases hq with rfl | rfl | rfl | rfl | rfl | rfl
    · exact va_Nc.of (hn 176 (.not (.castable "java/lang/IndexOutOfBoundsException" "java/lang/IllegalArgumentException")) (by decide +kernel))
    · exact va_Nc.of (hn 186 (.not (.castable "java/lang/IndexOutOfBoundsException" "java/lang/IllegalStateException")) (by decide +kernel))
    · exact va_Nc.of (hn 196 (.not (.castable "java/lang/IllegalArgumentException" "java/lang/IndexOutOfBoundsException")) (by decide +kernel))
    · exact va_Nc.of (hn 187 (.not (.castable "java/lang/IllegalArgumentException" "java/lang/IllegalStateException")) (by decide +kernel))
    · exact va_Nc.of (hn 197 (.not (.castable "java/lang/IllegalStateException" "java/lang/IndexOutOfBoundsException")) (by decide +kernel))
    · exact va_Nc.of (hn 177 (.not (.castable "java/lang/IllegalStateException" "java/lang/IllegalArgumentException")) (by decide +kernel))
  obtain ⟨e0, hEn, hev⟩ := zEnof (A := fun q : Nat => s.heap.size ≤ q) (fun i hi => hn _ _ (nw_ex i hi)) (fun i hi => hn _ _ (nw_or i hi)) (fun i hi => hn _ _ (nw_nu i hi)) hA
  obtain ⟨uK, uV, hvk, huk⟩ := vk_Sof (N := 12) (tm := zLt) (len := zWlen) (byt := zWbyt) (by decide +kernel) (fun i hi => hn _ _ (nw_sx i hi)) (fun i hi => hn _ _ (nw_sc i hi)) (fun i hi => hn _ _ (nw_sa i hi)) (fun i hi => hn _ _ (nw_sl i hi)) (fun i hi j hj => hn _ _ (nw_se i hi j hj)) (fun i j hi hj hij => (Nat.lt_or_gt_of_ne hij).elim (fun h => Or.inl (hn _ _ (nw_sn j hj i h))) (fun h => Or.inr (hn _ _ (nw_sn i hi j h)))) hA
  have hEf : va_Ef 12 "RodGrids$Word" "letters" "Ljava/lang/String;" (fun i => .ref (uK i)) e0 (fun q : Nat => s.heap.size ≤ q) s s.heap := fun i hi => vk_OFof (hev i hi) (va_eqv (hn _ _ (nw_le i hi)) (huk i hi)) hA
  obtain ⟨tw, xw, yw⟩ := va_Tof (A := fun q : Nat => s.heap.size ≤ q) (tm := .static "RodGrids" "WORDS" "[LRodGrids$Word;") (ty := (.object "RodGrids$Word")) (N := 12) (f := fun j => .ref (e0 j)) (by decide) (hn 6 (.arrayOf (.static "RodGrids" "WORDS" "[LRodGrids$Word;") (.object "RodGrids$Word")) (by decide +kernel)) (va_eqt (hn 7 (.eq (.length (.static "RodGrids" "WORDS" "[LRodGrids$Word;")) (.int (Int32.ofNat 12))) (by decide +kernel))) (fun j hj => va_eqv (hn _ _ (nw_ww j hj)) (hev j hj)) hA
  have zw : va_Z "RodGrids" "WORDS" "[LRodGrids$Word;" (.ref tw) (fun q : Nat => s.heap.size ≤ q) s s.heap := va_Zof (hts (.laysStatic "RodGrids" "WORDS" "[LRodGrids$Word;") (zin [288] (by decide +kernel) _ (List.mem_singleton.mpr rfl))) (hts (.initialized "RodGrids") (zin [4] (by decide +kernel) _ (List.mem_singleton.mpr rfl))) xw hA
  obtain ⟨tm, xm, ym⟩ := va_Tof (A := fun q : Nat => s.heap.size ≤ q) (tm := .static "RodGrids$1" "$SwitchMap$RodGrids$Word" "[I") (ty := .int) (N := 12) (f := fun j => .int (zI (zSwm j))) (by decide) (hn 27 (.arrayOf (.static "RodGrids$1" "$SwitchMap$RodGrids$Word" "[I") .int) (by decide +kernel)) (va_eqt (hn 28 (.eq (.length (.static "RodGrids$1" "$SwitchMap$RodGrids$Word" "[I")) (.int (Int32.ofNat 12))) (by decide +kernel))) (fun j hj => va_eqt (hn _ _ (nw_wm j hj))) hA
  have zm : va_Z "RodGrids$1" "$SwitchMap$RodGrids$Word" "[I" (.ref tm) (fun q : Nat => s.heap.size ≤ q) s s.heap := va_Zof (hts (.laysStatic "RodGrids$1" "$SwitchMap$RodGrids$Word" "[I") (zin [364] (by decide +kernel) _ (List.mem_singleton.mpr rfl))) (hts (.initialized "RodGrids$1") (zin [23] (by decide +kernel) _ (List.mem_singleton.mpr rfl))) xm hA
  obtain ⟨tl, xl, yl⟩ := va_Tof (A := fun q : Nat => s.heap.size ≤ q) (tm := .static "RodGrids" "LEAST_SETTINGS" "[I") (ty := .int) (N := 3) (f := fun j => .int (zI (zLo j))) (by decide) (hn 42 (.arrayOf (.static "RodGrids" "LEAST_SETTINGS" "[I") .int) (by decide +kernel)) (va_eqt (hn 43 (.eq (.length (.static "RodGrids" "LEAST_SETTINGS" "[I")) (.int (Int32.ofNat 3))) (by decide +kernel))) (fun j hj => va_eqt (hn _ _ (nw_wl j hj))) hA
  have zl : va_Z "RodGrids" "LEAST_SETTINGS" "[I" (.ref tl) (fun q : Nat => s.heap.size ≤ q) s s.heap := va_Zof (hts (.laysStatic "RodGrids" "LEAST_SETTINGS" "[I") (zin [417] (by decide +kernel) _ (List.mem_singleton.mpr rfl))) (hts (.initialized "RodGrids") (zin [4] (by decide +kernel) _ (List.mem_singleton.mpr rfl))) xl hA
  obtain ⟨th, xh, yh⟩ := va_Tof (A := fun q : Nat => s.heap.size ≤ q) (tm := .static "RodGrids" "MOST_SETTINGS" "[I") (ty := .int) (N := 3) (f := fun j => .int (zI (zHi j))) (by decide) (hn 48 (.arrayOf (.static "RodGrids" "MOST_SETTINGS" "[I") .int) (by decide +kernel)) (va_eqt (hn 49 (.eq (.length (.static "RodGrids" "MOST_SETTINGS" "[I")) (.int (Int32.ofNat 3))) (by decide +kernel))) (fun j hj => va_eqt (hn _ _ (nw_wh j hj))) hA
  have zh : va_Z "RodGrids" "MOST_SETTINGS" "[I" (.ref th) (fun q : Nat => s.heap.size ≤ q) s s.heap := va_Zof (hts (.laysStatic "RodGrids" "MOST_SETTINGS" "[I") (zin [419] (by decide +kernel) _ (List.mem_singleton.mpr rfl))) (hts (.initialized "RodGrids") (zin [4] (by decide +kernel) _ (List.mem_singleton.mpr rfl))) xh hA
  have zc : va_Z "java/lang/String" "COMPACT_STRINGS" "Z" (.int 1) (fun q : Nat => s.heap.size ≤ q) s s.heap := va_Zof (hts (.laysStatic "java/lang/String" "COMPACT_STRINGS" "Z") (zin [302] (by decide +kernel) _ (List.mem_singleton.mpr rfl))) (hts (.initialized "java/lang/String") (zin [19] (by decide +kernel) _ (List.mem_singleton.mpr rfl))) (va_eqt (hn 21 (.eq (.static "java/lang/String" "COMPACT_STRINGS" "Z") (.int 1)) (by decide +kernel))) hA
  have zs : va_Zq "jdk/internal/util/Preconditions" "SIOOBE_FORMATTER" "Ljava/util/function/BiFunction;" (fun q : Nat => s.heap.size ≤ q) s s.heap := va_Zqof (hts (.laysStatic "jdk/internal/util/Preconditions" "SIOOBE_FORMATTER" "Ljava/util/function/BiFunction;") (zin [318] (by decide +kernel) _ (List.mem_singleton.mpr rfl))) (hts (.initialized "jdk/internal/util/Preconditions") (zin [21] (by decide +kernel) _ (List.mem_singleton.mpr rfl))) (hn 22 (.isRef (.static "jdk/internal/util/Preconditions" "SIOOBE_FORMATTER" "Ljava/util/function/BiFunction;")) (by decide +kernel)) hA
  have zu : vx_Zq Bundle.tN "UNASSIGNED_STACK" Bundle.steD (fun q : Nat => s.heap.size ≤ q) s s.heap := vx_Zqof (hts (.laysStatic Bundle.tN "UNASSIGNED_STACK" Bundle.steD) (zin [584] (by decide +kernel) _ (List.mem_singleton.mpr rfl))) (hts (.initialized Bundle.tN) (zin [11] (by decide +kernel) _ (List.mem_singleton.mpr rfl))) (hn 53 (.isRef (.static Bundle.tN "UNASSIGNED_STACK" Bundle.steD)) (by decide +kernel)) hA
  have zp : vx_Zq Bundle.tN "SUPPRESSED_SENTINEL" Bundle.listD (fun q : Nat => s.heap.size ≤ q) s s.heap := vx_Zqof (hts (.laysStatic Bundle.tN "SUPPRESSED_SENTINEL" Bundle.listD) (zin [586] (by decide +kernel) _ (List.mem_singleton.mpr rfl))) (hts (.initialized Bundle.tN) (zin [11] (by decide +kernel) _ (List.mem_singleton.mpr rfl))) (hn 54 (.isRef (.static Bundle.tN "SUPPRESSED_SENTINEL" Bundle.listD)) (by decide +kernel)) hA
  obtain ⟨s1, hs1⟩ := z_rof (hts (.stringRef RX8 284 "there is nothing with this number") (zin [598] (by decide +kernel) _ (List.mem_singleton.mpr rfl))) (hn 199 (.exactly (.string RX8 284) "java/lang/String") (by decide +kernel))
  obtain ⟨s2, hs2⟩ := z_rof (hts (.stringRef RX8 291 "an argument is out of its range") (zin [633] (by decide +kernel) _ (List.mem_singleton.mpr rfl))) (hn 236 (.exactly (.string RX8 291) "java/lang/String") (by decide +kernel))
  obtain ⟨s3, hs3⟩ := z_rof (hts (.stringRef RX8 296 "the bench does not allow this now") (zin [649] (by decide +kernel) _ (List.mem_singleton.mpr rfl))) (hn 272 (.exactly (.string RX8 296) "java/lang/String") (by decide +kernel))
  have q1 : ∀ i, i < 12 → (fun k : Nat => if k < 20 then e0 k else if k < 40 then uK (k - 20) else if k < 60 then uV (k - 40) else if k = 60 then tw else if k = 61 then tm else if k = 62 then tl else if k = 63 then th else if k = 64 then s1 else if k = 65 then s2 else if k = 66 then s3 else if k = 67 then b else if k = 68 then L else ((xs (k - 100)).toInt + 2147483648).toNat) i = e0 i := fun i hi => if_pos (by omega)
  generalize hq : (fun k : Nat => if k < 20 then e0 k else if k < 40 then uK (k - 20) else if k < 60 then uV (k - 40) else if k = 60 then tw else if k = 61 then tm else if k = 62 then tl else if k = 63 then th else if k = 64 then s1 else if k = 65 then s2 else if k = 66 then s3 else if k = 67 then b else if k = 68 then L else ((xs (k - 100)).toInt + 2147483648).toNat) = ad at q1
  have q2 : ∀ i, i < 12 → ad (20 + i) = uK i := fun i hi => by rw [← hq]; show (if 20 + i < 20 then _ else if 20 + i < 40 then uK (20 + i - 20) else _) = _; rw [if_neg (by omega), if_pos (by omega), Nat.add_sub_cancel_left]
  have q3 : ∀ i, i < 12 → ad (40 + i) = uV i := fun i hi => by rw [← hq]; show (if 40 + i < 20 then _ else if 40 + i < 40 then _ else if 40 + i < 60 then uV (40 + i - 40) else _) = _; rw [if_neg (by omega), if_neg (by omega), if_pos (by omega), Nat.add_sub_cancel_left]
  have q60 : ad 60 = tw := by rw [← hq]; rfl
  have q61 : ad 61 = tm := by rw [← hq]; rfl
  have q62 : ad 62 = tl := by rw [← hq]; rfl
  have q63 : ad 63 = th := by rw [← hq]; rfl
  have q64 : ad 64 = s1 := by rw [← hq]; rfl
  have q65 : ad 65 = s2 := by rw [← hq]; rfl
  have q66 : ad 66 = s3 := by rw [← hq]; rfl
  have q67 : ad 67 = b := by rw [← hq]; rfl
  have q68 : ad 68 = L := by rw [← hq]; rfl
  have qx : ∀ j, ad (100 + j) = ((xs j).toInt + 2147483648).toNat := fun j => by rw [← hq]; show (if 100 + j < 20 then _ else if 100 + j < 40 then _ else if 100 + j < 60 then _ else if 100 + j = 60 then _ else if 100 + j = 61 then _ else if 100 + j = 62 then _ else if 100 + j = 63 then _ else if 100 + j = 64 then _ else if 100 + j = 65 then _ else if 100 + j = 66 then _ else if 100 + j = 67 then _ else if 100 + j = 68 then _ else ((xs (100 + j - 100)).toInt + 2147483648).toNat) = _; rw [if_neg (by omega), if_neg (by omega), if_neg (by omega), if_neg (by omega), if_neg (by omega), if_neg (by omega), if_neg (by omega), if_neg (by omega), if_neg (by omega), if_neg (by omega), if_neg (by omega), if_neg (by omega), Nat.add_sub_cancel_left]
  refine ⟨_, _, ad, ⟨hK, hN, ⟨⟨fun i hi => ?_, fun i hi => ?_, fun i hi => ?_, fun i j hi hj he => ?_⟩, ⟨⟨?_, ?_⟩, ⟨?_, ?_⟩, ⟨?_, ?_⟩, ?_, ?_⟩, ⟨zc, zs⟩, ⟨zu, zp⟩, ?_, ?_, ?_⟩, z_scr hX (Nat.not_le.mpr hbl) q67 q68 hL (fun j _ => qx j)⟩, va_AO.of hO, q67⟩
  · rw [q1 i hi]; exact hEn i hi
  · show va_OF _ _ _ (.ref (ad (20 + i))) (ad i) _ _ _; rw [q1 i hi, q2 i hi]; exact hEf i hi
  · show va_O _ (ad (20 + i)) _ _ _ ∧ va_OF _ _ _ _ (ad (20 + i)) _ _ _ ∧ va_OF _ _ _ (.ref (ad (40 + i))) (ad (20 + i)) _ _ _ ∧ va_T _ (ad (40 + i)) _ _ _ _ _; rw [q2 i hi, q3 i hi]; exact hvk.1 i hi
  · exact hvk.2 i j hi hj (by rw [← q2 i hi, ← q2 j hj]; exact he)
  · rw [q60]; exact zw
  · rw [q60]; exact va_T_cg yw (fun j hj => by rw [q1 j hj])
  · rw [q61]; exact zm
  · rw [q61]; exact ym
  · rw [q62]; exact zl
  · rw [q62]; exact yl
  · rw [q63]; exact zh
  · rw [q63]; exact yh
  · rw [q64]; exact hs1
  · rw [q65]; exact hs2
  · rw [q66]; exact hs3
