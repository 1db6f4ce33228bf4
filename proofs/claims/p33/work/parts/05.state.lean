/-! the groups of cells of which the worlds are made: a state of the class is read off M : Int → Int, the numbering that the reference's own row has -/
abbrev aI (ct : Nat → Nat) (q n : Nat) (g : Int → Int) : Nat × va_E := (q, .inl (ct 0, n, .inl (fun k => zI (clip n g (k : Int)))))
abbrev aJ (ct : Nat → Nat) (q n : Nat) (g : Int → Int) : Nat × va_E := (q, .inl (ct 1, n, .inr (.inl (fun k => zJ (clip n g (k : Int))))))
abbrev aY (ct : Nat → Nat) (q n : Nat) (g : Int → Int) : Nat × va_E := (q, .inl (ct 2, n, .inl (fun k => zI (clip n g (k : Int)))))
theorem aI_eq {ct : Nat → Nat} {q n : Nat} {f g : Int → Int} (h : ∀ x : Int, 0 ≤ x → x < n → f x = g x) : aI ct q n f = aI ct q n g := by
  have e : (fun k : Nat => zI (clip n f (k : Int))) = fun k : Nat => zI (clip n g (k : Int)) := funext fun k => congrArg zI (clip_eq h k)
  show (q, Sum.inl (ct 0, n, Sum.inl (fun k : Nat => zI (clip n f (k : Int))))) = _
  rw [e]
theorem aJ_eq {ct : Nat → Nat} {q n : Nat} {f g : Int → Int} (h : ∀ x : Int, 0 ≤ x → x < n → f x = g x) : aJ ct q n f = aJ ct q n g := by
  have e : (fun k : Nat => zJ (clip n f (k : Int))) = fun k : Nat => zJ (clip n g (k : Int)) := funext fun k => congrArg zJ (clip_eq h k)
  show (q, Sum.inl (ct 1, n, Sum.inr (Sum.inl (fun k : Nat => zJ (clip n f (k : Int)))))) = _
  rw [e]
theorem aY_eq {ct : Nat → Nat} {q n : Nat} {f g : Int → Int} (h : ∀ x : Int, 0 ≤ x → x < n → f x = g x) : aY ct q n f = aY ct q n g := by
  have e : (fun k : Nat => zI (clip n f (k : Int))) = fun k : Nat => zI (clip n g (k : Int)) := funext fun k => congrArg zI (clip_eq h k)
  show (q, Sum.inl (ct 2, n, Sum.inl (fun k : Nat => zI (clip n f (k : Int))))) = _
  rw [e]
theorem up_at {M : Int → Int} {i v x y j : Int} (h : y = j ↔ x = i) : up M j v y = if x = i then v else M y := by
  unfold up
  by_cases hx : x = i
  · rw [if_pos (h.mpr hx), if_pos hx]
  · rw [if_neg (fun q => hx (h.mp q)), if_neg hx]
def gridW (ct : Nat → Nat) (a : Nat → Nat) (M : Int → Int) : va_W := [(a 1, .inr (3, [.int (zI (M 3)), .ref (a 2), .int (zI (M 4)), .ref (a 3), .ref (a 4), .ref (a 5)])), aI ct (a 2) 6 (fun x => M (16 + x)), aI ct (a 3) 9 (fun x => M (22 + 3 * x)), aI ct (a 4) 9 (fun x => M (23 + 3 * x)), aI ct (a 5) 9 (fun x => M (24 + 3 * x))]
def benchW (ct : Nat → Nat) (a : Nat → Nat) (M : Int → Int) : va_W := [(a 6, .inr (0, [.ref (a 7), .ref (a 8), .int (zI (M 5)), .int (zI (M 6)), .int (zI (M 7)), .int (zI (M 8)), .int (zI (M 9)), .int (zI (M 10)), .int (zI (M 11)), .long (zJ (M 12)), .long (zJ (M 13)), .int (zI (M 14))])), aI ct (a 7) 5 (fun x => M (49 + x)), aI ct (a 8) 3 (fun x => M x)]
def logW (ct : Nat → Nat) (a : Nat → Nat) (M : Int → Int) : va_W := [(a 9, .inr (2, [.int (zI (M 15)), .ref (a 10)])), aJ ct (a 10) 40 (fun x => M (54 + x))]
def sobjW (a : Nat → Nat) : va_W := [(a 0, .inr (5, [.ref (a 1), .ref (a 6), .ref (a 9)]))]
def stW (ct : Nat → Nat) (a : Nat → Nat) (M : Int → Int) : va_W := sobjW a ++ (gridW ct a M ++ (benchW ct a M ++ logW ct a M))
def txtW (ct : Nat → Nat) (q : Nat → Nat) (TX : Int → Int) (tl pl ft : Int) (wd : Value) (n1 n2 : Int) : va_W := [(q 0, .inr (1, [.ref (q 1), .int (zI tl), .int (zI pl), .int (zI ft), wd, .int (zI n1), .int (zI n2)])), aY ct (q 1) 150 TX]
def mdW (ct : Nat → Nat) (b : Nat → Nat) (M SP SV TX NB : Int → Int) (sc tl cd pl cm h : Int) : va_W := [(b 0, .inr (7, [.ref (b 1), .ref (b 2), .ref (b 3), .int (zI sc), .ref (b 4), .int (zI tl), .int (zI cd), .int (zI pl), .int (zI cm), .ref (b 5), .long (zJ h)])), aJ ct (b 1) 94 M, aJ ct (b 2) 94 SP, aJ ct (b 3) 376 SV, aI ct (b 4) 150 TX, aI ct (b 5) 2 NB]
theorem gridW_eq {ct : Nat → Nat} {a : Nat → Nat} {M N : Int → Int} (h3 : M 3 = N 3) (h4 : M 4 = N 4) (f2 : ∀ x : Int, 0 ≤ x → x < 6 → M (16 + x) = N (16 + x)) (f3 : ∀ x : Int, 0 ≤ x → x < 9 → M (22 + 3 * x) = N (22 + 3 * x)) (f4 : ∀ x : Int, 0 ≤ x → x < 9 → M (23 + 3 * x) = N (23 + 3 * x)) (f5 : ∀ x : Int, 0 ≤ x → x < 9 → M (24 + 3 * x) = N (24 + 3 * x)) : gridW ct a M = gridW ct a N := by
  have g2 : aI ct (a 2) 6 (fun x => M (16 + x)) = aI ct (a 2) 6 (fun x => N (16 + x)) := aI_eq f2
  have g3 : aI ct (a 3) 9 (fun x => M (22 + 3 * x)) = aI ct (a 3) 9 (fun x => N (22 + 3 * x)) := aI_eq f3
  have g4 : aI ct (a 4) 9 (fun x => M (23 + 3 * x)) = aI ct (a 4) 9 (fun x => N (23 + 3 * x)) := aI_eq f4
  have g5 : aI ct (a 5) 9 (fun x => M (24 + 3 * x)) = aI ct (a 5) 9 (fun x => N (24 + 3 * x)) := aI_eq f5
  unfold gridW
  rw [h3, h4, g2, g3, g4, g5]
theorem gridW_up {ct : Nat → Nat} {a : Nat → Nat} {M : Int → Int} {j v : Int} (h : ¬ (j = 3 ∨ j = 4 ∨ (16 ≤ j ∧ j ≤ 48))) : gridW ct a (up M j v) = gridW ct a M := gridW_eq (up_n (by omega)) (up_n (by omega)) (fun x _ _ => up_n (by omega)) (fun x _ _ => up_n (by omega)) (fun x _ _ => up_n (by omega)) (fun x _ _ => up_n (by omega))
theorem set_grid_3 (ct : Nat → Nat) (a : Nat → Nat) (M : Int → Int) (v : Int) : (gridW ct a M).set 0 (a 1, .inr (3, ([.int (zI (M 3)), .ref (a 2), .int (zI (M 4)), .ref (a 3), .ref (a 4), .ref (a 5)] : List Value).set 0 (.int (zI v)))) = gridW ct a (up M 3 v) := by
  have e_3 : up M 3 v 3 = v := up_s
  have e_4 : up M 3 v 4 = M 4 := up_n (by decide)
  have f_2 : aI ct (a 2) 6 (fun x => up M 3 v (16 + x)) = aI ct (a 2) 6 (fun x => M (16 + x)) := aI_eq (fun x h0 h1 => up_n (by omega))
  have f_3 : aI ct (a 3) 9 (fun x => up M 3 v (22 + 3 * x)) = aI ct (a 3) 9 (fun x => M (22 + 3 * x)) := aI_eq (fun x h0 h1 => up_n (by omega))
  have f_4 : aI ct (a 4) 9 (fun x => up M 3 v (23 + 3 * x)) = aI ct (a 4) 9 (fun x => M (23 + 3 * x)) := aI_eq (fun x h0 h1 => up_n (by omega))
  have f_5 : aI ct (a 5) 9 (fun x => up M 3 v (24 + 3 * x)) = aI ct (a 5) 9 (fun x => M (24 + 3 * x)) := aI_eq (fun x h0 h1 => up_n (by omega))
  unfold gridW
  rw [e_3, e_4, f_2, f_3, f_4, f_5]
  rfl
theorem set_grid_4 (ct : Nat → Nat) (a : Nat → Nat) (M : Int → Int) (v : Int) : (gridW ct a M).set 0 (a 1, .inr (3, ([.int (zI (M 3)), .ref (a 2), .int (zI (M 4)), .ref (a 3), .ref (a 4), .ref (a 5)] : List Value).set 2 (.int (zI v)))) = gridW ct a (up M 4 v) := by
  have e_3 : up M 4 v 3 = M 3 := up_n (by decide)
  have e_4 : up M 4 v 4 = v := up_s
  have f_2 : aI ct (a 2) 6 (fun x => up M 4 v (16 + x)) = aI ct (a 2) 6 (fun x => M (16 + x)) := aI_eq (fun x h0 h1 => up_n (by omega))
  have f_3 : aI ct (a 3) 9 (fun x => up M 4 v (22 + 3 * x)) = aI ct (a 3) 9 (fun x => M (22 + 3 * x)) := aI_eq (fun x h0 h1 => up_n (by omega))
  have f_4 : aI ct (a 4) 9 (fun x => up M 4 v (23 + 3 * x)) = aI ct (a 4) 9 (fun x => M (23 + 3 * x)) := aI_eq (fun x h0 h1 => up_n (by omega))
  have f_5 : aI ct (a 5) 9 (fun x => up M 4 v (24 + 3 * x)) = aI ct (a 5) 9 (fun x => M (24 + 3 * x)) := aI_eq (fun x h0 h1 => up_n (by omega))
  unfold gridW
  rw [e_3, e_4, f_2, f_3, f_4, f_5]
  rfl
theorem set_grid_a1 (ct : Nat → Nat) (a : Nat → Nat) (M : Int → Int) (i v : Int) (hi : 0 ≤ i ∧ i < 6) : (gridW ct a M).set 1 (a 2, .inl (ct 0, 6, .inl (fun k => zI (clip 6 (up (fun x => M (16 + x)) i v) (k : Int))))) = gridW ct a (up M (16 + i) v) := by
  have e_3 : up M (16 + i) v 3 = M 3 := up_n (by omega)
  have e_4 : up M (16 + i) v 4 = M 4 := up_n (by omega)
  have f_2 : aI ct (a 2) 6 (fun x => up M (16 + i) v (16 + x)) = aI ct (a 2) 6 (up (fun x => M (16 + x)) i v) := aI_eq (fun x h0 h1 => up_at (by omega))
  have f_3 : aI ct (a 3) 9 (fun x => up M (16 + i) v (22 + 3 * x)) = aI ct (a 3) 9 (fun x => M (22 + 3 * x)) := aI_eq (fun x h0 h1 => up_n (by omega))
  have f_4 : aI ct (a 4) 9 (fun x => up M (16 + i) v (23 + 3 * x)) = aI ct (a 4) 9 (fun x => M (23 + 3 * x)) := aI_eq (fun x h0 h1 => up_n (by omega))
  have f_5 : aI ct (a 5) 9 (fun x => up M (16 + i) v (24 + 3 * x)) = aI ct (a 5) 9 (fun x => M (24 + 3 * x)) := aI_eq (fun x h0 h1 => up_n (by omega))
  unfold gridW
  rw [e_3, e_4, f_2, f_3, f_4, f_5]
  rfl
theorem set_grid_a2 (ct : Nat → Nat) (a : Nat → Nat) (M : Int → Int) (i v : Int) (hi : 0 ≤ i ∧ i < 9) : (gridW ct a M).set 2 (a 3, .inl (ct 0, 9, .inl (fun k => zI (clip 9 (up (fun x => M (22 + 3 * x)) i v) (k : Int))))) = gridW ct a (up M (22 + 3 * i) v) := by
  have e_3 : up M (22 + 3 * i) v 3 = M 3 := up_n (by omega)
  have e_4 : up M (22 + 3 * i) v 4 = M 4 := up_n (by omega)
  have f_2 : aI ct (a 2) 6 (fun x => up M (22 + 3 * i) v (16 + x)) = aI ct (a 2) 6 (fun x => M (16 + x)) := aI_eq (fun x h0 h1 => up_n (by omega))
  have f_3 : aI ct (a 3) 9 (fun x => up M (22 + 3 * i) v (22 + 3 * x)) = aI ct (a 3) 9 (up (fun x => M (22 + 3 * x)) i v) := aI_eq (fun x h0 h1 => up_at (by omega))
  have f_4 : aI ct (a 4) 9 (fun x => up M (22 + 3 * i) v (23 + 3 * x)) = aI ct (a 4) 9 (fun x => M (23 + 3 * x)) := aI_eq (fun x h0 h1 => up_n (by omega))
  have f_5 : aI ct (a 5) 9 (fun x => up M (22 + 3 * i) v (24 + 3 * x)) = aI ct (a 5) 9 (fun x => M (24 + 3 * x)) := aI_eq (fun x h0 h1 => up_n (by omega))
  unfold gridW
  rw [e_3, e_4, f_2, f_3, f_4, f_5]
  rfl
theorem set_grid_a3 (ct : Nat → Nat) (a : Nat → Nat) (M : Int → Int) (i v : Int) (hi : 0 ≤ i ∧ i < 9) : (gridW ct a M).set 3 (a 4, .inl (ct 0, 9, .inl (fun k => zI (clip 9 (up (fun x => M (23 + 3 * x)) i v) (k : Int))))) = gridW ct a (up M (23 + 3 * i) v) := by
  have e_3 : up M (23 + 3 * i) v 3 = M 3 := up_n (by omega)
  have e_4 : up M (23 + 3 * i) v 4 = M 4 := up_n (by omega)
  have f_2 : aI ct (a 2) 6 (fun x => up M (23 + 3 * i) v (16 + x)) = aI ct (a 2) 6 (fun x => M (16 + x)) := aI_eq (fun x h0 h1 => up_n (by omega))
  have f_3 : aI ct (a 3) 9 (fun x => up M (23 + 3 * i) v (22 + 3 * x)) = aI ct (a 3) 9 (fun x => M (22 + 3 * x)) := aI_eq (fun x h0 h1 => up_n (by omega))
  have f_4 : aI ct (a 4) 9 (fun x => up M (23 + 3 * i) v (23 + 3 * x)) = aI ct (a 4) 9 (up (fun x => M (23 + 3 * x)) i v) := aI_eq (fun x h0 h1 => up_at (by omega))
  have f_5 : aI ct (a 5) 9 (fun x => up M (23 + 3 * i) v (24 + 3 * x)) = aI ct (a 5) 9 (fun x => M (24 + 3 * x)) := aI_eq (fun x h0 h1 => up_n (by omega))
  unfold gridW
  rw [e_3, e_4, f_2, f_3, f_4, f_5]
  rfl
theorem set_grid_a4 (ct : Nat → Nat) (a : Nat → Nat) (M : Int → Int) (i v : Int) (hi : 0 ≤ i ∧ i < 9) : (gridW ct a M).set 4 (a 5, .inl (ct 0, 9, .inl (fun k => zI (clip 9 (up (fun x => M (24 + 3 * x)) i v) (k : Int))))) = gridW ct a (up M (24 + 3 * i) v) := by
  have e_3 : up M (24 + 3 * i) v 3 = M 3 := up_n (by omega)
  have e_4 : up M (24 + 3 * i) v 4 = M 4 := up_n (by omega)
  have f_2 : aI ct (a 2) 6 (fun x => up M (24 + 3 * i) v (16 + x)) = aI ct (a 2) 6 (fun x => M (16 + x)) := aI_eq (fun x h0 h1 => up_n (by omega))
  have f_3 : aI ct (a 3) 9 (fun x => up M (24 + 3 * i) v (22 + 3 * x)) = aI ct (a 3) 9 (fun x => M (22 + 3 * x)) := aI_eq (fun x h0 h1 => up_n (by omega))
  have f_4 : aI ct (a 4) 9 (fun x => up M (24 + 3 * i) v (23 + 3 * x)) = aI ct (a 4) 9 (fun x => M (23 + 3 * x)) := aI_eq (fun x h0 h1 => up_n (by omega))
  have f_5 : aI ct (a 5) 9 (fun x => up M (24 + 3 * i) v (24 + 3 * x)) = aI ct (a 5) 9 (up (fun x => M (24 + 3 * x)) i v) := aI_eq (fun x h0 h1 => up_at (by omega))
  unfold gridW
  rw [e_3, e_4, f_2, f_3, f_4, f_5]
  rfl
theorem benchW_eq {ct : Nat → Nat} {a : Nat → Nat} {M N : Int → Int} (h5 : M 5 = N 5) (h6 : M 6 = N 6) (h7 : M 7 = N 7) (h8 : M 8 = N 8) (h9 : M 9 = N 9) (h10 : M 10 = N 10) (h11 : M 11 = N 11) (h12 : M 12 = N 12) (h13 : M 13 = N 13) (h14 : M 14 = N 14) (f7 : ∀ x : Int, 0 ≤ x → x < 5 → M (49 + x) = N (49 + x)) (f8 : ∀ x : Int, 0 ≤ x → x < 3 → M (x) = N (x)) : benchW ct a M = benchW ct a N := by
  have g7 : aI ct (a 7) 5 (fun x => M (49 + x)) = aI ct (a 7) 5 (fun x => N (49 + x)) := aI_eq f7
  have g8 : aI ct (a 8) 3 (fun x => M x) = aI ct (a 8) 3 (fun x => N x) := aI_eq f8
  unfold benchW
  rw [h5, h6, h7, h8, h9, h10, h11, h12, h13, h14, g7, g8]
theorem benchW_up {ct : Nat → Nat} {a : Nat → Nat} {M : Int → Int} {j v : Int} (h : ¬ ((0 ≤ j ∧ j ≤ 2) ∨ (5 ≤ j ∧ j ≤ 14) ∨ (49 ≤ j ∧ j ≤ 53))) : benchW ct a (up M j v) = benchW ct a M := benchW_eq (up_n (by omega)) (up_n (by omega)) (up_n (by omega)) (up_n (by omega)) (up_n (by omega)) (up_n (by omega)) (up_n (by omega)) (up_n (by omega)) (up_n (by omega)) (up_n (by omega)) (fun x _ _ => up_n (by omega)) (fun x _ _ => up_n (by omega))
theorem set_bench_5 (ct : Nat → Nat) (a : Nat → Nat) (M : Int → Int) (v : Int) : (benchW ct a M).set 0 (a 6, .inr (0, ([.ref (a 7), .ref (a 8), .int (zI (M 5)), .int (zI (M 6)), .int (zI (M 7)), .int (zI (M 8)), .int (zI (M 9)), .int (zI (M 10)), .int (zI (M 11)), .long (zJ (M 12)), .long (zJ (M 13)), .int (zI (M 14))] : List Value).set 2 (.int (zI v)))) = benchW ct a (up M 5 v) := by
  have e_5 : up M 5 v 5 = v := up_s
  have e_6 : up M 5 v 6 = M 6 := up_n (by decide)
  have e_7 : up M 5 v 7 = M 7 := up_n (by decide)
  have e_8 : up M 5 v 8 = M 8 := up_n (by decide)
  have e_9 : up M 5 v 9 = M 9 := up_n (by decide)
  have e_10 : up M 5 v 10 = M 10 := up_n (by decide)
  have e_11 : up M 5 v 11 = M 11 := up_n (by decide)
  have e_12 : up M 5 v 12 = M 12 := up_n (by decide)
  have e_13 : up M 5 v 13 = M 13 := up_n (by decide)
  have e_14 : up M 5 v 14 = M 14 := up_n (by decide)
  have f_7 : aI ct (a 7) 5 (fun x => up M 5 v (49 + x)) = aI ct (a 7) 5 (fun x => M (49 + x)) := aI_eq (fun x h0 h1 => up_n (by omega))
  have f_8 : aI ct (a 8) 3 (fun x => up M 5 v x) = aI ct (a 8) 3 (fun x => M x) := aI_eq (fun x h0 h1 => up_n (by omega))
  unfold benchW
  rw [e_5, e_6, e_7, e_8, e_9, e_10, e_11, e_12, e_13, e_14, f_7, f_8]
  rfl
theorem set_bench_6 (ct : Nat → Nat) (a : Nat → Nat) (M : Int → Int) (v : Int) : (benchW ct a M).set 0 (a 6, .inr (0, ([.ref (a 7), .ref (a 8), .int (zI (M 5)), .int (zI (M 6)), .int (zI (M 7)), .int (zI (M 8)), .int (zI (M 9)), .int (zI (M 10)), .int (zI (M 11)), .long (zJ (M 12)), .long (zJ (M 13)), .int (zI (M 14))] : List Value).set 3 (.int (zI v)))) = benchW ct a (up M 6 v) := by
  have e_5 : up M 6 v 5 = M 5 := up_n (by decide)
  have e_6 : up M 6 v 6 = v := up_s
  have e_7 : up M 6 v 7 = M 7 := up_n (by decide)
  have e_8 : up M 6 v 8 = M 8 := up_n (by decide)
  have e_9 : up M 6 v 9 = M 9 := up_n (by decide)
  have e_10 : up M 6 v 10 = M 10 := up_n (by decide)
  have e_11 : up M 6 v 11 = M 11 := up_n (by decide)
  have e_12 : up M 6 v 12 = M 12 := up_n (by decide)
  have e_13 : up M 6 v 13 = M 13 := up_n (by decide)
  have e_14 : up M 6 v 14 = M 14 := up_n (by decide)
  have f_7 : aI ct (a 7) 5 (fun x => up M 6 v (49 + x)) = aI ct (a 7) 5 (fun x => M (49 + x)) := aI_eq (fun x h0 h1 => up_n (by omega))
  have f_8 : aI ct (a 8) 3 (fun x => up M 6 v x) = aI ct (a 8) 3 (fun x => M x) := aI_eq (fun x h0 h1 => up_n (by omega))
  unfold benchW
  rw [e_5, e_6, e_7, e_8, e_9, e_10, e_11, e_12, e_13, e_14, f_7, f_8]
  rfl
theorem set_bench_7 (ct : Nat → Nat) (a : Nat → Nat) (M : Int → Int) (v : Int) : (benchW ct a M).set 0 (a 6, .inr (0, ([.ref (a 7), .ref (a 8), .int (zI (M 5)), .int (zI (M 6)), .int (zI (M 7)), .int (zI (M 8)), .int (zI (M 9)), .int (zI (M 10)), .int (zI (M 11)), .long (zJ (M 12)), .long (zJ (M 13)), .int (zI (M 14))] : List Value).set 4 (.int (zI v)))) = benchW ct a (up M 7 v) := by
  have e_5 : up M 7 v 5 = M 5 := up_n (by decide)
  have e_6 : up M 7 v 6 = M 6 := up_n (by decide)
  have e_7 : up M 7 v 7 = v := up_s
  have e_8 : up M 7 v 8 = M 8 := up_n (by decide)
  have e_9 : up M 7 v 9 = M 9 := up_n (by decide)
  have e_10 : up M 7 v 10 = M 10 := up_n (by decide)
  have e_11 : up M 7 v 11 = M 11 := up_n (by decide)
  have e_12 : up M 7 v 12 = M 12 := up_n (by decide)
  have e_13 : up M 7 v 13 = M 13 := up_n (by decide)
  have e_14 : up M 7 v 14 = M 14 := up_n (by decide)
  have f_7 : aI ct (a 7) 5 (fun x => up M 7 v (49 + x)) = aI ct (a 7) 5 (fun x => M (49 + x)) := aI_eq (fun x h0 h1 => up_n (by omega))
  have f_8 : aI ct (a 8) 3 (fun x => up M 7 v x) = aI ct (a 8) 3 (fun x => M x) := aI_eq (fun x h0 h1 => up_n (by omega))
  unfold benchW
  rw [e_5, e_6, e_7, e_8, e_9, e_10, e_11, e_12, e_13, e_14, f_7, f_8]
  rfl
theorem set_bench_8 (ct : Nat → Nat) (a : Nat → Nat) (M : Int → Int) (v : Int) : (benchW ct a M).set 0 (a 6, .inr (0, ([.ref (a 7), .ref (a 8), .int (zI (M 5)), .int (zI (M 6)), .int (zI (M 7)), .int (zI (M 8)), .int (zI (M 9)), .int (zI (M 10)), .int (zI (M 11)), .long (zJ (M 12)), .long (zJ (M 13)), .int (zI (M 14))] : List Value).set 5 (.int (zI v)))) = benchW ct a (up M 8 v) := by
  have e_5 : up M 8 v 5 = M 5 := up_n (by decide)
  have e_6 : up M 8 v 6 = M 6 := up_n (by decide)
  have e_7 : up M 8 v 7 = M 7 := up_n (by decide)
  have e_8 : up M 8 v 8 = v := up_s
  have e_9 : up M 8 v 9 = M 9 := up_n (by decide)
  have e_10 : up M 8 v 10 = M 10 := up_n (by decide)
  have e_11 : up M 8 v 11 = M 11 := up_n (by decide)
  have e_12 : up M 8 v 12 = M 12 := up_n (by decide)
  have e_13 : up M 8 v 13 = M 13 := up_n (by decide)
  have e_14 : up M 8 v 14 = M 14 := up_n (by decide)
  have f_7 : aI ct (a 7) 5 (fun x => up M 8 v (49 + x)) = aI ct (a 7) 5 (fun x => M (49 + x)) := aI_eq (fun x h0 h1 => up_n (by omega))
  have f_8 : aI ct (a 8) 3 (fun x => up M 8 v x) = aI ct (a 8) 3 (fun x => M x) := aI_eq (fun x h0 h1 => up_n (by omega))
  unfold benchW
  rw [e_5, e_6, e_7, e_8, e_9, e_10, e_11, e_12, e_13, e_14, f_7, f_8]
  rfl
theorem set_bench_9 (ct : Nat → Nat) (a : Nat → Nat) (M : Int → Int) (v : Int) : (benchW ct a M).set 0 (a 6, .inr (0, ([.ref (a 7), .ref (a 8), .int (zI (M 5)), .int (zI (M 6)), .int (zI (M 7)), .int (zI (M 8)), .int (zI (M 9)), .int (zI (M 10)), .int (zI (M 11)), .long (zJ (M 12)), .long (zJ (M 13)), .int (zI (M 14))] : List Value).set 6 (.int (zI v)))) = benchW ct a (up M 9 v) := by
  have e_5 : up M 9 v 5 = M 5 := up_n (by decide)
  have e_6 : up M 9 v 6 = M 6 := up_n (by decide)
  have e_7 : up M 9 v 7 = M 7 := up_n (by decide)
  have e_8 : up M 9 v 8 = M 8 := up_n (by decide)
  have e_9 : up M 9 v 9 = v := up_s
  have e_10 : up M 9 v 10 = M 10 := up_n (by decide)
  have e_11 : up M 9 v 11 = M 11 := up_n (by decide)
  have e_12 : up M 9 v 12 = M 12 := up_n (by decide)
  have e_13 : up M 9 v 13 = M 13 := up_n (by decide)
  have e_14 : up M 9 v 14 = M 14 := up_n (by decide)
  have f_7 : aI ct (a 7) 5 (fun x => up M 9 v (49 + x)) = aI ct (a 7) 5 (fun x => M (49 + x)) := aI_eq (fun x h0 h1 => up_n (by omega))
  have f_8 : aI ct (a 8) 3 (fun x => up M 9 v x) = aI ct (a 8) 3 (fun x => M x) := aI_eq (fun x h0 h1 => up_n (by omega))
  unfold benchW
  rw [e_5, e_6, e_7, e_8, e_9, e_10, e_11, e_12, e_13, e_14, f_7, f_8]
  rfl
theorem set_bench_10 (ct : Nat → Nat) (a : Nat → Nat) (M : Int → Int) (v : Int) : (benchW ct a M).set 0 (a 6, .inr (0, ([.ref (a 7), .ref (a 8), .int (zI (M 5)), .int (zI (M 6)), .int (zI (M 7)), .int (zI (M 8)), .int (zI (M 9)), .int (zI (M 10)), .int (zI (M 11)), .long (zJ (M 12)), .long (zJ (M 13)), .int (zI (M 14))] : List Value).set 7 (.int (zI v)))) = benchW ct a (up M 10 v) := by
  have e_5 : up M 10 v 5 = M 5 := up_n (by decide)
  have e_6 : up M 10 v 6 = M 6 := up_n (by decide)
  have e_7 : up M 10 v 7 = M 7 := up_n (by decide)
  have e_8 : up M 10 v 8 = M 8 := up_n (by decide)
  have e_9 : up M 10 v 9 = M 9 := up_n (by decide)
  have e_10 : up M 10 v 10 = v := up_s
  have e_11 : up M 10 v 11 = M 11 := up_n (by decide)
  have e_12 : up M 10 v 12 = M 12 := up_n (by decide)
  have e_13 : up M 10 v 13 = M 13 := up_n (by decide)
  have e_14 : up M 10 v 14 = M 14 := up_n (by decide)
  have f_7 : aI ct (a 7) 5 (fun x => up M 10 v (49 + x)) = aI ct (a 7) 5 (fun x => M (49 + x)) := aI_eq (fun x h0 h1 => up_n (by omega))
  have f_8 : aI ct (a 8) 3 (fun x => up M 10 v x) = aI ct (a 8) 3 (fun x => M x) := aI_eq (fun x h0 h1 => up_n (by omega))
  unfold benchW
  rw [e_5, e_6, e_7, e_8, e_9, e_10, e_11, e_12, e_13, e_14, f_7, f_8]
  rfl
theorem set_bench_11 (ct : Nat → Nat) (a : Nat → Nat) (M : Int → Int) (v : Int) : (benchW ct a M).set 0 (a 6, .inr (0, ([.ref (a 7), .ref (a 8), .int (zI (M 5)), .int (zI (M 6)), .int (zI (M 7)), .int (zI (M 8)), .int (zI (M 9)), .int (zI (M 10)), .int (zI (M 11)), .long (zJ (M 12)), .long (zJ (M 13)), .int (zI (M 14))] : List Value).set 8 (.int (zI v)))) = benchW ct a (up M 11 v) := by
  have e_5 : up M 11 v 5 = M 5 := up_n (by decide)
  have e_6 : up M 11 v 6 = M 6 := up_n (by decide)
  have e_7 : up M 11 v 7 = M 7 := up_n (by decide)
  have e_8 : up M 11 v 8 = M 8 := up_n (by decide)
  have e_9 : up M 11 v 9 = M 9 := up_n (by decide)
  have e_10 : up M 11 v 10 = M 10 := up_n (by decide)
  have e_11 : up M 11 v 11 = v := up_s
  have e_12 : up M 11 v 12 = M 12 := up_n (by decide)
  have e_13 : up M 11 v 13 = M 13 := up_n (by decide)
  have e_14 : up M 11 v 14 = M 14 := up_n (by decide)
  have f_7 : aI ct (a 7) 5 (fun x => up M 11 v (49 + x)) = aI ct (a 7) 5 (fun x => M (49 + x)) := aI_eq (fun x h0 h1 => up_n (by omega))
  have f_8 : aI ct (a 8) 3 (fun x => up M 11 v x) = aI ct (a 8) 3 (fun x => M x) := aI_eq (fun x h0 h1 => up_n (by omega))
  unfold benchW
  rw [e_5, e_6, e_7, e_8, e_9, e_10, e_11, e_12, e_13, e_14, f_7, f_8]
  rfl
theorem set_bench_12 (ct : Nat → Nat) (a : Nat → Nat) (M : Int → Int) (v : Int) : (benchW ct a M).set 0 (a 6, .inr (0, ([.ref (a 7), .ref (a 8), .int (zI (M 5)), .int (zI (M 6)), .int (zI (M 7)), .int (zI (M 8)), .int (zI (M 9)), .int (zI (M 10)), .int (zI (M 11)), .long (zJ (M 12)), .long (zJ (M 13)), .int (zI (M 14))] : List Value).set 9 (.long (zJ v)))) = benchW ct a (up M 12 v) := by
  have e_5 : up M 12 v 5 = M 5 := up_n (by decide)
  have e_6 : up M 12 v 6 = M 6 := up_n (by decide)
  have e_7 : up M 12 v 7 = M 7 := up_n (by decide)
  have e_8 : up M 12 v 8 = M 8 := up_n (by decide)
  have e_9 : up M 12 v 9 = M 9 := up_n (by decide)
  have e_10 : up M 12 v 10 = M 10 := up_n (by decide)
  have e_11 : up M 12 v 11 = M 11 := up_n (by decide)
  have e_12 : up M 12 v 12 = v := up_s
  have e_13 : up M 12 v 13 = M 13 := up_n (by decide)
  have e_14 : up M 12 v 14 = M 14 := up_n (by decide)
  have f_7 : aI ct (a 7) 5 (fun x => up M 12 v (49 + x)) = aI ct (a 7) 5 (fun x => M (49 + x)) := aI_eq (fun x h0 h1 => up_n (by omega))
  have f_8 : aI ct (a 8) 3 (fun x => up M 12 v x) = aI ct (a 8) 3 (fun x => M x) := aI_eq (fun x h0 h1 => up_n (by omega))
  unfold benchW
  rw [e_5, e_6, e_7, e_8, e_9, e_10, e_11, e_12, e_13, e_14, f_7, f_8]
  rfl
theorem set_bench_13 (ct : Nat → Nat) (a : Nat → Nat) (M : Int → Int) (v : Int) : (benchW ct a M).set 0 (a 6, .inr (0, ([.ref (a 7), .ref (a 8), .int (zI (M 5)), .int (zI (M 6)), .int (zI (M 7)), .int (zI (M 8)), .int (zI (M 9)), .int (zI (M 10)), .int (zI (M 11)), .long (zJ (M 12)), .long (zJ (M 13)), .int (zI (M 14))] : List Value).set 10 (.long (zJ v)))) = benchW ct a (up M 13 v) := by
  have e_5 : up M 13 v 5 = M 5 := up_n (by decide)
  have e_6 : up M 13 v 6 = M 6 := up_n (by decide)
  have e_7 : up M 13 v 7 = M 7 := up_n (by decide)
  have e_8 : up M 13 v 8 = M 8 := up_n (by decide)
  have e_9 : up M 13 v 9 = M 9 := up_n (by decide)
  have e_10 : up M 13 v 10 = M 10 := up_n (by decide)
  have e_11 : up M 13 v 11 = M 11 := up_n (by decide)
  have e_12 : up M 13 v 12 = M 12 := up_n (by decide)
  have e_13 : up M 13 v 13 = v := up_s
  have e_14 : up M 13 v 14 = M 14 := up_n (by decide)
  have f_7 : aI ct (a 7) 5 (fun x => up M 13 v (49 + x)) = aI ct (a 7) 5 (fun x => M (49 + x)) := aI_eq (fun x h0 h1 => up_n (by omega))
  have f_8 : aI ct (a 8) 3 (fun x => up M 13 v x) = aI ct (a 8) 3 (fun x => M x) := aI_eq (fun x h0 h1 => up_n (by omega))
  unfold benchW
  rw [e_5, e_6, e_7, e_8, e_9, e_10, e_11, e_12, e_13, e_14, f_7, f_8]
  rfl
theorem set_bench_14 (ct : Nat → Nat) (a : Nat → Nat) (M : Int → Int) (v : Int) : (benchW ct a M).set 0 (a 6, .inr (0, ([.ref (a 7), .ref (a 8), .int (zI (M 5)), .int (zI (M 6)), .int (zI (M 7)), .int (zI (M 8)), .int (zI (M 9)), .int (zI (M 10)), .int (zI (M 11)), .long (zJ (M 12)), .long (zJ (M 13)), .int (zI (M 14))] : List Value).set 11 (.int (zI v)))) = benchW ct a (up M 14 v) := by
  have e_5 : up M 14 v 5 = M 5 := up_n (by decide)
  have e_6 : up M 14 v 6 = M 6 := up_n (by decide)
  have e_7 : up M 14 v 7 = M 7 := up_n (by decide)
  have e_8 : up M 14 v 8 = M 8 := up_n (by decide)
  have e_9 : up M 14 v 9 = M 9 := up_n (by decide)
  have e_10 : up M 14 v 10 = M 10 := up_n (by decide)
  have e_11 : up M 14 v 11 = M 11 := up_n (by decide)
  have e_12 : up M 14 v 12 = M 12 := up_n (by decide)
  have e_13 : up M 14 v 13 = M 13 := up_n (by decide)
  have e_14 : up M 14 v 14 = v := up_s
  have f_7 : aI ct (a 7) 5 (fun x => up M 14 v (49 + x)) = aI ct (a 7) 5 (fun x => M (49 + x)) := aI_eq (fun x h0 h1 => up_n (by omega))
  have f_8 : aI ct (a 8) 3 (fun x => up M 14 v x) = aI ct (a 8) 3 (fun x => M x) := aI_eq (fun x h0 h1 => up_n (by omega))
  unfold benchW
  rw [e_5, e_6, e_7, e_8, e_9, e_10, e_11, e_12, e_13, e_14, f_7, f_8]
  rfl
theorem set_bench_a1 (ct : Nat → Nat) (a : Nat → Nat) (M : Int → Int) (i v : Int) (hi : 0 ≤ i ∧ i < 5) : (benchW ct a M).set 1 (a 7, .inl (ct 0, 5, .inl (fun k => zI (clip 5 (up (fun x => M (49 + x)) i v) (k : Int))))) = benchW ct a (up M (49 + i) v) := by
  have e_5 : up M (49 + i) v 5 = M 5 := up_n (by omega)
  have e_6 : up M (49 + i) v 6 = M 6 := up_n (by omega)
  have e_7 : up M (49 + i) v 7 = M 7 := up_n (by omega)
  have e_8 : up M (49 + i) v 8 = M 8 := up_n (by omega)
  have e_9 : up M (49 + i) v 9 = M 9 := up_n (by omega)
  have e_10 : up M (49 + i) v 10 = M 10 := up_n (by omega)
  have e_11 : up M (49 + i) v 11 = M 11 := up_n (by omega)
  have e_12 : up M (49 + i) v 12 = M 12 := up_n (by omega)
  have e_13 : up M (49 + i) v 13 = M 13 := up_n (by omega)
  have e_14 : up M (49 + i) v 14 = M 14 := up_n (by omega)
  have f_7 : aI ct (a 7) 5 (fun x => up M (49 + i) v (49 + x)) = aI ct (a 7) 5 (up (fun x => M (49 + x)) i v) := aI_eq (fun x h0 h1 => up_at (by omega))
  have f_8 : aI ct (a 8) 3 (fun x => up M (49 + i) v x) = aI ct (a 8) 3 (fun x => M x) := aI_eq (fun x h0 h1 => up_n (by omega))
  unfold benchW
  rw [e_5, e_6, e_7, e_8, e_9, e_10, e_11, e_12, e_13, e_14, f_7, f_8]
  rfl
theorem set_bench_a2 (ct : Nat → Nat) (a : Nat → Nat) (M : Int → Int) (i v : Int) (hi : 0 ≤ i ∧ i < 3) : (benchW ct a M).set 2 (a 8, .inl (ct 0, 3, .inl (fun k => zI (clip 3 (up (fun x => M x) i v) (k : Int))))) = benchW ct a (up M i v) := by
  have e_5 : up M i v 5 = M 5 := up_n (by omega)
  have e_6 : up M i v 6 = M 6 := up_n (by omega)
  have e_7 : up M i v 7 = M 7 := up_n (by omega)
  have e_8 : up M i v 8 = M 8 := up_n (by omega)
  have e_9 : up M i v 9 = M 9 := up_n (by omega)
  have e_10 : up M i v 10 = M 10 := up_n (by omega)
  have e_11 : up M i v 11 = M 11 := up_n (by omega)
  have e_12 : up M i v 12 = M 12 := up_n (by omega)
  have e_13 : up M i v 13 = M 13 := up_n (by omega)
  have e_14 : up M i v 14 = M 14 := up_n (by omega)
  have f_7 : aI ct (a 7) 5 (fun x => up M i v (49 + x)) = aI ct (a 7) 5 (fun x => M (49 + x)) := aI_eq (fun x h0 h1 => up_n (by omega))
  have f_8 : aI ct (a 8) 3 (fun x => up M i v x) = aI ct (a 8) 3 (up (fun x => M x) i v) := aI_eq (fun x h0 h1 => up_at (by omega))
  unfold benchW
  rw [e_5, e_6, e_7, e_8, e_9, e_10, e_11, e_12, e_13, e_14, f_7, f_8]
  rfl
theorem logW_eq {ct : Nat → Nat} {a : Nat → Nat} {M N : Int → Int} (h15 : M 15 = N 15) (f10 : ∀ x : Int, 0 ≤ x → x < 40 → M (54 + x) = N (54 + x)) : logW ct a M = logW ct a N := by
  have g10 : aJ ct (a 10) 40 (fun x => M (54 + x)) = aJ ct (a 10) 40 (fun x => N (54 + x)) := aJ_eq f10
  unfold logW
  rw [h15, g10]
theorem logW_up {ct : Nat → Nat} {a : Nat → Nat} {M : Int → Int} {j v : Int} (h : ¬ (j = 15 ∨ (54 ≤ j ∧ j ≤ 93))) : logW ct a (up M j v) = logW ct a M := logW_eq (up_n (by omega)) (fun x _ _ => up_n (by omega))
theorem set_log_15 (ct : Nat → Nat) (a : Nat → Nat) (M : Int → Int) (v : Int) : (logW ct a M).set 0 (a 9, .inr (2, ([.int (zI (M 15)), .ref (a 10)] : List Value).set 0 (.int (zI v)))) = logW ct a (up M 15 v) := by
  have e_15 : up M 15 v 15 = v := up_s
  have f_10 : aJ ct (a 10) 40 (fun x => up M 15 v (54 + x)) = aJ ct (a 10) 40 (fun x => M (54 + x)) := aJ_eq (fun x h0 h1 => up_n (by omega))
  unfold logW
  rw [e_15, f_10]
  rfl
theorem set_log_a1 (ct : Nat → Nat) (a : Nat → Nat) (M : Int → Int) (i v : Int) (hi : 0 ≤ i ∧ i < 40) : (logW ct a M).set 1 (a 10, .inl (ct 1, 40, .inr (.inl (fun k => zJ (clip 40 (up (fun x => M (54 + x)) i v) (k : Int)))))) = logW ct a (up M (54 + i) v) := by
  have e_15 : up M (54 + i) v 15 = M 15 := up_n (by omega)
  have f_10 : aJ ct (a 10) 40 (fun x => up M (54 + i) v (54 + x)) = aJ ct (a 10) 40 (up (fun x => M (54 + x)) i v) := aJ_eq (fun x h0 h1 => up_at (by omega))
  unfold logW
  rw [e_15, f_10]
  rfl
