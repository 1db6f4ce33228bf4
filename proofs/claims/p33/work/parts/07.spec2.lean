/-! an hour, a day, hours -/
def sp_rateM (M : Int → Int) : Int := sp_rate M (sp_len M (M 6)) (M 8)
def sp_h1 (M : Int → Int) : Int → Int := up M 6 (sp_warm M (M 6))
def sp_h2 (M : Int → Int) : Int → Int := if 0 < M 8 then up (up (up M 12 (M 12 + sp_rateM M)) 10 (M 10 + 1)) 8 (M 8 - 1) else up M 11 (M 11 + 1)
def sp_h3 (M : Int → Int) : Int → Int := up (sp_h2 M) 9 (M 9 + 1)
def sp_end (M : Int → Int) : Int → Int := up (up (st_day M (M 6) (sp_rateM M) (M 12 - M 13) (M 10 - M 14)) 13 (M 12)) 14 (M 10)
def sp_hour (M : Int → Int) : Int → Int := if sp_h3 (sp_h1 M) 9 % 24 = 0 then sp_end (sp_h3 (sp_h1 M)) else sp_h3 (sp_h1 M)
def sp_pass (M : Int → Int) : Nat → Int → Int
  | 0 => M
  | n + 1 => sp_hour (sp_pass M n)
theorem gInv_eq {M N : Int → Int} (h : ∀ j : Int, (j = 3 ∨ j = 4 ∨ (16 ≤ j ∧ j ≤ 48)) → N j = M j) (hI : gInv M) : gInv N := by
  obtain ⟨h1, h2, h3, h4, h5⟩ := hI
  have e3 := h 3 (by omega)
  have e4 := h 4 (by omega)
  refine ⟨by rw [e3]; exact h1, by rw [e4]; exact h2, fun k a b => by rw [h (16 + k) (by omega)]; exact h3 k a b, fun k a b => ?_, fun k a b => ?_⟩
  · rw [h (22 + 3 * k) (by omega), h (23 + 3 * k) (by omega), h (24 + 3 * k) (by omega)]
    exact h4 k a b
  · rw [e4] at b
    rw [h (22 + 3 * k) (by omega), h (23 + 3 * k) (by omega), h (24 + 3 * k) (by omega), e3]
    exact h5 k a b
theorem gInv_up {M : Int → Int} {j v : Int} (h : ¬ (j = 3 ∨ j = 4 ∨ (16 ≤ j ∧ j ≤ 48))) (hI : gInv M) : gInv (up M j v) := gInv_eq (fun k hk => up_n (by omega)) hI
theorem bInv_eq {M N : Int → Int} (h : ∀ j : Int, ((0 ≤ j ∧ j ≤ 2) ∨ (5 ≤ j ∧ j ≤ 15) ∨ (49 ≤ j ∧ j ≤ 53)) → N j = M j) (hI : bInv M) : bInv N := by
  unfold bInv at hI ⊢
  rw [h 0 (by omega), h 1 (by omega), h 2 (by omega), h 5 (by omega), h 6 (by omega), h 7 (by omega), h 8 (by omega), h 9 (by omega), h 10 (by omega), h 11 (by omega), h 12 (by omega), h 13 (by omega), h 14 (by omega), h 15 (by omega)]
  exact ⟨hI.1, hI.2.1, hI.2.2.1, fun k a b => by rw [h (49 + k) (by omega)]; exact hI.2.2.2.1 k a b, hI.2.2.2.2⟩
theorem h1_n {M : Int → Int} {j : Int} (h : j ≠ 6) : sp_h1 M j = M j := up_n h
theorem h3_n {M : Int → Int} {j : Int} (h : j ≠ 8) (h2 : j ≠ 9) (h3 : j ≠ 10) (h4 : j ≠ 11) (h5 : j ≠ 12) : sp_h3 M j = M j := by
  unfold sp_h3 sp_h2
  rw [up_n h2]
  split
  · rw [up_n h, up_n h3, up_n h5]
  · rw [up_n h4]
theorem h3_9 {M : Int → Int} : sp_h3 M 9 = M 9 + 1 := up_s
theorem day_n {M : Int → Int} {w r d h j : Int} (a : j ≠ 15) (b : ¬ (54 ≤ j ∧ j ≤ 93)) : st_day M w r d h j = M j := by
  unfold st_day
  rw [up_n a, up_n (by omega), up_n (by omega), up_n (by omega), up_n (by omega)]
  exact if_neg (by omega)
theorem day_15 {M : Int → Int} {w r d h : Int} : st_day M w r d h 15 = min (M 15 + 1) 10 := up_s
theorem end_n {M : Int → Int} {j : Int} (a : j ≠ 13) (b : j ≠ 14) (a' : j ≠ 15) (b' : ¬ (54 ≤ j ∧ j ≤ 93)) : sp_end M j = M j := by
  unfold sp_end
  rw [up_n b, up_n a, day_n a' b']
theorem gInv_h1 {M : Int → Int} (hI : gInv M) : gInv (sp_h1 M) := gInv_eq (fun j hj => h1_n (by omega)) hI
theorem gInv_h3 {M : Int → Int} (hI : gInv M) : gInv (sp_h3 M) := gInv_eq (fun j hj => h3_n (by omega) (by omega) (by omega) (by omega) (by omega)) hI
theorem gInv_end {M : Int → Int} (hI : gInv M) : gInv (sp_end M) := gInv_eq (fun j hj => end_n (by omega) (by omega) (by omega) (by omega)) hI
theorem bInv_h1 {M : Int → Int} (hB : bInv M) : bInv (sp_h1 M) := by
  have q := sp_warmB hB hB.2.1.2.1
  have e6 : sp_h1 M 6 = sp_warm M (M 6) := up_s
  unfold bInv at hB ⊢
  rw [h1_n (j := 0) (by decide), h1_n (j := 1) (by decide), h1_n (j := 2) (by decide), h1_n (j := 5) (by decide), e6, h1_n (j := 7) (by decide), h1_n (j := 8) (by decide), h1_n (j := 9) (by decide), h1_n (j := 10) (by decide), h1_n (j := 11) (by decide), h1_n (j := 12) (by decide), h1_n (j := 13) (by decide), h1_n (j := 14) (by decide), h1_n (j := 15) (by decide)]
  exact ⟨hB.1, ⟨hB.2.1.1, q, hB.2.1.2.2⟩, hB.2.2.1, fun k a b => by rw [h1_n (by omega)]; exact hB.2.2.2.1 k a b, hB.2.2.2.2⟩
theorem bInv_h3 {M : Int → Int} (hB : bInv M) (h9 : M 9 < 100500) : bInv (sp_h3 M) := by
  have q := sp_rateB (len := sp_len M (M 6)) hB hB.2.1.2.2.2
  have e9 : sp_h3 M 9 = M 9 + 1 := up_s
  have hn : ∀ j : Int, j ≠ 8 → j ≠ 9 → j ≠ 10 → j ≠ 11 → j ≠ 12 → sp_h3 M j = M j := fun j a b c d e => h3_n a b c d e
  have hx : (sp_h3 M 8 = M 8 - 1 ∧ 0 < M 8 ∧ sp_h3 M 10 = M 10 + 1 ∧ sp_h3 M 11 = M 11 ∧ sp_h3 M 12 = M 12 + sp_rateM M) ∨ (sp_h3 M 8 = M 8 ∧ sp_h3 M 10 = M 10 ∧ sp_h3 M 11 = M 11 + 1 ∧ sp_h3 M 12 = M 12) := by
    unfold sp_h3 sp_h2
    by_cases h : 0 < M 8
    · left
      rw [if_pos h]
      exact ⟨rfl, h, rfl, rfl, rfl⟩
    · right
      rw [if_neg h]
      exact ⟨rfl, rfl, rfl, rfl⟩
  have q2 : -1000030000 ≤ sp_rateM M ∧ sp_rateM M ≤ 1000000000 := q
  obtain ⟨b1, b2, b3, b4, b5⟩ := hB
  unfold bInv
  rw [hn 0 (by decide) (by decide) (by decide) (by decide) (by decide), hn 1 (by decide) (by decide) (by decide) (by decide) (by decide), hn 2 (by decide) (by decide) (by decide) (by decide) (by decide), hn 5 (by decide) (by decide) (by decide) (by decide) (by decide), hn 6 (by decide) (by decide) (by decide) (by decide) (by decide), hn 7 (by decide) (by decide) (by decide) (by decide) (by decide), hn 13 (by decide) (by decide) (by decide) (by decide) (by decide), hn 14 (by decide) (by decide) (by decide) (by decide) (by decide), hn 15 (by decide) (by decide) (by decide) (by decide) (by decide), e9]
  refine ⟨b1, ⟨b2.1, b2.2.1, b2.2.2.1, ?_⟩, ?_, fun k a b => by rw [hn _ (by omega) (by omega) (by omega) (by omega) (by omega)]; exact b4 k a b, b5⟩
  · rcases hx with ⟨x1, x2, x3, x4, x5⟩ | ⟨x1, x3, x4, x5⟩ <;> omega
  · rcases hx with ⟨x1, x2, x3, x4, x5⟩ | ⟨x1, x3, x4, x5⟩ <;> (rw [x3, x4, x5]; omega)
theorem bInv_end {M : Int → Int} (hB : bInv M) : bInv (sp_end M) := by
  have hn : ∀ j : Int, j ≠ 13 → j ≠ 14 → j ≠ 15 → ¬ (54 ≤ j ∧ j ≤ 93) → sp_end M j = M j := fun j a b c d => end_n a b c d
  have e13 : sp_end M 13 = M 12 := by unfold sp_end; rw [up_n (by decide), up_s]
  have e14 : sp_end M 14 = M 10 := up_s
  have e15 : sp_end M 15 = min (M 15 + 1) 10 := by unfold sp_end; rw [up_n (by decide), up_n (by decide), day_15]
  obtain ⟨b1, b2, b3, b4, b5⟩ := hB
  unfold bInv
  rw [hn 0 (by decide) (by decide) (by decide) (by decide), hn 1 (by decide) (by decide) (by decide) (by decide), hn 2 (by decide) (by decide) (by decide) (by decide), hn 5 (by decide) (by decide) (by decide) (by decide), hn 6 (by decide) (by decide) (by decide) (by decide), hn 7 (by decide) (by decide) (by decide) (by decide), hn 8 (by decide) (by decide) (by decide) (by decide), hn 9 (by decide) (by decide) (by decide) (by decide), hn 10 (by decide) (by decide) (by decide) (by decide), hn 11 (by decide) (by decide) (by decide) (by decide), hn 12 (by decide) (by decide) (by decide) (by decide), e13, e14, e15]
  exact ⟨b1, b2, ⟨b3.1, b3.2.1, by omega, b3.2.1⟩, fun k a b => by rw [hn _ (by omega) (by omega) (by omega) (by omega)]; exact b4 k a b, by omega⟩
theorem gInv_hour {M : Int → Int} (hI : gInv M) : gInv (sp_hour M) := by
  unfold sp_hour
  split
  · exact gInv_end (gInv_h3 (gInv_h1 hI))
  · exact gInv_h3 (gInv_h1 hI)
theorem bInv_hour {M : Int → Int} (hB : bInv M) (h9 : M 9 < 100500) : bInv (sp_hour M) ∧ sp_hour M 9 = M 9 + 1 := by
  have e1 : sp_h1 M 9 = M 9 := h1_n (by decide)
  have q := bInv_h3 (bInv_h1 hB) (by rw [e1]; exact h9)
  unfold sp_hour
  split
  · exact ⟨bInv_end q, by rw [end_n (by decide) (by decide) (by decide) (by decide), h3_9, e1]⟩
  · exact ⟨q, by rw [h3_9, e1]⟩
theorem sp_passI {M : Int → Int} (hI : gInv M) (hB : bInv M) : ∀ n : Nat, M 9 + n ≤ 100500 → gInv (sp_pass M n) ∧ bInv (sp_pass M n) ∧ sp_pass M n 9 = M 9 + n
  | 0, _ => ⟨hI, hB, by show M 9 = M 9 + (0 : Nat); omega⟩
  | n + 1, h => by
    obtain ⟨a, b, c⟩ := sp_passI hI hB n (by omega)
    have q := bInv_hour b (by omega)
    exact ⟨gInv_hour a, q.1, by show sp_hour (sp_pass M n) 9 = _; rw [q.2, c]; omega⟩
theorem sp_passS {M : Int → Int} {i : Int} (h : 0 ≤ i) : sp_pass M (i + 1).toNat = sp_hour (sp_pass M i.toNat) := by
  have e : (i + 1).toNat = i.toNat + 1 := by omega
  rw [e]
  rfl
theorem sp_lenB {M : Int → Int} {t : Int} (hI : gInv M) (hB : bInv M) (ht : -300 ≤ t ∧ t ≤ 600) : (-9022500 ≤ sp_rods M t ∧ sp_rods M t ≤ 9022500) ∧ -9027500 ≤ sp_len M t ∧ sp_len M t ≤ 9027500 := by
  have q := sp_rodsB hI ht (M 4).toNat (by have := hI.2.1; omega)
  have q2 := hI.2.1
  have q7 := hB.2.1.2.2.1
  unfold sp_len sp_rods
  omega
theorem gridW_day {ct a : Nat → Nat} {M : Int → Int} {w r d h : Int} : gridW ct a (st_day M w r d h) = gridW ct a M := gridW_eq (day_n (by decide) (by omega)) (day_n (by decide) (by omega)) (fun x _ _ => day_n (by omega) (by omega)) (fun x _ _ => day_n (by omega) (by omega)) (fun x _ _ => day_n (by omega) (by omega)) (fun x _ _ => day_n (by omega) (by omega))
theorem benchW_day {ct a : Nat → Nat} {M : Int → Int} {w r d h : Int} : benchW ct a (st_day M w r d h) = benchW ct a M := benchW_eq (day_n (by decide) (by omega)) (day_n (by decide) (by omega)) (day_n (by decide) (by omega)) (day_n (by decide) (by omega)) (day_n (by decide) (by omega)) (day_n (by decide) (by omega)) (day_n (by decide) (by omega)) (day_n (by decide) (by omega)) (day_n (by decide) (by omega)) (day_n (by decide) (by omega)) (fun x _ _ => day_n (by omega) (by omega)) (fun x _ _ => day_n (by omega) (by omega))
theorem divC {a b : Int} (ha : -500000000000000 ≤ a ∧ a ≤ 500000000000000) (hb : 1 ≤ b) : -500000000000000 ≤ a / b ∧ a / b ≤ 500000000000000 := by
  rcases Int.le_total 0 a with h | h
  · have h1 : 0 ≤ a / b := Int.ediv_nonneg h (by omega)
    have h2 : a / b ≤ a := Int.ediv_le_self b h
    omega
  · have h1 : a / b ≤ 0 := Int.ediv_le_of_le_mul (by omega) (by omega)
    have h2 : -500000000000000 ≤ a / b := (Int.le_ediv_iff_mul_le (by omega)).mpr (by
      have := Int.mul_le_mul_of_nonneg_left (show (1 : Int) ≤ b by omega) (show (0 : Int) ≤ 500000000000000 by omega)
      omega)
    omega
/-- a value of the whole, but for the text's length -/
def sp_whole (M : Int → Int) (w : Int) : Int := if w = 0 then M 3 else if w = 1 then M 4 else if w = 2 then M 5 else if w = 3 then M 6 else if w = 4 then M 7 else if w = 5 then M 8 else if w = 6 then sp_arc M (M 8) else if w = 7 then sp_loss M (M 8) else if w = 8 then sp_len M (M 6) else if w = 9 then sp_rateM M else if w = 10 then M 9 else if w = 11 then M 10 else if w = 12 then M 11 else if w = 13 then M 0 else if w = 14 then M 1 else if w = 15 then M 2 else M 15
