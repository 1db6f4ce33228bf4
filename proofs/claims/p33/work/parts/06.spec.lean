/-! what the methods answer, as whole numbers -/
theorem mulB {a b A B : Int} (ha : -A ≤ a ∧ a ≤ A) (hb : -B ≤ b ∧ b ≤ B) : -(A * B) ≤ a * b ∧ a * b ≤ A * B := by
  have hA : 0 ≤ A := by omega
  have hB : 0 ≤ B := by omega
  have h := Int.natAbs_mul a b
  have h1 : (a.natAbs : Int) ≤ A := by omega
  have h2 : (b.natAbs : Int) ≤ B := by omega
  have h3 : (a.natAbs : Int) * (b.natAbs : Int) ≤ A * B := Int.mul_le_mul h1 h2 (by omega) hA
  have h4 : ((a * b).natAbs : Int) ≤ A * B := by rw [h, Int.natCast_mul]; exact h3
  omega
theorem fdiv_a {a b : Int} (ha : 0 ≤ a) : a.tdiv b = a / b := Int.tdiv_eq_ediv_of_nonneg ha
theorem fdiv_b {a b : Int} (hb : 0 < b) (h : a.tdiv b * b = a) : a.tdiv b = a / b := by
  have h2 := Int.mul_ediv_cancel (a.tdiv b) (show b ≠ 0 by omega)
  rw [h] at h2
  exact h2.symm
theorem fdiv_c {a b : Int} (hb : 0 < b) (ha : a < 0) (h : a.tdiv b * b ≠ a) : a.tdiv b - 1 = a / b := by
  have e : a.tdiv b = -((-a) / b) := by
    rw [← Int.tdiv_eq_ediv_of_nonneg (by omega), Int.neg_tdiv, Int.neg_neg]
  have h1 := Int.mul_ediv_add_emod (-a) b
  have h2 := Int.emod_nonneg (-a) (show b ≠ 0 by omega)
  have h3 := Int.emod_lt_of_pos (-a) hb
  have h4 : (-a) % b ≠ 0 := by
    intro z
    apply h
    rw [e, Int.neg_mul, Int.mul_comm]
    omega
  have h5 := (Int.ediv_emod_unique (a := a) (b := b) (r := b - (-a) % b) (q := -((-a) / b) - 1) hb).mpr ⟨by rw [Int.mul_sub, Int.mul_neg]; omega, by omega, by omega⟩
  rw [e, h5.1]
theorem fdiv_r {a b : Int} (hb : 0 < b) : -(if a < 0 then -a else a) ≤ a.tdiv b * b ∧ a.tdiv b * b ≤ (if a < 0 then -a else a) := by
  rcases Int.le_total 0 a with h | h
  · rw [Int.tdiv_eq_ediv_of_nonneg h, if_neg (by omega)]
    have h1 := Int.mul_ediv_add_emod a b
    have h2 := Int.emod_nonneg a (show b ≠ 0 by omega)
    have h3 := Int.emod_lt_of_pos a hb
    have h4 : 0 ≤ a / b := Int.ediv_nonneg h (by omega)
    have h5 : 0 ≤ a / b * b := Int.mul_nonneg h4 (by omega)
    rw [Int.mul_comm] at h1
    omega
  · have e : a.tdiv b = -((-a) / b) := by
      rw [← Int.tdiv_eq_ediv_of_nonneg (by omega), Int.neg_tdiv, Int.neg_neg]
    have h1 := Int.mul_ediv_add_emod (-a) b
    have h2 := Int.emod_nonneg (-a) (show b ≠ 0 by omega)
    have h4 : 0 ≤ (-a) / b := Int.ediv_nonneg (by omega) (by omega)
    have h5 : 0 ≤ (-a) / b * b := Int.mul_nonneg h4 (by omega)
    rw [Int.mul_comm] at h1
    rw [e, Int.neg_mul]
    split <;> omega
def gInv (M : Int → Int) : Prop := (2 ≤ M 3 ∧ M 3 ≤ 6) ∧ (0 ≤ M 4 ∧ M 4 ≤ 9) ∧ (∀ k : Int, 0 ≤ k → k < 6 → 0 ≤ M (16 + k) ∧ M (16 + k) ≤ 500) ∧ (∀ k : Int, 0 ≤ k → k < 9 → (0 ≤ M (22 + 3 * k) ∧ M (22 + 3 * k) ≤ 5) ∧ (-1 ≤ M (23 + 3 * k) ∧ M (23 + 3 * k) ≤ 1) ∧ (0 ≤ M (24 + 3 * k) ∧ M (24 + 3 * k) ≤ 1000000)) ∧ (∀ k : Int, 0 ≤ k → k < M 4 → M (22 + 3 * k) < M 3 ∧ (M (23 + 3 * k) = 1 ∨ M (23 + 3 * k) = -1) ∧ 1 ≤ M (24 + 3 * k))
/-- the stretching of the rod r at the warmth t -/
def sp_str (M : Int → Int) (r t : Int) : Int := M (24 + 3 * r) * M (16 + M (22 + 3 * r)) * (t - 200) / 100000000
def sp_rodsN (M : Int → Int) (t : Int) : Nat → Int
  | 0 => 0
  | n + 1 => sp_rodsN M t n + M (23 + 3 * (n : Int)) * (M (24 + 3 * (n : Int)) + sp_str M n t)
def sp_rods (M : Int → Int) (t : Int) : Int := sp_rodsN M t (M 4).toNat
def sp_sumN (M : Int → Int) : Nat → Int
  | 0 => 0
  | n + 1 => sp_sumN M n + M (24 + 3 * (n : Int))
def sp_bal1 (M : Int → Int) (r : Int) : Int := M (23 + 3 * r) * M (24 + 3 * r) * M (16 + M (22 + 3 * r))
def sp_balN (M : Int → Int) : Nat → Int
  | 0 => 0
  | n + 1 => sp_balN M n + sp_bal1 M n
theorem sp_strB {M : Int → Int} {r t : Int} (hI : gInv M) (hr : 0 ≤ r ∧ r < 9) (ht : -300 ≤ t ∧ t ≤ 600) : (0 ≤ M (24 + 3 * r) * M (16 + M (22 + 3 * r)) ∧ M (24 + 3 * r) * M (16 + M (22 + 3 * r)) ≤ 500000000) ∧ (-250000000000 ≤ M (24 + 3 * r) * M (16 + M (22 + 3 * r)) * (t - 200) ∧ M (24 + 3 * r) * M (16 + M (22 + 3 * r)) * (t - 200) ≤ 250000000000) ∧ -2500 ≤ sp_str M r t ∧ sp_str M r t ≤ 2500 := by
  have q := hI.2.2.2.1 r hr.1 hr.2
  have q2 := hI.2.2.1 (M (22 + 3 * r)) (by omega) (by omega)
  have b0 : 0 ≤ M (24 + 3 * r) * M (16 + M (22 + 3 * r)) := Int.mul_nonneg (by omega) (by omega)
  have b1 := mulB (a := M (24 + 3 * r)) (b := M (16 + M (22 + 3 * r))) (A := 1000000) (B := 500) (by omega) (by omega)
  have b2 := mulB (a := M (24 + 3 * r) * M (16 + M (22 + 3 * r))) (b := t - 200) (A := 500000000) (B := 500) (by omega) (by omega)
  unfold sp_str
  omega
theorem sp_rodsB {M : Int → Int} {t : Int} (hI : gInv M) (ht : -300 ≤ t ∧ t ≤ 600) : ∀ n : Nat, n ≤ 9 → -(1002500 * (n : Int)) ≤ sp_rodsN M t n ∧ sp_rodsN M t n ≤ 1002500 * (n : Int)
  | 0, _ => by simp [sp_rodsN]
  | n + 1, h => by
    have ih := sp_rodsB hI ht n (by omega)
    have q := hI.2.2.2.1 n (by omega) (by omega)
    have q2 := (sp_strB (r := n) hI (by omega) ht).2.2
    have b := mulB (a := M (23 + 3 * (n : Int))) (b := M (24 + 3 * (n : Int)) + sp_str M n t) (A := 1) (B := 1002500) (by omega) (by omega)
    simp only [sp_rodsN]
    omega
theorem sp_balB {M : Int → Int} (hI : gInv M) : ∀ n : Nat, n ≤ 9 → -(500000000 * (n : Int)) ≤ sp_balN M n ∧ sp_balN M n ≤ 500000000 * (n : Int)
  | 0, _ => by simp [sp_balN]
  | n + 1, h => by
    have ih := sp_balB hI n (by omega)
    have q := hI.2.2.2.1 n (by omega) (by omega)
    have q2 := hI.2.2.1 (M (22 + 3 * (n : Int))) (by omega) (by omega)
    have b := mulB (a := M (23 + 3 * (n : Int))) (b := M (24 + 3 * (n : Int))) (A := 1) (B := 1000000) (by omega) (by omega)
    have b2 := mulB (a := M (23 + 3 * (n : Int)) * M (24 + 3 * (n : Int))) (b := M (16 + M (22 + 3 * (n : Int)))) (A := 1000000) (B := 500) (by omega) (by omega)
    simp only [sp_balN, sp_bal1]
    omega
theorem sp_bal1B {M : Int → Int} {r : Int} (hI : gInv M) (hr : 0 ≤ r ∧ r < 9) : -500000000 ≤ sp_bal1 M r ∧ sp_bal1 M r ≤ 500000000 := by
  have q := hI.2.2.2.1 r hr.1 hr.2
  have q2 := hI.2.2.1 (M (22 + 3 * r)) (by omega) (by omega)
  have b := mulB (a := M (23 + 3 * r)) (b := M (24 + 3 * r)) (A := 1) (B := 1000000) (by omega) (by omega)
  have b2 := mulB (a := M (23 + 3 * r) * M (24 + 3 * r)) (b := M (16 + M (22 + 3 * r))) (A := 1000000) (B := 500) (by omega) (by omega)
  unfold sp_bal1
  omega
theorem sp_sumB {M : Int → Int} (hI : gInv M) : ∀ n : Nat, n ≤ 9 → 0 ≤ sp_sumN M n ∧ sp_sumN M n ≤ 1000000 * (n : Int)
  | 0, _ => by simp [sp_sumN]
  | n + 1, h => by
    have ih := sp_sumB hI n (by omega)
    have q := hI.2.2.2.1 n (by omega) (by omega)
    simp only [sp_sumN]
    omega
/-- a sum's next step, where the counter is a whole number -/
theorem sp_rodsS {M : Int → Int} {t i : Int} (h : 0 ≤ i) : sp_rodsN M t (i + 1).toNat = sp_rodsN M t i.toNat + M (23 + 3 * i) * (M (24 + 3 * i) + sp_str M i t) := by
  have e : (i + 1).toNat = i.toNat + 1 := by omega
  have e2 : ((i.toNat : Nat) : Int) = i := by omega
  rw [e, sp_rodsN, e2]
theorem sp_sumS {M : Int → Int} {i : Int} (h : 0 ≤ i) : sp_sumN M (i + 1).toNat = sp_sumN M i.toNat + M (24 + 3 * i) := by
  have e : (i + 1).toNat = i.toNat + 1 := by omega
  have e2 : ((i.toNat : Nat) : Int) = i := by omega
  rw [e, sp_sumN, e2]
theorem sp_balS {M : Int → Int} {i : Int} (h : 0 ≤ i) : sp_balN M (i + 1).toNat = sp_balN M i.toNat + sp_bal1 M i := by
  have e : (i + 1).toNat = i.toNat + 1 := by omega
  have e2 : ((i.toNat : Nat) : Int) = i := by omega
  rw [e, sp_balN, e2]
/-! what stands in a call's way: 0 nothing, 1 no such number, 2 an argument, 3 the state -/
def ck_metal (M : Int → Int) (v : Int) : Int := if 0 ≤ v ∧ v ≤ 500 then (if M 3 < 6 then 0 else 3) else 2
def ck_stretch (M : Int → Int) (k v : Int) : Int := if 0 ≤ k ∧ k < M 3 then (if 0 ≤ v ∧ v ≤ 500 then 0 else 2) else 1
def ck_rod (M : Int → Int) (k d n : Int) : Int := if 0 ≤ k ∧ k < M 3 then (if (d = 1 ∨ d = -1) ∧ 1 ≤ n ∧ n ≤ 1000000 then (if M 4 < 9 then 0 else 3) else 2) else 1
def ck_length (M : Int → Int) (r n : Int) : Int := if 0 ≤ r ∧ r < M 4 then (if 1 ≤ n ∧ n ≤ 1000000 then 0 else 2) else 1
def ck_shelf (k : Int) : Int := if 0 ≤ k ∧ k ≤ 4 then 0 else 1
def ck_warm (k v : Int) : Int := if 0 ≤ k ∧ k ≤ 4 then (if -300 ≤ v ∧ v ≤ 600 then 0 else 2) else 1
def ck_turn (M : Int → Int) (v : Int) : Int := if -1000 ≤ v ∧ v ≤ 1000 then (if -500 ≤ M 7 + v ∧ M 7 + v ≤ 500 then 0 else 3) else 2
def ck_set (w v : Int) : Int := if (w = 0 ∧ 100000 ≤ v ∧ v ≤ 2000000) ∨ (w = 1 ∧ 1 ≤ v ∧ v ≤ 24) ∨ (w = 2 ∧ 0 ≤ v ∧ v ≤ 100) then 0 else 2
def ck_hours (M : Int → Int) (h : Int) : Int := if 1 ≤ h ∧ h ≤ 500 then (if M 9 + h ≤ 100000 then 0 else 3) else 2
/-! what the changes make of a state -/
def st_metal (M : Int → Int) (v : Int) : Int → Int := up (up M (16 + M 3) v) 3 (M 3 + 1)
def st_rod (M : Int → Int) (k d n : Int) : Int → Int := up (up (up (up M (22 + 3 * M 4) k) (23 + 3 * M 4) d) (24 + 3 * M 4) n) 4 (M 4 + 1)
/-- the rods behind r moved by one place, as far as the place i -/
def st_move (M : Int → Int) (r i : Int) : Int → Int := fun j => if 22 + 3 * r ≤ j ∧ j < 22 + 3 * i then M (j + 3) else M j
def st_drop (M : Int → Int) (r : Int) : Int → Int := up (st_move M r (M 4 - 1)) 4 (M 4 - 1)
theorem st_move0 (M : Int → Int) (r : Int) : st_move M r r = M := funext fun j => if_neg (by omega)
theorem st_moveS {M : Int → Int} {r i : Int} (h : r ≤ i) : up (up (up (st_move M r i) (22 + 3 * i) (st_move M r i (22 + 3 * (i + 1)))) (23 + 3 * i) (up (st_move M r i) (22 + 3 * i) (st_move M r i (22 + 3 * (i + 1))) (23 + 3 * (i + 1)))) (24 + 3 * i) (up (up (st_move M r i) (22 + 3 * i) (st_move M r i (22 + 3 * (i + 1)))) (23 + 3 * i) (up (st_move M r i) (22 + 3 * i) (st_move M r i (22 + 3 * (i + 1))) (23 + 3 * (i + 1))) (24 + 3 * (i + 1))) = st_move M r (i + 1) := by
  have e1 : st_move M r i (22 + 3 * (i + 1)) = M (22 + 3 * (i + 1)) := if_neg (by omega)
  have e2 : st_move M r i (23 + 3 * (i + 1)) = M (23 + 3 * (i + 1)) := if_neg (by omega)
  have e3 : st_move M r i (24 + 3 * (i + 1)) = M (24 + 3 * (i + 1)) := if_neg (by omega)
  rw [up_n (show 23 + 3 * (i + 1) ≠ 22 + 3 * i by omega), up_n (show 24 + 3 * (i + 1) ≠ 23 + 3 * i by omega), up_n (show 24 + 3 * (i + 1) ≠ 22 + 3 * i by omega), e1, e2, e3]
  funext j
  unfold up st_move
  by_cases h1 : j = 24 + 3 * i
  · rw [if_pos h1, if_pos (by omega)]; congr 1; omega
  · rw [if_neg h1]
    by_cases h2 : j = 23 + 3 * i
    · rw [if_pos h2, if_pos (by omega)]; congr 1; omega
    · rw [if_neg h2]
      by_cases h3 : j = 22 + 3 * i
      · rw [if_pos h3, if_pos (by omega)]; congr 1; omega
      · rw [if_neg h3]
        by_cases h4 : 22 + 3 * r ≤ j ∧ j < 22 + 3 * i
        · rw [if_pos h4, if_pos (by omega)]
        · rw [if_neg h4, if_neg (by omega)]
def sp_rodv (M : Int → Int) (r w t : Int) : Int := if w = 0 then M (22 + 3 * r) else if w = 1 then M (23 + 3 * r) else if w = 2 then M (24 + 3 * r) else if w = 3 then sp_str M r t else M (24 + 3 * r) + sp_str M r t
/-! the bench -/
def bInv (M : Int → Int) : Prop := ((100000 ≤ M 0 ∧ M 0 ≤ 2000000) ∧ (1 ≤ M 1 ∧ M 1 ≤ 24) ∧ (0 ≤ M 2 ∧ M 2 ≤ 100)) ∧ ((0 ≤ M 5 ∧ M 5 ≤ 4) ∧ (-300 ≤ M 6 ∧ M 6 ≤ 600) ∧ (-500 ≤ M 7 ∧ M 7 ≤ 500) ∧ (0 ≤ M 8 ∧ M 8 ≤ 192)) ∧ ((0 ≤ M 10 ∧ 0 ≤ M 11 ∧ M 10 + M 11 = M 9 ∧ M 9 ≤ 100500) ∧ (-(1000100000 * M 10) ≤ M 12 ∧ M 12 ≤ 1000100000 * M 10) ∧ (0 ≤ M 14 ∧ M 14 ≤ M 10) ∧ (-(1000100000 * M 14) ≤ M 13 ∧ M 13 ≤ 1000100000 * M 14)) ∧ (∀ k : Int, 0 ≤ k → k < 5 → -300 ≤ M (49 + k) ∧ M (49 + k) ≤ 600) ∧ (0 ≤ M 15 ∧ M 15 ≤ 10)
def sp_arc (M : Int → Int) (d : Int) : Int := M 2 + d / 8
def sp_loss (M : Int → Int) (d : Int) : Int := sp_arc M d * sp_arc M d * 165 / 100
def sp_len (M : Int → Int) (t : Int) : Int := sp_rods M t + 10 * M 7
/-- the rate of a length -/
def sp_rate (M : Int → Int) (len d : Int) : Int := max (-1000000000) (min 1000000000 (43200000 * (M 0 - len) / M 0)) - sp_loss M d
def sp_warm (M : Int → Int) (w : Int) : Int := w + (if (M (49 + M 5) - w) / M 1 = 0 ∧ M (49 + M 5) - w ≠ 0 then 1 else (M (49 + M 5) - w) / M 1)
def sp_err (M : Int → Int) : Int := max (-1999999999) (min 2000000000 (M 12 / 24))
theorem sp_arcB {M : Int → Int} {d : Int} (hB : bInv M) (hd : 0 ≤ d ∧ d ≤ 192) : (0 ≤ sp_arc M d ∧ sp_arc M d ≤ 124) ∧ (0 ≤ sp_arc M d * sp_arc M d ∧ sp_arc M d * sp_arc M d ≤ 15376) ∧ 0 ≤ sp_loss M d ∧ sp_loss M d ≤ 25370 := by
  have q := hB.1.2.2
  have a1 : 0 ≤ sp_arc M d ∧ sp_arc M d ≤ 124 := by unfold sp_arc; omega
  have a2 : 0 ≤ sp_arc M d * sp_arc M d := Int.mul_nonneg a1.1 a1.1
  have a3 := mulB (a := sp_arc M d) (b := sp_arc M d) (A := 124) (B := 124) (by omega) (by omega)
  unfold sp_loss
  omega
theorem sp_rateB {M : Int → Int} {len d : Int} (hB : bInv M) (hd : 0 ≤ d ∧ d ≤ 192) : -1000030000 ≤ sp_rate M len d ∧ sp_rate M len d ≤ 1000000000 := by
  have q := (sp_arcB hB hd).2.2
  unfold sp_rate
  omega
theorem sp_warmB {M : Int → Int} {w : Int} (hB : bInv M) (hw : -300 ≤ w ∧ w ≤ 600) : -300 ≤ sp_warm M w ∧ sp_warm M w ≤ 600 := by
  have q1 := hB.1.2.1
  have q2 := hB.2.2.2.1 (M 5) (by have := hB.2.1.1; omega) (by have := hB.2.1.1; omega)
  unfold sp_warm
  have e1 := Int.mul_ediv_add_emod (M (49 + M 5) - w) (M 1)
  have e2 := Int.emod_nonneg (M (49 + M 5) - w) (show M 1 ≠ 0 by omega)
  have e3 := Int.emod_lt_of_pos (M (49 + M 5) - w) (show 0 < M 1 by omega)
  generalize hz : (M (49 + M 5) - w) / M 1 = z at *
  rcases Int.le_total 0 z with h | h
  · have h2 : z ≤ M 1 * z := by
      have := Int.mul_le_mul_of_nonneg_right (show 1 ≤ M 1 by omega) h
      omega
    have hzz : 0 ≤ M 1 * z := by omega
    split <;> omega
  · have h2 : M 1 * z ≤ z := by
      have := Int.mul_le_mul_of_nonneg_right (show 1 ≤ M 1 by omega) (show 0 ≤ -z by omega)
      rw [Int.mul_neg, Int.mul_neg] at this
      omega
    have hz0 : z ≠ 0 ∨ M 1 * z = 0 := by
      by_cases q : z = 0
      · right; rw [q, Int.mul_zero]
      · left; exact q
    have h3 : M (49 + M 5) - w ≤ 0 ∨ z = 0 := by
      rcases Int.lt_or_eq_of_le h with q | q
      · left
        have h4 : M 1 * z ≤ -(M 1) := by
          have := Int.mul_le_mul_of_nonneg_left (show z ≤ -1 by omega) (show 0 ≤ M 1 by omega)
          omega
        omega
      · right; exact q
    have h5 : M (49 + M 5) - w ≤ z ∨ z = 0 := by
      rcases h3 with q | q
      · left
        rcases Int.lt_or_eq_of_le h with q3 | q3
        · have h6 : M 1 * z + (M (49 + M 5) - w) % M 1 ≤ z := by
            have h7 := Int.mul_le_mul_of_nonneg_left (show z ≤ -1 by omega) (show 0 ≤ M 1 - 1 by omega)
            rw [Int.sub_mul] at h7
            omega
          omega
        · omega
      · right; exact q
    split <;> omega
theorem zLoB (k : Nat) : 0 ≤ zLo k ∧ zLo k ≤ 100000 := by unfold zLo; repeat' split <;> omega
theorem zHiB (k : Nat) : 0 ≤ zHi k ∧ zHi k ≤ 2000000 := by unfold zHi; repeat' split <;> omega
theorem divB {a b : Int} (ha : -1000 ≤ a ∧ a ≤ 1000) (hb : 1 ≤ b) : -1000 ≤ a / b ∧ a / b ≤ 1000 := by
  rcases Int.le_total 0 a with h | h
  · have h1 : 0 ≤ a / b := Int.ediv_nonneg h (by omega)
    have h2 : a / b ≤ a := Int.ediv_le_self b h
    omega
  · have h1 : a / b ≤ 0 := Int.ediv_le_of_le_mul (by omega) (by omega)
    have h2 : -1000 ≤ a / b := (Int.le_ediv_iff_mul_le (by omega)).mpr (by
      have := Int.mul_le_mul_of_nonneg_left (show (1 : Int) ≤ b by omega) (show (0 : Int) ≤ 1000 by omega)
      omega)
    omega
/-- the log with its days moved by one place -/
def st_shift (M : Int → Int) : Int → Int := fun j => if 58 ≤ j ∧ j ≤ 93 then M (j - 4) else M j
def st_day (M : Int → Int) (w r d h : Int) : Int → Int := up (up (up (up (up (st_shift M) 54 w) 55 r) 56 d) 57 h) 15 (min (M 15 + 1) 10)
theorem set_log_shift (ct : Nat → Nat) (a : Nat → Nat) (M : Int → Int) : (logW ct a M).set 1 (a 10, .inl (ct 1, 40, .inr (.inl (fun k => zJ (clip 40 (fun x => if 4 ≤ x ∧ x < 4 + 36 then (fun x => M (54 + x)) (0 + (x - 4)) else (fun x => M (54 + x)) x) (k : Int)))))) = logW ct a (st_shift M) := by
  have e : aJ ct (a 10) 40 (fun x => st_shift M (54 + x)) = aJ ct (a 10) 40 (fun x => if 4 ≤ x ∧ x < 4 + 36 then (fun x => M (54 + x)) (0 + (x - 4)) else (fun x => M (54 + x)) x) := aJ_eq (fun x h0 h1 => by
    unfold st_shift
    by_cases h : 4 ≤ x
    · rw [if_pos (by omega), if_pos (by omega)]
      exact congrArg M (by omega)
    · rw [if_neg (by omega), if_neg (by omega)])
  have e15 : st_shift M 15 = M 15 := if_neg (by decide)
  unfold logW
  rw [e, e15]
  rfl
