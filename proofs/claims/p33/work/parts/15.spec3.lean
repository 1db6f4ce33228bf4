/-! questions: what the hours would bring, the range of the rates, the best nut, the length that matches -/
def sp_cw (M : Int → Int) : Nat → Int
  | 0 => M 6
  | n + 1 => sp_warm M (sp_cw M n)
def sp_cs (M : Int → Int) : Nat → Int
  | 0 => 0
  | n + 1 => sp_cs M n + sp_rate M (sp_len M (sp_cw M (n + 1))) (M 8 - (n : Int))
theorem sp_cwB {M : Int → Int} (hB : bInv M) : ∀ n : Nat, -300 ≤ sp_cw M n ∧ sp_cw M n ≤ 600
  | 0 => hB.2.1.2.1
  | n + 1 => sp_warmB hB (sp_cwB hB n)
theorem sp_csB {M : Int → Int} (hB : bInv M) : ∀ n : Nat, (n : Int) ≤ M 8 → -(1000030000 * (n : Int)) ≤ sp_cs M n ∧ sp_cs M n ≤ 1000030000 * (n : Int)
  | 0, _ => by simp [sp_cs]
  | n + 1, h => by
    have ih := sp_csB hB n (by omega)
    have q := sp_rateB (len := sp_len M (sp_cw M (n + 1))) (d := M 8 - (n : Int)) hB (by have := hB.2.1.2.2.2; omega)
    simp only [sp_cs]
    omega
theorem sp_cwS {M : Int → Int} {i : Int} (h : 0 ≤ i) : sp_cw M (i + 1).toNat = sp_warm M (sp_cw M i.toNat) := by
  rw [show (i + 1).toNat = i.toNat + 1 by omega]
  rfl
theorem sp_csS {M : Int → Int} {i : Int} (h : 0 ≤ i) : sp_cs M (i + 1).toNat = sp_cs M i.toNat + sp_rate M (sp_len M (sp_cw M (i + 1).toNat)) (M 8 - i) := by
  have e2 : ((i.toNat : Nat) : Int) = i := by omega
  rw [show (i + 1).toNat = i.toNat + 1 by omega, sp_cs, e2]
/-- the greatest and the least rate at lo, lo + 10 .. -/
def sp_rt (M : Int → Int) (t : Int) : Int := sp_rate M (sp_len M t) (M 8)
def sp_mx (M : Int → Int) (lo : Int) : Nat → Int
  | 0 => sp_rt M lo
  | n + 1 => max (sp_mx M lo n) (sp_rt M (lo + 10 * ((n : Int) + 1)))
def sp_mn (M : Int → Int) (lo : Int) : Nat → Int
  | 0 => sp_rt M lo
  | n + 1 => min (sp_mn M lo n) (sp_rt M (lo + 10 * ((n : Int) + 1)))
theorem sp_mxB {M : Int → Int} {lo : Int} (hB : bInv M) : ∀ n : Nat, (-1000030000 ≤ sp_mx M lo n ∧ sp_mx M lo n ≤ 1000000000) ∧ -1000030000 ≤ sp_mn M lo n ∧ sp_mn M lo n ≤ 1000000000
  | 0 => ⟨sp_rateB hB hB.2.1.2.2.2, sp_rateB hB hB.2.1.2.2.2⟩
  | n + 1 => by
    have ih := sp_mxB (lo := lo) hB n
    have q := sp_rateB (len := sp_len M (lo + 10 * ((n : Int) + 1))) hB hB.2.1.2.2.2
    simp only [sp_mx, sp_mn, sp_rt]
    omega
theorem sp_mxS {M : Int → Int} {lo i : Int} (h : 0 ≤ i) : sp_mx M lo (i + 1).toNat = max (sp_mx M lo i.toNat) (sp_rt M (lo + 10 * (i + 1))) ∧ sp_mn M lo (i + 1).toNat = min (sp_mn M lo i.toNat) (sp_rt M (lo + 10 * (i + 1))) := by
  have e2 : ((i.toNat : Nat) : Int) = i := by omega
  rw [show (i + 1).toNat = i.toNat + 1 by omega, sp_mx, sp_mn, e2]
  exact ⟨rfl, rfl⟩
def sp_range (M : Int → Int) (lo hi : Int) : Int := sp_mx M lo ((hi - lo) / 10).toNat - sp_mn M lo ((hi - lo) / 10).toNat
/-! the best nut -/
def sp_nr (M : Int → Int) (q n : Int) : Int := sp_rate M (q + 10 * n) (M 8)
def sp_abs (x : Int) : Int := if x < 0 then -x else x
def isBest (f : Int → Int) (n : Int) : Prop := (-500 ≤ n ∧ n ≤ 500) ∧ ∀ k : Int, -500 ≤ k → k ≤ 500 → sp_abs (f n) ≤ sp_abs (f k) ∧ (k < n → sp_abs (f n) < sp_abs (f k))
theorem isBest_one {f : Int → Int} {a b : Int} (ha : isBest f a) (hb : isBest f b) : a = b := by
  rcases Int.lt_trichotomy a b with h | h | h
  · have h1 := (hb.2 a ha.1.1 ha.1.2).2 h
    have h2 := (ha.2 b hb.1.1 hb.1.2).1
    omega
  · exact h
  · have h1 := (ha.2 b hb.1.1 hb.1.2).2 h
    have h2 := (hb.2 a ha.1.1 ha.1.2).1
    omega
/-- the least nut with a rate to a bound, or 501 -/
def isLeast (f : Int → Int) (b n : Int) : Prop := (-500 ≤ n ∧ n ≤ 501) ∧ (∀ k : Int, -500 ≤ k → k < n → b < f k) ∧ (n ≤ 500 → f n ≤ b)
def antiT (f : Int → Int) : Prop := ∀ i j : Int, i ≤ j → f j ≤ f i
theorem sp_nr_anti {M : Int → Int} {q : Int} (hB : bInv M) : antiT (sp_nr M q) := by
  intro i j h
  have h0 := hB.1.1
  have h1 : 43200000 * (M 0 - (q + 10 * j)) / M 0 ≤ 43200000 * (M 0 - (q + 10 * i)) / M 0 := Int.ediv_le_ediv (by omega) (by omega)
  unfold sp_nr sp_rate
  omega
/-- what the halving finds -/
theorem best_of {f : Int → Int} (hf : antiT f) {e : Int} (he : isLeast f 0 e) {n : Int} (hn : (e ≤ -500 ∧ n = -500) ∨ (-500 < e ∧ ((e > 500 ∨ f (e - 1) ≤ -f e) ∧ isLeast f (f (e - 1)) n)) ∨ (-500 < e ∧ e ≤ 500 ∧ -f e < f (e - 1) ∧ n = e)) : isBest f n := by
  obtain ⟨h1, h2, h3⟩ := he
  rcases hn with ⟨a, rfl⟩ | ⟨a, b, c1, c2, c3⟩ | ⟨a, b, c, rfl⟩
  · refine ⟨by omega, fun k k1 k2 => ?_⟩
    have e0 : e = -500 := by omega
    have q0 := h3 (by omega)
    rw [e0] at q0
    have q1 := hf (-500) k k1
    unfold sp_abs
    repeat' split <;> omega
  · have p1 := h2 (e - 1) (by omega) (by omega)
    have n500 : n ≤ e - 1 := by
      rcases Int.lt_or_le (e - 1) n with z | z
      · exact absurd (c2 (e - 1) (by omega) z) (by omega)
      · exact z
    have p2 := c3 (by omega)
    have p3 := hf n (e - 1) n500
    refine ⟨by omega, fun k k1 k2 => ?_⟩
    rcases Int.lt_or_le k e with z | z
    · have p4 := h2 k k1 z
      have p5 := hf k (e - 1) (by omega)
      have p6 : k < n → f (e - 1) < f k := c2 k k1
      by_cases kn : k < n
      · have p7 := p6 kn
        unfold sp_abs
        repeat' split <;> omega
      · unfold sp_abs
        repeat' split <;> omega
    · have p4 := hf e k z
      have p5 := h3 (by omega)
      unfold sp_abs
      repeat' split <;> omega
  · have p0 := h3 b
    refine ⟨by omega, fun k k1 k2 => ?_⟩
    rcases Int.lt_or_le k n with z | z
    · have p4 := hf k (n - 1) (by omega)
      unfold sp_abs
      repeat' split <;> omega
    · have p4 := hf n k z
      unfold sp_abs
      repeat' split <;> omega
/-- the best nut as a scan finds it -/
def sp_bestN (f : Int → Int) : Nat → Int
  | 0 => -500
  | n + 1 => if sp_abs (f (-500 + (n : Int))) < sp_abs (f (sp_bestN f n)) then -500 + (n : Int) else sp_bestN f n
theorem sp_bestI (f : Int → Int) : ∀ n : Nat, n ≤ 1001 → (-500 ≤ sp_bestN f n ∧ (sp_bestN f n < -500 + (n : Int) ∨ (n = 0 ∧ sp_bestN f n = -500))) ∧ ∀ k : Int, -500 ≤ k → k < -500 + (n : Int) → sp_abs (f (sp_bestN f n)) ≤ sp_abs (f k) ∧ (k < sp_bestN f n → sp_abs (f (sp_bestN f n)) < sp_abs (f k))
  | 0, _ => ⟨⟨Int.le_refl _, Or.inr ⟨rfl, rfl⟩⟩, fun k h1 h2 => by omega⟩
  | n + 1, h => by
    obtain ⟨⟨a, b⟩, c⟩ := sp_bestI f n (by omega)
    simp only [sp_bestN]
    split
    · next hlt =>
      refine ⟨⟨by omega, Or.inl (by omega)⟩, fun k h1 h2 => ?_⟩
      rcases Int.lt_or_le k (-500 + (n : Int)) with z | z
      · have := (c k h1 z).1
        omega
      · have e : k = -500 + (n : Int) := by omega
        subst e
        omega
    · next hge =>
      refine ⟨⟨a, Or.inl (by rcases b with b | ⟨b1, b2⟩ <;> omega)⟩, fun k h1 h2 => ?_⟩
      rcases Int.lt_or_le k (-500 + (n : Int)) with z | z
      · exact c k h1 z
      · have e : k = -500 + (n : Int) := by omega
        subst e
        refine ⟨by omega, fun z2 => ?_⟩
        rcases b with b | ⟨b1, b2⟩ <;> omega
theorem sp_best_is (f : Int → Int) : isBest f (sp_bestN f 1001) := by
  obtain ⟨⟨a, b⟩, c⟩ := sp_bestI f 1001 (Nat.le_refl _)
  refine ⟨⟨a, by rcases b with b | ⟨b1, b2⟩ <;> omega⟩, fun k h1 h2 => c k h1 (by omega)⟩
def sp_best (M : Int → Int) : Int := sp_bestN (sp_nr M (sp_rods M (M 6))) 1001
/-- halving: a step of it -/
def lnI (f : Int → Int) (b s L : Int) : Prop := (s = 0 ∨ s = 1 ∨ s = 2 ∨ s = 4 ∨ s = 8 ∨ s = 16 ∨ s = 32 ∨ s = 64 ∨ s = 128 ∨ s = 256 ∨ s = 512) ∧ (-501 ≤ L ∧ L ≤ 500) ∧ (L = -501 ∨ b < f L) ∧ ∀ k : Int, L + (if s = 0 then 1 else 2 * s) ≤ k → k ≤ 500 → f k ≤ b
theorem lnI_yes {f : Int → Int} {b s L : Int} (h : lnI f b s L) (hs : 0 < s) (h1 : L + s ≤ 500) (h2 : b < f (L + s)) : lnI f b (s / 2) (L + s) := by
  obtain ⟨a1, a2, a3, a4⟩ := h
  rw [if_neg (by omega)] at a4
  refine ⟨by omega, by omega, Or.inr h2, fun k k1 k2 => a4 k ?_ k2⟩
  split at k1 <;> omega
theorem lnI_no {f : Int → Int} (hf : antiT f) {b s L : Int} (h : lnI f b s L) (hs : 0 < s) (h2 : 500 < L + s ∨ f (L + s) ≤ b) : lnI f b (s / 2) L := by
  obtain ⟨a1, a2, a3, a4⟩ := h
  refine ⟨by omega, a2, a3, fun k k1 k2 => ?_⟩
  have hk : L + s ≤ k := by split at k1 <;> omega
  rcases h2 with h2 | h2
  · omega
  · exact Int.le_trans (hf _ _ hk) h2
theorem lnI_end {f : Int → Int} (hf : antiT f) {b L : Int} (h : lnI f b 0 L) : isLeast f b (L + 1) := by
  obtain ⟨a1, a2, a3, a4⟩ := h
  rw [if_pos rfl] at a4
  refine ⟨by omega, fun k k1 k2 => ?_, fun q => a4 _ (Int.le_refl _) q⟩
  rcases a3 with a3 | a3
  · omega
  · exact Int.lt_of_lt_of_le a3 (hf k L (by omega))
/-! the length that matches -/
def sp_bal (M : Int → Int) : Int := sp_balN M (M 4).toNat
def sp_clamp (v lo hi : Int) : Int := max lo (min hi v)
def sp_open (M : Int → Int) (r : Int) : Int := -M (23 + 3 * r) * (sp_bal M - sp_bal1 M r)
def sp_match (M : Int → Int) (r : Int) : Int := if M (16 + M (22 + 3 * r)) = 0 then 1 else
  if sp_abs (sp_clamp (sp_open M r / M (16 + M (22 + 3 * r)) + 1) 1 1000000 * M (16 + M (22 + 3 * r)) - sp_open M r) < sp_abs (sp_clamp (sp_open M r / M (16 + M (22 + 3 * r))) 1 1000000 * M (16 + M (22 + 3 * r)) - sp_open M r) then sp_clamp (sp_open M r / M (16 + M (22 + 3 * r)) + 1) 1 1000000 else sp_clamp (sp_open M r / M (16 + M (22 + 3 * r))) 1 1000000
