/-! p33: what its law asks, in whole numbers -/
def sp_low (v n : Int) : Int := v % 2147483648 % n
theorem sp_lowB {v n : Int} (hn : 0 < n) : 0 ≤ sp_low v n ∧ sp_low v n < n := ⟨Int.emod_nonneg _ (by omega), Int.emod_lt_of_pos _ hn⟩
theorem zI_low (v : Int) : zI v &&& zI 2147483647 = zI (v % 2147483648) := by
  apply Int32.toBitVec_inj.mp
  apply BitVec.eq_of_toNat_eq
  show ((zI v).toBitVec &&& (zI 2147483647).toBitVec).toNat = (BitVec.ofInt 32 (v % 2147483648)).toNat
  rw [BitVec.toNat_and]
  have e : (zI 2147483647).toBitVec.toNat = 2 ^ 31 - 1 := by decide
  rw [e, Nat.and_two_pow_sub_one_eq_mod]
  show (BitVec.ofInt 32 v).toNat % 2 ^ 31 = _
  rw [BitVec.toNat_ofInt, BitVec.toNat_ofInt]
  have e2 : ((2 ^ 32 : Nat) : Int) = 4294967296 := by decide
  rw [e2]
  omega
theorem shrB {v : Int} {n : Nat} (hv : -2147483648 ≤ v ∧ v ≤ 2147483647) : -2147483648 ≤ v / ((2 ^ n : Nat) : Int) ∧ v / ((2 ^ n : Nat) : Int) ≤ 2147483647 := by
  have hb : 1 ≤ ((2 ^ n : Nat) : Int) := by
    have := Nat.one_le_two_pow (n := n)
    omega
  generalize ((2 ^ n : Nat) : Int) = b at *
  rcases Int.le_total 0 v with h | h
  · have h1 : 0 ≤ v / b := Int.ediv_nonneg h (by omega)
    have h2 : v / b ≤ v := Int.ediv_le_self b h
    omega
  · have h1 : v / b ≤ 0 := Int.ediv_le_of_le_mul (by omega) (by omega)
    have h2 : -2147483648 ≤ v / b := (Int.le_ediv_iff_mul_le (by omega)).mpr (by
      have := Int.mul_le_mul_of_nonneg_left hb (show (0 : Int) ≤ 2147483648 by omega)
      omega)
    omega
theorem zI_shr {v k : Int} {n : Nat} {d : Int} (hv : -2147483648 ≤ v ∧ v ≤ 2147483647) (he : ((zI k &&& 31).toBitVec.smod 32).toNat = n) (hd : ((2 ^ n : Nat) : Int) = d) : zI v >>> (zI k &&& 31) = zI (v / d) := by
  subst hd
  apply Int32.toInt_inj.mp
  rw [zI_toInt (shrB hv)]
  show (zI v >>> (zI k &&& 31)).toBitVec.toInt = _
  rw [Int32.toBitVec_shiftRight, BitVec.sshiftRight_eq', he, BitVec.toInt_sshiftRight]
  show (zI v).toInt >>> n = _
  rw [zI_toInt hv, Int.shiftRight_eq_div_pow]
theorem sp_fl0 {n : Int} (hn : 1 ≤ n ∧ n ≤ 8589934591) : FP.fdiv (FP.l2f (zJ 0)) (FP.l2f (zJ n)) = FP.fconst0 := by
  obtain ⟨d, r, d1, d2, d3, d4⟩ := fl_ofI (a := n) (by omega) (by omega)
  rw [decide_eq_false (show ¬ n < 0 by omega)] at d1
  have e0 : FP.Core.val32 (FP.l2f (zJ 0)) = .fin false 0 (-149) := by decide +kernel
  refine fl_is (s := false) (c := 0) (q := -149) ?_ fl_c0
  show FP.Core.val32 (FP.Core.fdiv _ _) = _
  rw [FP.Core.val32_fdiv, e0, d1]
  show (if d = 0 then _ else FP.Core.roundRatio FP.Core.b32 (false != false) 0 d (-149 - r)) = _
  rw [if_neg (by omega)]
  unfold FP.Core.roundRatio
  rw [if_pos rfl, fl_qmin]
  rfl
/-- the sign of the balance's bits -/
theorem fl_quotS {a n : Int} (ha : -8589934591 ≤ a ∧ a ≤ 8589934591) (hn : 1 ≤ n ∧ n ≤ 8589934591) (h0 : a ≠ 0) : (0 < a ∧ ∃ E T : Int, (60 ≤ E ∧ E ≤ 200) ∧ (0 ≤ T ∧ T < 8388608) ∧ FP.fdiv (FP.l2f (zJ a)) (FP.l2f (zJ n)) = fbit E T) ∨ (a < 0 ∧ ∃ E T : Int, (60 ≤ E ∧ E ≤ 200) ∧ (0 ≤ T ∧ T < 8388608) ∧ FP.fdiv (FP.l2f (zJ a)) (FP.l2f (zJ n)) = fbitn E T) := by
  obtain ⟨d, r, d1, d2, d3, d4⟩ := fl_ofI (a := n) (by omega) (by omega)
  rw [decide_eq_false (show ¬ n < 0 by omega)] at d1
  obtain ⟨c, q, c1, c2, c3, c4⟩ := fl_ofI h0 (by omega)
  have hl := fl_lead (A := c) (B := d) (by omega) (by omega) (a := 1) (b := 1) (by omega) (by omega)
  obtain ⟨u, v, u1, u2, u3, u4⟩ := fl_norm (decide (a < 0)) (A := c) (B := d) (e := q - r) (by omega) (by omega) (lo := -1) (hi := 0) (by omega) (by omega) (by omega)
  have hv : FP.Core.val32 (FP.fdiv (FP.l2f (zJ a)) (FP.l2f (zJ n))) = .fin (decide (a < 0)) u v := by
    show FP.Core.val32 (FP.Core.fdiv _ _) = _
    rw [FP.Core.val32_fdiv, c1, d1]
    show (if d = 0 then _ else FP.Core.roundRatio FP.Core.b32 (decide (a < 0) != false) c d (q - r)) = _
    rw [if_neg (by omega), show (decide (a < 0) != false) = decide (a < 0) from by cases decide (a < 0) <;> rfl]
    exact u1
  have eT : (8388608 + ((u : Int) - 8388608)).toNat = u := by omega
  by_cases hs : a < 0
  · refine Or.inr ⟨hs, v + 150, (u : Int) - 8388608, by omega, by omega, ?_⟩
    rw [decide_eq_true hs] at hv
    have w := fbitn_v (E := v + 150) (T := (u : Int) - 8388608) (by omega) (by omega)
    rw [eT, show v + 150 - 150 = v by omega] at w
    exact fl_is hv w
  · refine Or.inl ⟨by omega, v + 150, (u : Int) - 8388608, by omega, by omega, ?_⟩
    rw [decide_eq_false hs] at hv
    have w := fbit_v (E := v + 150) (T := (u : Int) - 8388608) (by omega) (by omega)
    rw [eT, show v + 150 - 150 = v by omega] at w
    exact fl_is hv w
theorem sp_sumL {M : Int → Int} (hI : gInv M) : ∀ n : Nat, (n : Int) ≤ M 4 → (n : Int) ≤ sp_sumN M n
  | 0, _ => by simp [sp_sumN]
  | n + 1, h => by
    have ih := sp_sumL hI n (by omega)
    have q := hI.2.2.2.2 n (by omega) (by omega)
    simp only [sp_sumN]
    omega
theorem sp_bitsS {M : Int → Int} (hI : gInv M) : (sp_bal M = 0 → sp_bits M = 0) ∧ (0 ≤ sp_bal M → 0 ≤ sp_bits M) ∧ (sp_bal M < 0 → sp_bits M < 0) := by
  have i4 := hI.2.1
  by_cases hz : sp_sumN M (M 4).toNat = 0
  · have q := sp_sumL hI (M 4).toNat (by omega)
    have e4 : (M 4).toNat = 0 := by omega
    have e : sp_bits M = 0 := by
      unfold sp_bits
      exact if_pos hz
    have e2 : sp_bal M = 0 := by
      unfold sp_bal
      rw [e4]
      rfl
    omega
  · have b1 := sp_balB hI (M 4).toNat (by omega)
    have b2 := sp_sumB hI (M 4).toNat (by omega)
    have b3 : sp_bal M = sp_balN M (M 4).toNat := rfl
    by_cases h0 : sp_bal M = 0
    · have e : sp_bits M = 0 := sp_bits_0 hz (by unfold sp_fl; rw [h0]; exact sp_fl0 (by omega))
      omega
    · rcases fl_quotS (a := sp_bal M) (n := sp_sumN M (M 4).toNat) (by omega) (by omega) h0 with ⟨s, E, T, hE, hT, q⟩ | ⟨s, E, T, hE, hT, q⟩
      · have e := sp_bits_p hz q hE hT
        omega
      · have e := sp_bits_n hz q hE hT
        omega
/-- the rate is the floor, but where it is cut -/
theorem rate_q {a m r : Int} (hm : 0 < m) (hr : r = max (-1000000000) (min 1000000000 (a / m))) : (r = 1000000000 ∧ r * m ≤ a) ∨ (r = -1000000000 ∧ a ≤ r * m) ∨ (r * m ≤ a ∧ a < (r + 1) * m) := by
  have h1 := Int.mul_ediv_add_emod a m
  have h2 := Int.emod_nonneg a (show m ≠ 0 by omega)
  have h3 := Int.emod_lt_of_pos a hm
  generalize hq : a / m = q at *
  rw [Int.mul_comm] at h1
  by_cases c1 : 1000000000 < q
  · left
    have e : r = 1000000000 := by omega
    have h4 := Int.mul_le_mul_of_nonneg_right (show r ≤ q by omega) (show 0 ≤ m by omega)
    exact ⟨e, by omega⟩
  · by_cases c2 : q < -1000000000
    · right; left
      have e : r = -1000000000 := by omega
      have h4 := Int.mul_le_mul_of_nonneg_right (show q + 1 ≤ r by omega) (show 0 ≤ m by omega)
      rw [Int.add_mul] at h4
      exact ⟨e, by omega⟩
    · right; right
      have e : r = q := by omega
      rw [e, Int.add_mul]
      omega
/-- another grid that is the same -/
theorem str_g {M N : Int → Int} (hI : gInv M) (h : ∀ j : Int, (j = 3 ∨ j = 4 ∨ (16 ≤ j ∧ j ≤ 48)) → N j = M j) {r t : Int} (hr : 0 ≤ r ∧ r < 9) : sp_str N r t = sp_str M r t := by
  have q := hI.2.2.2.1 r hr.1 hr.2
  unfold sp_str
  rw [h (24 + 3 * r) (by omega), h (22 + 3 * r) (by omega), h (16 + M (22 + 3 * r)) (by omega)]
theorem rodsN_g {M N : Int → Int} (hI : gInv M) (h : ∀ j : Int, (j = 3 ∨ j = 4 ∨ (16 ≤ j ∧ j ≤ 48)) → N j = M j) {t : Int} : ∀ n : Nat, n ≤ 9 → sp_rodsN N t n = sp_rodsN M t n
  | 0, _ => rfl
  | n + 1, hn => by
    simp only [sp_rodsN]
    rw [rodsN_g hI h n (by omega), str_g hI h (by omega), h (23 + 3 * (n : Int)) (by omega), h (24 + 3 * (n : Int)) (by omega)]
/-- the rate with another nut -/
theorem rate_nut {M : Int → Int} (hI : gInv M) (b : Int) : sp_rateM (up M 7 b) = sp_nr M (sp_rods M (M 6)) b := by
  have i4 := hI.2.1
  have e := rodsN_g hI (N := up M 7 b) (fun j hj => up_n (by omega)) (t := M 6) (M 4).toNat (by omega)
  unfold sp_rateM sp_nr sp_len sp_rods
  rw [up_n (show (6 : Int) ≠ 7 by decide), up_n (show (8 : Int) ≠ 7 by decide), up_n (show (4 : Int) ≠ 7 by decide), up_s, e]
  unfold sp_rate sp_loss sp_arc
  rw [up_n (show (0 : Int) ≠ 7 by decide), up_n (show (2 : Int) ≠ 7 by decide)]
theorem up_self {M : Int → Int} {j v : Int} (h : v = M j) : up M j v = M := by
  subst h
  funext x
  unfold up
  split
  · rename_i e
    rw [e]
  · rfl
theorem up_up {M : Int → Int} {j v w : Int} : up (up M j v) j w = up M j w := by
  funext x
  unfold up
  split <;> rfl
theorem rate_own {M : Int → Int} (hI : gInv M) : sp_rateM M = sp_nr M (sp_rods M (M 6)) (M 7) := by
  have e := rate_nut hI (M 7)
  rw [up_self rfl] at e
  exact e
theorem best_rate {M : Int → Int} (hI : gInv M) (hB : bInv M) : sp_abs (sp_rateM (up M 7 (sp_best M))) ≤ sp_abs (sp_rateM M) := by
  have j7 := hB.2.1.2.2.1
  rw [rate_nut hI, rate_own hI]
  exact ((sp_best_is (sp_nr M (sp_rods M (M 6)))).2 (M 7) j7.1 j7.2).1
/-- the length that matches is the best of all -/
theorem match_is {M : Int → Int} (hI : gInv M) {r : Int} (hr : 0 ≤ r ∧ r < M 4) : (1 ≤ sp_match M r ∧ sp_match M r ≤ 1000000) ∧ ∀ L : Int, 1 ≤ L → L ≤ 1000000 → sp_abs (sp_match M r * M (16 + M (22 + 3 * r)) - sp_open M r) ≤ sp_abs (L * M (16 + M (22 + 3 * r)) - sp_open M r) := by
  have i4 := hI.2.1
  have q := hI.2.2.2.1 r (by omega) (by omega)
  have q2 := hI.2.2.1 (M (22 + 3 * r)) (by omega) (by omega)
  unfold sp_match
  generalize M (16 + M (22 + 3 * r)) = s at *
  generalize sp_open M r = o at *
  by_cases hs : s = 0
  · rw [if_pos hs]
    subst hs
    refine ⟨by omega, fun L h1 h2 => ?_⟩
    rw [Int.mul_zero, Int.mul_zero]
    exact Int.le_refl _
  · rw [if_neg hs]
    have h1 := Int.mul_ediv_add_emod o s
    have h2 := Int.emod_nonneg o hs
    have h3 := Int.emod_lt_of_pos o (show 0 < s by omega)
    generalize hf : o / s = f at *
    rw [Int.mul_comm] at h1
    have b1 : 1 ≤ sp_clamp f 1 1000000 ∧ sp_clamp f 1 1000000 ≤ 1000000 := by unfold sp_clamp; omega
    have b2 : 1 ≤ sp_clamp (f + 1) 1 1000000 ∧ sp_clamp (f + 1) 1 1000000 ≤ 1000000 := by unfold sp_clamp; omega
    have key : ∀ L : Int, 1 ≤ L → L ≤ 1000000 → sp_abs (sp_clamp f 1 1000000 * s - o) ≤ sp_abs (L * s - o) ∨ sp_abs (sp_clamp (f + 1) 1 1000000 * s - o) ≤ sp_abs (L * s - o) := by
      intro L l1 l2
      rcases Int.lt_or_le f L with z | z
      · right
        have e1 : sp_clamp (f + 1) 1 1000000 ≤ L := by unfold sp_clamp; omega
        have e2 : f + 1 ≤ sp_clamp (f + 1) 1 1000000 := by unfold sp_clamp; omega
        have m1 := Int.mul_le_mul_of_nonneg_right e1 (show 0 ≤ s by omega)
        have m2 := Int.mul_le_mul_of_nonneg_right e2 (show 0 ≤ s by omega)
        rw [Int.add_mul] at m2
        unfold sp_abs
        repeat' split <;> omega
      · left
        have e1 : L ≤ sp_clamp f 1 1000000 := by unfold sp_clamp; omega
        have e2 : sp_clamp f 1 1000000 ≤ f := by unfold sp_clamp; omega
        have m1 := Int.mul_le_mul_of_nonneg_right e1 (show 0 ≤ s by omega)
        have m2 := Int.mul_le_mul_of_nonneg_right e2 (show 0 ≤ s by omega)
        unfold sp_abs
        repeat' split <;> omega
    by_cases hc : sp_abs (sp_clamp (f + 1) 1 1000000 * s - o) < sp_abs (sp_clamp f 1 1000000 * s - o)
    · rw [if_pos hc]
      refine ⟨b2, fun L l1 l2 => ?_⟩
      rcases key L l1 l2 with k | k <;> omega
    · rw [if_neg hc]
      refine ⟨b1, fun L l1 l2 => ?_⟩
      rcases key L l1 l2 with k | k <;> omega
/-- the balance with another length -/
theorem bal1_len {M : Int → Int} (hI : gInv M) {r L : Int} (hr : 0 ≤ r ∧ r < 9) {k : Int} (hk : 0 ≤ k ∧ k < 9) : sp_bal1 (up M (24 + 3 * r) L) k = if k = r then M (23 + 3 * r) * L * M (16 + M (22 + 3 * r)) else sp_bal1 M k := by
  have q := hI.2.2.2.1 k hk.1 hk.2
  unfold sp_bal1
  rw [up_n (show 23 + 3 * k ≠ 24 + 3 * r by omega), up_n (show 22 + 3 * k ≠ 24 + 3 * r by omega), up_n (show 16 + M (22 + 3 * k) ≠ 24 + 3 * r by omega)]
  by_cases z : k = r
  · subst z
    rw [if_pos rfl, up_s]
  · rw [if_neg z, up_n (show 24 + 3 * k ≠ 24 + 3 * r by omega)]
theorem balN_len {M : Int → Int} (hI : gInv M) {r L : Int} (hr : 0 ≤ r ∧ r < 9) : ∀ n : Nat, n ≤ 9 → sp_balN (up M (24 + 3 * r) L) n = sp_balN M n + (if r < (n : Int) then M (23 + 3 * r) * L * M (16 + M (22 + 3 * r)) - sp_bal1 M r else 0)
  | 0, _ => by
    rw [if_neg (by omega)]
    rfl
  | n + 1, h => by
    have ih := balN_len hI (L := L) hr n (by omega)
    have e := bal1_len hI (L := L) hr (k := (n : Int)) (by omega)
    simp only [sp_balN]
    rw [ih, e]
    by_cases z : (n : Int) = r
    · rw [if_pos z, if_neg (by omega), if_pos (by omega), z]
      omega
    · rw [if_neg z]
      by_cases z2 : r < (n : Int)
      · rw [if_pos z2, if_pos (by omega)]
        omega
      · rw [if_neg z2, if_neg (by omega)]
        omega
theorem bal_len {M : Int → Int} (hI : gInv M) {r L : Int} (hr : 0 ≤ r ∧ r < M 4) : sp_bal (up M (24 + 3 * r) L) = sp_bal M - sp_bal1 M r + M (23 + 3 * r) * L * M (16 + M (22 + 3 * r)) := by
  have i4 := hI.2.1
  have e := balN_len hI (L := L) (r := r) (by omega) (M 4).toNat (by omega)
  unfold sp_bal
  rw [up_n (show (4 : Int) ≠ 24 + 3 * r by omega), e, if_pos (by omega)]
  omega
theorem match_len {M : Int → Int} (hI : gInv M) {r L : Int} (hr : 0 ≤ r ∧ r < M 4) : sp_match (up M (24 + 3 * r) L) r = sp_match M r := by
  have i4 := hI.2.1
  have q := hI.2.2.2.1 r (by omega) (by omega)
  have e1 := bal_len hI (L := L) hr
  have e2 := bal1_len hI (L := L) (r := r) (by omega) (k := r) (by omega)
  rw [if_pos rfl] at e2
  have eo : sp_open (up M (24 + 3 * r) L) r = sp_open M r := by
    unfold sp_open
    rw [e1, e2, up_n (show 23 + 3 * r ≠ 24 + 3 * r by omega), Int.add_sub_cancel]
  unfold sp_match
  rw [eo, up_n (show 22 + 3 * r ≠ 24 + 3 * r by omega), up_n (show 16 + M (22 + 3 * r) ≠ 24 + 3 * r by omega)]
theorem match_bal {M : Int → Int} (hI : gInv M) {r : Int} (hr : 0 ≤ r ∧ r < M 4) : sp_abs (sp_bal (up M (24 + 3 * r) (sp_match M r))) ≤ sp_abs (sp_bal M) := by
  have i4 := hI.2.1
  have q := hI.2.2.2.1 r (by omega) (by omega)
  have q1 := hI.2.2.2.2 r hr.1 hr.2
  have k := (match_is hI hr).2 (M (24 + 3 * r)) q1.2.2 q.2.2.2
  rw [bal_len hI hr]
  have e : sp_bal1 M r = M (23 + 3 * r) * M (24 + 3 * r) * M (16 + M (22 + 3 * r)) := rfl
  have eo : sp_open M r = -M (23 + 3 * r) * (sp_bal M - sp_bal1 M r) := rfl
  generalize sp_match M r = m at *
  generalize sp_bal1 M r = b1 at *
  generalize sp_bal M = b at *
  generalize M (16 + M (22 + 3 * r)) = s at *
  generalize M (24 + 3 * r) = L at *
  rcases q1.2.1 with d | d
  · rw [d] at e eo ⊢
    rw [eo] at k
    rw [Int.one_mul] at e ⊢
    unfold sp_abs at k ⊢
    repeat' split at k
    all_goals (repeat' split) <;> omega
  · rw [d] at e eo ⊢
    rw [eo] at k
    rw [show -1 * L * s = -(L * s) by rw [Int.neg_mul, Int.one_mul, Int.neg_mul]] at e
    rw [show -1 * m * s = -(m * s) by rw [Int.neg_mul, Int.one_mul, Int.neg_mul]]
    unfold sp_abs at k ⊢
    repeat' split at k
    all_goals (repeat' split) <;> omega
/-- the range of the rates -/
theorem mn_mx {M : Int → Int} {lo : Int} : ∀ n : Nat, sp_mn M lo n ≤ sp_mx M lo n
  | 0 => Int.le_refl _
  | n + 1 => by
    have ih := mn_mx (M := M) (lo := lo) n
    simp only [sp_mx, sp_mn]
    omega
theorem range_nn {M : Int → Int} {lo hi : Int} : 0 ≤ sp_range M lo hi := by
  have q := mn_mx (M := M) (lo := lo) ((hi - lo) / 10).toNat
  unfold sp_range
  omega
theorem range_1 {M : Int → Int} {lo : Int} : sp_range M lo lo = 0 := by
  unfold sp_range
  rw [show ((lo - lo) / 10).toNat = 0 by omega]
  show sp_rt M lo - sp_rt M lo = 0
  omega
theorem rods_still {M : Int → Int} (hz : ∀ j : Int, 0 ≤ j → j < M 4 → M (16 + M (22 + 3 * j)) = 0) {t u : Int} : ∀ n : Nat, (n : Int) ≤ M 4 → sp_rodsN M t n = sp_rodsN M u n
  | 0, _ => rfl
  | n + 1, h => by
    have z := hz n (by omega) (by omega)
    simp only [sp_rodsN]
    rw [rods_still hz (t := t) (u := u) n (by omega)]
    unfold sp_str
    rw [z, Int.mul_zero, Int.zero_mul, Int.zero_mul]
theorem range_still {M : Int → Int} (hI : gInv M) (hz : ∀ j : Int, 0 ≤ j → j < M 4 → M (16 + M (22 + 3 * j)) = 0) {lo hi : Int} : sp_range M lo hi = 0 := by
  have i4 := hI.2.1
  have e : ∀ t u : Int, sp_rt M t = sp_rt M u := fun t u => by
    unfold sp_rt sp_len sp_rods
    rw [rods_still hz (t := t) (u := u) (M 4).toNat (by omega)]
  have k : ∀ n : Nat, sp_mx M lo n = sp_rt M lo ∧ sp_mn M lo n = sp_rt M lo := by
    intro n
    induction n with
    | zero => exact ⟨rfl, rfl⟩
    | succ n ih =>
      simp only [sp_mx, sp_mn]
      rw [ih.1, ih.2, e (lo + 10 * ((n : Int) + 1)) lo]
      omega
  unfold sp_range
  rw [(k _).1, (k _).2]
  omega
