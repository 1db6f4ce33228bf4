/-! p33: the log, an hour, the warmth's way -/
def lSum (M : Int → Int) (w : Int) : Nat → Int
  | 0 => 0
  | n + 1 => lSum M w n + M (54 + 4 * (n : Int) + w)
theorem lSumS {M : Int → Int} {w i : Int} (h : 0 ≤ i) : lSum M w (i + 1).toNat = lSum M w i.toNat + M (54 + 4 * i + w) := by
  have e2 : ((i.toNat : Nat) : Int) = i := by omega
  rw [show (i + 1).toNat = i.toNat + 1 by omega, lSum, e2]
theorem lSum_eq {M N : Int → Int} {w : Int} (hw : 0 ≤ w ∧ w ≤ 3) (h : ∀ j : Int, 54 ≤ j → j ≤ 93 → N j = M j) : ∀ n : Nat, n ≤ 10 → lSum N w n = lSum M w n
  | 0, _ => rfl
  | n + 1, hn => by
    simp only [lSum]
    rw [lSum_eq hw h n (by omega), h _ (by omega) (by omega)]
theorem lSum_sh {M N : Int → Int} {w : Int} (h : ∀ d : Int, 0 ≤ d → d ≤ 8 → N (54 + 4 * (d + 1) + w) = M (54 + 4 * d + w)) : ∀ n : Nat, n ≤ 9 → lSum N w (n + 1) = N (54 + 4 * 0 + w) + lSum M w n
  | 0, _ => by
    show 0 + N (54 + 4 * ((0 : Nat) : Int) + w) = N (54 + 4 * 0 + w) + 0
    rw [Int.zero_add, Int.add_zero]
    rfl
  | n + 1, hn => by
    have ih := lSum_sh h n (by omega)
    have e := h (n : Int) (by omega) (by omega)
    show lSum N w (n + 1) + N (54 + 4 * ((n + 1 : Nat) : Int) + w) = N (54 + 4 * 0 + w) + (lSum M w n + M (54 + 4 * (n : Int) + w))
    rw [ih, show ((n + 1 : Nat) : Int) = (n : Int) + 1 by omega, e]
    omega
def lDay (M : Int → Int) (d : Int) : Prop := (0 ≤ M (54 + 4 * d + 3) ∧ M (54 + 4 * d + 3) ≤ 24) ∧ (M (54 + 4 * d + 3) = 0 → M (54 + 4 * d + 2) = 0) ∧ -300 ≤ M (54 + 4 * d + 0) ∧ M (54 + 4 * d + 0) ≤ 600
def lInv (M : Int → Int) : Prop := (∀ d : Int, 0 ≤ d → d < M 15 → lDay M d) ∧ M 15 = min (M 9 / 24) 10 ∧ (M 9 / 24 ≤ 10 → lSum M 2 (M 15).toNat = M 13 ∧ lSum M 3 (M 15).toNat = M 14) ∧ (0 ≤ M 10 - M 14 ∧ M 10 - M 14 ≤ M 9 % 24) ∧ (M 10 = M 14 → M 12 = M 13)
theorem lInv_eq {M N : Int → Int} (h : ∀ j : Int, ((9 ≤ j ∧ j ≤ 15 ∧ j ≠ 11) ∨ (54 ≤ j ∧ j ≤ 93)) → N j = M j) (hL : lInv M) : lInv N := by
  obtain ⟨l1, l2, l3, l4, l5⟩ := hL
  have e15 := h 15 (by omega)
  have e9 := h 9 (by omega)
  unfold lInv
  rw [e15, e9, h 13 (by omega), h 14 (by omega), h 10 (by omega), h 12 (by omega), lSum_eq (by omega) (fun j a b => h j (by omega)) _ (by omega), lSum_eq (by omega) (fun j a b => h j (by omega)) _ (by omega)]
  refine ⟨fun d d1 d2 => ?_, l2, l3, l4, l5⟩
  have q := l1 d d1 d2
  unfold lDay at q ⊢
  rw [h (54 + 4 * d + 3) (by omega), h (54 + 4 * d + 2) (by omega), h (54 + 4 * d + 0) (by omega)]
  exact q
theorem lInv_up {M : Int → Int} {j v : Int} (h : ¬ ((9 ≤ j ∧ j ≤ 15 ∧ j ≠ 11) ∨ (54 ≤ j ∧ j ≤ 93))) (hL : lInv M) : lInv (up M j v) := lInv_eq (fun k hk => up_n (by omega)) hL
theorem lInv_metal {M : Int → Int} (hL : lInv M) (h3 : 0 ≤ M 3 ∧ M 3 < 6) {v : Int} : lInv (st_metal M v) := lInv_eq (fun j hj => metal_n h3 (by omega) (by omega)) hL
theorem lInv_rod {M : Int → Int} (hL : lInv M) (h4 : 0 ≤ M 4 ∧ M 4 < 9) {k d n : Int} : lInv (st_rod M k d n) := lInv_eq (fun j hj => rod_n h4 (by omega) (by omega)) hL
theorem lInv_drop {M : Int → Int} (hL : lInv M) {r : Int} (hr : 0 ≤ r) (h4 : M 4 ≤ 9) : lInv (st_drop M r) := lInv_eq (fun j hj => drop_n hr h4 (by omega) (by omega)) hL
theorem lInv_0 : lInv zM0 := by
  have e9 : zM0 9 = 0 := rfl
  have e10 : zM0 10 = 0 := rfl
  have e12 : zM0 12 = 0 := rfl
  have e13 : zM0 13 = 0 := rfl
  have e14 : zM0 14 = 0 := rfl
  have e15 : zM0 15 = 0 := rfl
  unfold lInv
  rw [e9, e10, e12, e13, e14, e15]
  exact ⟨fun d h1 h2 => by omega, by decide, fun _ => ⟨rfl, rfl⟩, by decide, fun _ => rfl⟩
/-! an hour's cells -/
theorem h3_v {M : Int → Int} : (0 < M 8 ∧ sp_h3 M 8 = M 8 - 1 ∧ sp_h3 M 10 = M 10 + 1 ∧ sp_h3 M 12 = M 12 + sp_rateM M) ∨ (¬ 0 < M 8 ∧ sp_h3 M 8 = M 8 ∧ sp_h3 M 10 = M 10 ∧ sp_h3 M 12 = M 12) := by
  unfold sp_h3 sp_h2
  by_cases h : 0 < M 8
  · left
    rw [if_pos h]
    exact ⟨h, rfl, rfl, rfl⟩
  · right
    rw [if_neg h]
    exact ⟨h, rfl, rfl, rfl⟩
theorem end_54 {K : Int → Int} : sp_end K 54 = K 6 := by
  unfold sp_end st_day
  rw [up_n (by decide), up_n (by decide), up_n (by decide), up_n (by decide), up_n (by decide), up_n (by decide), up_s]
theorem end_55 {K : Int → Int} : sp_end K 55 = sp_rateM K := by
  unfold sp_end st_day
  rw [up_n (by decide), up_n (by decide), up_n (by decide), up_n (by decide), up_n (by decide), up_s]
theorem end_56 {K : Int → Int} : sp_end K 56 = K 12 - K 13 := by
  unfold sp_end st_day
  rw [up_n (by decide), up_n (by decide), up_n (by decide), up_n (by decide), up_s]
theorem end_57 {K : Int → Int} : sp_end K 57 = K 10 - K 14 := by
  unfold sp_end st_day
  rw [up_n (by decide), up_n (by decide), up_n (by decide), up_s]
theorem end_sh {K : Int → Int} {j : Int} (h : 58 ≤ j ∧ j ≤ 93) : sp_end K j = K (j - 4) := by
  unfold sp_end st_day
  rw [up_n (by omega), up_n (by omega), up_n (by omega), up_n (by omega), up_n (by omega), up_n (by omega), up_n (by omega)]
  exact if_pos h
theorem end_13 {K : Int → Int} : sp_end K 13 = K 12 := by
  unfold sp_end
  rw [up_n (by decide), up_s]
theorem end_14 {K : Int → Int} : sp_end K 14 = K 10 := up_s
theorem end_15 {K : Int → Int} : sp_end K 15 = min (K 15 + 1) 10 := by
  unfold sp_end
  rw [up_n (by decide), up_n (by decide), day_15]
theorem lInv_hour {M : Int → Int} (hB : bInv M) (hL : lInv M) : lInv (sp_hour M) := by
  have w := sp_warmB hB hB.2.1.2.1
  have b15 := hB.2.2.2.2
  obtain ⟨l1, l2, l3, l4, l5⟩ := hL
  have e6 : sp_h3 (sp_h1 M) 6 = sp_warm M (M 6) := (h3_n (by decide) (by decide) (by decide) (by decide) (by decide)).trans up_s
  have en : ∀ j : Int, j ≠ 6 → j ≠ 8 → j ≠ 9 → j ≠ 10 → j ≠ 11 → j ≠ 12 → sp_h3 (sp_h1 M) j = M j := fun j a b c d e f => (h3_n b c d e f).trans (h1_n a)
  have e9 : sp_h3 (sp_h1 M) 9 = M 9 + 1 := h3_9.trans (by rw [h1_n (by decide)])
  have e13 := en 13 (by decide) (by decide) (by decide) (by decide) (by decide) (by decide)
  have e14 := en 14 (by decide) (by decide) (by decide) (by decide) (by decide) (by decide)
  have e15 := en 15 (by decide) (by decide) (by decide) (by decide) (by decide) (by decide)
  have ev : (sp_h3 (sp_h1 M) 10 = M 10 + 1) ∨ (sp_h3 (sp_h1 M) 10 = M 10 ∧ sp_h3 (sp_h1 M) 12 = M 12) := by
    have q := h3_v (M := sp_h1 M)
    rw [h1_n (show (10 : Int) ≠ 6 by decide), h1_n (show (12 : Int) ≠ 6 by decide)] at q
    rcases q with q | q
    · exact Or.inl q.2.2.1
    · exact Or.inr ⟨q.2.2.1, q.2.2.2⟩
  have el : ∀ j : Int, 54 ≤ j → j ≤ 93 → sp_h3 (sp_h1 M) j = M j := fun j a b => en j (by omega) (by omega) (by omega) (by omega) (by omega) (by omega)
  unfold sp_hour
  rw [e9]
  generalize sp_h3 (sp_h1 M) = K at *
  by_cases h : (M 9 + 1) % 24 = 0
  · rw [if_pos h]
    have n9 : sp_end K 9 = M 9 + 1 := (end_n (by decide) (by decide) (by decide) (by decide)).trans e9
    have n10 : sp_end K 10 = K 10 := end_n (by decide) (by decide) (by decide) (by decide)
    have n12 : sp_end K 12 = K 12 := end_n (by decide) (by decide) (by decide) (by decide)
    have n15 : sp_end K 15 = min (M 15 + 1) 10 := by rw [end_15, e15]
    have s2 : lSum (sp_end K) 2 (M 15).toNat.succ = lSum (sp_end K) 2 ((M 15).toNat + 1) := rfl
    have sh : ∀ w : Int, 0 ≤ w → w ≤ 3 → ∀ d : Int, 0 ≤ d → d ≤ 8 → sp_end K (54 + 4 * (d + 1) + w) = M (54 + 4 * d + w) := fun w w1 w2 d d1 d2 => by
      rw [end_sh (by omega), show 54 + 4 * (d + 1) + w - 4 = 54 + 4 * d + w by omega, el _ (by omega) (by omega)]
    have a3 : sp_end K (54 + 4 * 0 + 3) = K 10 - K 14 := end_57
    have a2 : sp_end K (54 + 4 * 0 + 2) = K 12 - K 13 := end_56
    have a0 : sp_end K (54 + 4 * 0 + 0) = K 6 := end_54
    unfold lInv
    rw [n9, n10, n12, n15, end_13, end_14]
    refine ⟨fun d d1 d2 => ?_, by omega, fun hd => ?_, by omega, fun _ => rfl⟩
    · by_cases z : d = 0
      · subst z
        unfold lDay
        rw [a3, a2, a0]
        rcases ev with v | v
        · exact ⟨by omega, fun _ => by omega, by omega, by omega⟩
        · exact ⟨by omega, fun _ => by have := l5 (by omega); omega, by omega, by omega⟩
      · have q := l1 (d - 1) (by omega) (by omega)
        have s3 := sh 3 (by decide) (by decide) (d - 1) (by omega) (by omega)
        have s2 := sh 2 (by decide) (by decide) (d - 1) (by omega) (by omega)
        have s0 := sh 0 (by decide) (by decide) (d - 1) (by omega) (by omega)
        rw [show d - 1 + 1 = d by omega] at s3 s2 s0
        unfold lDay at q ⊢
        rw [s3, s2, s0]
        exact q
    · have h10 : M 15 ≤ 9 := by omega
      have q := l3 (by omega)
      have t2 := lSum_sh (sh 2 (by decide) (by decide)) (M 15).toNat (by omega)
      have t3 := lSum_sh (sh 3 (by decide) (by decide)) (M 15).toNat (by omega)
      rw [show (min (M 15 + 1) 10).toNat = (M 15).toNat + 1 by omega, t2, t3, a2, a3, q.1, q.2]
      exact ⟨by omega, by omega⟩
  · rw [if_neg h]
    unfold lInv
    rw [e9, e13, e14, e15, lSum_eq (by omega) (fun j a b => el j a b) _ (by omega), lSum_eq (by omega) (fun j a b => el j a b) _ (by omega)]
    refine ⟨fun d d1 d2 => ?_, by omega, fun hd => l3 (by omega), by omega, fun hd => ?_⟩
    · have q := l1 d d1 d2
      unfold lDay at q ⊢
      rw [el (54 + 4 * d + 3) (by omega) (by omega), el (54 + 4 * d + 2) (by omega) (by omega), el (54 + 4 * d + 0) (by omega) (by omega)]
      exact q
    · rcases ev with v | v
      · omega
      · have := l5 (by omega)
        omega
theorem lInv_pass {M : Int → Int} (hI : gInv M) (hB : bInv M) (hL : lInv M) : ∀ n : Nat, M 9 + n ≤ 100500 → lInv (sp_pass M n)
  | 0, _ => hL
  | n + 1, h => lInv_hour (sp_passI hI hB n (by omega)).2.1 (lInv_pass hI hB hL n (by omega))
/-! the warmth's way -/
theorem warm_btw {M : Int → Int} (hB : bInv M) {w : Int} : min w (M (49 + M 5)) ≤ sp_warm M w ∧ sp_warm M w ≤ max w (M (49 + M 5)) := by
  have q1 := hB.1.2.1
  unfold sp_warm
  generalize M (49 + M 5) = z
  generalize hx : z - w = x
  rcases Int.lt_or_le x 0 with h | h
  · have h1 : x / M 1 ≤ 0 := Int.ediv_le_of_le_mul (by omega) (by omega)
    have h2 : x ≤ x / M 1 := (Int.le_ediv_iff_mul_le (by omega)).mpr (by
      have := Int.mul_le_mul_of_nonneg_left (show 1 ≤ M 1 by omega) (show 0 ≤ -x by omega)
      rw [Int.neg_mul, Int.neg_mul] at this
      omega)
    have h3 : x / M 1 ≠ 0 := fun e => by
      have e1 := Int.mul_ediv_add_emod x (M 1)
      have e2 := Int.emod_nonneg x (show M 1 ≠ 0 by omega)
      rw [e, Int.mul_zero] at e1
      omega
    rw [if_neg (fun q => h3 q.1)]
    omega
  · have h1 : 0 ≤ x / M 1 := Int.ediv_nonneg h (by omega)
    have h2 : x / M 1 ≤ x := Int.ediv_le_self (M 1) h
    split <;> omega
theorem cw_btw {M : Int → Int} (hB : bInv M) : ∀ n : Nat, min (M 6) (M (49 + M 5)) ≤ sp_cw M n ∧ sp_cw M n ≤ max (M 6) (M (49 + M 5))
  | 0 => by
    show min (M 6) (M (49 + M 5)) ≤ M 6 ∧ M 6 ≤ max (M 6) (M (49 + M 5))
    omega
  | n + 1 => by
    have ih := cw_btw hB n
    have q := warm_btw hB (w := sp_cw M n)
    show min (M 6) (M (49 + M 5)) ≤ sp_warm M (sp_cw M n) ∧ sp_warm M (sp_cw M n) ≤ max (M 6) (M (49 + M 5))
    omega
theorem warm_a {M : Int → Int} {t far : Int} (h0 : 0 ≤ far) (hf : far = M (49 + M 5) - t) : (far / M 1 ≠ 0 → t + far / M 1 = sp_warm M t) ∧ (far / M 1 = 0 → 0 < far → t + 1 = sp_warm M t) ∧ (far / M 1 = 0 → ¬ 0 < far → t + far / M 1 = sp_warm M t) := by
  unfold sp_warm
  rw [← hf]
  refine ⟨fun h => ?_, fun h h2 => ?_, fun h h2 => ?_⟩
  · rw [if_neg (fun q => h q.1)]
  · rw [if_pos ⟨h, by omega⟩]
  · rw [if_neg (fun q => by omega)]
theorem warm_b {M : Int → Int} (hB : bInv M) {t far : Int} (h0 : far < 0) (hf : far = M (49 + M 5) - t) : t + -((M 1 - 1 - far) / M 1) = sp_warm M t ∧ -((M 1 - 1 - far) / M 1) < 0 := by
  have q1 := hB.1.2.1
  have e := floor_neg (a := far) (b := M 1) (by omega) h0
  have e1 := Int.mul_ediv_add_emod far (M 1)
  have e2 := Int.emod_nonneg far (show M 1 ≠ 0 by omega)
  have h1 : far / M 1 ≤ 0 := Int.ediv_le_of_le_mul (by omega) (by omega)
  have h3 : far / M 1 ≠ 0 := fun z => by
    rw [z, Int.mul_zero] at e1
    omega
  rw [e]
  unfold sp_warm
  rw [← hf, if_neg (fun q => h3 q.1)]
  exact ⟨rfl, by omega⟩
/-! an hour as the law looks at it -/
theorem hour_10 {M : Int → Int} : sp_hour M 10 = M 10 + (if 0 < M 8 then 1 else 0) ∧ sp_hour M 9 = M 9 + 1 := by
  have e : ∀ j : Int, j = 10 ∨ j = 9 → sp_hour M j = sp_h3 (sp_h1 M) j := fun j hj => by
    unfold sp_hour
    split
    · exact end_n (by omega) (by omega) (by omega) (by omega)
    · rfl
  rw [e 10 (by omega), e 9 (by omega)]
  have q := h3_v (M := sp_h1 M)
  rw [h1_n (show (8 : Int) ≠ 6 by decide), h1_n (show (10 : Int) ≠ 6 by decide)] at q
  refine ⟨?_, h3_9.trans (by rw [h1_n (by decide)])⟩
  rcases q with q | q
  · rw [if_pos q.1]
    exact q.2.2.1
  · rw [if_neg q.1, q.2.2.1]
    omega
theorem hour_day {M : Int → Int} (hI : gInv M) (hB : bInv M) (h : (M 9 + 1) % 24 = 0) : sp_dayv (sp_hour M) 0 0 = sp_hour M 6 ∧ sp_dayv (sp_hour M) 0 1 = sp_rateM (sp_hour M) := by
  have b15 := hB.2.2.2.2
  have e9 : sp_h3 (sp_h1 M) 9 = M 9 + 1 := h3_9.trans (by rw [h1_n (by decide)])
  have e15 : sp_h3 (sp_h1 M) 15 = M 15 := (h3_n (by decide) (by decide) (by decide) (by decide) (by decide)).trans (h1_n (by decide))
  have gK : gInv (sp_h3 (sp_h1 M)) := gInv_h3 (gInv_h1 hI)
  have e : sp_hour M = sp_end (sp_h3 (sp_h1 M)) := by
    unfold sp_hour
    rw [e9, if_pos h]
  rw [e]
  generalize sp_h3 (sp_h1 M) = K at *
  have n15 : 0 < sp_end K 15 := by
    rw [end_15, e15]
    omega
  have a0 : sp_end K (54 + 4 * 0 + 0) = K 6 := end_54
  have a1 : sp_end K (54 + 4 * 0 + 1) = sp_rateM K := end_55
  have n6 : sp_end K 6 = K 6 := end_n (by decide) (by decide) (by decide) (by decide)
  have n8 : sp_end K 8 = K 8 := end_n (by decide) (by decide) (by decide) (by decide)
  unfold sp_dayv
  rw [if_pos n15, if_pos n15, a0, a1, n6, rateM_agr gK end_agr n6 n8]
  exact ⟨rfl, rfl⟩
theorem cs_one {M : Int → Int} (hB : bInv M) : sp_cs M (min 1 (M 8)).toNat = if 0 < M 8 then sp_rate M (sp_len M (sp_warm M (M 6))) (M 8) else 0 := by
  have j8 := hB.2.1.2.2.2
  by_cases h : 0 < M 8
  · rw [if_pos h, show (min 1 (M 8)).toNat = 1 by omega]
    show 0 + sp_rate M (sp_len M (sp_warm M (M 6))) (M 8 - ((0 : Nat) : Int)) = _
    rw [Int.zero_add, show M 8 - ((0 : Nat) : Int) = M 8 by omega]
  · rw [if_neg h, show (min 1 (M 8)).toNat = 0 by omega]
    rfl
/-- the state that the law keeps -/
def LInv (M : Int → Int) : Prop := sInv M ∧ lInv M
theorem LInv_0 : LInv zM0 := ⟨sInv_0, lInv_0⟩
theorem LInv_metal {M : Int → Int} (h : LInv M) {v : Int} (hc : ck_metal M v = 0) : LInv (st_metal M v) := by
  have hk : M 3 < 6 := by
    unfold ck_metal at hc
    repeat' split at hc
    all_goals omega
  have h3 := h.1.1.1
  exact ⟨sInv_metal h.1 hc, lInv_metal h.2 (by omega)⟩
theorem LInv_stretch {M : Int → Int} (h : LInv M) {k v : Int} (hc : ck_stretch M k v = 0) : LInv (up M (16 + k) v) := by
  have h3 := h.1.1.1
  have hk : 0 ≤ k ∧ k < 6 := by
    unfold ck_stretch at hc
    repeat' split at hc
    all_goals omega
  exact ⟨sInv_stretch h.1 hc, lInv_up (by omega) h.2⟩
theorem LInv_rod {M : Int → Int} (h : LInv M) {k d n : Int} (hc : ck_rod M k d n = 0) : LInv (st_rod M k d n) := by
  have h4 := h.1.1.2.1
  have hk : M 4 < 9 := by
    unfold ck_rod at hc
    repeat' split at hc
    all_goals omega
  exact ⟨sInv_rod h.1 hc, lInv_rod h.2 (by omega)⟩
theorem LInv_drop {M : Int → Int} (h : LInv M) {r : Int} (hr : 0 ≤ r ∧ r < M 4) : LInv (st_drop M r) := by
  have h4 := h.1.1.2.1
  exact ⟨sInv_drop h.1 hr, lInv_drop h.2 hr.1 h4.2⟩
theorem LInv_len {M : Int → Int} (h : LInv M) {r n : Int} (hc : ck_length M r n = 0) : LInv (up M (24 + 3 * r) n) := by
  have h4 := h.1.1.2.1
  have hk : 0 ≤ r ∧ r < M 4 := by
    unfold ck_length at hc
    repeat' split at hc
    all_goals omega
  exact ⟨sInv_len h.1 hc, lInv_up (by omega) h.2⟩
theorem LInv_warm {M : Int → Int} (h : LInv M) {k v : Int} (hc : ck_warm k v = 0) : LInv (up M (49 + k) v) := by
  have hk : 0 ≤ k ∧ k ≤ 4 := by
    unfold ck_warm at hc
    repeat' split at hc
    all_goals omega
  exact ⟨sInv_warm h.1 hc, lInv_up (by omega) h.2⟩
theorem LInv_shelf {M : Int → Int} (h : LInv M) {k : Int} (hc : ck_shelf k = 0) : LInv (up M 5 k) := ⟨sInv_shelf h.1 hc, lInv_up (by omega) h.2⟩
theorem LInv_turn {M : Int → Int} (h : LInv M) {v : Int} (hc : ck_turn M v = 0) : LInv (up M 7 (M 7 + v)) := ⟨sInv_turn h.1 hc, lInv_up (by omega) h.2⟩
theorem LInv_wind {M : Int → Int} (h : LInv M) : LInv (up M 8 192) := ⟨sInv_wind h.1, lInv_up (by omega) h.2⟩
theorem LInv_set {M : Int → Int} (h : LInv M) {w v : Int} (hc : ck_set w v = 0) : LInv (up M w v) := by
  have hk : w = 0 ∨ w = 1 ∨ w = 2 := by
    unfold ck_set at hc
    repeat' split at hc
    all_goals omega
  exact ⟨sInv_set h.1 hc, lInv_up (by omega) h.2⟩
theorem LInv_pass {M : Int → Int} (h : LInv M) {n : Int} (hc : ck_hours M n = 0) : LInv (sp_pass M n.toNat) ∧ sp_pass M n.toNat 9 = M 9 + n := by
  have hk : (1 ≤ n ∧ n ≤ 500) ∧ M 9 + n ≤ 100000 := by
    unfold ck_hours at hc
    repeat' split at hc
    all_goals omega
  have q := sp_passI h.1.1 h.1.2.1 n.toNat (by omega)
  exact ⟨⟨sInv_pass h.1 hc, lInv_pass h.1.1 h.1.2.1 h.2 _ (by omega)⟩, by rw [q.2.2]; omega⟩
