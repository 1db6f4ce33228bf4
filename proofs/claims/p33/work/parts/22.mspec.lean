/-! the reference: more of what its rows make -/
def agr (M N : Int → Int) : Prop := ∀ j : Int, (0 ≤ j ∧ j ≤ 8 ∧ j ≠ 6 ∧ j ≠ 8) ∨ (16 ≤ j ∧ j ≤ 53) → N j = M j
theorem str_agr {M N : Int → Int} (hI : gInv M) (h : agr M N) {r t : Int} (hr : 0 ≤ r ∧ r < 9) : sp_str N r t = sp_str M r t := by
  have q := hI.2.2.2.1 r hr.1 hr.2
  unfold sp_str
  rw [h (24 + 3 * r) (by omega), h (22 + 3 * r) (by omega), h (16 + M (22 + 3 * r)) (by omega)]
theorem rodsN_agr {M N : Int → Int} (hI : gInv M) (h : agr M N) {t : Int} : ∀ n : Nat, n ≤ 9 → sp_rodsN N t n = sp_rodsN M t n
  | 0, _ => rfl
  | n + 1, hn => by
    simp only [sp_rodsN]
    rw [rodsN_agr hI h n (by omega), str_agr hI h (by omega), h (23 + 3 * (n : Int)) (by omega), h (24 + 3 * (n : Int)) (by omega)]
theorem len_agr {M N : Int → Int} (hI : gInv M) (h : agr M N) {t : Int} : sp_len N t = sp_len M t := by
  have q := hI.2.1
  unfold sp_len sp_rods
  rw [h 4 (by omega), h 7 (by omega), rodsN_agr hI h _ (by omega)]
theorem rate_agr {M N : Int → Int} (h : agr M N) {len d : Int} : sp_rate N len d = sp_rate M len d := by
  unfold sp_rate sp_loss sp_arc
  rw [h 0 (by omega), h 2 (by omega)]
theorem warm_agr {M N : Int → Int} (hB : bInv M) (h : agr M N) {w : Int} : sp_warm N w = sp_warm M w := by
  have q := hB.2.1.1
  unfold sp_warm
  rw [h 5 (by omega), h (49 + M 5) (by omega), h 1 (by omega)]
theorem rateM_agr {M N : Int → Int} (hI : gInv M) (h : agr M N) (h6 : N 6 = M 6) (h8 : N 8 = M 8) : sp_rateM N = sp_rateM M := by
  unfold sp_rateM
  rw [h6, h8, len_agr hI h, rate_agr h]
theorem h1_agr {M : Int → Int} : agr M (sp_h1 M) := fun j hj => h1_n (by omega)
theorem h3_agr {M : Int → Int} : agr M (sp_h3 M) := fun j hj => h3_n (by omega) (by omega) (by omega) (by omega) (by omega)
theorem end_agr {M : Int → Int} : agr M (sp_end M) := fun j hj => end_n (by omega) (by omega) (by omega) (by omega)
theorem agr_tr {M N K : Int → Int} (h : agr M N) (g : agr N K) : agr M K := fun j hj => (g j hj).trans (h j hj)
theorem hour_agr {M : Int → Int} : agr M (sp_hour M) := by
  unfold sp_hour
  split
  · exact agr_tr (agr_tr h1_agr h3_agr) end_agr
  · exact agr_tr h1_agr h3_agr
/-- an hour's warmth, drive and sum -/
theorem hour_v {M : Int → Int} (hI : gInv M) : sp_hour M 6 = sp_warm M (M 6) ∧ sp_hour M 8 = (if 0 < M 8 then M 8 - 1 else M 8) ∧ sp_hour M 12 = (if 0 < M 8 then M 12 + sp_rate M (sp_len M (sp_warm M (M 6))) (M 8) else M 12) := by
  have e : ∀ j : Int, j = 6 ∨ j = 8 ∨ j = 12 → sp_hour M j = sp_h3 (sp_h1 M) j := fun j hj => by
    unfold sp_hour
    split
    · exact end_n (by omega) (by omega) (by omega) (by omega)
    · rfl
  have e8 : sp_h1 M 8 = M 8 := h1_n (by decide)
  have e12 : sp_h1 M 12 = M 12 := h1_n (by decide)
  have e6 : sp_h1 M 6 = sp_warm M (M 6) := up_s
  have er : sp_rateM (sp_h1 M) = sp_rate M (sp_len M (sp_warm M (M 6))) (M 8) := by
    unfold sp_rateM
    rw [e6, e8, len_agr hI h1_agr, rate_agr h1_agr]
  rw [e 6 (by omega), e 8 (by omega), e 12 (by omega)]
  unfold sp_h3 sp_h2
  rw [e8, er]
  by_cases h : 0 < M 8
  · rw [if_pos h, if_pos h, if_pos h]
    refine ⟨?_, ?_, ?_⟩
    · rw [up_n (by decide), up_n (by decide), up_n (by decide), up_n (by decide), e6]
    · rw [up_n (by decide), up_s]
    · rw [up_n (by decide), up_n (by decide), up_n (by decide), up_s, e12]
  · rw [if_neg h, if_neg h, if_neg h]
    refine ⟨?_, ?_, ?_⟩
    · rw [up_n (by decide), up_n (by decide), e6]
    · rw [up_n (by decide), up_n (by decide), e8]
    · rw [up_n (by decide), up_n (by decide), e12]
theorem pass_cs {M : Int → Int} (hI : gInv M) (hB : bInv M) (h9 : M 9 ≤ 100000) : ∀ n : Nat, n ≤ 500 → agr M (sp_pass M n) ∧ sp_pass M n 6 = sp_cw M n ∧ sp_pass M n 8 = (if (n : Int) ≤ M 8 then M 8 - n else 0) ∧ sp_pass M n 12 = M 12 + sp_cs M (min (n : Int) (M 8)).toNat
  | 0, _ => ⟨fun _ _ => rfl, rfl, by rw [if_pos (by have := hB.2.1.2.2.2; omega)]; show M 8 = M 8 - ((0 : Nat) : Int); omega, by rw [show (min ((0 : Nat) : Int) (M 8)).toNat = 0 by have := hB.2.1.2.2.2; omega]; show M 12 = M 12 + 0; omega⟩
  | n + 1, hn => by
    obtain ⟨a, b, c, d⟩ := pass_cs hI hB h9 n (by omega)
    obtain ⟨gI, gB, g9⟩ := sp_passI hI hB n (by omega)
    obtain ⟨v6, v8, v12⟩ := hour_v gI
    have h8 := hB.2.1.2.2.2
    have e : sp_pass M (n + 1) = sp_hour (sp_pass M n) := rfl
    have w6 : sp_warm (sp_pass M n) (sp_pass M n 6) = sp_cw M (n + 1) := by rw [warm_agr hB a, b]; rfl
    refine ⟨agr_tr a hour_agr, ?_, ?_, ?_⟩
    · rw [e, v6, w6]
    · rw [e, v8, c]
      by_cases h : (n : Int) + 1 ≤ M 8
      · rw [if_pos (show (n : Int) ≤ M 8 by omega), if_pos (by omega), if_pos (by omega)]
        omega
      · by_cases h2 : (n : Int) ≤ M 8
        · rw [if_pos h2, if_neg (show ¬ (((n + 1 : Nat) : Int) ≤ M 8) by omega)]
          split <;> omega
        · rw [if_neg h2, if_neg (show ¬ (((n + 1 : Nat) : Int) ≤ M 8) by omega), if_neg (by omega)]
    · rw [e, v12, c, d]
      by_cases h : (n : Int) + 1 ≤ M 8
      · rw [if_pos (show (n : Int) ≤ M 8 by omega), if_pos (by omega), w6, len_agr hI a, rate_agr a, show (min ((n : Int)) (M 8)).toNat = n by omega, show (min ((n + 1 : Nat) : Int) (M 8)).toNat = n + 1 by omega]
        have q := sp_csS (M := M) (i := (n : Int)) (by omega)
        rw [show ((n : Int) + 1).toNat = n + 1 by omega, show ((n : Int)).toNat = n by omega] at q
        rw [q]
        omega
      · have hz : ¬ (0 < (if (n : Int) ≤ M 8 then M 8 - n else 0)) := by split <;> omega
        rw [if_neg hz, show (min ((n : Int)) (M 8)).toNat = (min ((n + 1 : Nat) : Int) (M 8)).toNat by omega]
/-- the log's day, as the reference writes it -/
theorem st_day_mo {M : Int → Int} {w r d h k : Int} : up (up (up (up (up (up (up (st_shift M) 54 w) 55 r) 56 d) 57 h) 13 (M 12)) 14 (M 10)) 15 k = up (up (up (up (up (up (up (st_shift M) 54 w) 55 r) 56 d) 57 h) 15 k) 13 (M 12)) 14 (M 10) := by
  funext j
  unfold up
  by_cases h1 : j = 15
  · subst h1; rfl
  · rw [if_neg h1, if_neg h1]
theorem shift_n {M : Int → Int} {j : Int} (h : ¬ (58 ≤ j ∧ j ≤ 93)) : st_shift M j = M j := if_neg h
/-- the rows behind a rod that goes -/
def dmN (M : Int → Int) (r i : Int) : Int → Int := up (fun j => if 22 + 3 * r ≤ j ∧ j < i then M (j + 3) else M j) 4 (M 4 - 1)
theorem dmN_0 {M : Int → Int} {r : Int} : up M 4 (M 4 - 1) = dmN M r (22 + 3 * r) := by
  unfold dmN
  congr 1
  funext j
  exact (if_neg (by omega)).symm
theorem dmN_S {M : Int → Int} {r i : Int} (h : 22 + 3 * r ≤ i ∧ 22 ≤ i) : up (dmN M r i) i (dmN M r i (i + 3)) = dmN M r (i + 1) := by
  have e : dmN M r i (i + 3) = M (i + 3) := by
    unfold dmN
    rw [up_n (by omega)]
    exact if_neg (by omega)
  rw [e]
  funext j
  unfold up dmN
  by_cases h1 : j = i
  · rw [if_pos h1]
    unfold up
    rw [if_neg (by omega)]
    subst h1
    exact (if_pos (by omega)).symm
  · rw [if_neg h1]
    unfold up
    by_cases h2 : j = 4
    · rw [if_pos h2, if_pos h2]
    · rw [if_neg h2, if_neg h2]
      by_cases h3 : 22 + 3 * r ≤ j ∧ j < i
      · exact (if_pos h3).trans (if_pos (by omega)).symm
      · exact (if_neg h3).trans (if_neg (by omega)).symm
theorem dmN_4 {M : Int → Int} {r i : Int} : dmN M r i 4 = M 4 - 1 := up_s
theorem dmN_E {M : Int → Int} {r : Int} : dmN M r (22 + 3 * (M 4 - 1)) = st_drop M r := rfl
def ck_b (p : Prop) [Decidable p] : Int := if p then 0 else 1
def ck_rodq (M : Int → Int) (r w : Int) : Int := if 0 ≤ r ∧ r < M 4 then (if 0 ≤ w ∧ w ≤ 4 then 0 else 2) else 1
def sp_wh (M : Int → Int) (tl w : Int) : Int := if w = 17 then tl else sp_whole M w
def sp_dayv (M : Int → Int) (k w : Int) : Int := if k < M 15 then M (54 + 4 * k + w) else -2000000000
theorem sp_bestS {f : Int → Int} {i : Int} (h : -500 ≤ i) : sp_bestN f (i + 1 + 500).toNat = if sp_abs (f i) < sp_abs (f (sp_bestN f (i + 500).toNat)) then i else sp_bestN f (i + 500).toNat := by
  have e : (i + 1 + 500).toNat = (i + 500).toNat + 1 := by omega
  have e2 : (((i + 500).toNat : Nat) : Int) = i + 500 := by omega
  rw [e, sp_bestN, e2, show -500 + (i + 500) = i by omega]
theorem mnq {M : Int → Int} {lo i w l l' : Int} (hi : 0 ≤ i) (h : l = sp_mn M lo (i - 1).toNat) (hw : w = lo + 10 * i) (e : l' = min l (sp_rate M (sp_len M w) (M 8))) : l' = sp_mn M lo (i + 1 - 1).toNat := by
  subst hw
  by_cases z : i = 0
  · subst z
    rw [e, h]
    show min (sp_mn M lo 0) (sp_rt M (lo + 10 * 0)) = sp_mn M lo 0
    rw [show lo + 10 * 0 = lo by omega]
    show min (sp_rt M lo) (sp_rt M lo) = sp_rt M lo
    omega
  · have q := (sp_mxS (M := M) (lo := lo) (i := i - 1) (by omega)).2
    rw [show i + 1 - 1 = i - 1 + 1 by omega, q, e, h, show lo + 10 * (i - 1 + 1) = lo + 10 * i by omega]
    rfl
theorem mxq {M : Int → Int} {lo i w l l' : Int} (hi : 0 ≤ i) (h : l = sp_mx M lo (i - 1).toNat) (hw : w = lo + 10 * i) (e : l' = max l (sp_rate M (sp_len M w) (M 8))) : l' = sp_mx M lo (i + 1 - 1).toNat := by
  subst hw
  by_cases z : i = 0
  · subst z
    rw [e, h]
    show max (sp_mx M lo 0) (sp_rt M (lo + 10 * 0)) = sp_mx M lo 0
    rw [show lo + 10 * 0 = lo by omega]
    show max (sp_rt M lo) (sp_rt M lo) = sp_rt M lo
    omega
  · have q := (sp_mxS (M := M) (lo := lo) (i := i - 1) (by omega)).1
    rw [show i + 1 - 1 = i - 1 + 1 by omega, q, e, h, show lo + 10 * (i - 1 + 1) = lo + 10 * i by omega]
    rfl
theorem jr_back {ct : Nat → Nat} {q : Nat} {M SP T : Int → Int} : jrW ct q 94 (brN (brN M SP 0 0 94) T 0 0 94) = jrW ct q 94 M := jrW_eq (fun x h0 h1 => by
  unfold brN
  rw [if_pos (by omega), if_pos (by omega)]
  exact congrArg M (by omega))
/-- the fitting length, with its two candidates taken one after the other -/
theorem mtch {o s : Int} (hs : 0 < s) : (sp_abs (max 1 (min 1000000 (max 1 (min 1000000 (o / s)) + 1)) * s - o) < sp_abs (max 1 (min 1000000 (o / s)) * s - o) → (if sp_abs (sp_clamp (o / s + 1) 1 1000000 * s - o) < sp_abs (sp_clamp (o / s) 1 1000000 * s - o) then sp_clamp (o / s + 1) 1 1000000 else sp_clamp (o / s) 1 1000000) = max 1 (min 1000000 (max 1 (min 1000000 (o / s)) + 1))) ∧ (¬ sp_abs (max 1 (min 1000000 (max 1 (min 1000000 (o / s)) + 1)) * s - o) < sp_abs (max 1 (min 1000000 (o / s)) * s - o) → (if sp_abs (sp_clamp (o / s + 1) 1 1000000 * s - o) < sp_abs (sp_clamp (o / s) 1 1000000 * s - o) then sp_clamp (o / s + 1) 1 1000000 else sp_clamp (o / s) 1 1000000) = max 1 (min 1000000 (o / s))) := by
  have h1 := Int.mul_ediv_add_emod o s
  have h2 := Int.emod_nonneg o (show s ≠ 0 by omega)
  have h3 := Int.emod_lt_of_pos o hs
  generalize hf : o / s = f at *
  unfold sp_clamp
  rcases Int.lt_or_le f 1 with z | z
  · have hz : s * f ≤ 0 := Int.mul_nonpos_of_nonneg_of_nonpos (by omega) (by omega)
    have e1 : max 1 (min 1000000 f) = 1 := by omega
    have e2 : max 1 (min 1000000 (f + 1)) = 1 := by omega
    have e3 : max 1 (min (1000000 : Int) (1 + 1)) = 2 := by omega
    rw [e1, e2, e3]
    refine ⟨fun h => ?_, fun _ => ?_⟩
    · exfalso
      unfold sp_abs at h
      omega
    · split <;> rfl
  · have e : max 1 (min 1000000 (max 1 (min 1000000 f) + 1)) = max 1 (min 1000000 (f + 1)) := by omega
    rw [e]
    exact ⟨fun h => if_pos h, fun h => if_neg h⟩
theorem match_z {M : Int → Int} {r : Int} (hI : gInv M) (hr : 0 ≤ r ∧ r < M 4) (h : M (23 + 3 * r) * M (16 + M (22 + 3 * r)) = 0) : sp_match M r = 1 := by
  have q := (hI.2.2.2.2 r hr.1 hr.2).2.1
  have z : M (16 + M (22 + 3 * r)) = 0 := by
    rcases q with q | q <;> rw [q] at h <;> omega
  exact if_pos z
theorem match_p {M : Int → Int} {r : Int} (hI : gInv M) (hr : 0 ≤ r ∧ r < M 4) (h : 0 < M (23 + 3 * r) * M (16 + M (22 + 3 * r))) : (sp_abs (sp_bal M - sp_bal1 M r + M (23 + 3 * r) * M (16 + M (22 + 3 * r)) * max 1 (min 1000000 (max 1 (min 1000000 (-(sp_bal M - sp_bal1 M r) / (M (23 + 3 * r) * M (16 + M (22 + 3 * r))))) + 1))) < sp_abs (sp_bal M - sp_bal1 M r + M (23 + 3 * r) * M (16 + M (22 + 3 * r)) * max 1 (min 1000000 (-(sp_bal M - sp_bal1 M r) / (M (23 + 3 * r) * M (16 + M (22 + 3 * r)))))) → sp_match M r = max 1 (min 1000000 (max 1 (min 1000000 (-(sp_bal M - sp_bal1 M r) / (M (23 + 3 * r) * M (16 + M (22 + 3 * r))))) + 1))) ∧ (¬ sp_abs (sp_bal M - sp_bal1 M r + M (23 + 3 * r) * M (16 + M (22 + 3 * r)) * max 1 (min 1000000 (max 1 (min 1000000 (-(sp_bal M - sp_bal1 M r) / (M (23 + 3 * r) * M (16 + M (22 + 3 * r))))) + 1))) < sp_abs (sp_bal M - sp_bal1 M r + M (23 + 3 * r) * M (16 + M (22 + 3 * r)) * max 1 (min 1000000 (-(sp_bal M - sp_bal1 M r) / (M (23 + 3 * r) * M (16 + M (22 + 3 * r)))))) → sp_match M r = max 1 (min 1000000 (-(sp_bal M - sp_bal1 M r) / (M (23 + 3 * r) * M (16 + M (22 + 3 * r)))))) := by
  have q0 := hI.2.2.2.2 r hr.1 hr.2
  have q := q0.2.1
  have q2 := hI.2.2.1 (M (22 + 3 * r)) (by have := hI.2.2.2.1 r hr.1 (by have := hI.2.1; omega); omega) (by have := hI.2.2.2.1 r hr.1 (by have := hI.2.1; omega); omega)
  have e : M (23 + 3 * r) = 1 := by
    rcases q with q | q
    · exact q
    · rw [q] at h; omega
  unfold sp_match sp_open
  rw [e] at h ⊢
  generalize sp_bal M - sp_bal1 M r = o at *
  generalize M (16 + M (22 + 3 * r)) = s at *
  have m := mtch (o := -o) (s := s) (by omega)
  rw [Int.one_mul, show -1 * o = -o by omega, if_neg (by omega)]
  have ab : ∀ c : Int, sp_abs (o + s * c) = sp_abs (c * s - -o) := fun c => by rw [Int.mul_comm]; congr 1; omega
  rw [ab, ab]
  exact m
theorem match_n {M : Int → Int} {r : Int} (hI : gInv M) (hr : 0 ≤ r ∧ r < M 4) (h : M (23 + 3 * r) * M (16 + M (22 + 3 * r)) < 0) : (sp_abs (sp_bal M - sp_bal1 M r + M (23 + 3 * r) * M (16 + M (22 + 3 * r)) * max 1 (min 1000000 (max 1 (min 1000000 ((sp_bal M - sp_bal1 M r) / -(M (23 + 3 * r) * M (16 + M (22 + 3 * r))))) + 1))) < sp_abs (sp_bal M - sp_bal1 M r + M (23 + 3 * r) * M (16 + M (22 + 3 * r)) * max 1 (min 1000000 ((sp_bal M - sp_bal1 M r) / -(M (23 + 3 * r) * M (16 + M (22 + 3 * r)))))) → sp_match M r = max 1 (min 1000000 (max 1 (min 1000000 ((sp_bal M - sp_bal1 M r) / -(M (23 + 3 * r) * M (16 + M (22 + 3 * r))))) + 1))) ∧ (¬ sp_abs (sp_bal M - sp_bal1 M r + M (23 + 3 * r) * M (16 + M (22 + 3 * r)) * max 1 (min 1000000 (max 1 (min 1000000 ((sp_bal M - sp_bal1 M r) / -(M (23 + 3 * r) * M (16 + M (22 + 3 * r))))) + 1))) < sp_abs (sp_bal M - sp_bal1 M r + M (23 + 3 * r) * M (16 + M (22 + 3 * r)) * max 1 (min 1000000 ((sp_bal M - sp_bal1 M r) / -(M (23 + 3 * r) * M (16 + M (22 + 3 * r)))))) → sp_match M r = max 1 (min 1000000 ((sp_bal M - sp_bal1 M r) / -(M (23 + 3 * r) * M (16 + M (22 + 3 * r)))))) := by
  have q0 := hI.2.2.2.2 r hr.1 hr.2
  have q := q0.2.1
  have q2 := hI.2.2.1 (M (22 + 3 * r)) (by have := hI.2.2.2.1 r hr.1 (by have := hI.2.1; omega); omega) (by have := hI.2.2.2.1 r hr.1 (by have := hI.2.1; omega); omega)
  have e : M (23 + 3 * r) = -1 := by
    rcases q with q | q
    · rw [q] at h; omega
    · exact q
  unfold sp_match sp_open
  rw [e] at h ⊢
  generalize sp_bal M - sp_bal1 M r = o at *
  generalize M (16 + M (22 + 3 * r)) = s at *
  have m := mtch (o := o) (s := s) (by omega)
  rw [show -(-1 * s) = s by omega, show - -1 * o = o by omega, if_neg (by omega)]
  have ab : ∀ c : Int, sp_abs (o + -1 * s * c) = sp_abs (c * s - o) := fun c => by
    rw [show -1 * s * c = -(c * s) by rw [Int.mul_assoc, Int.mul_comm s c]; omega]
    unfold sp_abs
    split <;> split <;> omega
  rw [ab, ab]
  exact m
