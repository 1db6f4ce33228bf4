/-! what the changes keep -/
theorem gInv_stretch {M : Int → Int} (hI : gInv M) {k v : Int} (hk : 0 ≤ k ∧ k < 6) (hv : 0 ≤ v ∧ v ≤ 500) : gInv (up M (16 + k) v) := by
  obtain ⟨h1, h2, h3, h4, h5⟩ := hI
  have e : ∀ j : Int, ¬ (16 ≤ j ∧ j < 22) → up M (16 + k) v j = M j := fun j hj => up_n (by omega)
  refine ⟨by rw [e 3 (by omega)]; exact h1, by rw [e 4 (by omega)]; exact h2, fun x a b => ?_, fun x a b => ?_, fun x a b => ?_⟩
  · have q := h3 x a b
    unfold up
    split <;> omega
  · rw [e _ (by omega), e _ (by omega), e _ (by omega)]
    exact h4 x a b
  · rw [e 4 (by omega)] at b
    rw [e _ (by omega), e _ (by omega), e _ (by omega), e _ (by omega)]
    exact h5 x a b
theorem gInv_metal {M : Int → Int} (hI : gInv M) {v : Int} (hm : M 3 < 6) (hv : 0 ≤ v ∧ v ≤ 500) : gInv (st_metal M v) := by
  have h1 := hI.1
  have q := gInv_stretch hI (k := M 3) (by omega) hv
  obtain ⟨g1, g2, g3, g4, g5⟩ := q
  have e3 : up M (16 + M 3) v 3 = M 3 := up_n (by omega)
  unfold st_metal
  have e : ∀ j : Int, j ≠ 3 → up (up M (16 + M 3) v) 3 (M 3 + 1) j = up M (16 + M 3) v j := fun j hj => up_n hj
  refine ⟨by rw [up_s]; omega, by rw [e 4 (by omega)]; exact g2, fun x a b => by rw [e _ (by omega)]; exact g3 x a b, fun x a b => by rw [e _ (by omega), e _ (by omega), e _ (by omega)]; exact g4 x a b, fun x a b => ?_⟩
  rw [e 4 (by omega)] at b
  have q := g5 x a b
  rw [up_s, e _ (by omega), e _ (by omega), e _ (by omega)]
  rw [e3] at q
  omega
theorem gInv_len {M : Int → Int} (hI : gInv M) {r n : Int} (hr : 0 ≤ r ∧ r < M 4) (hn : 1 ≤ n ∧ n ≤ 1000000) : gInv (up M (24 + 3 * r) n) := by
  obtain ⟨h1, h2, h3, h4, h5⟩ := hI
  have e : ∀ j : Int, (j < 24 ∨ j % 3 ≠ 0) → up M (24 + 3 * r) n j = M j := fun j hj => up_n (by omega)
  refine ⟨by rw [e 3 (by omega)]; exact h1, by rw [e 4 (by omega)]; exact h2, fun x a b => by rw [e _ (by omega)]; exact h3 x a b, fun x a b => ?_, fun x a b => ?_⟩
  · have q := h4 x a b
    rw [e (22 + 3 * x) (by omega), e (23 + 3 * x) (by omega)]
    unfold up
    split <;> omega
  · rw [e 4 (by omega)] at b
    have q := h5 x a b
    rw [e (22 + 3 * x) (by omega), e (23 + 3 * x) (by omega), e 3 (by omega)]
    unfold up
    split <;> omega
theorem gInv_rod {M : Int → Int} (hI : gInv M) {k d n : Int} (hk : 0 ≤ k ∧ k < M 3) (hd : d = 1 ∨ d = -1) (hn : 1 ≤ n ∧ n ≤ 1000000) (h9 : M 4 < 9) : gInv (st_rod M k d n) := by
  obtain ⟨h1, h2, h3, h4, h5⟩ := hI
  have e : ∀ j : Int, (j < 22 ∨ (j ≠ 22 + 3 * M 4 ∧ j ≠ 23 + 3 * M 4 ∧ j ≠ 24 + 3 * M 4)) → j ≠ 4 → st_rod M k d n j = M j := fun j hj h => by
    unfold st_rod
    rw [up_n h, up_n (by omega), up_n (by omega), up_n (by omega)]
  have e4 : st_rod M k d n 4 = M 4 + 1 := up_s
  have ea : st_rod M k d n (22 + 3 * M 4) = k := by
    unfold st_rod
    rw [up_n (by omega), up_n (by omega), up_n (by omega), up_s]
  have eb : st_rod M k d n (23 + 3 * M 4) = d := by
    unfold st_rod
    rw [up_n (by omega), up_n (by omega), up_s]
  have ec : st_rod M k d n (24 + 3 * M 4) = n := by
    unfold st_rod
    rw [up_n (by omega), up_s]
  refine ⟨by rw [e 3 (by omega) (by omega)]; exact h1, by rw [e4]; omega, fun x a b => by rw [e _ (by omega) (by omega)]; exact h3 x a b, fun x a b => ?_, fun x a b => ?_⟩
  · by_cases z : x = M 4
    · subst z
      rw [ea, eb, ec]
      omega
    · rw [e _ (by omega) (by omega), e _ (by omega) (by omega), e _ (by omega) (by omega)]
      exact h4 x a b
  · rw [e4] at b
    by_cases z : x = M 4
    · subst z
      rw [ea, eb, ec, e 3 (by omega) (by omega)]
      omega
    · rw [e _ (by omega) (by omega), e _ (by omega) (by omega), e _ (by omega) (by omega), e _ (by omega) (by omega)]
      exact h5 x a (by omega)
theorem drop_v {M : Int → Int} {r j : Int} (h : j ≠ 4) : st_drop M r j = if 22 + 3 * r ≤ j ∧ j < 22 + 3 * (M 4 - 1) then M (j + 3) else M j := up_n h
theorem gInv_drop {M : Int → Int} (hI : gInv M) {r : Int} (hr : 0 ≤ r ∧ r < M 4) : gInv (st_drop M r) := by
  obtain ⟨h1, h2, h3, h4, h5⟩ := hI
  have e4 : st_drop M r 4 = M 4 - 1 := up_s
  have el : ∀ j : Int, j < 22 → j ≠ 4 → st_drop M r j = M j := fun j hj h => by rw [drop_v h]; exact if_neg (by omega)
  have ex : ∀ x : Int, 0 ≤ x → (st_drop M r (22 + 3 * x) = M (22 + 3 * (if r ≤ x ∧ x < M 4 - 1 then x + 1 else x))) ∧ (st_drop M r (23 + 3 * x) = M (23 + 3 * (if r ≤ x ∧ x < M 4 - 1 then x + 1 else x))) ∧ st_drop M r (24 + 3 * x) = M (24 + 3 * (if r ≤ x ∧ x < M 4 - 1 then x + 1 else x)) := fun x hx => by
    rw [drop_v (by omega), drop_v (by omega), drop_v (by omega)]
    by_cases z : r ≤ x ∧ x < M 4 - 1
    · rw [if_pos z, if_pos (by omega), if_pos (by omega), if_pos (by omega)]
      exact ⟨congrArg M (by omega), congrArg M (by omega), congrArg M (by omega)⟩
    · rw [if_neg z, if_neg (by omega), if_neg (by omega), if_neg (by omega)]
      exact ⟨rfl, rfl, rfl⟩
  refine ⟨by rw [el 3 (by omega) (by omega)]; exact h1, by rw [e4]; omega, fun x a b => by rw [el _ (by omega) (by omega)]; exact h3 x a b, fun x a b => ?_, fun x a b => ?_⟩
  · have q := ex x a
    rw [q.1, q.2.1, q.2.2]
    exact h4 _ (by split <;> omega) (by split <;> omega)
  · rw [e4] at b
    have q := ex x a
    rw [q.1, q.2.1, q.2.2, el 3 (by omega) (by omega)]
    exact h5 _ (by split <;> omega) (by split <;> omega)
theorem bInv_shelf {M : Int → Int} (hB : bInv M) {k v : Int} (hk : 0 ≤ k ∧ k ≤ 4) (hv : -300 ≤ v ∧ v ≤ 600) : bInv (up M (49 + k) v) := by
  unfold bInv at hB ⊢
  have e : ∀ j : Int, j < 49 → up M (49 + k) v j = M j := fun j hj => up_n (by omega)
  rw [e 0 (by omega), e 1 (by omega), e 2 (by omega), e 5 (by omega), e 6 (by omega), e 7 (by omega), e 8 (by omega), e 9 (by omega), e 10 (by omega), e 11 (by omega), e 12 (by omega), e 13 (by omega), e 14 (by omega), e 15 (by omega)]
  refine ⟨hB.1, hB.2.1, hB.2.2.1, fun x a b => ?_, hB.2.2.2.2⟩
  have q := hB.2.2.2.1 x a b
  unfold up
  split <;> omega
theorem bInv_one {M : Int → Int} (hB : bInv M) {j v : Int} (hj : j = 5 ∨ j = 7 ∨ j = 8 ∨ j = 0 ∨ j = 1 ∨ j = 2) (hv : (j = 5 → 0 ≤ v ∧ v ≤ 4) ∧ (j = 7 → -500 ≤ v ∧ v ≤ 500) ∧ (j = 8 → 0 ≤ v ∧ v ≤ 192) ∧ (j = 0 → 100000 ≤ v ∧ v ≤ 2000000) ∧ (j = 1 → 1 ≤ v ∧ v ≤ 24) ∧ (j = 2 → 0 ≤ v ∧ v ≤ 100)) : bInv (up M j v) := by
  unfold bInv at hB ⊢
  have e : ∀ x : Int, (8 < x ∨ x = 6) → up M j v x = M x := fun x hx => up_n (by omega)
  rw [e 6 (by omega), e 9 (by omega), e 10 (by omega), e 11 (by omega), e 12 (by omega), e 13 (by omega), e 14 (by omega), e 15 (by omega)]
  refine ⟨?_, ?_, hB.2.2.1, fun x a b => by rw [e _ (by omega)]; exact hB.2.2.2.1 x a b, hB.2.2.2.2⟩
  · have q := hB.1
    unfold up
    repeat' split <;> omega
  · have q := hB.2.1
    unfold up
    repeat' split <;> omega
theorem bInv_g {M N : Int → Int} (hB : bInv M) (h : ∀ j : Int, ((0 ≤ j ∧ j ≤ 2) ∨ (5 ≤ j ∧ j ≤ 15) ∨ (49 ≤ j ∧ j ≤ 53)) → N j = M j) : bInv N := bInv_eq h hB
def sInv (M : Int → Int) : Prop := gInv M ∧ bInv M ∧ M 9 ≤ 100000
theorem sInv_metal {M : Int → Int} (h : sInv M) {v : Int} (hc : ck_metal M v = 0) : sInv (st_metal M v) := by
  have hk : (0 ≤ v ∧ v ≤ 500) ∧ M 3 < 6 := by
    unfold ck_metal at hc
    repeat' split at hc
    all_goals omega
  have h3 := h.1.1
  have e : ∀ j : Int, j ≠ 3 → ¬ (16 ≤ j ∧ j < 22) → st_metal M v j = M j := fun j a b => by unfold st_metal; rw [up_n a, up_n (by omega)]
  exact ⟨gInv_metal h.1 hk.2 hk.1, bInv_eq (fun j hj => e j (by omega) (by omega)) h.2.1, by rw [e 9 (by omega) (by omega)]; exact h.2.2⟩
theorem sInv_stretch {M : Int → Int} (h : sInv M) {k v : Int} (hc : ck_stretch M k v = 0) : sInv (up M (16 + k) v) := by
  have h3 := h.1.1
  have hk : (0 ≤ k ∧ k < 6) ∧ 0 ≤ v ∧ v ≤ 500 := by
    unfold ck_stretch at hc
    repeat' split at hc
    all_goals omega
  exact ⟨gInv_stretch h.1 hk.1 hk.2, bInv_eq (fun j hj => up_n (by omega)) h.2.1, by rw [up_n (by omega)]; exact h.2.2⟩
theorem sInv_rod {M : Int → Int} (h : sInv M) {k d n : Int} (hc : ck_rod M k d n = 0) : sInv (st_rod M k d n) := by
  have h4 := h.1.2.1
  have hk : (0 ≤ k ∧ k < M 3) ∧ (d = 1 ∨ d = -1) ∧ (1 ≤ n ∧ n ≤ 1000000) ∧ M 4 < 9 := by
    unfold ck_rod at hc
    repeat' split at hc
    all_goals omega
  have e : ∀ j : Int, j ≠ 4 → ¬ (22 ≤ j ∧ j < 49) → st_rod M k d n j = M j := fun j a b => by unfold st_rod; rw [up_n a, up_n (by omega), up_n (by omega), up_n (by omega)]
  exact ⟨gInv_rod h.1 hk.1 hk.2.1 hk.2.2.1 hk.2.2.2, bInv_eq (fun j hj => e j (by omega) (by omega)) h.2.1, by rw [e 9 (by omega) (by omega)]; exact h.2.2⟩
theorem sInv_drop {M : Int → Int} (h : sInv M) {r : Int} (hr : 0 ≤ r ∧ r < M 4) : sInv (st_drop M r) := by
  have h4 := h.1.2.1
  have e : ∀ j : Int, j ≠ 4 → ¬ (22 ≤ j ∧ j < 49) → st_drop M r j = M j := fun j a b => by rw [drop_v a]; exact if_neg (by omega)
  exact ⟨gInv_drop h.1 hr, bInv_eq (fun j hj => e j (by omega) (by omega)) h.2.1, by rw [e 9 (by omega) (by omega)]; exact h.2.2⟩
theorem sInv_len {M : Int → Int} (h : sInv M) {r n : Int} (hc : ck_length M r n = 0) : sInv (up M (24 + 3 * r) n) := by
  have h4 := h.1.2.1
  have hk : (0 ≤ r ∧ r < M 4) ∧ 1 ≤ n ∧ n ≤ 1000000 := by
    unfold ck_length at hc
    repeat' split at hc
    all_goals omega
  exact ⟨gInv_len h.1 hk.1 hk.2, bInv_eq (fun j hj => up_n (by omega)) h.2.1, by rw [up_n (by omega)]; exact h.2.2⟩
theorem sInv_warm {M : Int → Int} (h : sInv M) {k v : Int} (hc : ck_warm k v = 0) : sInv (up M (49 + k) v) := by
  have hk : (0 ≤ k ∧ k ≤ 4) ∧ -300 ≤ v ∧ v ≤ 600 := by
    unfold ck_warm at hc
    repeat' split at hc
    all_goals omega
  exact ⟨gInv_up (by omega) h.1, bInv_shelf h.2.1 hk.1 hk.2, by rw [up_n (by omega)]; exact h.2.2⟩
theorem sInv_shelf {M : Int → Int} (h : sInv M) {k : Int} (hc : ck_shelf k = 0) : sInv (up M 5 k) := by
  have hk : 0 ≤ k ∧ k ≤ 4 := by
    unfold ck_shelf at hc
    repeat' split at hc
    all_goals omega
  exact ⟨gInv_up (by omega) h.1, bInv_one h.2.1 (by omega) (by omega), by rw [up_n (by omega)]; exact h.2.2⟩
theorem sInv_turn {M : Int → Int} (h : sInv M) {v : Int} (hc : ck_turn M v = 0) : sInv (up M 7 (M 7 + v)) := by
  have hk : -500 ≤ M 7 + v ∧ M 7 + v ≤ 500 := by
    unfold ck_turn at hc
    repeat' split at hc
    all_goals omega
  exact ⟨gInv_up (by omega) h.1, bInv_one h.2.1 (by omega) (by omega), by rw [up_n (by omega)]; exact h.2.2⟩
theorem sInv_wind {M : Int → Int} (h : sInv M) : sInv (up M 8 192) := ⟨gInv_up (by omega) h.1, bInv_one h.2.1 (by omega) (by omega), by rw [up_n (by omega)]; exact h.2.2⟩
theorem sInv_set {M : Int → Int} (h : sInv M) {w v : Int} (hc : ck_set w v = 0) : sInv (up M w v) := by
  have hk : (w = 0 ∧ 100000 ≤ v ∧ v ≤ 2000000) ∨ (w = 1 ∧ 1 ≤ v ∧ v ≤ 24) ∨ (w = 2 ∧ 0 ≤ v ∧ v ≤ 100) := by
    unfold ck_set at hc
    repeat' split at hc
    all_goals omega
  exact ⟨gInv_up (by omega) h.1, bInv_one h.2.1 (by omega) (by omega), by rw [up_n (by omega)]; exact h.2.2⟩
theorem sInv_pass {M : Int → Int} (h : sInv M) {n : Int} (hc : ck_hours M n = 0) : sInv (sp_pass M n.toNat) := by
  have hk : (1 ≤ n ∧ n ≤ 500) ∧ M 9 + n ≤ 100000 := by
    unfold ck_hours at hc
    repeat' split at hc
    all_goals omega
  have q := sp_passI h.1 h.2.1 n.toNat (by omega)
  exact ⟨q.1, q.2.1, by rw [q.2.2]; omega⟩
theorem sInv_stc {M : Int → Int} (h : sInv M) {c x y : Int} (hc : 0 ≤ c ∧ c ≤ 11) (hk : ckc M c x y = 0) : sInv (stc M c x y) := by
  rcases (show c = 0 ∨ c = 1 ∨ c = 2 ∨ c = 3 ∨ c = 4 ∨ c = 5 ∨ c = 6 ∨ c = 7 ∨ c = 8 ∨ c = 9 ∨ c = 10 ∨ c = 11 by omega) with z | z | z | z | z | z | z | z | z | z | z | z <;> subst z
  · exact sInv_metal h hk
  · exact sInv_rod h hk
  · exact sInv_rod h hk
  · exact sInv_len h hk
  · exact sInv_warm h hk
  · exact sInv_warm h hk
  · exact sInv_shelf h hk
  · exact sInv_turn h hk
  · exact sInv_turn h hk
  · exact sInv_wind h
  · exact sInv_set h hk
  · exact sInv_pass h hk
