/-! what stands in a command's way and what it does -/
def ckc (M : Int → Int) (c x y : Int) : Int := if c = 0 then ck_metal M x else if c = 1 then ck_rod M x 1 y else if c = 2 then ck_rod M x (-1) y else if c = 3 then ck_length M x y else if c = 4 then ck_warm x y else if c = 5 then ck_warm x (-y) else if c = 6 then ck_shelf x else if c = 7 then ck_turn M x else if c = 8 then ck_turn M (-x) else if c = 9 then 0 else if c = 10 then ck_set x y else ck_hours M x
def stc (M : Int → Int) (c x y : Int) : Int → Int := if c = 0 then st_metal M x else if c = 1 then st_rod M x 1 y else if c = 2 then st_rod M x (-1) y else if c = 3 then up M (24 + 3 * x) y else if c = 4 then up M (49 + x) y else if c = 5 then up M (49 + x) (-y) else if c = 6 then up M 5 x else if c = 7 then up M 7 (M 7 + x) else if c = 8 then up M 7 (M 7 + -x) else if c = 9 then up M 8 192 else if c = 10 then up M x y else sp_pass M x.toNat
theorem why_m {M : Int → Int} {x : Int} : ck1 (ck_metal M x) = 0 ↔ ck_metal M x = 0 := by
  unfold ck1 ck_metal
  repeat' split <;> omega
theorem why_t {M : Int → Int} {x : Int} : ck1 (ck_turn M x) = 0 ↔ ck_turn M x = 0 := by
  unfold ck1 ck_turn
  repeat' split <;> omega
theorem why_s {x y : Int} : ck1 (ck_set x y) = 0 ↔ ck_set x y = 0 := by
  unfold ck1 ck_set
  repeat' split <;> omega
theorem why_h {M : Int → Int} {x : Int} : ck1 (ck_hours M x) = 0 ↔ ck_hours M x = 0 := by
  unfold ck1 ck_hours
  repeat' split <;> omega
theorem ckc_eq {M : Int → Int} {c x y x' y' : Int} (h : 0 ≤ c ∧ c ≤ 11) (hx : 1 ≤ many c → x = x') (hy : 2 ≤ many c → y = y') : ckc M c x y = ckc M c x' y' := by
  rcases (show c = 0 ∨ c = 1 ∨ c = 2 ∨ c = 3 ∨ c = 4 ∨ c = 5 ∨ c = 6 ∨ c = 7 ∨ c = 8 ∨ c = 9 ∨ c = 10 ∨ c = 11 by omega) with z | z | z | z | z | z | z | z | z | z | z | z <;> subst z <;> first | rfl | (rw [hx (by decide), hy (by decide)]) | (rw [show x = x' from hx (by decide)]; rfl)
theorem stc_eq {M : Int → Int} {c x y x' y' : Int} (h : 0 ≤ c ∧ c ≤ 11) (hx : 1 ≤ many c → x = x') (hy : 2 ≤ many c → y = y') : stc M c x y = stc M c x' y' := by
  rcases (show c = 0 ∨ c = 1 ∨ c = 2 ∨ c = 3 ∨ c = 4 ∨ c = 5 ∨ c = 6 ∨ c = 7 ∨ c = 8 ∨ c = 9 ∨ c = 10 ∨ c = 11 by omega) with z | z | z | z | z | z | z | z | z | z | z | z <;> subst z <;> first | rfl | (rw [hx (by decide), hy (by decide)]) | (rw [show x = x' from hx (by decide)]; rfl)
theorem sk_sk {TX : Int → Int} {tl p : Int} (h : p ≤ tl) : sk TX tl (sk TX tl p) = sk TX tl p := sk_f (sk_B h).2.2
theorem tf_sk {TX : Int → Int} {tl p : Int} (h0 : 0 ≤ p) (h : p ≤ tl) : tf TX tl (sk TX tl p) = tf TX tl p := by
  have q := (sk_B (TX := TX) h).1
  rw [tf_eq (p := sk TX tl p) (by omega), tf_eq (p := p) h0, sk_sk h]
theorem tf_at {TX : Int → Int} {tl p : Int} (h0 : 0 ≤ p) (h : sk TX tl p = p) : tf TX tl p = if p < tl then (if cf TX tl p = -1 then tf TX tl (cp TX tl p) else cf TX tl p) else -1 := by
  have q := tf_eq (TX := TX) (tl := tl) h0
  rw [h] at q
  exact q
/-- the commands in their order: the state they leave and how many were done -/
def rN (TX : Int → Int) (tl : Int) : Nat → (Int → Int) → Int → Int → (Int → Int) × Int
  | 0, M, _, n => (M, n)
  | k + 1, M, p, n => if sk TX tl p < tl then (if ckc M (cc TX tl (sk TX tl p)) (cn1 TX tl (sk TX tl p)) (cn2 TX tl (sk TX tl p)) = 0 then rN TX tl k (stc M (cc TX tl (sk TX tl p)) (cn1 TX tl (sk TX tl p)) (cn2 TX tl (sk TX tl p))) (cp TX tl (sk TX tl p)) (n + 1) else (M, n)) else (M, n)
theorem sk_ge {TX : Int → Int} {tl p : Int} (h : tl ≤ p) : sk TX tl p = p := sk_f (by unfold tc; rw [if_neg (by omega)]; decide)
theorem sk_le {TX : Int → Int} {tl p : Int} : p ≤ sk TX tl p := by
  rcases Int.lt_or_le tl p with z | z
  · rw [sk_ge (by omega)]
    exact Int.le_refl _
  · exact (sk_B z).1
theorem cp_gt {TX : Int → Int} {tl q : Int} (h : q ≤ tl) : q < cp TX tl q := by
  have b := c_B (TX := TX) h
  unfold cp
  omega
theorem rN_eq {TX : Int → Int} {tl : Int} : ∀ (n : Nat) (M : Int → Int) (p k : Int), 0 ≤ p → (tl - p).toNat ≤ n → ∀ m : Nat, (tl - p).toNat ≤ m → rN TX tl n M p k = rN TX tl m M p k
  | 0, M, p, k, h0, hn, 0, hm => rfl
  | 0, M, p, k, h0, hn, m + 1, hm => by
    unfold rN
    have s := sk_ge (TX := TX) (tl := tl) (p := p) (by omega)
    rw [s, if_neg (by omega)]
  | n + 1, M, p, k, h0, hn, 0, hm => by
    unfold rN
    have s := sk_ge (TX := TX) (tl := tl) (p := p) (by omega)
    rw [s, if_neg (by omega)]
  | n + 1, M, p, k, h0, hn, m + 1, hm => by
    unfold rN
    by_cases a : sk TX tl p < tl
    · rw [if_pos a, if_pos a]
      have s := sk_le (TX := TX) (tl := tl) (p := p)
      have c := cp_gt (TX := TX) (tl := tl) (q := sk TX tl p) (by omega)
      split
      · exact rN_eq n _ _ _ (by omega) (by omega) m (by omega)
      · rfl
    · rw [if_neg a, if_neg a]
def run (TX : Int → Int) (tl : Int) (M : Int → Int) (p n : Int) : (Int → Int) × Int := rN TX tl (tl - p).toNat M p n
theorem run_sk {TX : Int → Int} {tl : Int} {M : Int → Int} {p n : Int} (h0 : 0 ≤ p) (h : p ≤ tl) : run TX tl M (sk TX tl p) n = run TX tl M p n := by
  have q := (sk_B (TX := TX) h).1
  have e1 : run TX tl M (sk TX tl p) n = rN TX tl ((tl - p).toNat + 1) M (sk TX tl p) n := rN_eq _ _ _ _ (by omega) (by omega) _ (by omega)
  have e2 : run TX tl M p n = rN TX tl ((tl - p).toNat + 1) M p n := rN_eq _ _ _ _ (by omega) (by omega) _ (by omega)
  rw [e1, e2]
  unfold rN
  rw [sk_sk h]
theorem run_at {TX : Int → Int} {tl : Int} {M : Int → Int} {p n : Int} (h0 : 0 ≤ p) (h : sk TX tl p = p) : run TX tl M p n = if p < tl then (if ckc M (cc TX tl p) (cn1 TX tl p) (cn2 TX tl p) = 0 then run TX tl (stc M (cc TX tl p) (cn1 TX tl p) (cn2 TX tl p)) (cp TX tl p) (n + 1) else (M, n)) else (M, n) := by
  have e2 : run TX tl M p n = rN TX tl ((tl - p).toNat + 1) M p n := rN_eq _ _ _ _ (by omega) (by omega) _ (by omega)
  rw [e2]
  unfold rN
  rw [h]
  by_cases a : p < tl
  · rw [if_pos a, if_pos a]
    have c := cp_gt (TX := TX) (tl := tl) (q := p) (by omega)
    split
    · exact rN_eq _ _ _ _ (by omega) (by omega) _ (by omega)
    · rfl
  · rw [if_neg a, if_neg a]
