/-! the command text as both sides read it -/
def tInv (TX : Int → Int) (tl : Int) : Prop := (0 ≤ tl ∧ tl ≤ 150) ∧ ∀ k : Int, 0 ≤ k → k < tl → 0 ≤ TX k ∧ TX k ≤ 127
def tc (TX : Int → Int) (tl p : Int) : Int := if p < tl then TX p else -1
def hrf (TX : Int → Int) (tl p : Int) : Int := if p < tl then TX p else -2000000000
theorem tcB {TX : Int → Int} {tl p : Int} (h : tInv TX tl) (hp : 0 ≤ p) : (p < tl ∧ tc TX tl p = TX p ∧ hrf TX tl p = TX p ∧ 0 ≤ TX p ∧ TX p ≤ 127) ∨ (tl ≤ p ∧ tc TX tl p = -1 ∧ hrf TX tl p = -2000000000) := by
  unfold tc hrf
  by_cases z : p < tl
  · left
    rw [if_pos z, if_pos z]
    exact ⟨z, rfl, rfl, h.2 p hp z⟩
  · right
    rw [if_neg z, if_neg z]
    exact ⟨by omega, rfl, rfl⟩
/-- on over cells that f takes -/
def whN (TX : Int → Int) (tl : Int) (f : Int → Bool) : Nat → Int → Int
  | 0, p => p
  | n + 1, p => if f (tc TX tl p) = true then whN TX tl f n (p + 1) else p
def wh (TX : Int → Int) (tl : Int) (f : Int → Bool) (p : Int) : Int := whN TX tl f (tl - p).toNat p
theorem wh_t {TX : Int → Int} {tl : Int} {f : Int → Bool} {p : Int} (hf : f (-1) = false) (h : f (tc TX tl p) = true) : wh TX tl f (p + 1) = wh TX tl f p := by
  have hp : p < tl := by
    rcases Int.lt_or_le p tl with z | z
    · exact z
    · unfold tc at h
      rw [if_neg (by omega), hf] at h
      exact absurd h (by decide)
  unfold wh
  rw [show (tl - p).toNat = (tl - (p + 1)).toNat + 1 by omega, whN, if_pos h]
theorem wh_f {TX : Int → Int} {tl : Int} {f : Int → Bool} {p : Int} (h : f (tc TX tl p) = false) : wh TX tl f p = p := by
  unfold wh
  cases (tl - p).toNat with
  | zero => rfl
  | succ n =>
    rw [whN, if_neg (by rw [h]; decide)]
theorem whN_B {TX : Int → Int} {tl : Int} {f : Int → Bool} (hf : f (-1) = false) : ∀ (n : Nat) (p : Int), p ≤ tl → (tl - p).toNat = n → p ≤ whN TX tl f n p ∧ whN TX tl f n p ≤ tl ∧ f (tc TX tl (whN TX tl f n p)) = false
  | 0, p, h, e => ⟨Int.le_refl _, h, by
      show f (tc TX tl p) = false
      unfold tc
      rw [if_neg (by omega)]
      exact hf⟩
  | n + 1, p, h, e => by
    unfold whN
    by_cases z : f (tc TX tl p) = true
    · rw [if_pos z]
      have q := whN_B (TX := TX) (tl := tl) hf n (p + 1) (by omega) (by omega)
      exact ⟨by omega, q.2.1, q.2.2⟩
    · rw [if_neg z]
      exact ⟨by omega, by omega, by simpa using z⟩
theorem wh_B {TX : Int → Int} {tl : Int} {f : Int → Bool} (hf : f (-1) = false) {p : Int} (h : p ≤ tl) : p ≤ wh TX tl f p ∧ wh TX tl f p ≤ tl ∧ f (tc TX tl (wh TX tl f p)) = false := whN_B hf _ p h rfl
def fSp (c : Int) : Bool := decide (c = 32)
def fLe (c : Int) : Bool := decide (97 ≤ c ∧ c ≤ 122)
def sk (TX : Int → Int) (tl p : Int) : Int := wh TX tl fSp p
def we (TX : Int → Int) (tl p : Int) : Int := wh TX tl fLe p
theorem sk_t {TX : Int → Int} {tl p : Int} (h : tc TX tl p = 32) : sk TX tl (p + 1) = sk TX tl p := wh_t rfl (by unfold fSp; rw [h]; rfl)
theorem sk_f {TX : Int → Int} {tl p : Int} (h : tc TX tl p ≠ 32) : sk TX tl p = p := wh_f (by unfold fSp; exact decide_eq_false h)
theorem sk_B {TX : Int → Int} {tl p : Int} (h : p ≤ tl) : p ≤ sk TX tl p ∧ sk TX tl p ≤ tl ∧ tc TX tl (sk TX tl p) ≠ 32 := by
  have q := wh_B (TX := TX) (f := fSp) rfl h
  exact ⟨q.1, q.2.1, of_decide_eq_false q.2.2⟩
theorem we_t {TX : Int → Int} {tl p : Int} (h : 97 ≤ tc TX tl p ∧ tc TX tl p ≤ 122) : we TX tl (p + 1) = we TX tl p := wh_t rfl (by unfold fLe; exact decide_eq_true h)
theorem we_f {TX : Int → Int} {tl p : Int} (h : ¬ (97 ≤ tc TX tl p ∧ tc TX tl p ≤ 122)) : we TX tl p = p := wh_f (by unfold fLe; exact decide_eq_false h)
theorem we_B {TX : Int → Int} {tl p : Int} (h : p ≤ tl) : p ≤ we TX tl p ∧ we TX tl p ≤ tl := by
  have q := wh_B (TX := TX) (f := fLe) rfl h
  exact ⟨q.1, q.2.1⟩
/-- digits: where they end and what they make -/
def dvN (TX : Int → Int) (tl : Int) : Nat → Int → Int → Int × Int
  | 0, i, x => (i, x)
  | n + 1, i, x => if 48 ≤ tc TX tl i ∧ tc TX tl i ≤ 57 then dvN TX tl n (i + 1) (10 * x + tc TX tl i - 48) else (i, x)
theorem dvN_B {TX : Int → Int} {tl : Int} : ∀ (n : Nat) (i x X : Int), 0 ≤ x → x ≤ X → i ≤ tl → (i ≤ (dvN TX tl n i x).1 ∧ (dvN TX tl n i x).1 ≤ tl) ∧ 0 ≤ (dvN TX tl n i x).2 ∧ (dvN TX tl n i x).2 + 1 ≤ 10 ^ n * (X + 1)
  | 0, i, x, X, h1, h2, h3 => ⟨⟨Int.le_refl _, h3⟩, h1, by rw [Int.pow_zero, Int.one_mul]; show x + 1 ≤ X + 1; omega⟩
  | n + 1, i, x, X, h1, h2, h3 => by
    have hp : (1 : Int) ≤ 10 ^ (n + 1) := Int.add_one_le_of_lt (Int.pow_pos (by decide))
    unfold dvN
    by_cases z : 48 ≤ tc TX tl i ∧ tc TX tl i ≤ 57
    · rw [if_pos z]
      have hi : i < tl := by
        rcases Int.lt_or_le i tl with q | q
        · exact q
        · unfold tc at z
          rw [if_neg (by omega)] at z
          omega
      have q := dvN_B (TX := TX) (tl := tl) n (i + 1) (10 * x + tc TX tl i - 48) (10 * X + 9) (by omega) (by omega) (by omega)
      refine ⟨by omega, q.2.1, ?_⟩
      rw [Int.pow_succ, Int.mul_assoc, show (10 : Int) * (X + 1) = 10 * X + 9 + 1 by omega]
      exact q.2.2
    · rw [if_neg z]
      refine ⟨⟨Int.le_refl _, h3⟩, h1, ?_⟩
      have := Int.mul_le_mul_of_nonneg_right hp (show 0 ≤ X + 1 by omega)
      rw [Int.one_mul] at this
      show x + 1 ≤ _
      omega
def dE (TX : Int → Int) (tl p : Int) : Int := (dvN TX tl 7 (sk TX tl p) 0).1
def nV (TX : Int → Int) (tl p : Int) : Int := (dvN TX tl 7 (sk TX tl p) 0).2
abbrev nok (TX : Int → Int) (tl p : Int) : Prop := tc TX tl p = 32 ∧ sk TX tl p < dE TX tl p
theorem nV_B {TX : Int → Int} {tl p : Int} (h : p ≤ tl) : (sk TX tl p ≤ dE TX tl p ∧ dE TX tl p ≤ tl) ∧ 0 ≤ nV TX tl p ∧ nV TX tl p ≤ 9999999 := by
  have q := dvN_B (TX := TX) (tl := tl) 7 (sk TX tl p) 0 0 (by omega) (by omega) (sk_B h).2.1
  have e : (10 : Int) ^ 7 * (0 + 1) = 10000000 := by decide
  unfold dE nV
  omega
/-- the word i: its length, its letters -/
def wlen (i : Int) : Int := if i = 0 then 5 else if i = 2 then 2 else if i = 3 ∨ i = 7 ∨ i = 10 then 3 else 4
def wls (i : Int) : Int × Int × Int × Int × Int := if i = 0 then (109, 101, 116, 97, 108) else if i = 1 then (100, 111, 119, 110, 0) else if i = 2 then (117, 112, 0, 0, 0) else if i = 3 then (99, 117, 116, 0, 0) else if i = 4 then (119, 97, 114, 109, 0) else if i = 5 then (99, 111, 108, 100, 0) else if i = 6 then (104, 97, 110, 103, 0) else if i = 7 then (110, 117, 116, 0, 0) else if i = 8 then (98, 97, 99, 107, 0) else if i = 9 then (119, 105, 110, 100, 0) else if i = 10 then (115, 101, 116, 0, 0) else (112, 97, 115, 115, 0)
abbrev isW (TX : Int → Int) (i s e : Int) : Prop := e - s = wlen i ∧ (TX s = (wls i).1 ∧ TX (s + 1) = (wls i).2.1 ∧ (2 < wlen i → TX (s + 2) = (wls i).2.2.1) ∧ (3 < wlen i → TX (s + 3) = (wls i).2.2.2.1) ∧ (4 < wlen i → TX (s + 4) = (wls i).2.2.2.2))
def cwN (TX : Int → Int) (s e : Int) : Nat → Int
  | 0 => -2000000000
  | n + 1 => if isW TX (11 - (n : Int)) s e then 11 - (n : Int) else cwN TX s e n
/-- which word stands between s and e -/
def cw (TX : Int → Int) (s e : Int) : Int := cwN TX s e 12
theorem cmS {TX : Int → Int} {s e i : Int} (h : 0 ≤ i ∧ i < 12) : cwN TX s e (12 - i).toNat = if isW TX i s e then i else cwN TX s e (12 - (i + 1)).toNat := by
  rw [show (12 - i).toNat = (12 - (i + 1)).toNat + 1 by omega, cwN, show 11 - (((12 - (i + 1)).toNat : Nat) : Int) = i by omega]
theorem cwN_B {TX : Int → Int} {s e : Int} : ∀ n : Nat, n ≤ 12 → cwN TX s e n = -2000000000 ∨ (0 ≤ cwN TX s e n ∧ cwN TX s e n ≤ 11)
  | 0, _ => Or.inl rfl
  | n + 1, h => by
    unfold cwN
    split
    · right; omega
    · exact cwN_B n (by omega)
def many (c : Int) : Int := if c = 9 then 0 else if c = 0 ∨ c = 6 ∨ c = 7 ∨ c = 8 ∨ c = 11 then 1 else 2
def cc (TX : Int → Int) (tl q : Int) : Int := cw TX q (we TX tl q)
def c1 (TX : Int → Int) (tl q : Int) : Int := if 1 ≤ many (cc TX tl q) then dE TX tl (we TX tl q) else we TX tl q
def c2 (TX : Int → Int) (tl q : Int) : Int := if 2 ≤ many (cc TX tl q) then dE TX tl (c1 TX tl q) else c1 TX tl q
/-- the place of a command's fault, or -1 -/
def cf (TX : Int → Int) (tl q : Int) : Int := if cc TX tl q = -2000000000 then q else if 1 ≤ many (cc TX tl q) ∧ ¬ nok TX tl (we TX tl q) then sk TX tl (we TX tl q) else if 2 ≤ many (cc TX tl q) ∧ ¬ nok TX tl (c1 TX tl q) then sk TX tl (c1 TX tl q) else if tc TX tl (sk TX tl (c2 TX tl q)) ≠ 59 then sk TX tl (c2 TX tl q) else -1
def cp (TX : Int → Int) (tl q : Int) : Int := sk TX tl (c2 TX tl q) + 1
def cn1 (TX : Int → Int) (tl q : Int) : Int := if 1 ≤ many (cc TX tl q) then nV TX tl (we TX tl q) else 0
def cn2 (TX : Int → Int) (tl q : Int) : Int := if 2 ≤ many (cc TX tl q) then nV TX tl (c1 TX tl q) else 0
theorem c_B {TX : Int → Int} {tl q : Int} (h : q ≤ tl) : (q ≤ we TX tl q ∧ we TX tl q ≤ tl) ∧ (we TX tl q ≤ c1 TX tl q ∧ c1 TX tl q ≤ tl) ∧ (c1 TX tl q ≤ c2 TX tl q ∧ c2 TX tl q ≤ tl) ∧ (c2 TX tl q ≤ sk TX tl (c2 TX tl q) ∧ sk TX tl (c2 TX tl q) ≤ tl) := by
  have w := we_B (TX := TX) h
  have a1 := (nV_B (TX := TX) w.2).1
  have s1 := sk_B (TX := TX) w.2
  have b1 : we TX tl q ≤ c1 TX tl q ∧ c1 TX tl q ≤ tl := by
    unfold c1
    split <;> omega
  have a2 := (nV_B (TX := TX) b1.2).1
  have s2 := sk_B (TX := TX) b1.2
  have b2 : c1 TX tl q ≤ c2 TX tl q ∧ c2 TX tl q ≤ tl := by
    unfold c2
    split <;> omega
  have s3 := sk_B (TX := TX) b2.2
  omega
theorem cn_B {TX : Int → Int} {tl q : Int} (h : q ≤ tl) : (0 ≤ cn1 TX tl q ∧ cn1 TX tl q ≤ 9999999) ∧ 0 ≤ cn2 TX tl q ∧ cn2 TX tl q ≤ 9999999 := by
  have b := c_B (TX := TX) h
  have a1 := (nV_B (TX := TX) b.1.2).2
  have a2 := (nV_B (TX := TX) b.2.1.2).2
  unfold cn1 cn2
  split <;> split <;> omega
theorem cf_B {TX : Int → Int} {tl q : Int} (h0 : 0 ≤ q) (h : q ≤ tl) : (cf TX tl q = -1 ∧ tc TX tl (sk TX tl (c2 TX tl q)) = 59 ∧ cp TX tl q ≤ tl ∧ q < cp TX tl q) ∨ (0 ≤ cf TX tl q ∧ cf TX tl q ≤ tl) := by
  have b := c_B (TX := TX) h
  have s1 := sk_B (TX := TX) b.1.2
  have s2 := sk_B (TX := TX) b.2.1.2
  unfold cf
  split
  · right; omega
  · split
    · right; omega
    · split
      · right; omega
      · split
        · right; omega
        · left
          next hz =>
          have e : tc TX tl (sk TX tl (c2 TX tl q)) = 59 := Decidable.not_not.mp hz
          refine ⟨rfl, e, ?_, ?_⟩
          · unfold cp
            have : sk TX tl (c2 TX tl q) < tl := by
              rcases Int.lt_or_le (sk TX tl (c2 TX tl q)) tl with q | q
              · exact q
              · unfold tc at e
                rw [if_neg (by omega)] at e
                exact absurd e (by decide)
            omega
          · unfold cp
            omega
/-- the place of the text's first fault, or -1 -/
def tfN (TX : Int → Int) (tl : Int) : Nat → Int → Int
  | 0, _ => -1
  | n + 1, p => if sk TX tl p < tl then (if cf TX tl (sk TX tl p) = -1 then tfN TX tl n (cp TX tl (sk TX tl p)) else cf TX tl (sk TX tl p)) else -1
theorem tfN_eq {TX : Int → Int} {tl : Int} : ∀ (n : Nat) (p : Int), 0 ≤ p → (tl - p).toNat ≤ n → ∀ m : Nat, (tl - p).toNat ≤ m → tfN TX tl n p = tfN TX tl m p
  | 0, p, h0, hn, 0, hm => rfl
  | 0, p, h0, hn, m + 1, hm => by
    unfold tfN
    have : ¬ sk TX tl p < tl := by
      rw [sk_f]
      · omega
      · unfold tc
        rw [if_neg (by omega)]
        decide
    rw [if_neg this]
  | n + 1, p, h0, hn, 0, hm => by
    unfold tfN
    have : ¬ sk TX tl p < tl := by
      rw [sk_f]
      · omega
      · unfold tc
        rw [if_neg (by omega)]
        decide
    rw [if_neg this]
  | n + 1, p, h0, hn, m + 1, hm => by
    unfold tfN
    by_cases a : sk TX tl p < tl
    · rw [if_pos a, if_pos a]
      by_cases b : cf TX tl (sk TX tl p) = -1
      · rw [if_pos b, if_pos b]
        have hp : p ≤ sk TX tl p := by
          rcases Int.lt_or_le tl p with z | z
          · rw [sk_f]
            · exact Int.le_refl _
            · unfold tc
              rw [if_neg (by omega)]
              decide
          · exact (sk_B z).1
        have q := cf_B (TX := TX) (tl := tl) (q := sk TX tl p) (by omega) (by omega)
        have r := c_B (TX := TX) (tl := tl) (q := sk TX tl p) (by omega)
        unfold cp at q ⊢
        exact tfN_eq n _ (by omega) (by omega) m (by omega)
      · rw [if_neg b, if_neg b]
    · rw [if_neg a, if_neg a]
def tf (TX : Int → Int) (tl p : Int) : Int := tfN TX tl (tl - p).toNat p
theorem tf_eq {TX : Int → Int} {tl p : Int} (h0 : 0 ≤ p) : tf TX tl p = if sk TX tl p < tl then (if cf TX tl (sk TX tl p) = -1 then tf TX tl (cp TX tl (sk TX tl p)) else cf TX tl (sk TX tl p)) else -1 := by
  have e : tf TX tl p = tfN TX tl ((tl - p).toNat + 1) p := tfN_eq _ p h0 (by omega) _ (by omega)
  rw [e]
  unfold tfN
  by_cases a : sk TX tl p < tl
  · rw [if_pos a, if_pos a]
    by_cases b : cf TX tl (sk TX tl p) = -1
    · rw [if_pos b, if_pos b]
      have hp : p ≤ sk TX tl p := by
        rcases Int.lt_or_le tl p with z | z
        · rw [sk_f]
          · exact Int.le_refl _
          · unfold tc
            rw [if_neg (by omega)]
            decide
        · exact (sk_B z).1
      have r := c_B (TX := TX) (tl := tl) (q := sk TX tl p) (by omega)
      exact tfN_eq _ _ (by unfold cp; omega) (by unfold cp; omega) _ (by omega)
    · rw [if_neg b, if_neg b]
  · rw [if_neg a, if_neg a]
/-! the reference's words: numbers to the base 27 -/
def cmo (v : Int) : Int := if v = 7021767 then 0 else if v = 90302 then 1 else if v = 583 then 2 else if v = 2774 then 3 else if v = 453937 then 4 else if v = 70312 then 5 else if v = 158578 then 6 else if v = 10793 then 7 else if v = 40187 then 8 else if v = 459652 then 9 else if v = 14006 then 10 else if v = 316189 then 11 else -2000000000
def vN (TX : Int → Int) (s : Int) : Nat → Int
  | 0 => 0
  | n + 1 => vN TX s n * 27 + TX (s + (n : Int)) - 96
theorem vNS {TX : Int → Int} {s i : Int} (h : s ≤ i) : vN TX s (i + 1 - s).toNat = vN TX s (i - s).toNat * 27 + TX i - 96 := by
  rw [show (i + 1 - s).toNat = (i - s).toNat + 1 by omega, vN, show s + (((i - s).toNat : Nat) : Int) = i by omega]
theorem cw_all (TX : Int → Int) (s e : Int) : cw TX s e = if isW TX 0 s e then 0 else if isW TX 1 s e then 1 else if isW TX 2 s e then 2 else if isW TX 3 s e then 3 else if isW TX 4 s e then 4 else if isW TX 5 s e then 5 else if isW TX 6 s e then 6 else if isW TX 7 s e then 7 else if isW TX 8 s e then 8 else if isW TX 9 s e then 9 else if isW TX 10 s e then 10 else if isW TX 11 s e then 11 else -2000000000 := rfl
theorem wlenB (i : Int) : 2 ≤ wlen i ∧ wlen i ≤ 5 := by
  unfold wlen
  repeat' split <;> omega
theorem cw_no {TX : Int → Int} {s e : Int} (h : 5 < e - s ∨ e - s < 2) : cw TX s e = -2000000000 := by
  have q : ∀ i : Int, ¬ isW TX i s e := fun i hi => by
    have := wlenB i
    have := hi.1
    omega
  rw [cw_all, if_neg (q 0), if_neg (q 1), if_neg (q 2), if_neg (q 3), if_neg (q 4), if_neg (q 5), if_neg (q 6), if_neg (q 7), if_neg (q 8), if_neg (q 9), if_neg (q 10), if_neg (q 11)]
theorem isW_5 {TX : Int → Int} {s e x0 x1 x2 x3 x4 : Int} {i : Int} (hl : wlen i = 5) (hs : wls i = (x0, x1, x2, x3, x4)) : isW TX i s e ↔ (e - s = 5 ∧ TX s = x0 ∧ TX (s + 1) = x1 ∧ TX (s + 2) = x2 ∧ TX (s + 3) = x3 ∧ TX (s + 4) = x4) := by
  unfold isW
  rw [hl, hs]
  exact ⟨fun h => ⟨h.1, h.2.1, h.2.2.1, h.2.2.2.1 (by decide), h.2.2.2.2.1 (by decide), h.2.2.2.2.2 (by decide)⟩, fun h => ⟨h.1, h.2.1, h.2.2.1, fun _ => h.2.2.2.1, fun _ => h.2.2.2.2.1, fun _ => h.2.2.2.2.2⟩⟩
theorem isW_4 {TX : Int → Int} {s e x0 x1 x2 x3 x4 : Int} {i : Int} (hl : wlen i = 4) (hs : wls i = (x0, x1, x2, x3, x4)) : isW TX i s e ↔ (e - s = 4 ∧ TX s = x0 ∧ TX (s + 1) = x1 ∧ TX (s + 2) = x2 ∧ TX (s + 3) = x3) := by
  unfold isW
  rw [hl, hs]
  exact ⟨fun h => ⟨h.1, h.2.1, h.2.2.1, h.2.2.2.1 (by decide), h.2.2.2.2.1 (by decide)⟩, fun h => ⟨h.1, h.2.1, h.2.2.1, fun _ => h.2.2.2.1, fun _ => h.2.2.2.2, fun h => absurd h (by decide)⟩⟩
theorem isW_3 {TX : Int → Int} {s e x0 x1 x2 x3 x4 : Int} {i : Int} (hl : wlen i = 3) (hs : wls i = (x0, x1, x2, x3, x4)) : isW TX i s e ↔ (e - s = 3 ∧ TX s = x0 ∧ TX (s + 1) = x1 ∧ TX (s + 2) = x2) := by
  unfold isW
  rw [hl, hs]
  exact ⟨fun h => ⟨h.1, h.2.1, h.2.2.1, h.2.2.2.1 (by decide)⟩, fun h => ⟨h.1, h.2.1, h.2.2.1, fun _ => h.2.2.2, fun h => absurd h (by decide), fun h => absurd h (by decide)⟩⟩
theorem isW_2 {TX : Int → Int} {s e x0 x1 x2 x3 x4 : Int} {i : Int} (hl : wlen i = 2) (hs : wls i = (x0, x1, x2, x3, x4)) : isW TX i s e ↔ (e - s = 2 ∧ TX s = x0 ∧ TX (s + 1) = x1) := by
  unfold isW
  rw [hl, hs]
  exact ⟨fun h => ⟨h.1, h.2.1, h.2.2.1⟩, fun h => ⟨h.1, h.2.1, h.2.2, fun h => absurd h (by decide), fun h => absurd h (by decide), fun h => absurd h (by decide)⟩⟩
theorem dg27 {w d c : Int} (hd : 97 ≤ d ∧ d ≤ 122) (e : Int) (he : 97 ≤ e ∧ e ≤ 122) : (w * 27 + d - 96 = c * 27 + e - 96) ↔ (w = c ∧ d = e) := by omega
theorem cd_0 {x0 x1 x2 x3 x4 : Int} (b0 : 97 ≤ x0 ∧ x0 ≤ 122) (b1 : 97 ≤ x1 ∧ x1 ≤ 122) (b2 : 97 ≤ x2 ∧ x2 ≤ 122) (b3 : 97 ≤ x3 ∧ x3 ≤ 122) (b4 : 97 ≤ x4 ∧ x4 ≤ 122) : (((((0 * 27 + x0 - 96) * 27 + x1 - 96) * 27 + x2 - 96) * 27 + x3 - 96) * 27 + x4 - 96 = 7021767) ↔ (x0 = 109 ∧ x1 = 101 ∧ x2 = 116 ∧ x3 = 97 ∧ x4 = 108) := by
  refine ⟨fun h => ?_, fun h => ?_⟩
  · have h4 := (dg27 (w := (((0 * 27 + x0 - 96) * 27 + x1 - 96) * 27 + x2 - 96) * 27 + x3 - 96) (c := 260065) b4 108 (by decide)).mp (h.trans (by decide))
    have h3 := (dg27 (w := ((0 * 27 + x0 - 96) * 27 + x1 - 96) * 27 + x2 - 96) (c := 9632) b3 97 (by decide)).mp (h4.1.trans (by decide))
    have h2 := (dg27 (w := (0 * 27 + x0 - 96) * 27 + x1 - 96) (c := 356) b2 116 (by decide)).mp (h3.1.trans (by decide))
    have h1 := (dg27 (w := 0 * 27 + x0 - 96) (c := 13) b1 101 (by decide)).mp (h2.1.trans (by decide))
    have h0 : x0 = 109 := by have := h1.1; omega
    exact ⟨h0, h1.2, h2.2, h3.2, h4.2⟩
  · obtain ⟨rfl, rfl, rfl, rfl, rfl⟩ := h
    decide
theorem cd_1 {x0 x1 x2 x3 : Int} (b0 : 97 ≤ x0 ∧ x0 ≤ 122) (b1 : 97 ≤ x1 ∧ x1 ≤ 122) (b2 : 97 ≤ x2 ∧ x2 ≤ 122) (b3 : 97 ≤ x3 ∧ x3 ≤ 122) : ((((0 * 27 + x0 - 96) * 27 + x1 - 96) * 27 + x2 - 96) * 27 + x3 - 96 = 90302) ↔ (x0 = 100 ∧ x1 = 111 ∧ x2 = 119 ∧ x3 = 110) := by
  refine ⟨fun h => ?_, fun h => ?_⟩
  · have h3 := (dg27 (w := ((0 * 27 + x0 - 96) * 27 + x1 - 96) * 27 + x2 - 96) (c := 3344) b3 110 (by decide)).mp (h.trans (by decide))
    have h2 := (dg27 (w := (0 * 27 + x0 - 96) * 27 + x1 - 96) (c := 123) b2 119 (by decide)).mp (h3.1.trans (by decide))
    have h1 := (dg27 (w := 0 * 27 + x0 - 96) (c := 4) b1 111 (by decide)).mp (h2.1.trans (by decide))
    have h0 : x0 = 100 := by have := h1.1; omega
    exact ⟨h0, h1.2, h2.2, h3.2⟩
  · obtain ⟨rfl, rfl, rfl, rfl⟩ := h
    decide
theorem cd_2 {x0 x1 : Int} (b0 : 97 ≤ x0 ∧ x0 ≤ 122) (b1 : 97 ≤ x1 ∧ x1 ≤ 122) : ((0 * 27 + x0 - 96) * 27 + x1 - 96 = 583) ↔ (x0 = 117 ∧ x1 = 112) := by
  refine ⟨fun h => ?_, fun h => ?_⟩
  · have h1 := (dg27 (w := 0 * 27 + x0 - 96) (c := 21) b1 112 (by decide)).mp (h.trans (by decide))
    have h0 : x0 = 117 := by have := h1.1; omega
    exact ⟨h0, h1.2⟩
  · obtain ⟨rfl, rfl⟩ := h
    decide
theorem cd_3 {x0 x1 x2 : Int} (b0 : 97 ≤ x0 ∧ x0 ≤ 122) (b1 : 97 ≤ x1 ∧ x1 ≤ 122) (b2 : 97 ≤ x2 ∧ x2 ≤ 122) : (((0 * 27 + x0 - 96) * 27 + x1 - 96) * 27 + x2 - 96 = 2774) ↔ (x0 = 99 ∧ x1 = 117 ∧ x2 = 116) := by
  refine ⟨fun h => ?_, fun h => ?_⟩
  · have h2 := (dg27 (w := (0 * 27 + x0 - 96) * 27 + x1 - 96) (c := 102) b2 116 (by decide)).mp (h.trans (by decide))
    have h1 := (dg27 (w := 0 * 27 + x0 - 96) (c := 3) b1 117 (by decide)).mp (h2.1.trans (by decide))
    have h0 : x0 = 99 := by have := h1.1; omega
    exact ⟨h0, h1.2, h2.2⟩
  · obtain ⟨rfl, rfl, rfl⟩ := h
    decide
theorem cd_4 {x0 x1 x2 x3 : Int} (b0 : 97 ≤ x0 ∧ x0 ≤ 122) (b1 : 97 ≤ x1 ∧ x1 ≤ 122) (b2 : 97 ≤ x2 ∧ x2 ≤ 122) (b3 : 97 ≤ x3 ∧ x3 ≤ 122) : ((((0 * 27 + x0 - 96) * 27 + x1 - 96) * 27 + x2 - 96) * 27 + x3 - 96 = 453937) ↔ (x0 = 119 ∧ x1 = 97 ∧ x2 = 114 ∧ x3 = 109) := by
  refine ⟨fun h => ?_, fun h => ?_⟩
  · have h3 := (dg27 (w := ((0 * 27 + x0 - 96) * 27 + x1 - 96) * 27 + x2 - 96) (c := 16812) b3 109 (by decide)).mp (h.trans (by decide))
    have h2 := (dg27 (w := (0 * 27 + x0 - 96) * 27 + x1 - 96) (c := 622) b2 114 (by decide)).mp (h3.1.trans (by decide))
    have h1 := (dg27 (w := 0 * 27 + x0 - 96) (c := 23) b1 97 (by decide)).mp (h2.1.trans (by decide))
    have h0 : x0 = 119 := by have := h1.1; omega
    exact ⟨h0, h1.2, h2.2, h3.2⟩
  · obtain ⟨rfl, rfl, rfl, rfl⟩ := h
    decide
theorem cd_5 {x0 x1 x2 x3 : Int} (b0 : 97 ≤ x0 ∧ x0 ≤ 122) (b1 : 97 ≤ x1 ∧ x1 ≤ 122) (b2 : 97 ≤ x2 ∧ x2 ≤ 122) (b3 : 97 ≤ x3 ∧ x3 ≤ 122) : ((((0 * 27 + x0 - 96) * 27 + x1 - 96) * 27 + x2 - 96) * 27 + x3 - 96 = 70312) ↔ (x0 = 99 ∧ x1 = 111 ∧ x2 = 108 ∧ x3 = 100) := by
  refine ⟨fun h => ?_, fun h => ?_⟩
  · have h3 := (dg27 (w := ((0 * 27 + x0 - 96) * 27 + x1 - 96) * 27 + x2 - 96) (c := 2604) b3 100 (by decide)).mp (h.trans (by decide))
    have h2 := (dg27 (w := (0 * 27 + x0 - 96) * 27 + x1 - 96) (c := 96) b2 108 (by decide)).mp (h3.1.trans (by decide))
    have h1 := (dg27 (w := 0 * 27 + x0 - 96) (c := 3) b1 111 (by decide)).mp (h2.1.trans (by decide))
    have h0 : x0 = 99 := by have := h1.1; omega
    exact ⟨h0, h1.2, h2.2, h3.2⟩
  · obtain ⟨rfl, rfl, rfl, rfl⟩ := h
    decide
theorem cd_6 {x0 x1 x2 x3 : Int} (b0 : 97 ≤ x0 ∧ x0 ≤ 122) (b1 : 97 ≤ x1 ∧ x1 ≤ 122) (b2 : 97 ≤ x2 ∧ x2 ≤ 122) (b3 : 97 ≤ x3 ∧ x3 ≤ 122) : ((((0 * 27 + x0 - 96) * 27 + x1 - 96) * 27 + x2 - 96) * 27 + x3 - 96 = 158578) ↔ (x0 = 104 ∧ x1 = 97 ∧ x2 = 110 ∧ x3 = 103) := by
  refine ⟨fun h => ?_, fun h => ?_⟩
  · have h3 := (dg27 (w := ((0 * 27 + x0 - 96) * 27 + x1 - 96) * 27 + x2 - 96) (c := 5873) b3 103 (by decide)).mp (h.trans (by decide))
    have h2 := (dg27 (w := (0 * 27 + x0 - 96) * 27 + x1 - 96) (c := 217) b2 110 (by decide)).mp (h3.1.trans (by decide))
    have h1 := (dg27 (w := 0 * 27 + x0 - 96) (c := 8) b1 97 (by decide)).mp (h2.1.trans (by decide))
    have h0 : x0 = 104 := by have := h1.1; omega
    exact ⟨h0, h1.2, h2.2, h3.2⟩
  · obtain ⟨rfl, rfl, rfl, rfl⟩ := h
    decide
theorem cd_7 {x0 x1 x2 : Int} (b0 : 97 ≤ x0 ∧ x0 ≤ 122) (b1 : 97 ≤ x1 ∧ x1 ≤ 122) (b2 : 97 ≤ x2 ∧ x2 ≤ 122) : (((0 * 27 + x0 - 96) * 27 + x1 - 96) * 27 + x2 - 96 = 10793) ↔ (x0 = 110 ∧ x1 = 117 ∧ x2 = 116) := by
  refine ⟨fun h => ?_, fun h => ?_⟩
  · have h2 := (dg27 (w := (0 * 27 + x0 - 96) * 27 + x1 - 96) (c := 399) b2 116 (by decide)).mp (h.trans (by decide))
    have h1 := (dg27 (w := 0 * 27 + x0 - 96) (c := 14) b1 117 (by decide)).mp (h2.1.trans (by decide))
    have h0 : x0 = 110 := by have := h1.1; omega
    exact ⟨h0, h1.2, h2.2⟩
  · obtain ⟨rfl, rfl, rfl⟩ := h
    decide
theorem cd_8 {x0 x1 x2 x3 : Int} (b0 : 97 ≤ x0 ∧ x0 ≤ 122) (b1 : 97 ≤ x1 ∧ x1 ≤ 122) (b2 : 97 ≤ x2 ∧ x2 ≤ 122) (b3 : 97 ≤ x3 ∧ x3 ≤ 122) : ((((0 * 27 + x0 - 96) * 27 + x1 - 96) * 27 + x2 - 96) * 27 + x3 - 96 = 40187) ↔ (x0 = 98 ∧ x1 = 97 ∧ x2 = 99 ∧ x3 = 107) := by
  refine ⟨fun h => ?_, fun h => ?_⟩
  · have h3 := (dg27 (w := ((0 * 27 + x0 - 96) * 27 + x1 - 96) * 27 + x2 - 96) (c := 1488) b3 107 (by decide)).mp (h.trans (by decide))
    have h2 := (dg27 (w := (0 * 27 + x0 - 96) * 27 + x1 - 96) (c := 55) b2 99 (by decide)).mp (h3.1.trans (by decide))
    have h1 := (dg27 (w := 0 * 27 + x0 - 96) (c := 2) b1 97 (by decide)).mp (h2.1.trans (by decide))
    have h0 : x0 = 98 := by have := h1.1; omega
    exact ⟨h0, h1.2, h2.2, h3.2⟩
  · obtain ⟨rfl, rfl, rfl, rfl⟩ := h
    decide
theorem cd_9 {x0 x1 x2 x3 : Int} (b0 : 97 ≤ x0 ∧ x0 ≤ 122) (b1 : 97 ≤ x1 ∧ x1 ≤ 122) (b2 : 97 ≤ x2 ∧ x2 ≤ 122) (b3 : 97 ≤ x3 ∧ x3 ≤ 122) : ((((0 * 27 + x0 - 96) * 27 + x1 - 96) * 27 + x2 - 96) * 27 + x3 - 96 = 459652) ↔ (x0 = 119 ∧ x1 = 105 ∧ x2 = 110 ∧ x3 = 100) := by
  refine ⟨fun h => ?_, fun h => ?_⟩
  · have h3 := (dg27 (w := ((0 * 27 + x0 - 96) * 27 + x1 - 96) * 27 + x2 - 96) (c := 17024) b3 100 (by decide)).mp (h.trans (by decide))
    have h2 := (dg27 (w := (0 * 27 + x0 - 96) * 27 + x1 - 96) (c := 630) b2 110 (by decide)).mp (h3.1.trans (by decide))
    have h1 := (dg27 (w := 0 * 27 + x0 - 96) (c := 23) b1 105 (by decide)).mp (h2.1.trans (by decide))
    have h0 : x0 = 119 := by have := h1.1; omega
    exact ⟨h0, h1.2, h2.2, h3.2⟩
  · obtain ⟨rfl, rfl, rfl, rfl⟩ := h
    decide
theorem cd_10 {x0 x1 x2 : Int} (b0 : 97 ≤ x0 ∧ x0 ≤ 122) (b1 : 97 ≤ x1 ∧ x1 ≤ 122) (b2 : 97 ≤ x2 ∧ x2 ≤ 122) : (((0 * 27 + x0 - 96) * 27 + x1 - 96) * 27 + x2 - 96 = 14006) ↔ (x0 = 115 ∧ x1 = 101 ∧ x2 = 116) := by
  refine ⟨fun h => ?_, fun h => ?_⟩
  · have h2 := (dg27 (w := (0 * 27 + x0 - 96) * 27 + x1 - 96) (c := 518) b2 116 (by decide)).mp (h.trans (by decide))
    have h1 := (dg27 (w := 0 * 27 + x0 - 96) (c := 19) b1 101 (by decide)).mp (h2.1.trans (by decide))
    have h0 : x0 = 115 := by have := h1.1; omega
    exact ⟨h0, h1.2, h2.2⟩
  · obtain ⟨rfl, rfl, rfl⟩ := h
    decide
theorem cd_11 {x0 x1 x2 x3 : Int} (b0 : 97 ≤ x0 ∧ x0 ≤ 122) (b1 : 97 ≤ x1 ∧ x1 ≤ 122) (b2 : 97 ≤ x2 ∧ x2 ≤ 122) (b3 : 97 ≤ x3 ∧ x3 ≤ 122) : ((((0 * 27 + x0 - 96) * 27 + x1 - 96) * 27 + x2 - 96) * 27 + x3 - 96 = 316189) ↔ (x0 = 112 ∧ x1 = 97 ∧ x2 = 115 ∧ x3 = 115) := by
  refine ⟨fun h => ?_, fun h => ?_⟩
  · have h3 := (dg27 (w := ((0 * 27 + x0 - 96) * 27 + x1 - 96) * 27 + x2 - 96) (c := 11710) b3 115 (by decide)).mp (h.trans (by decide))
    have h2 := (dg27 (w := (0 * 27 + x0 - 96) * 27 + x1 - 96) (c := 433) b2 115 (by decide)).mp (h3.1.trans (by decide))
    have h1 := (dg27 (w := 0 * 27 + x0 - 96) (c := 16) b1 97 (by decide)).mp (h2.1.trans (by decide))
    have h0 : x0 = 112 := by have := h1.1; omega
    exact ⟨h0, h1.2, h2.2, h3.2⟩
  · obtain ⟨rfl, rfl, rfl, rfl⟩ := h
    decide
theorem rg_1 {x0 : Int} (b0 : 97 ≤ x0 ∧ x0 ≤ 122) : 1 ≤ 0 * 27 + x0 - 96 ∧ 0 * 27 + x0 - 96 ≤ 26 := by omega
theorem rg_2 {x0 x1 : Int} (b0 : 97 ≤ x0 ∧ x0 ≤ 122) (b1 : 97 ≤ x1 ∧ x1 ≤ 122) : 28 ≤ (0 * 27 + x0 - 96) * 27 + x1 - 96 ∧ (0 * 27 + x0 - 96) * 27 + x1 - 96 ≤ 728 := by omega
theorem rg_3 {x0 x1 x2 : Int} (b0 : 97 ≤ x0 ∧ x0 ≤ 122) (b1 : 97 ≤ x1 ∧ x1 ≤ 122) (b2 : 97 ≤ x2 ∧ x2 ≤ 122) : 757 ≤ ((0 * 27 + x0 - 96) * 27 + x1 - 96) * 27 + x2 - 96 ∧ ((0 * 27 + x0 - 96) * 27 + x1 - 96) * 27 + x2 - 96 ≤ 19682 := by omega
theorem rg_4 {x0 x1 x2 x3 : Int} (b0 : 97 ≤ x0 ∧ x0 ≤ 122) (b1 : 97 ≤ x1 ∧ x1 ≤ 122) (b2 : 97 ≤ x2 ∧ x2 ≤ 122) (b3 : 97 ≤ x3 ∧ x3 ≤ 122) : 20440 ≤ (((0 * 27 + x0 - 96) * 27 + x1 - 96) * 27 + x2 - 96) * 27 + x3 - 96 ∧ (((0 * 27 + x0 - 96) * 27 + x1 - 96) * 27 + x2 - 96) * 27 + x3 - 96 ≤ 531440 := by omega
theorem rg_5 {x0 x1 x2 x3 x4 : Int} (b0 : 97 ≤ x0 ∧ x0 ≤ 122) (b1 : 97 ≤ x1 ∧ x1 ≤ 122) (b2 : 97 ≤ x2 ∧ x2 ≤ 122) (b3 : 97 ≤ x3 ∧ x3 ≤ 122) (b4 : 97 ≤ x4 ∧ x4 ≤ 122) : 551881 ≤ ((((0 * 27 + x0 - 96) * 27 + x1 - 96) * 27 + x2 - 96) * 27 + x3 - 96) * 27 + x4 - 96 ∧ ((((0 * 27 + x0 - 96) * 27 + x1 - 96) * 27 + x2 - 96) * 27 + x3 - 96) * 27 + x4 - 96 ≤ 14348906 := by omega
theorem cmw_0 {TX : Int → Int} {s e : Int} (hl : ∀ j : Int, s ≤ j → j < e → 97 ≤ TX j ∧ TX j ≤ 122) (he : e - s = 0) : cmo (0) = cw TX s e := by
  rw [cw_no (by omega)]
  rfl
theorem cmw_1 {TX : Int → Int} {s e : Int} (hl : ∀ j : Int, s ≤ j → j < e → 97 ≤ TX j ∧ TX j ≤ 122) (he : e - s = 1) : cmo (0 * 27 + TX s - 96) = cw TX s e := by
  rw [cw_no (by omega)]
  have b0 := hl s (by omega) (by omega)
  unfold cmo
  rw [if_neg (by omega)]
  rw [if_neg (by omega)]
  rw [if_neg (by omega)]
  rw [if_neg (by omega)]
  rw [if_neg (by omega)]
  rw [if_neg (by omega)]
  rw [if_neg (by omega)]
  rw [if_neg (by omega)]
  rw [if_neg (by omega)]
  rw [if_neg (by omega)]
  rw [if_neg (by omega)]
  rw [if_neg (by omega)]
theorem cmw_2 {TX : Int → Int} {s e : Int} (hl : ∀ j : Int, s ≤ j → j < e → 97 ≤ TX j ∧ TX j ≤ 122) (he : e - s = 2) : cmo ((0 * 27 + TX s - 96) * 27 + TX (s + 1) - 96) = cw TX s e := by
  have b0 := hl (s) (by omega) (by omega)
  have b1 := hl (s + 1) (by omega) (by omega)
  have r := rg_2 b0 b1
  have d0 : ((0 * 27 + TX s - 96) * 27 + TX (s + 1) - 96 = 7021767) ↔ isW TX 0 s e := ⟨fun h => by omega, fun h => by have := h.1; rw [show wlen 0 = 5 from rfl] at this; omega⟩
  have d1 : ((0 * 27 + TX s - 96) * 27 + TX (s + 1) - 96 = 90302) ↔ isW TX 1 s e := ⟨fun h => by omega, fun h => by have := h.1; rw [show wlen 1 = 4 from rfl] at this; omega⟩
  have d2 : ((0 * 27 + TX s - 96) * 27 + TX (s + 1) - 96 = 583) ↔ isW TX 2 s e := by
    rw [isW_2 (i := 2) rfl rfl, cd_2 b0 b1]
    exact ⟨fun h => ⟨he, h⟩, fun h => h.2⟩
  have d3 : ((0 * 27 + TX s - 96) * 27 + TX (s + 1) - 96 = 2774) ↔ isW TX 3 s e := ⟨fun h => by omega, fun h => by have := h.1; rw [show wlen 3 = 3 from rfl] at this; omega⟩
  have d4 : ((0 * 27 + TX s - 96) * 27 + TX (s + 1) - 96 = 453937) ↔ isW TX 4 s e := ⟨fun h => by omega, fun h => by have := h.1; rw [show wlen 4 = 4 from rfl] at this; omega⟩
  have d5 : ((0 * 27 + TX s - 96) * 27 + TX (s + 1) - 96 = 70312) ↔ isW TX 5 s e := ⟨fun h => by omega, fun h => by have := h.1; rw [show wlen 5 = 4 from rfl] at this; omega⟩
  have d6 : ((0 * 27 + TX s - 96) * 27 + TX (s + 1) - 96 = 158578) ↔ isW TX 6 s e := ⟨fun h => by omega, fun h => by have := h.1; rw [show wlen 6 = 4 from rfl] at this; omega⟩
  have d7 : ((0 * 27 + TX s - 96) * 27 + TX (s + 1) - 96 = 10793) ↔ isW TX 7 s e := ⟨fun h => by omega, fun h => by have := h.1; rw [show wlen 7 = 3 from rfl] at this; omega⟩
  have d8 : ((0 * 27 + TX s - 96) * 27 + TX (s + 1) - 96 = 40187) ↔ isW TX 8 s e := ⟨fun h => by omega, fun h => by have := h.1; rw [show wlen 8 = 4 from rfl] at this; omega⟩
  have d9 : ((0 * 27 + TX s - 96) * 27 + TX (s + 1) - 96 = 459652) ↔ isW TX 9 s e := ⟨fun h => by omega, fun h => by have := h.1; rw [show wlen 9 = 4 from rfl] at this; omega⟩
  have d10 : ((0 * 27 + TX s - 96) * 27 + TX (s + 1) - 96 = 14006) ↔ isW TX 10 s e := ⟨fun h => by omega, fun h => by have := h.1; rw [show wlen 10 = 3 from rfl] at this; omega⟩
  have d11 : ((0 * 27 + TX s - 96) * 27 + TX (s + 1) - 96 = 316189) ↔ isW TX 11 s e := ⟨fun h => by omega, fun h => by have := h.1; rw [show wlen 11 = 4 from rfl] at this; omega⟩
  rw [cw_all]
  unfold cmo
  simp only [d0, d1, d2, d3, d4, d5, d6, d7, d8, d9, d10, d11]
theorem cmw_3 {TX : Int → Int} {s e : Int} (hl : ∀ j : Int, s ≤ j → j < e → 97 ≤ TX j ∧ TX j ≤ 122) (he : e - s = 3) : cmo (((0 * 27 + TX s - 96) * 27 + TX (s + 1) - 96) * 27 + TX (s + 2) - 96) = cw TX s e := by
  have b0 := hl (s) (by omega) (by omega)
  have b1 := hl (s + 1) (by omega) (by omega)
  have b2 := hl (s + 2) (by omega) (by omega)
  have r := rg_3 b0 b1 b2
  have d0 : (((0 * 27 + TX s - 96) * 27 + TX (s + 1) - 96) * 27 + TX (s + 2) - 96 = 7021767) ↔ isW TX 0 s e := ⟨fun h => by omega, fun h => by have := h.1; rw [show wlen 0 = 5 from rfl] at this; omega⟩
  have d1 : (((0 * 27 + TX s - 96) * 27 + TX (s + 1) - 96) * 27 + TX (s + 2) - 96 = 90302) ↔ isW TX 1 s e := ⟨fun h => by omega, fun h => by have := h.1; rw [show wlen 1 = 4 from rfl] at this; omega⟩
  have d2 : (((0 * 27 + TX s - 96) * 27 + TX (s + 1) - 96) * 27 + TX (s + 2) - 96 = 583) ↔ isW TX 2 s e := ⟨fun h => by omega, fun h => by have := h.1; rw [show wlen 2 = 2 from rfl] at this; omega⟩
  have d3 : (((0 * 27 + TX s - 96) * 27 + TX (s + 1) - 96) * 27 + TX (s + 2) - 96 = 2774) ↔ isW TX 3 s e := by
    rw [isW_3 (i := 3) rfl rfl, cd_3 b0 b1 b2]
    exact ⟨fun h => ⟨he, h⟩, fun h => h.2⟩
  have d4 : (((0 * 27 + TX s - 96) * 27 + TX (s + 1) - 96) * 27 + TX (s + 2) - 96 = 453937) ↔ isW TX 4 s e := ⟨fun h => by omega, fun h => by have := h.1; rw [show wlen 4 = 4 from rfl] at this; omega⟩
  have d5 : (((0 * 27 + TX s - 96) * 27 + TX (s + 1) - 96) * 27 + TX (s + 2) - 96 = 70312) ↔ isW TX 5 s e := ⟨fun h => by omega, fun h => by have := h.1; rw [show wlen 5 = 4 from rfl] at this; omega⟩
  have d6 : (((0 * 27 + TX s - 96) * 27 + TX (s + 1) - 96) * 27 + TX (s + 2) - 96 = 158578) ↔ isW TX 6 s e := ⟨fun h => by omega, fun h => by have := h.1; rw [show wlen 6 = 4 from rfl] at this; omega⟩
  have d7 : (((0 * 27 + TX s - 96) * 27 + TX (s + 1) - 96) * 27 + TX (s + 2) - 96 = 10793) ↔ isW TX 7 s e := by
    rw [isW_3 (i := 7) rfl rfl, cd_7 b0 b1 b2]
    exact ⟨fun h => ⟨he, h⟩, fun h => h.2⟩
  have d8 : (((0 * 27 + TX s - 96) * 27 + TX (s + 1) - 96) * 27 + TX (s + 2) - 96 = 40187) ↔ isW TX 8 s e := ⟨fun h => by omega, fun h => by have := h.1; rw [show wlen 8 = 4 from rfl] at this; omega⟩
  have d9 : (((0 * 27 + TX s - 96) * 27 + TX (s + 1) - 96) * 27 + TX (s + 2) - 96 = 459652) ↔ isW TX 9 s e := ⟨fun h => by omega, fun h => by have := h.1; rw [show wlen 9 = 4 from rfl] at this; omega⟩
  have d10 : (((0 * 27 + TX s - 96) * 27 + TX (s + 1) - 96) * 27 + TX (s + 2) - 96 = 14006) ↔ isW TX 10 s e := by
    rw [isW_3 (i := 10) rfl rfl, cd_10 b0 b1 b2]
    exact ⟨fun h => ⟨he, h⟩, fun h => h.2⟩
  have d11 : (((0 * 27 + TX s - 96) * 27 + TX (s + 1) - 96) * 27 + TX (s + 2) - 96 = 316189) ↔ isW TX 11 s e := ⟨fun h => by omega, fun h => by have := h.1; rw [show wlen 11 = 4 from rfl] at this; omega⟩
  rw [cw_all]
  unfold cmo
  simp only [d0, d1, d2, d3, d4, d5, d6, d7, d8, d9, d10, d11]
theorem cmw_4 {TX : Int → Int} {s e : Int} (hl : ∀ j : Int, s ≤ j → j < e → 97 ≤ TX j ∧ TX j ≤ 122) (he : e - s = 4) : cmo ((((0 * 27 + TX s - 96) * 27 + TX (s + 1) - 96) * 27 + TX (s + 2) - 96) * 27 + TX (s + 3) - 96) = cw TX s e := by
  have b0 := hl (s) (by omega) (by omega)
  have b1 := hl (s + 1) (by omega) (by omega)
  have b2 := hl (s + 2) (by omega) (by omega)
  have b3 := hl (s + 3) (by omega) (by omega)
  have r := rg_4 b0 b1 b2 b3
  have d0 : ((((0 * 27 + TX s - 96) * 27 + TX (s + 1) - 96) * 27 + TX (s + 2) - 96) * 27 + TX (s + 3) - 96 = 7021767) ↔ isW TX 0 s e := ⟨fun h => by omega, fun h => by have := h.1; rw [show wlen 0 = 5 from rfl] at this; omega⟩
  have d1 : ((((0 * 27 + TX s - 96) * 27 + TX (s + 1) - 96) * 27 + TX (s + 2) - 96) * 27 + TX (s + 3) - 96 = 90302) ↔ isW TX 1 s e := by
    rw [isW_4 (i := 1) rfl rfl, cd_1 b0 b1 b2 b3]
    exact ⟨fun h => ⟨he, h⟩, fun h => h.2⟩
  have d2 : ((((0 * 27 + TX s - 96) * 27 + TX (s + 1) - 96) * 27 + TX (s + 2) - 96) * 27 + TX (s + 3) - 96 = 583) ↔ isW TX 2 s e := ⟨fun h => by omega, fun h => by have := h.1; rw [show wlen 2 = 2 from rfl] at this; omega⟩
  have d3 : ((((0 * 27 + TX s - 96) * 27 + TX (s + 1) - 96) * 27 + TX (s + 2) - 96) * 27 + TX (s + 3) - 96 = 2774) ↔ isW TX 3 s e := ⟨fun h => by omega, fun h => by have := h.1; rw [show wlen 3 = 3 from rfl] at this; omega⟩
  have d4 : ((((0 * 27 + TX s - 96) * 27 + TX (s + 1) - 96) * 27 + TX (s + 2) - 96) * 27 + TX (s + 3) - 96 = 453937) ↔ isW TX 4 s e := by
    rw [isW_4 (i := 4) rfl rfl, cd_4 b0 b1 b2 b3]
    exact ⟨fun h => ⟨he, h⟩, fun h => h.2⟩
  have d5 : ((((0 * 27 + TX s - 96) * 27 + TX (s + 1) - 96) * 27 + TX (s + 2) - 96) * 27 + TX (s + 3) - 96 = 70312) ↔ isW TX 5 s e := by
    rw [isW_4 (i := 5) rfl rfl, cd_5 b0 b1 b2 b3]
    exact ⟨fun h => ⟨he, h⟩, fun h => h.2⟩
  have d6 : ((((0 * 27 + TX s - 96) * 27 + TX (s + 1) - 96) * 27 + TX (s + 2) - 96) * 27 + TX (s + 3) - 96 = 158578) ↔ isW TX 6 s e := by
    rw [isW_4 (i := 6) rfl rfl, cd_6 b0 b1 b2 b3]
    exact ⟨fun h => ⟨he, h⟩, fun h => h.2⟩
  have d7 : ((((0 * 27 + TX s - 96) * 27 + TX (s + 1) - 96) * 27 + TX (s + 2) - 96) * 27 + TX (s + 3) - 96 = 10793) ↔ isW TX 7 s e := ⟨fun h => by omega, fun h => by have := h.1; rw [show wlen 7 = 3 from rfl] at this; omega⟩
  have d8 : ((((0 * 27 + TX s - 96) * 27 + TX (s + 1) - 96) * 27 + TX (s + 2) - 96) * 27 + TX (s + 3) - 96 = 40187) ↔ isW TX 8 s e := by
    rw [isW_4 (i := 8) rfl rfl, cd_8 b0 b1 b2 b3]
    exact ⟨fun h => ⟨he, h⟩, fun h => h.2⟩
  have d9 : ((((0 * 27 + TX s - 96) * 27 + TX (s + 1) - 96) * 27 + TX (s + 2) - 96) * 27 + TX (s + 3) - 96 = 459652) ↔ isW TX 9 s e := by
    rw [isW_4 (i := 9) rfl rfl, cd_9 b0 b1 b2 b3]
    exact ⟨fun h => ⟨he, h⟩, fun h => h.2⟩
  have d10 : ((((0 * 27 + TX s - 96) * 27 + TX (s + 1) - 96) * 27 + TX (s + 2) - 96) * 27 + TX (s + 3) - 96 = 14006) ↔ isW TX 10 s e := ⟨fun h => by omega, fun h => by have := h.1; rw [show wlen 10 = 3 from rfl] at this; omega⟩
  have d11 : ((((0 * 27 + TX s - 96) * 27 + TX (s + 1) - 96) * 27 + TX (s + 2) - 96) * 27 + TX (s + 3) - 96 = 316189) ↔ isW TX 11 s e := by
    rw [isW_4 (i := 11) rfl rfl, cd_11 b0 b1 b2 b3]
    exact ⟨fun h => ⟨he, h⟩, fun h => h.2⟩
  rw [cw_all]
  unfold cmo
  simp only [d0, d1, d2, d3, d4, d5, d6, d7, d8, d9, d10, d11]
theorem cmw_5 {TX : Int → Int} {s e : Int} (hl : ∀ j : Int, s ≤ j → j < e → 97 ≤ TX j ∧ TX j ≤ 122) (he : e - s = 5) : cmo (((((0 * 27 + TX s - 96) * 27 + TX (s + 1) - 96) * 27 + TX (s + 2) - 96) * 27 + TX (s + 3) - 96) * 27 + TX (s + 4) - 96) = cw TX s e := by
  have b0 := hl (s) (by omega) (by omega)
  have b1 := hl (s + 1) (by omega) (by omega)
  have b2 := hl (s + 2) (by omega) (by omega)
  have b3 := hl (s + 3) (by omega) (by omega)
  have b4 := hl (s + 4) (by omega) (by omega)
  have r := rg_5 b0 b1 b2 b3 b4
  have d0 : (((((0 * 27 + TX s - 96) * 27 + TX (s + 1) - 96) * 27 + TX (s + 2) - 96) * 27 + TX (s + 3) - 96) * 27 + TX (s + 4) - 96 = 7021767) ↔ isW TX 0 s e := by
    rw [isW_5 (i := 0) rfl rfl, cd_0 b0 b1 b2 b3 b4]
    exact ⟨fun h => ⟨he, h⟩, fun h => h.2⟩
  have d1 : (((((0 * 27 + TX s - 96) * 27 + TX (s + 1) - 96) * 27 + TX (s + 2) - 96) * 27 + TX (s + 3) - 96) * 27 + TX (s + 4) - 96 = 90302) ↔ isW TX 1 s e := ⟨fun h => by omega, fun h => by have := h.1; rw [show wlen 1 = 4 from rfl] at this; omega⟩
  have d2 : (((((0 * 27 + TX s - 96) * 27 + TX (s + 1) - 96) * 27 + TX (s + 2) - 96) * 27 + TX (s + 3) - 96) * 27 + TX (s + 4) - 96 = 583) ↔ isW TX 2 s e := ⟨fun h => by omega, fun h => by have := h.1; rw [show wlen 2 = 2 from rfl] at this; omega⟩
  have d3 : (((((0 * 27 + TX s - 96) * 27 + TX (s + 1) - 96) * 27 + TX (s + 2) - 96) * 27 + TX (s + 3) - 96) * 27 + TX (s + 4) - 96 = 2774) ↔ isW TX 3 s e := ⟨fun h => by omega, fun h => by have := h.1; rw [show wlen 3 = 3 from rfl] at this; omega⟩
  have d4 : (((((0 * 27 + TX s - 96) * 27 + TX (s + 1) - 96) * 27 + TX (s + 2) - 96) * 27 + TX (s + 3) - 96) * 27 + TX (s + 4) - 96 = 453937) ↔ isW TX 4 s e := ⟨fun h => by omega, fun h => by have := h.1; rw [show wlen 4 = 4 from rfl] at this; omega⟩
  have d5 : (((((0 * 27 + TX s - 96) * 27 + TX (s + 1) - 96) * 27 + TX (s + 2) - 96) * 27 + TX (s + 3) - 96) * 27 + TX (s + 4) - 96 = 70312) ↔ isW TX 5 s e := ⟨fun h => by omega, fun h => by have := h.1; rw [show wlen 5 = 4 from rfl] at this; omega⟩
  have d6 : (((((0 * 27 + TX s - 96) * 27 + TX (s + 1) - 96) * 27 + TX (s + 2) - 96) * 27 + TX (s + 3) - 96) * 27 + TX (s + 4) - 96 = 158578) ↔ isW TX 6 s e := ⟨fun h => by omega, fun h => by have := h.1; rw [show wlen 6 = 4 from rfl] at this; omega⟩
  have d7 : (((((0 * 27 + TX s - 96) * 27 + TX (s + 1) - 96) * 27 + TX (s + 2) - 96) * 27 + TX (s + 3) - 96) * 27 + TX (s + 4) - 96 = 10793) ↔ isW TX 7 s e := ⟨fun h => by omega, fun h => by have := h.1; rw [show wlen 7 = 3 from rfl] at this; omega⟩
  have d8 : (((((0 * 27 + TX s - 96) * 27 + TX (s + 1) - 96) * 27 + TX (s + 2) - 96) * 27 + TX (s + 3) - 96) * 27 + TX (s + 4) - 96 = 40187) ↔ isW TX 8 s e := ⟨fun h => by omega, fun h => by have := h.1; rw [show wlen 8 = 4 from rfl] at this; omega⟩
  have d9 : (((((0 * 27 + TX s - 96) * 27 + TX (s + 1) - 96) * 27 + TX (s + 2) - 96) * 27 + TX (s + 3) - 96) * 27 + TX (s + 4) - 96 = 459652) ↔ isW TX 9 s e := ⟨fun h => by omega, fun h => by have := h.1; rw [show wlen 9 = 4 from rfl] at this; omega⟩
  have d10 : (((((0 * 27 + TX s - 96) * 27 + TX (s + 1) - 96) * 27 + TX (s + 2) - 96) * 27 + TX (s + 3) - 96) * 27 + TX (s + 4) - 96 = 14006) ↔ isW TX 10 s e := ⟨fun h => by omega, fun h => by have := h.1; rw [show wlen 10 = 3 from rfl] at this; omega⟩
  have d11 : (((((0 * 27 + TX s - 96) * 27 + TX (s + 1) - 96) * 27 + TX (s + 2) - 96) * 27 + TX (s + 3) - 96) * 27 + TX (s + 4) - 96 = 316189) ↔ isW TX 11 s e := ⟨fun h => by omega, fun h => by have := h.1; rw [show wlen 11 = 4 from rfl] at this; omega⟩
  rw [cw_all]
  unfold cmo
  simp only [d0, d1, d2, d3, d4, d5, d6, d7, d8, d9, d10, d11]
theorem cmo_cw {TX : Int → Int} {s e : Int} (hl : ∀ j : Int, s ≤ j → j < e → 97 ≤ TX j ∧ TX j ≤ 122) (he : 0 ≤ e - s ∧ e - s ≤ 5) : cmo (vN TX s (e - s).toNat) = cw TX s e := by
  have v0 : vN TX s 0 = 0 := rfl
  have v1 : vN TX s 1 = 0 * 27 + TX s - 96 := by show 0 * 27 + TX (s + 0) - 96 = _; rw [Int.add_zero]
  have v2 : vN TX s 2 = (0 * 27 + TX s - 96) * 27 + TX (s + 1) - 96 := by rw [← v1]; rfl
  have v3 : vN TX s 3 = ((0 * 27 + TX s - 96) * 27 + TX (s + 1) - 96) * 27 + TX (s + 2) - 96 := by rw [← v2]; rfl
  have v4 : vN TX s 4 = (((0 * 27 + TX s - 96) * 27 + TX (s + 1) - 96) * 27 + TX (s + 2) - 96) * 27 + TX (s + 3) - 96 := by rw [← v3]; rfl
  have v5 : vN TX s 5 = ((((0 * 27 + TX s - 96) * 27 + TX (s + 1) - 96) * 27 + TX (s + 2) - 96) * 27 + TX (s + 3) - 96) * 27 + TX (s + 4) - 96 := by rw [← v4]; rfl
  rcases (show e - s = 0 ∨ e - s = 1 ∨ e - s = 2 ∨ e - s = 3 ∨ e - s = 4 ∨ e - s = 5 by omega) with h | h | h | h | h | h
  · rw [h]
    exact (congrArg cmo v0).trans (cmw_0 hl h)
  · rw [h]
    exact (congrArg cmo v1).trans (cmw_1 hl h)
  · rw [h]
    exact (congrArg cmo v2).trans (cmw_2 hl h)
  · rw [h]
    exact (congrArg cmo v3).trans (cmw_3 hl h)
  · rw [h]
    exact (congrArg cmo v4).trans (cmw_4 hl h)
  · rw [h]
    exact (congrArg cmo v5).trans (cmw_5 hl h)
theorem sk_lt {TX : Int → Int} {tl p : Int} (hp : p ≤ tl) : (tc TX tl p = 32 ∧ p < sk TX tl p) ∨ (tc TX tl p ≠ 32 ∧ sk TX tl p = p) := by
  by_cases h : tc TX tl p = 32
  · left
    have hl : p < tl := by
      rcases Int.lt_or_le p tl with z | z
      · exact z
      · unfold tc at h
        rw [if_neg (by omega)] at h
        exact absurd h (by decide)
    have q := (sk_B (TX := TX) (tl := tl) (p := p + 1) (by omega)).1
    rw [sk_t h] at q
    exact ⟨h, by omega⟩
  · exact Or.inr ⟨h, sk_f h⟩
theorem dvS {TX : Int → Int} {tl q i x : Int} (h : i < q + 7) (hd : 48 ≤ tc TX tl i ∧ tc TX tl i ≤ 57) : dvN TX tl (q + 7 - i).toNat i x = dvN TX tl (q + 7 - (i + 1)).toNat (i + 1) (10 * x + tc TX tl i - 48) := by
  rw [show (q + 7 - i).toNat = (q + 7 - (i + 1)).toNat + 1 by omega, dvN, if_pos hd]
theorem dvE {TX : Int → Int} {tl q i x : Int} (h : q + 7 ≤ i ∨ ¬ (48 ≤ tc TX tl i ∧ tc TX tl i ≤ 57)) : dvN TX tl (q + 7 - i).toNat i x = (i, x) := by
  rcases h with h | h
  · rw [show (q + 7 - i).toNat = 0 by omega]
    rfl
  · cases (q + 7 - i).toNat with
    | zero => rfl
    | succ n => rw [dvN, if_neg h]
theorem manyB (c : Int) : 0 ≤ many c ∧ many c ≤ 2 := by
  unfold many
  repeat' split <;> omega
theorem cf_w {TX : Int → Int} {tl q : Int} (h : cc TX tl q = -2000000000) : cf TX tl q = q := if_pos h
theorem cf_1 {TX : Int → Int} {tl q : Int} (h : cc TX tl q ≠ -2000000000) (h1 : 1 ≤ many (cc TX tl q)) (h2 : ¬ nok TX tl (we TX tl q)) : cf TX tl q = sk TX tl (we TX tl q) := by
  unfold cf
  rw [if_neg h, if_pos ⟨h1, h2⟩]
theorem cf_2 {TX : Int → Int} {tl q : Int} (h : cc TX tl q ≠ -2000000000) (h2 : nok TX tl (we TX tl q)) (h3 : 2 ≤ many (cc TX tl q)) (h4 : ¬ nok TX tl (c1 TX tl q)) : cf TX tl q = sk TX tl (c1 TX tl q) := by
  unfold cf
  rw [if_neg h, if_neg (fun z => z.2 h2), if_pos ⟨h3, h4⟩]
theorem cf_3 {TX : Int → Int} {tl q : Int} (h : cc TX tl q ≠ -2000000000) (h2 : 1 ≤ many (cc TX tl q) → nok TX tl (we TX tl q)) (h3 : 2 ≤ many (cc TX tl q) → nok TX tl (c1 TX tl q)) : (tc TX tl (sk TX tl (c2 TX tl q)) ≠ 59 → cf TX tl q = sk TX tl (c2 TX tl q)) ∧ (tc TX tl (sk TX tl (c2 TX tl q)) = 59 → cf TX tl q = -1) := by
  unfold cf
  rw [if_neg h, if_neg (fun z => z.2 (h2 z.1)), if_neg (fun z => z.2 (h3 z.1))]
  exact ⟨fun z => if_pos z, fun z => if_neg (fun w => w z)⟩
theorem cf_ok {TX : Int → Int} {tl q : Int} (h0 : 0 ≤ q) (hq : q ≤ tl) (h : cf TX tl q = -1) : cc TX tl q ≠ -2000000000 ∧ (1 ≤ many (cc TX tl q) → nok TX tl (we TX tl q)) ∧ (2 ≤ many (cc TX tl q) → nok TX tl (c1 TX tl q)) ∧ tc TX tl (sk TX tl (c2 TX tl q)) = 59 := by
  have b := c_B (TX := TX) hq
  have s1 := sk_B (TX := TX) b.1.2
  have s2 := sk_B (TX := TX) b.2.1.2
  have a1 : cc TX tl q ≠ -2000000000 := fun z => by rw [cf_w z] at h; omega
  have a2 : 1 ≤ many (cc TX tl q) → nok TX tl (we TX tl q) := fun z => Decidable.byContradiction fun w => by rw [cf_1 a1 z w] at h; omega
  have a3 : 2 ≤ many (cc TX tl q) → nok TX tl (c1 TX tl q) := fun z => Decidable.byContradiction fun w => by rw [cf_2 a1 (a2 (by omega)) z w] at h; omega
  refine ⟨a1, a2, a3, Decidable.byContradiction fun w => ?_⟩
  rw [(cf_3 a1 a2 a3).1 w] at h
  omega
theorem cf_ge {TX : Int → Int} {tl q : Int} (hq : q ≤ tl) (h : cf TX tl q ≠ -1) : q ≤ cf TX tl q ∧ cf TX tl q ≤ tl := by
  have b := c_B (TX := TX) hq
  have s1 := sk_B (TX := TX) b.1.2
  have s2 := sk_B (TX := TX) b.2.1.2
  unfold cf at h ⊢
  split
  · omega
  · split
    · omega
    · split
      · omega
      · split
        · omega
        · next a b c d => rw [if_neg a, if_neg b, if_neg c, if_neg d] at h; exact absurd rfl h
theorem vN_B {TX : Int → Int} {s : Int} : ∀ n : Nat, (∀ j : Int, s ≤ j → j < s + n → 97 ≤ TX j ∧ TX j ≤ 122) → 0 ≤ vN TX s n ∧ vN TX s n + 1 ≤ 27 ^ n
  | 0, _ => ⟨Int.le_refl _, by show (0 : Int) + 1 ≤ 27 ^ 0; decide⟩
  | n + 1, h => by
    have q := vN_B n (fun j a b => h j a (by omega))
    have r := h (s + n) (by omega) (by omega)
    unfold vN
    rw [Int.pow_succ]
    omega
theorem vN_6 {TX : Int → Int} {s i : Int} (h : ∀ j : Int, s ≤ j → j < i → 97 ≤ TX j ∧ TX j ≤ 122) (hi : 0 ≤ i - s ∧ i - s ≤ 6) : 0 ≤ vN TX s (i - s).toNat ∧ vN TX s (i - s).toNat ≤ 387420489 := by
  have q := vN_B (TX := TX) (s := s) (i - s).toNat (fun j a b => h j a (by omega))
  have e : (27 : Int) ^ 0 = 1 ∧ (27 : Int) ^ 1 = 27 ∧ (27 : Int) ^ 2 = 729 ∧ (27 : Int) ^ 3 = 19683 ∧ (27 : Int) ^ 4 = 531441 ∧ (27 : Int) ^ 5 = 14348907 ∧ (27 : Int) ^ 6 = 387420489 := by decide
  rcases (show (i - s).toNat = 0 ∨ (i - s).toNat = 1 ∨ (i - s).toNat = 2 ∨ (i - s).toNat = 3 ∨ (i - s).toNat = 4 ∨ (i - s).toNat = 5 ∨ (i - s).toNat = 6 by omega) with z | z | z | z | z | z | z <;> rw [z] at q ⊢ <;> omega
