/-! the reference: its object, its rows -/
def moW (b : Nat → Nat) (sc tl cd pl cm h : Int) : va_W := [(b 0, .inr (7, [.ref (b 1), .ref (b 2), .ref (b 3), .int (zI sc), .ref (b 4), .int (zI tl), .int (zI cd), .int (zI pl), .int (zI cm), .ref (b 5), .long (zJ h)]))]
def jrW (ct : Nat → Nat) (q n : Nat) (g : Int → Int) : va_W := [aJ ct q n g]
def irW (ct : Nat → Nat) (q n : Nat) (g : Int → Int) : va_W := [aI ct q n g]
theorem jrW_eq {ct : Nat → Nat} {q n : Nat} {f g : Int → Int} (h : ∀ x : Int, 0 ≤ x → x < n → f x = g x) : jrW ct q n f = jrW ct q n g := by
  unfold jrW
  rw [aJ_eq h]
theorem irW_eq {ct : Nat → Nat} {q n : Nat} {f g : Int → Int} (h : ∀ x : Int, 0 ≤ x → x < n → f x = g x) : irW ct q n f = irW ct q n g := by
  unfold irW
  rw [aI_eq h]
section ZCAN
variable {p : Program} {l : Launch} {e : Env} {R : Room} {s : State} {m : MethodId} {args : Array Value} {below : List Frame} {meth : Method} {c : Code} {H : Heap} {locs : List Loc} {cells slots : Nat} {Q : State → Prop} {pc : Nat} {ls : Array Slot} {rest : List Value}
theorem z_canI {a b : Int} (h : a = b) (k : W p l e R s m args below meth c H locs cells slots Q (F0 m pc ls (.int (zI b) :: rest))) : W p l e R s m args below meth c H locs cells slots Q (F0 m pc ls (.int (zI a) :: rest)) := h ▸ k
theorem z_canL {a b : Int} (h : a = b) (k : W p l e R s m args below meth c H locs cells slots Q (F0 m pc ls (.long (zJ b) :: rest))) : W p l e R s m args below meth c H locs cells slots Q (F0 m pc ls (.long (zJ a) :: rest)) := h ▸ k
end ZCAN
theorem floor_neg {a b : Int} (hb : 0 < b) (ha : a < 0) : -((b - 1 - a) / b) = a / b := by
  have h1 := Int.mul_ediv_add_emod (b - 1 - a) b
  have h2 := Int.emod_nonneg (b - 1 - a) (show b ≠ 0 by omega)
  have h3 := Int.emod_lt_of_pos (b - 1 - a) hb
  have h5 := (Int.ediv_emod_unique (a := a) (b := b) (r := b - 1 - (b - 1 - a) % b) (q := -((b - 1 - a) / b)) hb).mpr ⟨by rw [Int.mul_neg]; omega, by omega, by omega⟩
  exact h5.1.symm
def ck1 (c : Int) : Int := if c = 0 then 0 else c - 1
/-- 94 cells of F from x on, put into T from y on: the first i of them -/
def brN (F T : Int → Int) (x y i : Int) : Int → Int := fun j => if y ≤ j ∧ j < y + i then F (x + (j - y)) else T j
theorem brN_0 {F T : Int → Int} {x y : Int} : brN F T x y 0 = T := funext fun j => if_neg (by omega)
theorem brN_S {F T : Int → Int} {x y i : Int} (h : 0 ≤ i) : up (brN F T x y i) (y + i) (F (x + i)) = brN F T x y (i + 1) := by
  funext j
  unfold up brN
  by_cases h1 : j = y + i
  · rw [if_pos h1, if_pos (by omega)]
    congr 1
    omega
  · rw [if_neg h1]
    by_cases h2 : y ≤ j ∧ j < y + i
    · rw [if_pos h2, if_pos (by omega)]
    · rw [if_neg h2, if_neg (by omega)]
/-- the saved rows moved by one place, the first i cells of them -/
def shN (SV : Int → Int) (i : Int) : Int → Int := fun j => if 0 ≤ j ∧ j < i then SV (j + 94) else SV j
theorem shN_0 {SV : Int → Int} : shN SV 0 = SV := funext fun j => if_neg (by omega)
theorem shN_S {SV : Int → Int} {i : Int} (h : 0 ≤ i) : up (shN SV i) i (shN SV i (i + 94)) = shN SV (i + 1) := by
  have e : shN SV i (i + 94) = SV (i + 94) := if_neg (by omega)
  rw [e]
  funext j
  unfold up shN
  by_cases h1 : j = i
  · rw [if_pos h1, if_pos (by omega)]
    congr 1
    omega
  · rw [if_neg h1]
    by_cases h2 : 0 ≤ j ∧ j < i
    · rw [if_pos h2, if_pos (by omega)]
    · rw [if_neg h2, if_neg (by omega)]
def sv_n (sc : Int) : Int := if sc = 4 then 3 else sc
def sv_keep (SV M : Int → Int) (sc : Int) : Int → Int := brN M (if sc = 4 then shN SV 282 else SV) 0 (94 * sv_n sc) 94
/-- the log's rows moved by one place, from the last to the place i -/
def lgN (M : Int → Int) (i : Int) : Int → Int := fun j => if 54 + i < j ∧ j ≤ 93 then M (j - 4) else M j
theorem lgN_0 {M : Int → Int} : lgN M 39 = M := funext fun j => if_neg (by omega)
theorem lgN_S {M : Int → Int} {i : Int} (h : 3 < i ∧ i ≤ 39) : up (lgN M i) (54 + i) (lgN M i (50 + i)) = lgN M (i - 1) := by
  have e : lgN M i (50 + i) = M (50 + i) := if_neg (by omega)
  rw [e]
  funext j
  unfold up lgN
  by_cases h1 : j = 54 + i
  · rw [if_pos h1, if_pos (by omega)]
    congr 1
    omega
  · rw [if_neg h1]
    by_cases h2 : 54 + i < j ∧ j ≤ 93
    · rw [if_pos h2, if_pos (by omega)]
    · rw [if_neg h2, if_neg (by omega)]
theorem lgN_3 {M : Int → Int} : lgN M 3 = st_shift M := by
  funext j
  unfold lgN st_shift
  by_cases h : 58 ≤ j ∧ j ≤ 93
  · rw [if_pos h, if_pos (by omega)]
  · rw [if_neg h, if_neg (by omega)]
