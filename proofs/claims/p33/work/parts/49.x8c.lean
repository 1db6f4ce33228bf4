theorem ckcB (M : Int → Int) (c x y : Int) : 0 ≤ ckc M c x y ∧ ckc M c x y ≤ 3 := by
  have h1 : ∀ v : Int, 0 ≤ ck_metal M v ∧ ck_metal M v ≤ 3 := fun v => by unfold ck_metal; (repeat' split) <;> omega
  have h2 : ∀ k d n : Int, 0 ≤ ck_rod M k d n ∧ ck_rod M k d n ≤ 3 := fun k d n => by unfold ck_rod; (repeat' split) <;> omega
  have h3 : ∀ k n : Int, 0 ≤ ck_length M k n ∧ ck_length M k n ≤ 3 := fun k n => by unfold ck_length; (repeat' split) <;> omega
  have h4 : ∀ k n : Int, 0 ≤ ck_warm k n ∧ ck_warm k n ≤ 3 := fun k n => by unfold ck_warm; (repeat' split) <;> omega
  have h5 : ∀ k : Int, 0 ≤ ck_shelf k ∧ ck_shelf k ≤ 3 := fun k => by unfold ck_shelf; (repeat' split) <;> omega
  have h6 : ∀ k : Int, 0 ≤ ck_turn M k ∧ ck_turn M k ≤ 3 := fun k => by unfold ck_turn; (repeat' split) <;> omega
  have h7 : ∀ k n : Int, 0 ≤ ck_set k n ∧ ck_set k n ≤ 3 := fun k n => by unfold ck_set; (repeat' split) <;> omega
  have h8 : ∀ k : Int, 0 ≤ ck_hours M k ∧ ck_hours M k ≤ 3 := fun k => by unfold ck_hours; (repeat' split) <;> omega
  unfold ckc
  repeat' split
  all_goals first | exact h1 _ | exact h2 _ _ _ | exact h3 _ _ | exact h4 _ _ | exact h5 _ | exact h6 _ | exact h7 _ _ | exact h8 _ | decide
theorem tfN_B {TX : Int → Int} {tl : Int} (ht : 0 ≤ tl) : ∀ (n : Nat) (p : Int), 0 ≤ p → -1 ≤ tfN TX tl n p ∧ tfN TX tl n p ≤ tl
  | 0, p, _ => ⟨Int.le_refl _, by show (-1 : Int) ≤ tl; omega⟩
  | n + 1, p, h => by
    have s := sk_le (TX := TX) (tl := tl) (p := p)
    unfold tfN
    split
    · have b := c_B (TX := TX) (tl := tl) (q := sk TX tl p) (by omega)
      split
      · exact tfN_B ht n _ (by unfold cp; omega)
      · next h1 h2 =>
        have q := cf_ge (TX := TX) (tl := tl) (q := sk TX tl p) (by omega) h2
        omega
    · omega
theorem tfB {TX : Int → Int} {tl : Int} (ht : tInv TX tl) : -1 ≤ tf TX tl 0 ∧ tf TX tl 0 ≤ 150 := by
  have q := tfN_B (TX := TX) ht.1.1 (tl - 0).toNat 0 (by omega)
  have t := ht.1
  unfold tf
  omega
