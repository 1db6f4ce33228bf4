theorem gridW_ag {ct a : Nat → Nat} {M N : Int → Int} (h : ∀ j : Int, (j = 3 ∨ j = 4 ∨ (16 ≤ j ∧ j ≤ 48)) → N j = M j) : gridW ct a N = gridW ct a M := gridW_eq (h _ (by omega)) (h _ (by omega)) (fun x _ _ => h _ (by omega)) (fun x _ _ => h _ (by omega)) (fun x _ _ => h _ (by omega)) (fun x _ _ => h _ (by omega))
theorem benchW_ag {ct a : Nat → Nat} {M N : Int → Int} (h : ∀ j : Int, ((0 ≤ j ∧ j ≤ 2) ∨ (5 ≤ j ∧ j ≤ 14) ∨ (49 ≤ j ∧ j ≤ 53)) → N j = M j) : benchW ct a N = benchW ct a M := benchW_eq (h _ (by omega)) (h _ (by omega)) (h _ (by omega)) (h _ (by omega)) (h _ (by omega)) (h _ (by omega)) (h _ (by omega)) (h _ (by omega)) (h _ (by omega)) (h _ (by omega)) (fun x _ _ => h _ (by omega)) (fun x _ _ => h _ (by omega))
theorem logW_ag {ct a : Nat → Nat} {M N : Int → Int} (h : ∀ j : Int, (j = 15 ∨ (54 ≤ j ∧ j ≤ 93)) → N j = M j) : logW ct a N = logW ct a M := by
  have g2 : aJ ct (a 10) 40 (fun x => N (54 + x)) = aJ ct (a 10) 40 (fun x => M (54 + x)) := aJ_eq (fun x h0 h1 => h _ (by omega))
  unfold logW
  rw [g2, h 15 (by omega)]
theorem metal_n {M : Int → Int} {v j : Int} (h3 : 0 ≤ M 3 ∧ M 3 < 6) (a : j ≠ 3) (b : ¬ (16 ≤ j ∧ j < 22)) : st_metal M v j = M j := by unfold st_metal; rw [up_n a, up_n (by omega)]
theorem rod_n {M : Int → Int} {k d n j : Int} (h4 : 0 ≤ M 4 ∧ M 4 < 9) (a : j ≠ 4) (b : ¬ (22 ≤ j ∧ j < 49)) : st_rod M k d n j = M j := by unfold st_rod; rw [up_n a, up_n (by omega), up_n (by omega), up_n (by omega)]
theorem drop_n {M : Int → Int} {r j : Int} (hr : 0 ≤ r) (h4 : M 4 ≤ 9) (a : j ≠ 4) (b : ¬ (22 ≤ j ∧ j < 49)) : st_drop M r j = M j := by rw [drop_v a]; exact if_neg (by omega)
