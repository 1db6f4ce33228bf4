set_option maxHeartbeats 4000000 in
set_option maxRecDepth 100000 in
theorem c_X5_push (l : Launch) (D : va_G) (ct ad : Nat → Nat) (r a : Nat → Nat) (b : Nat → Nat → Nat) (nx sz : Int) (S : Nat → Int → Int) (M : Int → Int) (hn : 0 ≤ nx ∧ nx ≤ 3) (hsz : 0 ≤ sz ∧ sz ≤ 4) : ZM l yX5_push wsX5_push ({ frames := 3, cells := 0, slots := 0, locals := 60 } : Room) D ct ad [.ref (r 0), .ref (a 0)] (svW ct r b nx sz S ++ (sobjW a ++ (gridW ct a M ++ (benchW ct a M ++ (logW ct a M))))) (zD none (svW ct r b ((nx + 1) % 4) (min (sz + 1) 4) (updS S nx M) ++ (sobjW a ++ (gridW ct a M ++ (benchW ct a M ++ (logW ct a M)))))) := by
  rcases (show nx = 0 ∨ nx = 1 ∨ nx = 2 ∨ nx = 3 by omega) with z | z | z | z <;> subst z
  · exact c_X5_push_0 l D ct ad r a b sz S M hsz
  · exact c_X5_push_1 l D ct ad r a b sz S M hsz
  · exact c_X5_push_2 l D ct ad r a b sz S M hsz
  · exact c_X5_push_3 l D ct ad r a b sz S M hsz
set_option maxHeartbeats 4000000 in
set_option maxRecDepth 100000 in
theorem c_X5_popInto (l : Launch) (D : va_G) (ct ad : Nat → Nat) (r a : Nat → Nat) (b : Nat → Nat → Nat) (nx sz : Int) (S : Nat → Int → Int) (M : Int → Int) (hn : 0 ≤ nx ∧ nx ≤ 3) (hsz : 1 ≤ sz ∧ sz ≤ 4) : ZM l yX5_popInto wsX5_popInto ({ frames := 3, cells := 0, slots := 0, locals := 60 } : Room) D ct ad [.ref (r 0), .ref (a 0)] (svW ct r b nx sz S ++ (sobjW a ++ (gridW ct a M ++ (benchW ct a M ++ (logW ct a M))))) (zD (some (.int (zI (sz - 1)))) (svW ct r b ((nx + 3) % 4) (sz - 1) S ++ (sobjW a ++ (gridW ct a (S ((nx + 3) % 4).toNat) ++ (benchW ct a (S ((nx + 3) % 4).toNat) ++ (logW ct a (S ((nx + 3) % 4).toNat))))))) := by
  rcases (show nx = 0 ∨ nx = 1 ∨ nx = 2 ∨ nx = 3 by omega) with z | z | z | z <;> subst z
  · exact c_X5_popInto_0 l D ct ad r a b sz S M hsz
  · exact c_X5_popInto_1 l D ct ad r a b sz S M hsz
  · exact c_X5_popInto_2 l D ct ad r a b sz S M hsz
  · exact c_X5_popInto_3 l D ct ad r a b sz S M hsz
