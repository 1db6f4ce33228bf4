/-! the saved states -/
def aQ (ct : Nat → Nat) (q n : Nat) (g : Nat → Nat) : Nat × va_E := (q, .inl (ct 3, n, .inr (.inr (.inr (.inr (fun k => some (g k)))))))
def svoW (r : Nat → Nat) (nx sz : Int) : va_W := [(r 0, .inr (4, [.ref (r 1), .int (zI nx), .int (zI sz)]))]
def qrW (ct : Nat → Nat) (q : Nat) (b : Nat → Nat → Nat) : va_W := [aQ ct q 4 (fun k => b k 0)]
def svW (ct : Nat → Nat) (r : Nat → Nat) (b : Nat → Nat → Nat) (nx sz : Int) (S : Nat → Int → Int) : va_W := svoW r nx sz ++ (qrW ct (r 1) b ++ (stW ct (b 0) (S 0) ++ (stW ct (b 1) (S 1) ++ (stW ct (b 2) (S 2) ++ stW ct (b 3) (S 3)))))
def updS (S : Nat → Int → Int) (nx : Int) (M : Int → Int) : Nat → Int → Int := fun j => if (j : Int) = nx then M else S j
section ZROW5
variable {p : Program} {l : Launch} {e : Env} {R : Room} {s : State} {m : MethodId} {args : Array Value} {below : List Frame} {meth : Method} {c : Code} {H : Heap} {locs : List Loc} {cells slots : Nat} {Q : State → Prop}
variable {cc' : ByteArray} {pc : Nat} {ls : Array Slot} {rest : List Value} {D : va_G} {ct : Nat → Nat} {ws : va_W}
theorem z_qald {a n : Nat} {g : Nat → Nat} {i : Int} (hx : p.tables.exec = Jvm.exec) (hb : c.code = cc') (hK : va_K D vwCl (zT ct) s) (hP : va_P D vwCl ws H) (q0 : Nat) (ha : ws[q0]? = some (a, .inl (ct 3, n, .inr (.inr (.inr (.inr (fun k => some (g k)))))))) (hn : n ≤ 2147483647) (hi : 0 ≤ i ∧ i < n) (hdg : decode cc' pc = .ok (.aaload, 1))
    (kk : W p l e R s m args below meth c H locs cells slots Q (F0 m (pc + 1) ls (.ref (g i.toNat) :: rest))) : W p l e R s m args below meth c H locs cells slots Q (F0 m (pc) ls (.int (zI i) :: .ref a :: rest)) := by
  refine va_aldq hx hb hK hP q0 3 ha rfl (zI_in (n := n) hi hn) hdg ?_
  rw [zI_clamp (by omega)]
  exact kk
end ZROW5
