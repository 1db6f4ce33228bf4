def zNum (k : Nat) : Int := (zWnums.getD k 0).toInt
def zOrd (k : Nat) : Int := (([0, 1, 2, 3, 4, 5, 6, 7, 8, 9, 10, 11] : List Int32).getD k 0).toInt
theorem zNum_w {c : Int} (h : 0 ≤ c ∧ c ≤ 11) : zNum c.toNat = many c := by
  have e : ∀ k : Fin 12, zNum k.val = many ((k.val : Nat) : Int) := by decide +kernel
  have q := e ⟨c.toNat, by omega⟩
  rw [show (((⟨c.toNat, by omega⟩ : Fin 12).val : Nat) : Int) = c from by show ((c.toNat : Nat) : Int) = c; omega] at q
  exact q
theorem zOrd_w {c : Int} (h : 0 ≤ c ∧ c ≤ 11) : zOrd c.toNat = c := by
  have e : ∀ k : Fin 12, zOrd k.val = ((k.val : Nat) : Int) := by decide +kernel
  have q := e ⟨c.toNat, by omega⟩
  rw [show (((⟨c.toNat, by omega⟩ : Fin 12).val : Nat) : Int) = c from by show ((c.toNat : Nat) : Int) = c; omega] at q
  exact q
section ZROW4
variable {p : Program} {l : Launch} {e : Env} {R : Room} {s : State} {m : MethodId} {args : Array Value} {below : List Frame} {meth : Method} {c : Code} {H : Heap} {locs : List Loc} {cells slots : Nat} {Q : State → Prop}
variable {cc' : ByteArray} {pc : Nat} {ls : Array Slot} {rest : List Value} {ad : Nat → Nat} {A : Nat → Prop}
theorem z_getE1 {own : String} {index i : Nat} (hx : p.tables.exec = Jvm.exec) (hb : c.code = cc') (hE : zEn ad A s s.heap) (hi : i < 12) (hS : va_S A s.heap H locs) (hown : s.vm.findClass own = some m.cls) (hlink : (Cond.fieldLink own index "RodGrids$Word" "numbers" "I").before args s = true) (hdg : decode cc' pc = .ok (.getfield index, 3))
    (kk : W p l e R s m args below meth c H locs cells slots Q (F0 m (pc + 3) ls (.int (zI (zNum i)) :: rest))) : W p l e R s m args below meth c H locs cells slots Q (F0 m pc ls (.ref (ad i) :: rest)) := by
  have e : zI (zNum i) = zWnums.getD i 0 := Int32.ofInt_toInt _
  obtain ⟨cf, k, fi, f, cell, h1, h2, h3, h4, h5, h6⟩ := (hE i hi).2.2.kept hS.2.1
  rw [← e] at h5
  exact W.getf hx hb hown hlink h1 h2 h3 h4 (v := .int (zI (zNum i))) h5 rfl rfl hdg kk
theorem z_getE0 {own : String} {index i : Nat} (hx : p.tables.exec = Jvm.exec) (hb : c.code = cc') (hE : zEn ad A s s.heap) (hi : i < 12) (hS : va_S A s.heap H locs) (hown : s.vm.findClass own = some m.cls) (hlink : (Cond.fieldLink own index "java/lang/Enum" "ordinal" "I").before args s = true) (hdg : decode cc' pc = .ok (.getfield index, 3))
    (kk : W p l e R s m args below meth c H locs cells slots Q (F0 m (pc + 3) ls (.int (zI (zOrd i)) :: rest))) : W p l e R s m args below meth c H locs cells slots Q (F0 m pc ls (.ref (ad i) :: rest)) := by
  have e : zI (zOrd i) = ([0, 1, 2, 3, 4, 5, 6, 7, 8, 9, 10, 11] : List Int32).getD i 0 := Int32.ofInt_toInt _
  obtain ⟨cf, k, fi, f, cell, h1, h2, h3, h4, h5, h6⟩ := (hE i hi).2.1.kept hS.2.1
  rw [← e] at h5
  exact W.getf hx hb hown hlink h1 h2 h3 h4 (v := .int (zI (zOrd i))) h5 rfl rfl hdg kk
end ZROW4
