theorem znew_aJ {N' : Nat} (hN : N' ≤ 100000) : N' * componentBytes FieldType.long ≤ 536870912 := by
  have e : componentBytes FieldType.long = 8 := rfl
  rw [e]
  omega
theorem znew_dJ (N' : Nat) (cA : ClassId) : vp_cell cA (N', .inr (.inl (fun k => zJ (clip N' (fun _ => 0) (k : Int))))) = arrV cA N' (fun _ => defaultValue .long) := (vp_cell_l cA N' _).trans (congrArg (arrV cA N') (funext fun k => by rw [znew_c]; rfl))
theorem znew_eJ {D : va_G} {ct : Nat → Nat} {s : State} {cA : ClassId} (hK : va_K D vwCl (zT ct) s) (h1 : va_K D vwCl (zT ct ++ [(cA, .long)]) s) : cA = ct 1 := by
  have a1 := (h1.2 4 (cA, .long) rfl).2
  have a2 := (hK.2 1 (ct 1, .long) rfl).2
  exact Option.some.inj (a1.symm.trans a2)
section ZNEW
variable {p : Program} {l : Launch} {e : Env} {R : Room} {s : State} {m : MethodId} {args : Array Value} {below : List Frame} {meth : Method} {c : Code} {H : Heap} {locs : List Loc} {cells slots : Nat} {Q : State → Prop}
variable {cc' : ByteArray} {pc : Nat} {ls : Array Slot} {rest : List Value} {D : va_G} {ct : Nat → Nat} {A : Nat → Prop} {ws : va_W} {H0 : Heap}
theorem z_newJ {n : Int} {N' : Nat} (hx : p.tables.exec = Jvm.exec) (hb : c.code = cc') (harr : (Cond.arrayClass .long).before args s = true) (hK : va_K D vwCl (zT ct) s) (hP : va_P D vwCl ws H) (hD : va_D A ws) (hS : va_S A H0 H locs) (hA : ∀ q, H0.size ≤ q → A q) (hn : n = (N' : Int)) (hN : N' ≤ 100000) (hcells : cells + 1 ≤ R.cells) (hslots : slots + N' ≤ R.slots) (hdg : decode cc' pc = .ok (.newarray .long, 2))
    (kk : ∀ (q : Nat) (H1 : Heap), va_P D vwCl (ws ++ [aJ ct q N' (fun _ => 0)]) H1 → va_D A (ws ++ [aJ ct q N' (fun _ => 0)]) → va_S A H0 H1 locs → W p l e R s m args below meth c H1 locs (cells + 1) (slots + N') Q (F0 m (pc + 2) ls (.ref q :: rest))) : W p l e R s m args below meth c H locs cells slots Q (F0 m pc ls (.int (zI n) :: rest)) := by
  have h0 : ¬ zI n < 0 := fun z => by
    have e : (0 : Int32) = zI 0 := rfl
    rw [e, zI_lt (by omega) (by omega)] at z
    omega
  refine va_newa (atype := .long) (ty := .long) (N' := N') (a0 := (N', .inr (.inl (fun k => zJ (clip N' (fun _ => 0) (k : Int)))))) hx hb harr rfl hK hP hD hS hA (znew_dJ N') h0 (znew_b hn hN) (znew_aJ hN) hcells hslots hdg (fun q cA H1 g1 g2 g3 g4 => ?_)
  have a3 := znew_eJ hK g1
  subst a3
  exact kk q H1 g2 g3 g4
end ZNEW
theorem znew_aY {N' : Nat} (hN : N' ≤ 100000) : N' * componentBytes FieldType.byte ≤ 536870912 := by
  have e : componentBytes FieldType.byte = 1 := rfl
  rw [e]
  omega
theorem znew_dY (N' : Nat) (cA : ClassId) : vp_cell cA (N', .inl (fun k => zI (clip N' (fun _ => 0) (k : Int)))) = arrV cA N' (fun _ => defaultValue .byte) := (vp_cell_i cA N' _).trans (congrArg (arrV cA N') (funext fun k => by rw [znew_c]; rfl))
theorem znew_eY {D : va_G} {ct : Nat → Nat} {s : State} {cA : ClassId} (hK : va_K D vwCl (zT ct) s) (h1 : va_K D vwCl (zT ct ++ [(cA, .byte)]) s) : cA = ct 2 := by
  have a1 := (h1.2 4 (cA, .byte) rfl).2
  have a2 := (hK.2 2 (ct 2, .byte) rfl).2
  exact Option.some.inj (a1.symm.trans a2)
section ZNEW
variable {p : Program} {l : Launch} {e : Env} {R : Room} {s : State} {m : MethodId} {args : Array Value} {below : List Frame} {meth : Method} {c : Code} {H : Heap} {locs : List Loc} {cells slots : Nat} {Q : State → Prop}
variable {cc' : ByteArray} {pc : Nat} {ls : Array Slot} {rest : List Value} {D : va_G} {ct : Nat → Nat} {A : Nat → Prop} {ws : va_W} {H0 : Heap}
theorem z_newY {n : Int} {N' : Nat} (hx : p.tables.exec = Jvm.exec) (hb : c.code = cc') (harr : (Cond.arrayClass .byte).before args s = true) (hK : va_K D vwCl (zT ct) s) (hP : va_P D vwCl ws H) (hD : va_D A ws) (hS : va_S A H0 H locs) (hA : ∀ q, H0.size ≤ q → A q) (hn : n = (N' : Int)) (hN : N' ≤ 100000) (hcells : cells + 1 ≤ R.cells) (hslots : slots + N' ≤ R.slots) (hdg : decode cc' pc = .ok (.newarray .byte, 2))
    (kk : ∀ (q : Nat) (H1 : Heap), va_P D vwCl (ws ++ [aY ct q N' (fun _ => 0)]) H1 → va_D A (ws ++ [aY ct q N' (fun _ => 0)]) → va_S A H0 H1 locs → W p l e R s m args below meth c H1 locs (cells + 1) (slots + N') Q (F0 m (pc + 2) ls (.ref q :: rest))) : W p l e R s m args below meth c H locs cells slots Q (F0 m pc ls (.int (zI n) :: rest)) := by
  have h0 : ¬ zI n < 0 := fun z => by
    have e : (0 : Int32) = zI 0 := rfl
    rw [e, zI_lt (by omega) (by omega)] at z
    omega
  refine va_newa (atype := .byte) (ty := .byte) (N' := N') (a0 := (N', .inl (fun k => zI (clip N' (fun _ => 0) (k : Int))))) hx hb harr rfl hK hP hD hS hA (znew_dY N') h0 (znew_b hn hN) (znew_aY hN) hcells hslots hdg (fun q cA H1 g1 g2 g3 g4 => ?_)
  have a3 := znew_eY hK g1
  subst a3
  exact kk q H1 g2 g3 g4
end ZNEW
