theorem znew_a {N' : Nat} (hN : N' ≤ 100000) : N' * componentBytes FieldType.int ≤ 536870912 := by
  have e : componentBytes FieldType.int = 4 := rfl
  rw [e]
  omega
theorem znew_b {n : Int} {N' : Nat} (hn : n = (N' : Int)) (hN : N' ≤ 100000) : (zI n).toNatClampNeg = N' := by
  rw [zI_clamp (by omega)]
  omega
theorem znew_c {n : Nat} (k : Nat) : clip n (fun _ => 0) (k : Int) = 0 := by
  unfold clip
  split <;> rfl
theorem znew_d (N' : Nat) (cA : ClassId) : vp_cell cA (N', .inl (fun k => zI (clip N' (fun _ => 0) (k : Int)))) = arrV cA N' (fun _ => defaultValue .int) := (vp_cell_i cA N' _).trans (congrArg (arrV cA N') (funext fun k => by rw [znew_c]; rfl))
theorem znew_e {D : va_G} {ct : Nat → Nat} {s : State} {cA : ClassId} (hK : va_K D vwCl (zT ct) s) (h1 : va_K D vwCl (zT ct ++ [(cA, .int)]) s) : cA = ct 0 := by
  have a1 := (h1.2 4 (cA, .int) rfl).2
  have a2 := (hK.2 0 (ct 0, .int) rfl).2
  exact Option.some.inj (a1.symm.trans a2)
section ZNEW
variable {p : Program} {l : Launch} {e : Env} {R : Room} {s : State} {m : MethodId} {args : Array Value} {below : List Frame} {meth : Method} {c : Code} {H : Heap} {locs : List Loc} {cells slots : Nat} {Q : State → Prop}
variable {cc' : ByteArray} {pc : Nat} {ls : Array Slot} {rest : List Value} {D : va_G} {ct : Nat → Nat} {A : Nat → Prop} {ws : va_W} {H0 : Heap}
theorem z_newI {n : Int} {N' : Nat} (hx : p.tables.exec = Jvm.exec) (hb : c.code = cc') (harr : (Cond.arrayClass .int).before args s = true) (hK : va_K D vwCl (zT ct) s) (hP : va_P D vwCl ws H) (hD : va_D A ws) (hS : va_S A H0 H locs) (hA : ∀ q, H0.size ≤ q → A q) (hn : n = (N' : Int)) (hN : N' ≤ 100000) (hcells : cells + 1 ≤ R.cells) (hslots : slots + N' ≤ R.slots) (hdg : decode cc' pc = .ok (.newarray .int, 2))
    (kk : ∀ (q : Nat) (H1 : Heap), va_P D vwCl (ws ++ [aI ct q N' (fun _ => 0)]) H1 → va_D A (ws ++ [aI ct q N' (fun _ => 0)]) → va_S A H0 H1 locs → W p l e R s m args below meth c H1 locs (cells + 1) (slots + N') Q (F0 m (pc + 2) ls (.ref q :: rest))) : W p l e R s m args below meth c H locs cells slots Q (F0 m pc ls (.int (zI n) :: rest)) := by
  have h0 : ¬ zI n < 0 := fun z => by
    have e : (0 : Int32) = zI 0 := rfl
    rw [e, zI_lt (by omega) (by omega)] at z
    omega
  refine va_newa (atype := .int) (ty := .int) (N' := N') (a0 := (N', .inl (fun k => zI (clip N' (fun _ => 0) (k : Int))))) hx hb harr rfl hK hP hD hS hA (znew_d N') h0 (znew_b hn hN) (znew_a hN) hcells hslots hdg (fun q cA H1 g1 g2 g3 g4 => ?_)
  have a3 := znew_e hK g1
  subst a3
  exact kk q H1 g2 g3 g4
end ZNEW
