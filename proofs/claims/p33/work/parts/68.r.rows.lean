/-! p33: rows of its law -/
theorem ddiv_nn {x y : Int} (hy : 0 < y ∧ y ≤ 1000000) : FP.Core.val64 (FP.ddiv (FP.l2d (zJ x)) (FP.l2d (zJ y))) ≠ .nan := by
  refine (FP.Core.notNaN_iff _).mp (FP.Core.ddiv_out (FP.Core.DFin.notNaN (FP.Core.l2d_fin _)) (FP.Core.l2d_fin _) (fun h => ?_))
  refine FP.Core.l2d_ne_zero (v := zJ y) (fun z => ?_) ((FP.Core.zero_bits2 _).mp h)
  have q := congrArg Int64.toInt z
  rw [zJ_toInt (by omega)] at q
  have e : (0 : Int64).toInt = 0 := rfl
  omega
theorem sp_meanN {M : Int → Int} (h : sInv M) : FP.Core.val64 (sp_mean M) ≠ .nan := by
  have hB := h.2.1
  have j2 := hB.2.2.1
  have h9 := h.2.2
  unfold sp_mean
  split
  · exact (FP.Core.notNaN_iff _).mp (by decide +kernel)
  · exact ddiv_nn (by omega)
section ZP33
variable {p : Program} {l : Launch} {e : Env} {R : Room} {s : State} {m : MethodId} {args : Array Value} {below : List Frame} {meth : Method} {c : Code} {H : Heap} {locs : List Loc} {cells slots : Nat} {Q : State → Prop}
variable {cc : ByteArray} {pc : Nat} {ls : Array Slot} {rest : List Value} {A : Nat → Prop} {D : va_G}
theorem z_dcmp_self {x : UInt64} {op : CmpOp} (hx : p.tables.exec = Jvm.exec) (hb : c.code = cc) (hdg : decode cc pc = .ok (.dcmp op, 1)) (h : FP.Core.val64 x ≠ .nan)
    (k : W p l e R s m args below meth c H locs cells slots Q (F0 m (pc + 1) ls (.int (zI 0) :: rest))) : W p l e R s m args below meth c H locs cells slots Q (F0 m pc ls (.double x :: .double x :: rest)) := by
  refine lv_dcmp hx hb hdg ?_
  rw [show FP.dcmp x x = some .eq from FP.Core.dcmp_self h]
  exact k
theorem z_canD {a b : UInt64} (h : a = b) (k : W p l e R s m args below meth c H locs cells slots Q (F0 m pc ls (.double b :: rest))) : W p l e R s m args below meth c H locs cells slots Q (F0 m pc ls (.double a :: rest)) := h ▸ k
theorem z_lcmp_neS {a : Int64} {off : Int} {tgt : Nat} (hx : p.tables.exec = Jvm.exec) (hb : c.code = cc) (hdg : decode cc pc = .ok (.lcmp, 1)) (hdh : decode cc (pc + 1) = .ok (.ifCond .ne off, 3)) (ht : ((pc + 1 : Nat) : Int) + off = (tgt : Int))
    (k : W p l e R s m args below meth c H locs cells slots Q (F0 m (pc + 1 + 3) ls rest)) : W p l e R s m args below meth c H locs cells slots Q (F0 m pc ls (.long a :: .long a :: rest)) :=
  W.lcmp hx hb hdg (lv_if_ne hx hb hdh ht (fun h => absurd ((lg_cmp_eq a a).mpr rfl) h) (fun _ => k))
theorem z_ishr {v k : Int} {n : Nat} {d : Int} (hx : p.tables.exec = Jvm.exec) (hb : c.code = cc) (hdg : decode cc pc = .ok (.ishr, 1)) (hv : -2147483648 ≤ v ∧ v ≤ 2147483647) (he : ((zI k &&& 31).toBitVec.smod 32).toNat = n) (hd : ((2 ^ n : Nat) : Int) = d)
    (kk : W p l e R s m args below meth c H locs cells slots Q (F0 m (pc + 1) ls (.int (zI (v / d)) :: rest))) : W p l e R s m args below meth c H locs cells slots Q (F0 m pc ls (.int (zI k) :: .int (zI v) :: rest)) :=
  lv_ishr hx hb hdg (by rw [zI_shr hv he hd]; exact kk)
theorem z_ilow {v : Int} (hx : p.tables.exec = Jvm.exec) (hb : c.code = cc) (hdg : decode cc pc = .ok (.iand, 1))
    (kk : W p l e R s m args below meth c H locs cells slots Q (F0 m (pc + 1) ls (.int (zI (v % 2147483648)) :: rest))) : W p l e R s m args below meth c H locs cells slots Q (F0 m pc ls (.int (zI 2147483647) :: .int (zI v) :: rest)) :=
  lv_iand hx hb hdg (by rw [zI_low]; exact kk)
/-- a place where roads meet: what stands there is walked once, ahead of the fork -/
theorem z_join {σ : Type} {nL c2 s2 : Nat} (pcJ : Nat) (I : σ → Prop) (w : σ → va_W) (lv : σ → List (Nat × Value)) (st : σ → List Value)
    (body : ∀ x : σ, I x → ∀ (H : Heap) (locs : List Loc) (ls : Array Slot), va_P D vwCl (w x) H → va_D A (w x) → va_S A s.heap H locs → lv_has ls nL (lv x) → W p l e R s m args below meth c H locs c2 s2 Q (F0 m pcJ ls (st x)))
    (k : (∀ x : σ, I x → ∀ (H : Heap) (locs : List Loc) (ls : Array Slot), va_P D vwCl (w x) H → va_D A (w x) → va_S A s.heap H locs → lv_has ls nL (lv x) → W p l e R s m args below meth c H locs c2 s2 Q (F0 m pcJ ls (st x))) → W p l e R s m args below meth c H locs cells slots Q (F0 m pc ls rest)) : W p l e R s m args below meth c H locs cells slots Q (F0 m pc ls rest) := k body
end ZP33
