/-! the mean rate -/
theorem vf64_ok {a : UInt64} (h : FP.Core.dIsNaN a = false) : vf_n64 a := by
  have q : ¬ (9218868437227405312 < a.toNat % 2 ^ 63) := fun z => by rw [(FP.Core.isNaN_bits a).mpr z] at h; cases h
  unfold vf_n64
  rw [UInt64.le_iff_toNat_le, UInt64.toNat_and]
  have e : (0x7fffffffffffffff : UInt64).toNat = 2 ^ 63 - 1 := rfl
  rw [e, Nat.and_two_pow_sub_one_eq_mod]
  exact Nat.le_of_not_lt q
theorem i2d_l2d {x : Int} (h : -2147483648 ≤ x ∧ x ≤ 2147483647) : FP.i2d (zI x) = FP.l2d (zJ x) := by
  show UInt64.ofNat (FP.Core.fromInt FP.Core.b64 (zI x).toInt) = UInt64.ofNat (FP.Core.fromInt FP.Core.b64 (zJ x).toInt)
  rw [zI_toInt h, zJ_toInt (by omega)]
theorem ddiv_ok {x y : Int} (hy : 0 < y ∧ y ≤ 1000000) : vf_n64 (FP.ddiv (FP.l2d (zJ x)) (FP.l2d (zJ y))) := by
  refine vf64_ok (FP.Core.ddiv_out (FP.Core.DFin.notNaN (FP.Core.l2d_fin _)) (FP.Core.l2d_fin _) (fun h => ?_))
  refine FP.Core.l2d_ne_zero (v := zJ y) (fun z => ?_) ((FP.Core.zero_bits2 _).mp h)
  have q := congrArg Int64.toInt z
  rw [zJ_toInt (by omega)] at q
  have e : (0 : Int64).toInt = 0 := rfl
  omega
def sp_mean (M : Int → Int) : UInt64 := if M 10 = 0 then FP.dconst0 else FP.ddiv (FP.l2d (zJ (M 12))) (FP.l2d (zJ (M 10)))
section ZROWD
variable {p : Program} {l : Launch} {e : Env} {R : Room} {s : State} {m : MethodId} {args : Array Value} {below : List Frame} {meth : Method} {c : Code} {H : Heap} {locs : List Loc} {cells slots : Nat} {Q : State → Prop}
variable {cc' : ByteArray} {pc : Nat} {ls : Array Slot} {rest : List Value}
theorem z_i2d {x : Int} (hx : p.tables.exec = Jvm.exec) (hb : c.code = cc') (hdg : decode cc' pc = .ok (.i2d, 1)) (ra : -2147483648 ≤ x ∧ x ≤ 2147483647)
    (k : W p l e R s m args below meth c H locs cells slots Q (F0 m (pc + 1) ls (.double (FP.l2d (zJ x)) :: rest))) : W p l e R s m args below meth c H locs cells slots Q (F0 m pc ls (.int (zI x) :: rest)) := lv_i2d hx hb hdg (by rw [i2d_l2d ra]; exact k)
end ZROWD
