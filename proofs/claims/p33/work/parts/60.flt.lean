/-! floats: the bits of a normal one, doubled and halved -/
def fbit (E T : Int) : UInt32 := UInt32.ofNat (E * 8388608 + T).toNat
def fbitn (E T : Int) : UInt32 := UInt32.ofNat (2147483648 + E * 8388608 + T).toNat
theorem fl_tails : FP.Core.b32.tails = 8388608 := by decide
theorem fl_exps : FP.Core.b32.exps = 256 := by decide
theorem fl_qmin : FP.Core.b32.qmin = -149 := by decide
theorem fl_qmax : FP.Core.b32.qmax = 104 := by decide
theorem fl_p : 2 ^ FP.Core.b32.p = 16777216 := by decide
theorem fl_fits {c : Nat} {q : Int} (s : Bool) (hc : 8388608 ≤ c ∧ c < 16777216) (hq : -149 ≤ q ∧ q ≤ 104) : FP.Core.fits FP.Core.b32 (.fin s c q) := by
  refine ⟨?_, ?_, ?_, Or.inr ?_⟩
  · rw [fl_p]; exact hc.2
  · rw [fl_qmin]; exact hq.1
  · rw [fl_qmax]; exact hq.2
  · rw [fl_tails]; exact hc.1
theorem fl_enc {c : Nat} {q : Int} (s : Bool) (hc : 8388608 ≤ c ∧ c < 16777216) (hq : -149 ≤ q ∧ q ≤ 104) : FP.Core.encode FP.Core.b32 (.fin s c q) = (s.toNat * 256 + ((q + 149).toNat + 1)) * 8388608 + (c - 8388608) := by
  show (if c < FP.Core.b32.tails then _ else FP.Core.assemble FP.Core.b32 s ((q - FP.Core.b32.qmin).toNat + 1) (c - FP.Core.b32.tails)) = _
  rw [fl_tails, if_neg (by omega)]
  unfold FP.Core.assemble
  rw [fl_exps, fl_tails, fl_qmin, show q - -149 = q + 149 by omega]
theorem fbit_of {E T : Int} (hE : 1 ≤ E ∧ E ≤ 254) (hT : 0 ≤ T ∧ T < 8388608) : FP.Core.of32 (.fin false (8388608 + T).toNat (E - 150)) = fbit E T := by
  unfold FP.Core.of32 fbit
  rw [fl_enc false (by omega) (by omega)]
  refine congrArg UInt32.ofNat ?_
  have e0 : false.toNat = 0 := rfl
  rw [e0]
  omega
theorem fbitn_of {E T : Int} (hE : 1 ≤ E ∧ E ≤ 254) (hT : 0 ≤ T ∧ T < 8388608) : FP.Core.of32 (.fin true (8388608 + T).toNat (E - 150)) = fbitn E T := by
  unfold FP.Core.of32 fbitn
  rw [fl_enc true (by omega) (by omega)]
  refine congrArg UInt32.ofNat ?_
  have e0 : true.toNat = 1 := rfl
  rw [e0]
  omega
theorem fbit_v {E T : Int} (hE : 1 ≤ E ∧ E ≤ 254) (hT : 0 ≤ T ∧ T < 8388608) : FP.Core.val32 (fbit E T) = .fin false (8388608 + T).toNat (E - 150) := by
  rw [← fbit_of hE hT]
  exact FP.Core.val32_of32 (fl_fits _ (by omega) (by omega))
theorem fbitn_v {E T : Int} (hE : 1 ≤ E ∧ E ≤ 254) (hT : 0 ≤ T ∧ T < 8388608) : FP.Core.val32 (fbitn E T) = .fin true (8388608 + T).toNat (E - 150) := by
  rw [← fbitn_of hE hT]
  exact FP.Core.val32_of32 (fl_fits _ (by omega) (by omega))
theorem fl_is {x y : UInt32} {s : Bool} {c : Nat} {q : Int} (hx : FP.Core.val32 x = .fin s c q) (hy : FP.Core.val32 y = .fin s c q) : x = y :=
  FP.Core.val32_inj (by rw [hx]; exact fun h => nomatch h) (hx.trans hy.symm)
theorem fl_c2 : FP.Core.val32 FP.fconst2 = .fin false 8388608 (-22) := by decide +kernel
theorem fl_c1 : FP.Core.val32 FP.fconst1 = .fin false 8388608 (-23) := by decide +kernel
theorem fl_c0 : FP.Core.val32 FP.fconst0 = .fin false 0 (-149) := by decide +kernel
theorem fl_c8 : FP.Core.val32 1258291200 = .fin false 8388608 0 := by decide +kernel
theorem fl_rr {A B c : Nat} {e q : Int} (s : Bool) (hB : 0 < B) (hc : 8388608 ≤ c ∧ c < 16777216) (hq : -149 ≤ q ∧ q ≤ 104) (h : A * 2 ^ (e - q).toNat = c * B * 2 ^ (q - e).toNat) : FP.Core.roundRatio FP.Core.b32 s A B e = .fin s c q :=
  FP.Core.roundRatio_exact FP.Core.good_b32 hB (fl_fits s hc hq) h
theorem fb_div {E T : Int} (hE : 2 ≤ E ∧ E ≤ 254) (hT : 0 ≤ T ∧ T < 8388608) : FP.fdiv (fbit E T) FP.fconst2 = fbit (E - 1) T := by
  refine fl_is (s := false) (c := (8388608 + T).toNat) (q := E - 1 - 150) ?_ (fbit_v (by omega) hT)
  show FP.Core.val32 (FP.Core.fdiv _ _) = _
  rw [FP.Core.val32_fdiv, fbit_v (by omega) hT, fl_c2]
  show (if (8388608 : Nat) = 0 then (if (8388608 + T).toNat = 0 then FP.Core.Datum.nan else FP.Core.Datum.inf (false != false)) else FP.Core.roundRatio FP.Core.b32 (false != false) (8388608 + T).toNat 8388608 (E - 150 - -22)) = _
  rw [if_neg (by decide)]
  refine fl_rr false (by decide) (by omega) (by omega) ?_
  rw [show (E - 150 - -22 - (E - 1 - 150)).toNat = 23 by omega, show (E - 1 - 150 - (E - 150 - -22)).toNat = 0 by omega]
  omega
theorem fb_mul {E T : Int} (hE : 1 ≤ E ∧ E ≤ 253) (hT : 0 ≤ T ∧ T < 8388608) : FP.fmul (fbit E T) FP.fconst2 = fbit (E + 1) T := by
  refine fl_is (s := false) (c := (8388608 + T).toNat) (q := E + 1 - 150) ?_ (fbit_v (by omega) hT)
  show FP.Core.val32 (FP.Core.fmul _ _) = _
  rw [FP.Core.val32_fmul, fbit_v (by omega) hT, fl_c2]
  show FP.Core.roundRatio FP.Core.b32 (false != false) ((8388608 + T).toNat * 8388608) 1 (E - 150 + -22) = _
  refine fl_rr false (by decide) (by omega) (by omega) ?_
  rw [show (E - 150 + -22 - (E + 1 - 150)).toNat = 0 by omega, show (E + 1 - 150 - (E - 150 + -22)).toNat = 23 by omega]
  omega
theorem fb_mulc {T : Int} (hT : 0 ≤ T ∧ T < 8388608) : FP.fmul (fbit 127 T) 1258291200 = fbit 150 T := by
  refine fl_is (s := false) (c := (8388608 + T).toNat) (q := 150 - 150) ?_ (fbit_v (by omega) hT)
  show FP.Core.val32 (FP.Core.fmul _ _) = _
  rw [FP.Core.val32_fmul, fbit_v (by omega) hT, fl_c8]
  show FP.Core.roundRatio FP.Core.b32 (false != false) ((8388608 + T).toNat * 8388608) 1 (127 - 150 + 0) = _
  refine fl_rr false (by decide) (by omega) (by omega) ?_
  rw [show ((127 - 150 + 0 : Int) - (150 - 150)).toNat = 0 by omega, show ((150 - 150 : Int) - (127 - 150 + 0)).toNat = 23 by omega]
  omega
theorem fb_f2i {T : Int} (hT : 0 ≤ T ∧ T < 8388608) : FP.f2i (fbit 150 T) = zI (8388608 + T) := by
  refine FP.Core.f2i_int ?_
  rw [zI_toInt (by omega)]
  unfold FP.Core.FInt
  rw [fbit_v (by omega) hT]
  show FP.Core.signed false ((8388608 + T).toNat * 2 ^ (150 - 150 : Int).toNat) = (8388608 + T) * ((2 ^ (-(150 - 150 : Int)).toNat : Nat) : Int)
  show (((8388608 + T).toNat * 1 : Nat) : Int) = (8388608 + T) * ((1 : Nat) : Int)
  omega
theorem fl_cmp (a b : Int) : (a < b → compare a b = .lt) ∧ (a = b → compare a b = .eq) ∧ (b < a → compare a b = .gt) := by
  simp only [compare, compareOfLessAndEq]
  refine ⟨fun h => if_pos h, fun h => ?_, fun h => ?_⟩
  · rw [if_neg (by omega), if_pos h]
  · rw [if_neg (by omega), if_neg (by omega)]
theorem fl_fcmp {x y : UInt32} {s t : Bool} {c d : Nat} {q r : Int} (hx : FP.Core.val32 x = .fin s c q) (hy : FP.Core.val32 y = .fin t d r) : FP.fcmp x y = some (compare (FP.Core.signed s (FP.Core.inUnits c q (min q r))) (FP.Core.signed t (FP.Core.inUnits d r (min q r)))) := by
  show FP.Core.order (FP.Core.val32 x) (FP.Core.val32 y) = _
  rw [hx, hy]
  rfl
theorem fl_pw (k : Nat) : 1 ≤ 2 ^ k := Nat.one_le_two_pow
theorem fb_p0 {E T : Int} (hE : 1 ≤ E ∧ E ≤ 254) (hT : 0 ≤ T ∧ T < 8388608) : FP.fcmp (fbit E T) FP.fconst0 = some .gt := by
  rw [fl_fcmp (fbit_v hE hT) fl_c0]
  refine congrArg some ((fl_cmp _ _).2.2 ?_)
  unfold FP.Core.inUnits
  rw [show min (E - 150) (-149) = -149 by omega]
  have h := Nat.mul_le_mul_left (8388608 + T).toNat (fl_pw (E - 150 - -149).toNat)
  show ((0 * 2 ^ _ : Nat) : Int) < (((8388608 + T).toNat * 2 ^ (E - 150 - -149).toNat : Nat) : Int)
  rw [Nat.zero_mul]
  omega
theorem fb_n0 {E T : Int} (hE : 1 ≤ E ∧ E ≤ 254) (hT : 0 ≤ T ∧ T < 8388608) : FP.fcmp (fbitn E T) FP.fconst0 = some .lt := by
  rw [fl_fcmp (fbitn_v hE hT) fl_c0]
  refine congrArg some ((fl_cmp _ _).1 ?_)
  unfold FP.Core.inUnits
  rw [show min (E - 150) (-149) = -149 by omega]
  have h := Nat.mul_le_mul_left (8388608 + T).toNat (fl_pw (E - 150 - -149).toNat)
  show -(((8388608 + T).toNat * 2 ^ (E - 150 - -149).toNat : Nat) : Int) < ((0 * 2 ^ _ : Nat) : Int)
  rw [Nat.zero_mul]
  omega
/-- compared with a power of two -/
theorem fb_cmpk {E T K : Int} {y : UInt32} (hE : 1 ≤ E ∧ E ≤ 254) (hT : 0 ≤ T ∧ T < 8388608) (hy : FP.Core.val32 y = .fin false 8388608 (K - 150)) : (E < K → FP.fcmp (fbit E T) y = some .lt) ∧ (K ≤ E → FP.fcmp (fbit E T) y = some .eq ∨ FP.fcmp (fbit E T) y = some .gt) := by
  rw [fl_fcmp (fbit_v hE hT) hy]
  unfold FP.Core.inUnits
  refine ⟨fun h => congrArg some ((fl_cmp _ _).1 ?_), fun h => ?_⟩
  · rw [show min (E - 150) (K - 150) = E - 150 by omega, show (E - 150 - (E - 150)).toNat = 0 by omega]
    have h1 : 2 ^ 1 ≤ 2 ^ (K - 150 - (E - 150)).toNat := Nat.pow_le_pow_right (by decide) (by omega)
    have h2 := Nat.mul_le_mul_left 8388608 h1
    show (((8388608 + T).toNat * 2 ^ 0 : Nat) : Int) < ((8388608 * 2 ^ (K - 150 - (E - 150)).toNat : Nat) : Int)
    omega
  · rw [show min (E - 150) (K - 150) = K - 150 by omega, show (K - 150 - (K - 150)).toNat = 0 by omega]
    have h2 := Nat.mul_le_mul_left (8388608 + T).toNat (fl_pw (E - 150 - (K - 150)).toNat)
    show some (compare (((8388608 + T).toNat * 2 ^ (E - 150 - (K - 150)).toNat : Nat) : Int) ((8388608 * 2 ^ 0 : Nat) : Int)) = _ ∨ some (compare (((8388608 + T).toNat * 2 ^ (E - 150 - (K - 150)).toNat : Nat) : Int) ((8388608 * 2 ^ 0 : Nat) : Int)) = _
    generalize (8388608 + T).toNat * 2 ^ (E - 150 - (K - 150)).toNat = u at h2 ⊢
    by_cases z : (u : Int) = ((8388608 * 2 ^ 0 : Nat) : Int)
    · exact Or.inl (congrArg some ((fl_cmp _ _).2.1 z))
    · exact Or.inr (congrArg some ((fl_cmp _ _).2.2 (by omega)))
theorem fb_lt2 {E T : Int} (hE : 1 ≤ E ∧ E ≤ 254) (hT : 0 ≤ T ∧ T < 8388608) : (E < 128 ∧ FP.fcmp (fbit E T) FP.fconst2 = some .lt) ∨ (128 ≤ E ∧ (FP.fcmp (fbit E T) FP.fconst2 = some .eq ∨ FP.fcmp (fbit E T) FP.fconst2 = some .gt)) := by
  have q := fb_cmpk (K := 128) hE hT fl_c2
  by_cases h : E < 128
  · exact Or.inl ⟨h, q.1 h⟩
  · exact Or.inr ⟨by omega, q.2 (by omega)⟩
theorem fb_lt1 {E T : Int} (hE : 1 ≤ E ∧ E ≤ 254) (hT : 0 ≤ T ∧ T < 8388608) : (E < 127 ∧ FP.fcmp (fbit E T) FP.fconst1 = some .lt) ∨ (127 ≤ E ∧ (FP.fcmp (fbit E T) FP.fconst1 = some .eq ∨ FP.fcmp (fbit E T) FP.fconst1 = some .gt)) := by
  have q := fb_cmpk (K := 127) hE hT fl_c1
  by_cases h : E < 127
  · exact Or.inl ⟨h, q.1 h⟩
  · exact Or.inr ⟨by omega, q.2 (by omega)⟩
theorem fb_neg {E T : Int} (hE : 1 ≤ E ∧ E ≤ 254) (hT : 0 ≤ T ∧ T < 8388608) : FP.fneg (fbitn E T) = fbit E T := by
  unfold FP.fneg fbitn fbit
  apply UInt32.toNat_inj.mp
  have e1 : (2147483648 + E * 8388608 + T).toNat = 2 ^ 31 * 1 + (E * 8388608 + T).toNat := by omega
  have hlt : (E * 8388608 + T).toNat < 2 ^ 31 := by omega
  rw [UInt32.toNat_xor, e1, UInt32.toNat_ofNat_of_lt' (by show _ < 4294967296; omega), UInt32.toNat_ofNat_of_lt' (by show _ < 4294967296; omega), Nat.two_pow_add_eq_or_of_lt hlt]
  have e2 : (0x80000000 : UInt32).toNat = 2 ^ 31 * 1 := rfl
  rw [e2]
  apply Nat.eq_of_testBit_eq
  intro i
  rw [Nat.testBit_xor, Nat.testBit_or]
  by_cases hi : i < 31
  · have q : (2 ^ 31 * 1).testBit i = false := by rw [Nat.mul_one, Nat.testBit_two_pow]; simp; omega
    rw [q]
    simp
  · have q : (E * 8388608 + T).toNat.testBit i = false := Nat.testBit_lt_two_pow (Nat.lt_of_lt_of_le hlt (Nat.pow_le_pow_right (by decide) (by omega)))
    rw [q]
    simp
theorem fb_n32 {E T : Int} (hE : 1 ≤ E ∧ E ≤ 254) (hT : 0 ≤ T ∧ T < 8388608) : vf_n32 (fbit E T) := by
  unfold vf_n32 fbit
  rw [UInt32.le_iff_toNat_le, UInt32.toNat_and, UInt32.toNat_ofNat_of_lt' (by show _ < 4294967296; omega)]
  have e : (0x7fffffff : UInt32).toNat = 2 ^ 31 - 1 := rfl
  rw [e, Nat.and_two_pow_sub_one_eq_mod]
  show _ ≤ 2139095040
  omega
theorem fb_i32 {E T : Int} (hE : 1 ≤ E ∧ E ≤ 254) (hT : 0 ≤ T ∧ T < 8388608) : (fbit E T).toInt32 = zI (E * 8388608 + T) := by
  apply Int32.toBitVec_inj.mp
  show (fbit E T).toBitVec = BitVec.ofInt 32 (E * 8388608 + T)
  unfold fbit
  show BitVec.ofNat 32 (E * 8388608 + T).toNat = _
  rw [← BitVec.ofInt_natCast, Int.toNat_of_nonneg (by omega)]
theorem fb_i32n {E T : Int} (hE : 1 ≤ E ∧ E ≤ 254) (hT : 0 ≤ T ∧ T < 8388608) : (fbitn E T).toInt32 = zI (E * 8388608 + T - 2147483648) := by
  apply Int32.toBitVec_inj.mp
  show (fbitn E T).toBitVec = BitVec.ofInt 32 (E * 8388608 + T - 2147483648)
  unfold fbitn
  show BitVec.ofNat 32 (2147483648 + E * 8388608 + T).toNat = _
  rw [← BitVec.ofInt_natCast, Int.toNat_of_nonneg (by omega)]
  apply BitVec.eq_of_toInt_eq
  rw [BitVec.toInt_ofInt, BitVec.toInt_ofInt, show 2147483648 + E * 8388608 + T = E * 8388608 + T - 2147483648 + 4294967296 * 1 by omega]
  exact Int.add_mul_bmod_self_left ..
/-- sign | (exponent << 23) | fraction -/
theorem fb_or {i T : Int} (hi : 0 ≤ i ∧ i ≤ 254) (hT : 0 ≤ T ∧ T < 8388608) : (zI 0 ||| (zI i <<< (zI 23 &&& 31))) ||| zI T = zI (i * 8388608 + T) := by
  apply Int32.toBitVec_inj.mp
  rw [Int32.toBitVec_or, Int32.toBitVec_or]
  have e0 : (zI 0).toBitVec = 0#32 := rfl
  have e1 : (zI i <<< (zI 23 &&& 31)).toBitVec = BitVec.ofNat 32 (i.toNat * 8388608) := by
    have q : (zI i <<< (zI 23 &&& 31)).toBitVec = (zI i).toBitVec <<< 23 := rfl
    rw [q]
    have e2 : (zI i).toBitVec = BitVec.ofNat 32 i.toNat := by
      show BitVec.ofInt 32 i = _
      rw [← BitVec.ofInt_natCast, Int.toNat_of_nonneg (by omega)]
    rw [e2]
    apply BitVec.eq_of_toNat_eq
    rw [BitVec.toNat_shiftLeft, BitVec.toNat_ofNat, BitVec.toNat_ofNat, Nat.shiftLeft_eq]
    omega
  have e3 : (zI T).toBitVec = BitVec.ofNat 32 T.toNat := by
    show BitVec.ofInt 32 T = _
    rw [← BitVec.ofInt_natCast, Int.toNat_of_nonneg (by omega)]
  have e4 : (zI (i * 8388608 + T)).toBitVec = BitVec.ofNat 32 (i.toNat * 8388608 + T.toNat) := by
    show BitVec.ofInt 32 (i * 8388608 + T) = _
    rw [← BitVec.ofInt_natCast]
    congr 1
    omega
  rw [e0, e1, e3, e4, BitVec.zero_or]
  apply BitVec.eq_of_toNat_eq
  rw [BitVec.toNat_or, BitVec.toNat_ofNat, BitVec.toNat_ofNat, BitVec.toNat_ofNat, Nat.mod_eq_of_lt (by omega), Nat.mod_eq_of_lt (by omega), Nat.mod_eq_of_lt (by omega)]
  have q := Nat.two_pow_add_eq_or_of_lt (i := 23) (b := T.toNat) (by omega) i.toNat
  rw [show i.toNat * 8388608 = 2 ^ 23 * i.toNat by omega]
  exact q.symm
theorem fb_orn {i T : Int} (hi : 0 ≤ i ∧ i ≤ 254) (hT : 0 ≤ T ∧ T < 8388608) : (zI (-2147483648) ||| (zI i <<< (zI 23 &&& 31))) ||| zI T = zI (i * 8388608 + T - 2147483648) := by
  have h := fb_or hi hT
  have e0 : zI 0 ||| (zI i <<< (zI 23 &&& 31)) = zI i <<< (zI 23 &&& 31) := by
    apply Int32.toBitVec_inj.mp
    rw [Int32.toBitVec_or]
    exact BitVec.zero_or
  rw [e0] at h
  rw [Int32.or_assoc, h]
  apply Int32.toBitVec_inj.mp
  rw [Int32.toBitVec_or]
  have e4 : (zI (i * 8388608 + T)).toBitVec = BitVec.ofNat 32 (i.toNat * 8388608 + T.toNat) := by
    show BitVec.ofInt 32 (i * 8388608 + T) = _
    rw [← BitVec.ofInt_natCast]
    congr 1
    omega
  have e5 : (zI (i * 8388608 + T - 2147483648)).toBitVec = BitVec.ofNat 32 (2147483648 + (i.toNat * 8388608 + T.toNat)) := by
    show BitVec.ofInt 32 (i * 8388608 + T - 2147483648) = _
    rw [← BitVec.ofInt_natCast]
    apply BitVec.eq_of_toInt_eq
    rw [BitVec.toInt_ofInt, BitVec.toInt_ofInt, show ((2147483648 + (i.toNat * 8388608 + T.toNat) : Nat) : Int) = i * 8388608 + T - 2147483648 + 4294967296 * 1 by omega]
    exact (Int.add_mul_bmod_self_left ..).symm
  have e6 : (zI (-2147483648)).toBitVec = BitVec.ofNat 32 2147483648 := by decide +kernel
  rw [e4, e5, e6]
  apply BitVec.eq_of_toNat_eq
  rw [BitVec.toNat_or, BitVec.toNat_ofNat, BitVec.toNat_ofNat, BitVec.toNat_ofNat, Nat.mod_eq_of_lt (by omega), Nat.mod_eq_of_lt (by omega), Nat.mod_eq_of_lt (by omega)]
  have q := Nat.two_pow_add_eq_or_of_lt (i := 31) (b := i.toNat * 8388608 + T.toNat) (by omega) 1
  exact q.symm
/-- a rounded ratio inside the normal numbers -/
theorem fl_norm (s : Bool) {A B : Nat} {e : Int} (hA : 0 < A) (hB : 0 < B) {lo hi : Int} (hl : lo ≤ FP.Core.leading A B ∧ FP.Core.leading A B ≤ hi) (h1 : -149 ≤ lo + e - 23) (h2 : hi + e - 23 ≤ 103) : ∃ (c : Nat) (q : Int), FP.Core.roundRatio FP.Core.b32 s A B e = .fin s c q ∧ (8388608 ≤ c ∧ c < 16777216) ∧ lo + e - 23 ≤ q ∧ q ≤ hi + e - 22 := by
  have hq : FP.Core.quantum FP.Core.b32 A B e = FP.Core.leading A B + e - 23 := by
    unfold FP.Core.quantum
    rw [fl_qmin]
    show max (-149) (FP.Core.leading A B + e - (((24 : Nat) : Int) - 1)) = _
    omega
  have hm := FP.Core.nearest_units_le (f := FP.Core.b32) hA hB e
  rw [fl_p] at hm
  have hn : 8388608 ≤ FP.Core.nearest (FP.Core.unitsNum A e (FP.Core.quantum FP.Core.b32 A B e)) (FP.Core.unitsDen B e (FP.Core.quantum FP.Core.b32 A B e)) := by
    refine FP.Core.nearest_ge (FP.Core.unitsDen_pos hB ..) ?_
    rcases FP.Core.quantum_not_below (f := FP.Core.b32) hA hB e with h | h
    · have l := (FP.Core.leading_spec hA hB).1
      rw [hq] at h ⊢
      rw [fl_qmin] at h
      refine Nat.le_of_not_lt fun hlt => l ?_
      have := (FP.Core.units_below A B e (FP.Core.leading A B + e - 23) 23).mp hlt
      rw [show FP.Core.leading A B + e - 23 - e + ((23 : Nat) : Int) = FP.Core.leading A B by omega] at this
      exact this
    · refine Nat.le_of_not_lt fun hlt => h ?_
      exact (FP.Core.units_below A B e (FP.Core.quantum FP.Core.b32 A B e) 23).mp hlt
  have e0 : FP.Core.roundRatio FP.Core.b32 s A B e = FP.Core.settle FP.Core.b32 s (FP.Core.nearest (FP.Core.unitsNum A e (FP.Core.quantum FP.Core.b32 A B e)) (FP.Core.unitsDen B e (FP.Core.quantum FP.Core.b32 A B e))) (FP.Core.quantum FP.Core.b32 A B e) := by
    unfold FP.Core.roundRatio FP.Core.roundAt
    rw [if_neg (by omega)]
  rw [e0]
  generalize FP.Core.nearest (FP.Core.unitsNum A e (FP.Core.quantum FP.Core.b32 A B e)) (FP.Core.unitsDen B e (FP.Core.quantum FP.Core.b32 A B e)) = u at hm hn
  rw [hq]
  unfold FP.Core.settle FP.Core.bound
  rw [fl_p, fl_qmax, fl_tails]
  by_cases z : u < 16777216
  · rw [if_pos z, if_pos (by omega)]
    exact ⟨u, _, rfl, ⟨hn, z⟩, by omega, by omega⟩
  · rw [if_neg z, if_pos (by omega)]
    exact ⟨8388608, _, rfl, ⟨by omega, by omega⟩, by omega, by omega⟩
theorem fl_lead {A B : Nat} (hA : 0 < A) (hB : 0 < B) {a b : Nat} (h1 : B ≤ A * 2 ^ a) (h2 : A < B * 2 ^ b) : -(a : Int) ≤ FP.Core.leading A B ∧ FP.Core.leading A B ≤ (b : Int) - 1 := by
  have l := FP.Core.leading_spec hA hB
  have u1 : ¬ FP.Core.Below A B (((0 : Nat) : Int) - (a : Nat)) := fun h => by
    rw [FP.Core.below_iff] at h
    omega
  have u2 : FP.Core.Below A B (((b : Nat) : Int) - ((0 : Nat) : Int)) := by
    rw [FP.Core.below_iff]
    omega
  have w1 := FP.Core.lt_of_below u1 l.2
  have w2 := FP.Core.lt_of_below l.1 u2
  omega
theorem fl_ofI {a : Int} (h0 : a ≠ 0) (hb : -8589934591 ≤ a ∧ a ≤ 8589934591) : ∃ (c : Nat) (q : Int), FP.Core.val32 (FP.l2f (zJ a)) = .fin (decide (a < 0)) c q ∧ (8388608 ≤ c ∧ c < 16777216) ∧ -23 ≤ q ∧ q ≤ 10 := by
  have hl := fl_lead (A := a.natAbs) (B := 1) (by omega) (by decide) (a := 0) (b := 33) (by omega) (by omega)
  obtain ⟨c, q, h1, h2, h3, h4⟩ := fl_norm (decide (a < 0)) (A := a.natAbs) (B := 1) (e := 0) (by omega) (by decide) (lo := 0) (hi := 32) (by omega) (by omega) (by omega)
  refine ⟨c, q, ?_, h2, by omega, by omega⟩
  show FP.Core.val32 (FP.Core.l2f (zJ a)) = _
  rw [FP.Core.val32_l2f, zJ_toInt (by omega)]
  exact h1
/-- the quotient of two whole numbers: 0, or normal -/
theorem fl_quot {a n : Int} (ha : -8589934591 ≤ a ∧ a ≤ 8589934591) (hn : 1 ≤ n ∧ n ≤ 8589934591) : (a = 0 ∧ FP.fdiv (FP.l2f (zJ a)) (FP.l2f (zJ n)) = FP.fconst0) ∨ (∃ E T : Int, (60 ≤ E ∧ E ≤ 200) ∧ (0 ≤ T ∧ T < 8388608) ∧ FP.fdiv (FP.l2f (zJ a)) (FP.l2f (zJ n)) = fbit E T) ∨ (∃ E T : Int, (60 ≤ E ∧ E ≤ 200) ∧ (0 ≤ T ∧ T < 8388608) ∧ FP.fdiv (FP.l2f (zJ a)) (FP.l2f (zJ n)) = fbitn E T) := by
  obtain ⟨d, r, d1, d2, d3, d4⟩ := fl_ofI (a := n) (by omega) (by omega)
  rw [decide_eq_false (show ¬ n < 0 by omega)] at d1
  by_cases h0 : a = 0
  · refine Or.inl ⟨h0, ?_⟩
    subst h0
    have e0 : FP.Core.val32 (FP.l2f (zJ 0)) = .fin false 0 (-149) := by decide +kernel
    refine fl_is (s := false) (c := 0) (q := -149) ?_ fl_c0
    show FP.Core.val32 (FP.Core.fdiv _ _) = _
    rw [FP.Core.val32_fdiv, e0, d1]
    show (if d = 0 then _ else FP.Core.roundRatio FP.Core.b32 (false != false) 0 d (-149 - r)) = _
    rw [if_neg (by omega)]
    unfold FP.Core.roundRatio
    rw [if_pos rfl, fl_qmin]
    rfl
  · obtain ⟨c, q, c1, c2, c3, c4⟩ := fl_ofI h0 (by omega)
    have hl := fl_lead (A := c) (B := d) (by omega) (by omega) (a := 1) (b := 1) (by omega) (by omega)
    obtain ⟨u, v, u1, u2, u3, u4⟩ := fl_norm (decide (a < 0)) (A := c) (B := d) (e := q - r) (by omega) (by omega) (lo := -1) (hi := 0) (by omega) (by omega) (by omega)
    have hv : FP.Core.val32 (FP.fdiv (FP.l2f (zJ a)) (FP.l2f (zJ n))) = .fin (decide (a < 0)) u v := by
      show FP.Core.val32 (FP.Core.fdiv _ _) = _
      rw [FP.Core.val32_fdiv, c1, d1]
      show (if d = 0 then _ else FP.Core.roundRatio FP.Core.b32 (decide (a < 0) != false) c d (q - r)) = _
      rw [if_neg (by omega), show (decide (a < 0) != false) = decide (a < 0) from by cases decide (a < 0) <;> rfl]
      exact u1
    have eT : (8388608 + ((u : Int) - 8388608)).toNat = u := by omega
    by_cases hs : a < 0
    · refine Or.inr (Or.inr ⟨v + 150, (u : Int) - 8388608, by omega, by omega, ?_⟩)
      rw [decide_eq_true hs] at hv
      have w := fbitn_v (E := v + 150) (T := (u : Int) - 8388608) (by omega) (by omega)
      rw [eT, show v + 150 - 150 = v by omega] at w
      exact fl_is hv w
    · refine Or.inr (Or.inl ⟨v + 150, (u : Int) - 8388608, by omega, by omega, ?_⟩)
      rw [decide_eq_false hs] at hv
      have w := fbit_v (E := v + 150) (T := (u : Int) - 8388608) (by omega) (by omega)
      rw [eT, show v + 150 - 150 = v by omega] at w
      exact fl_is hv w
theorem fl_n32 {x : UInt32} (h : FP.Core.val32 x ≠ .nan) : vf_n32 x := by
  have q : ¬ (2139095040 < x.toNat % 2 ^ 31) := fun z => h ((FP.Core.fIsNaN_iff x).mp ((FP.Core.isNaN_bits32 x).mpr z))
  unfold vf_n32
  rw [UInt32.le_iff_toNat_le, UInt32.toNat_and]
  have e : (0x7fffffff : UInt32).toNat = 2 ^ 31 - 1 := rfl
  rw [e, Nat.and_two_pow_sub_one_eq_mod]
  exact Nat.le_of_not_lt q
