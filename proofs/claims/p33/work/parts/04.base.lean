/-! machine numbers as whole numbers: zI z, zJ z; a method's contract: ZM; an instruction's row over them: z_.. -/
def zI (z : Int) : Int32 := Int32.ofInt z
def zJ (z : Int) : Int64 := Int64.ofInt z
def zB (p : Prop) [Decidable p] : Int := if p then 1 else 0
theorem zI_toInt {a : Int} (h : -2147483648 ≤ a ∧ a ≤ 2147483647) : (zI a).toInt = a := Int32.toInt_ofInt_of_le (by omega) (by omega)
theorem zJ_toInt {a : Int} (h : -9223372036854775808 ≤ a ∧ a ≤ 9223372036854775807) : (zJ a).toInt = a := Int64.toInt_ofInt_of_le (by omega) (by omega)
theorem zI_lt {a b : Int} (ha : -2147483648 ≤ a ∧ a ≤ 2147483647) (hb : -2147483648 ≤ b ∧ b ≤ 2147483647) : zI a < zI b ↔ a < b := by rw [Int32.lt_iff_toInt_lt, zI_toInt ha, zI_toInt hb]
theorem zI_le {a b : Int} (ha : -2147483648 ≤ a ∧ a ≤ 2147483647) (hb : -2147483648 ≤ b ∧ b ≤ 2147483647) : zI a ≤ zI b ↔ a ≤ b := by rw [Int32.le_iff_toInt_le, zI_toInt ha, zI_toInt hb]
theorem zI_eq {a b : Int} (ha : -2147483648 ≤ a ∧ a ≤ 2147483647) (hb : -2147483648 ≤ b ∧ b ≤ 2147483647) : zI a = zI b ↔ a = b := by rw [← Int32.toInt_inj, zI_toInt ha, zI_toInt hb]
theorem zJ_lt {a b : Int} (ha : -9223372036854775808 ≤ a ∧ a ≤ 9223372036854775807) (hb : -9223372036854775808 ≤ b ∧ b ≤ 9223372036854775807) : zJ a < zJ b ↔ a < b := by rw [Int64.lt_iff_toInt_lt, zJ_toInt ha, zJ_toInt hb]
theorem zJ_le {a b : Int} (ha : -9223372036854775808 ≤ a ∧ a ≤ 9223372036854775807) (hb : -9223372036854775808 ≤ b ∧ b ≤ 9223372036854775807) : zJ a ≤ zJ b ↔ a ≤ b := by rw [Int64.le_iff_toInt_le, zJ_toInt ha, zJ_toInt hb]
theorem zJ_eq {a b : Int} (ha : -9223372036854775808 ≤ a ∧ a ≤ 9223372036854775807) (hb : -9223372036854775808 ≤ b ∧ b ≤ 9223372036854775807) : zJ a = zJ b ↔ a = b := by rw [← Int64.toInt_inj, zJ_toInt ha, zJ_toInt hb]
theorem zI_add (a b : Int) : zI a + zI b = zI (a + b) := (Int32.ofInt_add a b).symm
theorem zI_sub (a b : Int) : zI a - zI b = zI (a - b) := (Int32.ofInt_sub a b).symm
theorem zI_mul (a b : Int) : zI a * zI b = zI (a * b) := (Int32.ofInt_mul a b).symm
theorem zI_neg (a : Int) : -zI a = zI (-a) := (Int32.ofInt_neg a).symm
theorem zJ_add (a b : Int) : zJ a + zJ b = zJ (a + b) := (Int64.ofInt_add a b).symm
theorem zJ_sub (a b : Int) : zJ a - zJ b = zJ (a - b) := (Int64.ofInt_sub a b).symm
theorem zJ_mul (a b : Int) : zJ a * zJ b = zJ (a * b) := (Int64.ofInt_mul a b).symm
theorem zJ_neg (a : Int) : -zJ a = zJ (-a) := (Int64.ofInt_neg a).symm
theorem zI_any (x : Int32) : ∃ a : Int, x = zI a ∧ -2147483648 ≤ a ∧ a ≤ 2147483647 := ⟨x.toInt, (Int32.ofInt_toInt x).symm, by have := x.le_toInt; omega, by have := x.toInt_lt; omega⟩
theorem zI_div {a b : Int} (ha : 0 ≤ a ∧ a ≤ 2147483647) (hb : 0 < b ∧ b ≤ 2147483647) : zI a / zI b = zI (a / b) := by
  apply Int32.toInt_inj.mp
  have hb' : zI b ≠ -1 := by
    intro h
    have := congrArg Int32.toInt h
    rw [zI_toInt (by omega)] at this
    have e : (-1 : Int32).toInt = -1 := by decide
    omega
  have hq : 0 ≤ a / b := Int.ediv_nonneg ha.1 (by omega)
  have hq2 : a / b ≤ a := Int.ediv_le_self b ha.1
  rw [Int32.toInt_div_of_ne_right _ _ hb', zI_toInt (by omega), zI_toInt (by omega), zI_toInt (by omega), Int.tdiv_eq_ediv_of_nonneg ha.1]
theorem zI_rem {a b : Int} (ha : 0 ≤ a ∧ a ≤ 2147483647) (hb : 0 < b ∧ b ≤ 2147483647) : zI a - zI a / zI b * zI b = zI (a % b) := by
  rw [zI_div ha hb, zI_mul, zI_sub]
  congr 1
  have := Int.emod_add_mul_ediv a b
  have h2 : a / b * b = b * (a / b) := Int.mul_comm _ _
  omega
theorem zJ_div {a b : Int} (ha : 0 ≤ a ∧ a ≤ 9223372036854775807) (hb : 0 < b ∧ b ≤ 9223372036854775807) : zJ a / zJ b = zJ (a / b) := by
  apply Int64.toInt_inj.mp
  have hb' : zJ b ≠ -1 := by
    intro h
    have := congrArg Int64.toInt h
    rw [zJ_toInt (by omega)] at this
    have e : (-1 : Int64).toInt = -1 := by decide
    omega
  have hq : 0 ≤ a / b := Int.ediv_nonneg ha.1 (by omega)
  have hq2 : a / b ≤ a := Int.ediv_le_self b ha.1
  rw [Int64.toInt_div_of_ne_right _ _ hb', zJ_toInt (by omega), zJ_toInt (by omega), zJ_toInt (by omega), Int.tdiv_eq_ediv_of_nonneg ha.1]
theorem zJ_rem {a b : Int} (ha : 0 ≤ a ∧ a ≤ 9223372036854775807) (hb : 0 < b ∧ b ≤ 9223372036854775807) : zJ a - zJ a / zJ b * zJ b = zJ (a % b) := by
  rw [zJ_div ha hb, zJ_mul, zJ_sub]
  congr 1
  have := Int.emod_add_mul_ediv a b
  have h2 : a / b * b = b * (a / b) := Int.mul_comm _ _
  omega
theorem zI_i2l {a : Int} (h : -2147483648 ≤ a ∧ a ≤ 2147483647) : (zI a).toInt64 = zJ a := by
  apply Int64.toInt_inj.mp
  rw [Int32.toInt_toInt64, zI_toInt h, zJ_toInt (by omega)]
theorem zJ_l2i (a : Int) : (zJ a).toInt32 = zI a := by
  show (Int64.ofInt a).toInt32 = Int32.ofInt a
  simp
theorem zI_clamp {a : Int} (h : 0 ≤ a ∧ a ≤ 2147483647) : (zI a).toNatClampNeg = a.toNat := by
  show (zI a).toInt.toNat = a.toNat
  rw [zI_toInt (by omega)]
theorem zI_in {a : Int} {n : Nat} (h : 0 ≤ a ∧ a < n) (hn : n ≤ 2147483647) : vp_in (zI a) n := by
  rw [vp_in_iff, zI_toInt (by omega)]
  exact h
theorem zI_ne0 {b : Int} (h : 0 < b ∧ b ≤ 2147483647) : ¬ zI b = 0 := by
  have e : (0 : Int32) = zI 0 := rfl
  rw [e, zI_eq (by omega) (by omega)]
  omega
theorem zJ_ne0 {b : Int} (h : 0 < b ∧ b ≤ 9223372036854775807) : ¬ zJ b = 0 := by
  have e : (0 : Int64) = zJ 0 := rfl
  rw [e, zJ_eq (by omega) (by omega)]
  omega
theorem zB_t {p : Prop} [Decidable p] (h : p) : zB p = 1 := if_pos h
theorem zB_f {p : Prop} [Decidable p] (h : ¬ p) : zB p = 0 := if_neg h
theorem zB_r {p : Prop} [Decidable p] : 0 ≤ zB p ∧ zB p ≤ 1 := by unfold zB; split <;> omega
theorem zB_c {p q : Prop} [Decidable p] [Decidable q] (h : p ↔ q) : zB p = zB q := by unfold zB; simp only [h]
theorem zB_nar {p : Prop} [Decidable p] : narrow .boolean (.int (zI (zB p))) = .int (zI (zB p)) := by
  unfold zB
  split <;> rfl
theorem zr0 {D : va_G} {cl : List vw_C} {H : Heap} (pw : va_W) {wc : va_W} (h : va_P D cl (pw ++ wc) H) : va_P D cl (pw ++ (wc ++ [])) H := by rwa [List.append_nil]
theorem zr0D {A : Nat → Prop} (pw : va_W) {wc : va_W} (h : va_D A (pw ++ wc)) : va_D A (pw ++ (wc ++ [])) := by rwa [List.append_nil]
theorem zr0' {D : va_G} {cl : List vw_C} {H : Heap} {pw wc : va_W} (h : va_P D cl (pw ++ (wc ++ [])) H) : va_P D cl (pw ++ wc) H := by rwa [List.append_nil] at h
theorem zr0D' {A : Nat → Prop} {pw wc : va_W} (h : va_D A (pw ++ (wc ++ []))) : va_D A (pw ++ wc) := by rwa [List.append_nil] at h
theorem zJ_tdiv {a b : Int} (ra : -9223372036854775808 ≤ a ∧ a ≤ 9223372036854775807) (hb : 0 < b ∧ b ≤ 9223372036854775807) : zJ a / zJ b = zJ (a.tdiv b) ∧ -9223372036854775808 ≤ a.tdiv b ∧ a.tdiv b ≤ 9223372036854775807 := by
  have hb' : zJ b ≠ -1 := by
    intro h
    have := congrArg Int64.toInt h
    rw [zJ_toInt (by omega)] at this
    have e : (-1 : Int64).toInt = -1 := by decide
    omega
  have r : -9223372036854775808 ≤ a.tdiv b ∧ a.tdiv b ≤ 9223372036854775807 := by
    rcases Int.le_total 0 a with h | h
    · rw [Int.tdiv_eq_ediv_of_nonneg h]
      have h1 : 0 ≤ a / b := Int.ediv_nonneg h (by omega)
      have h2 : a / b ≤ a := Int.ediv_le_self b h
      omega
    · have e : a.tdiv b = -((-a) / b) := by
        rw [← Int.tdiv_eq_ediv_of_nonneg (by omega), Int.neg_tdiv, Int.neg_neg]
      have h1 : 0 ≤ (-a) / b := Int.ediv_nonneg (by omega) (by omega)
      have h2 : (-a) / b ≤ -a := Int.ediv_le_self b (by omega)
      omega
  refine ⟨?_, r⟩
  apply Int64.toInt_inj.mp
  rw [Int64.toInt_div_of_ne_right _ _ hb', zJ_toInt ra, zJ_toInt (by omega), zJ_toInt r]
theorem zJ_xor {a b : Int} (ra : -9223372036854775808 ≤ a ∧ a ≤ 9223372036854775807) (hb : 0 ≤ b ∧ b ≤ 9223372036854775807) : 0 ≤ zJ a ^^^ zJ b ↔ 0 ≤ a := by
  have e0 : (0 : Int64) = zJ 0 := rfl
  have h1 : ∀ x : Int64, 0 ≤ x ↔ x.toBitVec.msb = false := fun x => by
    rw [Int64.le_iff_toInt_le, show (0 : Int64).toInt = 0 by decide]
    show 0 ≤ x.toBitVec.toInt ↔ _
    rw [BitVec.msb_eq_toInt]
    simp
  have h2 : ∀ z : Int, -9223372036854775808 ≤ z ∧ z ≤ 9223372036854775807 → (0 ≤ z ↔ (zJ z).toBitVec.msb = false) := fun z hz => by
    rw [← h1, e0, zJ_le (by omega) hz]
  rw [h1, Int64.toBitVec_xor, BitVec.msb_xor, (h2 b (by omega)).mp hb.1, h2 a ra]
  simp
def up (g : Int → Int) (i v : Int) : Int → Int := fun j => if j = i then v else g j
theorem up_s {g : Int → Int} {i v : Int} : up g i v i = v := if_pos rfl
theorem up_n {g : Int → Int} {i v j : Int} (h : j ≠ i) : up g i v j = g j := if_neg h
/-- a row of n cells says nothing beyond its n -/
def clip (n : Nat) (g : Int → Int) : Int → Int := fun x => if x < (n : Int) then g x else 0
theorem clip_lt {n : Nat} {g : Int → Int} {x : Int} (h : x < n) : clip n g x = g x := if_pos h
theorem clip_ge {n : Nat} {g : Int → Int} {x : Int} (h : ¬ x < n) : clip n g x = 0 := if_neg h
theorem clip_eq {n : Nat} {f g : Int → Int} (h : ∀ x : Int, 0 ≤ x → x < n → f x = g x) (k : Nat) : clip n f (k : Int) = clip n g (k : Int) := by
  unfold clip
  split
  · exact h _ (by omega) (by assumption)
  · rfl
theorem zI_upd {n : Nat} (g : Int → Int) {i : Int} (v : Int) (h : 0 ≤ i ∧ i < n) (hn : n ≤ 2147483647) : upd (fun k : Nat => zI (clip n g (k : Int))) (zI i).toNatClampNeg (zI v) = fun k : Nat => zI (clip n (up g i v) (k : Int)) := by
  funext k
  rw [zI_clamp (by omega)]
  unfold upd
  by_cases hk : (k : Int) = i
  · rw [if_pos (by omega), clip_lt (by omega), hk, up_s]
  · rw [if_neg (by omega)]
    unfold clip
    rw [up_n hk]
theorem zJ_upd {n : Nat} (g : Int → Int) {i : Int} (v : Int) (h : 0 ≤ i ∧ i < n) (hn : n ≤ 2147483647) : vp_updL (fun k : Nat => zJ (clip n g (k : Int))) (zI i).toNatClampNeg (zJ v) = fun k : Nat => zJ (clip n (up g i v) (k : Int)) := by
  funext k
  rw [zI_clamp (by omega)]
  unfold vp_updL
  by_cases hk : (k : Int) = i
  · rw [if_pos (by omega), clip_lt (by omega), hk, up_s]
  · rw [if_neg (by omega)]
    unfold clip
    rw [up_n hk]
/-! contracts -/
def zT (ct : Nat → Nat) : List (ClassId × FieldType) := [(ct 0, .int), (ct 1, .long), (ct 2, .byte), (ct 3, .object "RodGrids$State")]
/-! the statics that the methods read: nobody writes them -/
def zWn : List String := ["METAL", "DOWN", "UP", "CUT", "WARM", "COLD", "HANG", "NUT", "BACK", "WIND", "SET", "PASS"]
def zWnums : List Int32 := [1, 2, 2, 2, 2, 2, 1, 1, 1, 0, 2, 1]
def zWlen : List Nat := [5, 4, 2, 3, 4, 4, 4, 3, 4, 4, 3, 4]
def zWbyt : List (List Int32) := [[109, 101, 116, 97, 108], [100, 111, 119, 110], [117, 112], [99, 117, 116], [119, 97, 114, 109], [99, 111, 108, 100], [104, 97, 110, 103], [110, 117, 116], [98, 97, 99, 107], [119, 105, 110, 100], [115, 101, 116], [112, 97, 115, 115]]
def zSwm : Nat → Int := fun k => if k = 9 then 12 else if k = 10 then 10 else if k = 11 then 11 else (k : Int) + 1
def zLo : Nat → Int := fun k => if k = 0 then 100000 else if k = 1 then 1 else 0
def zHi : Nat → Int := fun k => if k = 0 then 2000000 else if k = 1 then 24 else 100
/-- the twelve constants: what their cells hold (no word says that their class is initialised) -/
def zEn (ad : Nat → Nat) (A : Nat → Prop) (U : State) (H : Heap) : Prop := ∀ i : Nat, i < 12 → va_O "RodGrids$Word" (ad i) A U H ∧ va_OF "java/lang/Enum" "ordinal" "I" (.int (([0, 1, 2, 3, 4, 5, 6, 7, 8, 9, 10, 11] : List Int32).getD i 0)) (ad i) A U H ∧ va_OF "RodGrids$Word" "numbers" "I" (.int (zWnums.getD i 0)) (ad i) A U H
theorem zEn.moved {ad : Nat → Nat} {A : Nat → Prop} {u U : State} {H : Heap} (hvm : u.vm.Alike U.vm) (h : zEn ad A u H) : zEn ad A U H := fun i hi => ⟨va_O.moved hvm (h i hi).1, va_OF.moved hvm (h i hi).2.1, va_OF.moved hvm (h i hi).2.2⟩
theorem zEn.kept {ad : Nat → Nat} {A : Nat → Prop} {U : State} {H H1 : Heap} (h : zEn ad A U H) (hq : ∀ a : Nat, a < H.size → ¬ A a → H1[a]? = H[a]?) : zEn ad A U H1 := fun i hi => ⟨(h i hi).1.kept hq, (h i hi).2.1.kept hq, (h i hi).2.2.kept hq⟩
theorem zEn.narrow {ad : Nat → Nat} {A B : Nat → Prop} {U : State} {H : Heap} (h : zEn ad A U H) (hAB : ∀ q, B q → A q) : zEn ad B U H := fun i hi => ⟨(h i hi).1.narrow hAB, (h i hi).2.1.narrow hAB, (h i hi).2.2.narrow hAB⟩
theorem zEn.recv {ad : Nat → Nat} {A : Nat → Prop} {s : State} {H : Heap} {locs : List Loc} {i : Nat} (h : zEn ad A s s.heap) (hi : i < 12) (hS : va_S A s.heap H locs) : ∃ cell : Cell, H[ad i]? = some cell ∧ cell.vm.isStatics = false ∧ s.vm.findClass "RodGrids$Word" = some cell.cls := by
  obtain ⟨cell, h1, h2, h3, -⟩ := (h i hi).1.kept hS.2.1
  exact ⟨cell, h1, h2, h3⟩
def zS (ad : Nat → Nat) (A : Nat → Prop) (U : State) (H : Heap) : Prop :=
  (zEn ad A U H ∧ va_Ef 12 "RodGrids$Word" "letters" "Ljava/lang/String;" (fun i => .ref (ad (20 + i))) ad A U H ∧ vk_S 12 zWlen zWbyt (fun i => ad (20 + i)) (fun i => ad (40 + i)) A U H) ∧
  ((va_Z "RodGrids" "WORDS" "[LRodGrids$Word;" (.ref (ad 60)) A U H ∧ va_T (.object "RodGrids$Word") (ad 60) 12 (fun j => .ref (ad j)) A U H) ∧
   (va_Z "RodGrids$1" "$SwitchMap$RodGrids$Word" "[I" (.ref (ad 61)) A U H ∧ va_T .int (ad 61) 12 (fun j => .int (zI (zSwm j))) A U H) ∧
   (va_Z "RodGrids" "LEAST_SETTINGS" "[I" (.ref (ad 62)) A U H ∧ va_T .int (ad 62) 3 (fun j => .int (zI (zLo j))) A U H) ∧
   (va_Z "RodGrids" "MOST_SETTINGS" "[I" (.ref (ad 63)) A U H ∧ va_T .int (ad 63) 3 (fun j => .int (zI (zHi j))) A U H)) ∧
  (va_Z "java/lang/String" "COMPACT_STRINGS" "Z" (.int 1) A U H ∧ va_Zq "jdk/internal/util/Preconditions" "SIOOBE_FORMATTER" "Ljava/util/function/BiFunction;" A U H) ∧
  (vx_Zq Bundle.tN "UNASSIGNED_STACK" Bundle.steD A U H ∧ vx_Zq Bundle.tN "SUPPRESSED_SENTINEL" Bundle.listD A U H) ∧
  (vk_R RX8 284 "there is nothing with this number" (ad 64) U ∧ vk_R RX8 291 "an argument is out of its range" (ad 65) U ∧ vk_R RX8 296 "the bench does not allow this now" (ad 66) U)
theorem zS.moved {ad : Nat → Nat} {A : Nat → Prop} {u U : State} {H : Heap} (hvm : u.vm.Alike U.vm) (h1 : vk_R RX8 284 "there is nothing with this number" (ad 64) U ∧ vk_R RX8 291 "an argument is out of its range" (ad 65) U ∧ vk_R RX8 296 "the bench does not allow this now" (ad 66) U) (hS : zS ad A u H) : zS ad A U H := by
  obtain ⟨⟨a1, a2, a3⟩, ⟨⟨b1, b2⟩, ⟨b3, b4⟩, ⟨b5, b6⟩, b7, b8⟩, ⟨c1, c2⟩, ⟨d1, d2⟩, -⟩ := hS
  exact ⟨⟨a1.moved hvm, a2.moved hvm, a3.moved hvm⟩, ⟨⟨b1.moved hvm, b2.moved hvm⟩, ⟨b3.moved hvm, b4.moved hvm⟩, ⟨b5.moved hvm, b6.moved hvm⟩, b7.moved hvm, b8.moved hvm⟩, ⟨c1.moved hvm, c2.moved hvm⟩, ⟨d1.moved hvm, d2.moved hvm⟩, h1⟩
theorem zS.same {ad : Nat → Nat} {A : Nat → Prop} {u U : State} {H : Heap} (h : U.vm = u.vm) (hS : zS ad A u H) : zS ad A U H :=
  zS.moved (by rw [h]; exact Vm.Alike.refl _) ⟨vk_R.same h hS.2.2.2.2.1, vk_R.same h hS.2.2.2.2.2.1, vk_R.same h hS.2.2.2.2.2.2⟩ hS
theorem zS.warm {ad : Nat → Nat} {A : Nat → Prop} {u U : State} {H : Heap} (h : u.WarmedH U.vm) (hS : zS ad A u H) : zS ad A U H :=
  zS.moved h.alike ⟨vk_R.warm h hS.2.2.2.2.1, vk_R.warm h hS.2.2.2.2.2.1, vk_R.warm h hS.2.2.2.2.2.2⟩ hS
theorem zS.kept {ad : Nat → Nat} {A : Nat → Prop} {U : State} {H H1 : Heap} (hS : zS ad A U H) (hq : ∀ a : Nat, a < H.size → ¬ A a → H1[a]? = H[a]?) : zS ad A U H1 := by
  obtain ⟨⟨a1, a2, a3⟩, ⟨⟨b1, b2⟩, ⟨b3, b4⟩, ⟨b5, b6⟩, b7, b8⟩, ⟨c1, c2⟩, ⟨d1, d2⟩, e⟩ := hS
  exact ⟨⟨a1.kept hq, a2.kept hq, a3.kept hq⟩, ⟨⟨b1.kept hq, b2.kept hq⟩, ⟨b3.kept hq, b4.kept hq⟩, ⟨b5.kept hq, b6.kept hq⟩, b7.kept hq, b8.kept hq⟩, ⟨c1.kept hq, c2.kept hq⟩, ⟨d1.kept hq, d2.kept hq⟩, e⟩
theorem zS.narrow {ad : Nat → Nat} {A B : Nat → Prop} {U : State} {H : Heap} (hS : zS ad A U H) (hAB : ∀ q, B q → A q) : zS ad B U H := by
  obtain ⟨⟨a1, a2, a3⟩, ⟨⟨b1, b2⟩, ⟨b3, b4⟩, ⟨b5, b6⟩, b7, b8⟩, ⟨c1, c2⟩, ⟨d1, d2⟩, e⟩ := hS
  exact ⟨⟨a1.narrow hAB, a2.narrow hAB, a3.narrow hAB⟩, ⟨⟨b1.narrow hAB, b2.narrow hAB⟩, ⟨b3.narrow hAB, b4.narrow hAB⟩, ⟨b5.narrow hAB, b6.narrow hAB⟩, b7.narrow hAB, b8.narrow hAB⟩, ⟨c1.narrow hAB, c2.narrow hAB⟩, ⟨d1.narrow hAB, d2.narrow hAB⟩, e⟩
def zNest : List Cond := [.fieldLinkNest RX1 65 RX8 "LEAST_SETTINGS" "[I" RX8, .fieldLinkNest RX1 68 RX8 "MOST_SETTINGS" "[I" RX8, .fieldLinkNest RX2 78 RX8 "WORDS" "[LRodGrids$Word;" RX8, .methodLinkNest RX8 25 yX2_init RX8, .methodLinkNest RX8 9 yX6_init RX8, .methodLinkNest RX1 57 yX8_within RX8, .methodLinkNest RX1 61 yX8_isWarmth RX8, .methodLinkNest RX1 79 yX8_floorOf RX8, .methodLinkNest RX1 94 yX8_clamp RX8, .methodLinkNest RX2 15 yX8_within RX8, .methodLinkNest RX3 31 yX8_within RX8, .methodLinkNest RX4 37 yX8_within RX8, .methodLinkNest RX4 73 yX8_floorOf RX8, .methodLinkNest RX4 78 yX8_clamp RX8, .methodLinkNest RX5 17 yX6_init RX8, .methodLinkNest RX6 104 yX8_floorOf RX8, .methodLinkNest RX6 112 yX8_clamp RX8, .methodLinkNest RX6 27 yX3_init RX8, .castable "java/lang/IndexOutOfBoundsException" "java/lang/IndexOutOfBoundsException", .castable "java/lang/IllegalArgumentException" "java/lang/IllegalArgumentException", .castable "java/lang/IllegalStateException" "java/lang/IllegalStateException", .declares (Bundle.initS "java/lang/RuntimeException"), .declares (Bundle.initS "java/lang/Exception"), .declares (Bundle.initS Bundle.tN)]
def zNc : List (String × String) := [("java/lang/IndexOutOfBoundsException", "java/lang/IllegalArgumentException"), ("java/lang/IndexOutOfBoundsException", "java/lang/IllegalStateException"), ("java/lang/IllegalArgumentException", "java/lang/IndexOutOfBoundsException"), ("java/lang/IllegalArgumentException", "java/lang/IllegalStateException"), ("java/lang/IllegalStateException", "java/lang/IndexOutOfBoundsException"), ("java/lang/IllegalStateException", "java/lang/IllegalArgumentException")]
def zN (U : State) : Prop := (∀ w ∈ zNest, va_Nw w U) ∧ ∀ q ∈ zNc, va_Nc q.1 q.2 U
theorem zN.same {u U : State} (h : U.vm = u.vm) (hN : zN u) : zN U := ⟨fun w hw => va_Nw.same (by revert w hw; decide) h.symm (hN.1 w hw), fun q hq => va_Nc.moved (by rw [h]; exact Vm.Alike.refl _) (hN.2 q hq)⟩
theorem zN.warm {s U : State} (hW : s.WarmedH U.vm) (hN : zN s) : zN U := by
  have go : ∀ w : Cond, ((∃ a i b n d h, w = .fieldLinkNest a i b n d h) ∨ (∃ a i x h, w = .methodLinkNest a i x h) ∨ (∃ C T, w = .castable C T) ∨ ∃ x, w = .declares x) → va_Nw w s → va_Nw w U := by
    intro w hw h
    rcases hw with ⟨a, i, b, n, d, h', rfl⟩ | ⟨a, i, x, h', rfl⟩ | ⟨C, T, rfl⟩ | ⟨x, rfl⟩
    · exact va_Nw.warmF hW h
    · exact va_Nw.warmM hW h
    · exact va_Nw.warmC hW h
    · exact va_Nw.warmD hW h
  refine ⟨fun w hw => go w ?_ (hN.1 w hw), fun q hq => va_Nc.moved hW.alike (hN.2 q hq)⟩
  simp only [zNest, List.mem_cons, List.not_mem_nil, or_false] at hw
  rcases hw with rfl | rfl | rfl | rfl | rfl | rfl | rfl | rfl | rfl | rfl | rfl | rfl | rfl | rfl | rfl | rfl | rfl | rfl | rfl | rfl | rfl | rfl | rfl | rfl
  all_goals first | exact Or.inl ⟨_, _, _, _, _, _, rfl⟩ | exact Or.inr (Or.inl ⟨_, _, _, _, rfl⟩) | exact Or.inr (Or.inr (Or.inl ⟨_, _, rfl⟩)) | exact Or.inr (Or.inr (Or.inr ⟨_, rfl⟩))
/-- the script: its address ad 67, its length ad 68, its ints ad (100 + j) -/
def zXv (ad : Nat → Nat) (j : Nat) : Int := (ad (100 + j) : Int) - 2147483648
def zX (ad : Nat → Nat) (A : Nat → Prop) (U : State) (H : Heap) : Prop := (ad 68 ≤ 260 ∧ ∀ j : Nat, j < ad 68 → ad (100 + j) < 4294967296) ∧ va_T .int (ad 67) (ad 68) (fun j => .int (zI (zXv ad j))) A U H
theorem zX.moved {ad : Nat → Nat} {A : Nat → Prop} {u U : State} {H : Heap} (hvm : u.vm.Alike U.vm) (h : zX ad A u H) : zX ad A U H := ⟨h.1, h.2.moved hvm⟩
theorem zX.same {ad : Nat → Nat} {A : Nat → Prop} {u U : State} {H : Heap} (h : U.vm = u.vm) (hX : zX ad A u H) : zX ad A U H := zX.moved (by rw [h]; exact Vm.Alike.refl _) hX
theorem zX.kept {ad : Nat → Nat} {A : Nat → Prop} {U : State} {H H1 : Heap} (h : zX ad A U H) (hq : ∀ a : Nat, a < H.size → ¬ A a → H1[a]? = H[a]?) : zX ad A U H1 := ⟨h.1, h.2.kept hq⟩
theorem zX.narrow {ad : Nat → Nat} {A B : Nat → Prop} {U : State} {H : Heap} (h : zX ad A U H) (hAB : ∀ q, B q → A q) : zX ad B U H := ⟨h.1, h.2.narrow hAB⟩
/-- what stands before a method: the classes, the links to nest mates, the statics -/
def zE (D : va_G) (ct ad : Nat → Nat) (A : Nat → Prop) (U : State) (H : Heap) : Prop := va_K D vwCl (zT ct) U ∧ zN U ∧ zS ad A U H ∧ zX ad A U H
def zR (D : va_G) (A : Nat → Prop) (w : va_W) (t : State) : Prop := va_P D vwCl w t.heap ∧ va_D A w
def zQ (D : va_G) (post : Option Value → va_W → Prop) (A : Nat → Prop) : Array Value → State → Outcome → State → Prop := fun _ st oc t => (∃ (r : Option Value) (w : va_W), oc = .returned r ∧ post r w ∧ zR D A w t) ∧ va_F A st t
def zP (D : va_G) (ct ad : Nat → Nat) (w : va_W) (sz : Nat) (av : List Value) : Array Value → State → Prop := va_Pc av (fun U => U.heap.size = sz ∧ va_P D vwCl w U.heap ∧ zE D ct ad (va_A w sz) U U.heap ∧ va_D (fun _ => True) w)
def ZM (l : Launch) (y : MethodName) (ws : List Cond) (rm : Room) (D : va_G) (ct ad : Nat → Nat) (av : List Value) (w : va_W) (post : Option Value → va_W → Prop) : Prop := ∀ sz : Nat, Met l y ws rm (zP D ct ad w sz av) (zQ D post (va_A w sz)) rm.cells rm.slots (va_A w sz)
/-- one answer, one world behind -/
def zD (r : Option Value) (w : va_W) : Option Value → va_W → Prop := fun r' w' => r' = r ∧ w' = w
theorem zP_blind {D : va_G} {ct ad : Nat → Nat} {w : va_W} {sz : Nat} {av : List Value} : FrameBlind (zP D ct ad w sz av) := fun a U g mk q => by
  obtain ⟨q0, q1, qP, ⟨qK, qN, qS, qX⟩, qD⟩ := q
  exact ⟨q0, q1, qP, ⟨va_K.moved (u := U) (U := U.calling g mk a) (Vm.Alike.refl U.vm) qK, zN.same (u := U) rfl qN, zS.same (u := U) rfl qS, zX.same (u := U) rfl qX⟩, qD⟩
/-- what a callee may count on, where the caller stands -/
theorem zE.call {D : va_G} {ct ad : Nat → Nat} {A A1 : Nat → Prop} {s U : State} {H : Heap} {locs : List Loc} (hE : zE D ct ad A s s.heap) (hW : s.WarmedH U.vm) (hS : va_S A s.heap H locs) (hU : U.heap = H) (hA : ∀ q, A1 q → A q) : zE D ct ad A1 U U.heap := by
  obtain ⟨qK, qN, qS, qX⟩ := hE
  refine ⟨va_K.moved hW.alike qK, qN.warm hW, ?_⟩
  rw [hU]
  exact ⟨((qS.kept (fun a h1 h2 => hS.2.1 a h1 h2)).narrow hA).warm hW, ((qX.kept (fun a h1 h2 => hS.2.1 a h1 h2)).narrow hA).moved hW.alike⟩
theorem ZM.of {l : Launch} {y : MethodName} {ws ws' : List Cond} {rm : Room} {D : va_G} {ct ad : Nat → Nat} {av : List Value} {w : va_W} {post : Option Value → va_W → Prop} {cc : ByteArray} {maxL : Nat} {ret : Option FieldType}
    (hy : plainFor y = true) (hw : ws = Cond.code y cc maxL ret :: ws') (hn : (lg_sl av).length ≤ maxL)
    (body : ∀ (p : Program) (e : Env) (s : State) (m : MethodId) (below : List Frame) (meth : Method) (c : Code) (A : Nat → Prop) (ls : Array Slot), p.tables.exec = Jvm.exec → c.code = cc → meth.sig.returnType = ret → (∀ z ∈ ws, z.before av.toArray s = true) → s.vm.findClass y.cls = some m.cls → meth.locks = false → c.maxLocals = maxL → meth.name = y.name →
      zE D ct ad A s s.heap → va_P D vwCl w s.heap → va_D A w → (∀ q : Nat, s.heap.size ≤ q → A q) → va_S A s.heap s.heap [] → lv_has ls maxL (lv_args 0 av) →
      W p l e rm s m av.toArray below meth c s.heap [] 0 0 (MQ below (zQ D post A) av.toArray s rm.cells rm.slots A) (F0 m 0 ls [])) : ZM l y ws rm D ct ad av w post := by
  intro sz
  refine va_MetF (cc := cc) (maxL := maxL) (ret := ret) hy hw ?_
  intro p e s m args below meth c s₁ B hml hv
  obtain ⟨rfl, hsz, hP, hE, hD0⟩ := hv
  have hts := atoms_spec (ws := ws) B.pre
  have hown : s.vm.findClass y.cls = some m.cls := findClass_of_methodNamed B.named
  have hin := (name_of_methodNamed B.named B.method).1
  subst hsz
  have hD := hD0.self (sz := s.heap.size)
  have hl := lv_entry av (n := maxL) hn
  rw [lg_entry_eq]
  exact body p e s m below meth c (va_A w s.heap.size) _ B.exec B.bytes B.returns hts hown B.notSynchronized hml hin hE hP hD (fun q h => Or.inr h) va_S.rf hl
theorem zA_app {A : Nat → Prop} {D : va_G} {pw wc r : va_W} {H : Heap} (hD : va_D A (pw ++ (wc ++ r))) {sz : Nat} (hA : ∀ q : Nat, sz ≤ q → A q) : ∀ q, va_A wc sz q → A q := by
  intro q h
  rcases h with ⟨k, e, h⟩ | h
  · refine hD.2 (pw.length + k) (q, e) ?_
    rw [List.getElem?_append_right (by omega), show pw.length + k - pw.length = k by omega, List.getElem?_append_left (List.getElem?_eq_some_iff.mp h).1]
    exact h
  · exact hA q h
theorem zsub {D : va_G} {cl : List vw_C} {pw wc r : va_W} {H : Heap} (hP : va_P D cl (pw ++ (wc ++ r)) H) : va_P D cl wc H := fun k q hk => hP (pw.length + k) q (by
  rw [List.getElem?_append_right (by omega), show pw.length + k - pw.length = k by omega, List.getElem?_append_left (List.getElem?_eq_some_iff.mp hk).1]
  exact hk)
theorem zsubD {A : Nat → Prop} {pw wc r : va_W} (hD : va_D A (pw ++ (wc ++ r))) : va_D A wc := by
  have key : ∀ (k : Nat) (q : Nat × va_E), wc[k]? = some q → (pw ++ (wc ++ r))[pw.length + k]? = some q := fun k q hk => by
    rw [List.getElem?_append_right (by omega), show pw.length + k - pw.length = k by omega, List.getElem?_append_left (List.getElem?_eq_some_iff.mp hk).1]
    exact hk
  refine ⟨fun i j x y hi hj hxy => ?_, fun k q hk => hD.2 _ q (key k q hk)⟩
  have := hD.1 _ _ x y (key i x hi) (key j y hj) hxy
  omega
/-- the world behind a call: the callee's part changed, in its place -/
theorem zjoin {A : Nat → Prop} {D : va_G} {cl : List vw_C} {pw wc w1 r : va_W} {H H1 : Heap} (hP : va_P D cl (pw ++ (wc ++ r)) H) (hD : va_D A (pw ++ (wc ++ r))) (hF : ∀ q, va_A wc H.size q → A q) (hk : ∀ q : Nat, q < H.size → ¬ va_A wc H.size q → H1[q]? = H[q]?) (hP1 : va_P D cl w1 H1) (hD1 : va_D (va_A wc H.size) w1) :
    va_P D cl (pw ++ (w1 ++ r)) H1 ∧ va_D A (pw ++ (w1 ++ r)) := by
  have inP : ∀ (k : Nat) (q : Nat × va_E), pw[k]? = some q → (pw ++ (wc ++ r))[k]? = some q := fun k q h => by
    rw [List.getElem?_append_left (List.getElem?_eq_some_iff.mp h).1]; exact h
  have inR : ∀ (k : Nat) (q : Nat × va_E), r[k]? = some q → (pw ++ (wc ++ r))[pw.length + (wc.length + k)]? = some q := fun k q h => by
    rw [List.getElem?_append_right (by omega), List.getElem?_append_right (by omega), show pw.length + (wc.length + k) - pw.length - wc.length = k by omega]; exact h
  have inC : ∀ (k : Nat) (q : Nat × va_E), wc[k]? = some q → (pw ++ (wc ++ r))[pw.length + k]? = some q := fun k q hk => by
    rw [List.getElem?_append_right (by omega), show pw.length + k - pw.length = k by omega, List.getElem?_append_left (List.getElem?_eq_some_iff.mp hk).1]; exact hk
  have lenC : ∀ (k : Nat) (q : Nat × va_E), wc[k]? = some q → k < wc.length := fun k q h => (List.getElem?_eq_some_iff.mp h).1
  have lenP : ∀ (k : Nat) (q : Nat × va_E), pw[k]? = some q → k < pw.length := fun k q h => (List.getElem?_eq_some_iff.mp h).1
  have apP : ∀ (k : Nat) (q : Nat × va_E), pw[k]? = some q → q.1 < H.size ∧ ¬ va_A wc H.size q.1 := fun k q h => by
    have hl := (hP k q (inP k q h)).lt
    refine ⟨hl, fun z => ?_⟩
    rcases z with ⟨j, e, z⟩ | z
    · have := hD.1 _ _ _ _ (inP k q h) (inC j _ z) rfl
      have := lenP k q h
      omega
    · omega
  have apR : ∀ (k : Nat) (q : Nat × va_E), r[k]? = some q → q.1 < H.size ∧ ¬ va_A wc H.size q.1 := fun k q h => by
    have hl := (hP _ q (inR k q h)).lt
    refine ⟨hl, fun z => ?_⟩
    rcases z with ⟨j, e, z⟩ | z
    · have := hD.1 _ _ _ _ (inR k q h) (inC j _ z) rfl
      have := lenC j _ z
      omega
    · omega
  have hPp : va_P D cl pw H1 := fun k q h => (hP k q (inP k q h)).kept (hk q.1 (apP k q h).1 (apP k q h).2)
  have hPr : va_P D cl r H1 := fun k q h => (hP _ q (inR k q h)).kept (hk q.1 (apR k q h).1 (apR k q h).2)
  have hDp : va_D A pw := ⟨fun i j x y hi hj hxy => hD.1 _ _ x y (inP i x hi) (inP j y hj) hxy, fun k q h => hD.2 _ q (inP k q h)⟩
  have hDr : va_D A r := ⟨fun i j x y hi hj hxy => by have := hD.1 _ _ x y (inR i x hi) (inR j y hj) hxy; omega, fun k q h => hD.2 _ q (inR k q h)⟩
  refine ⟨hPp.app (hP1.app hPr), va_D.app hDp (va_D.app (hD1.weaken (fun k q _ h => hF q.1 h)) hDr (fun i j x y hx hy hxy => ?_)) (fun i j x y hx hy hxy => ?_)⟩
  · exact (apR j y hy).2 (hxy ▸ hD1.2 i x hx)
  · rcases List.mem_append.mp (List.mem_of_getElem? hy) with h | h
    · obtain ⟨j2, h⟩ := List.getElem?_of_mem h
      exact (apP i x hx).2 (hxy ▸ hD1.2 j2 y h)
    · obtain ⟨j2, h⟩ := List.getElem?_of_mem h
      have := hD.1 _ _ _ _ (inP i x hx) (inR j2 y h) hxy
      have := lenP i x hx
      omega
def zcat : List va_W → va_W
  | [] => []
  | [g] => g
  | g :: h :: t => g ++ zcat (h :: t)
theorem zcat_perm : ∀ l : List va_W, (zcat l).Perm l.flatten
  | [] => List.Perm.refl _
  | [g] => by simp [zcat]
  | g :: h :: t => by
    show (g ++ zcat (h :: t)).Perm (g ++ (h :: t).flatten)
    exact (zcat_perm (h :: t)).append_left g
theorem va_P.perm {D : va_G} {cl : List vw_C} {H : Heap} {w1 w2 : va_W} (h : w1.Perm w2) (hP : va_P D cl w1 H) : va_P D cl w2 H := by
  intro k q hk
  obtain ⟨i, hi⟩ := List.getElem?_of_mem (h.symm.mem_iff.mp (List.mem_of_getElem? hk))
  exact hP i q hi
theorem va_D.nodup {A : Nat → Prop} {w : va_W} (hD : va_D A w) : (w.map Prod.fst).Nodup := by
  rw [List.nodup_iff_pairwise_ne, List.pairwise_iff_getElem]
  intro i j hi hj hij e
  simp only [List.length_map] at hi hj
  simp only [List.getElem_map] at e
  have := hD.1 i j w[i] w[j] (List.getElem?_eq_getElem hi) (List.getElem?_eq_getElem hj) e
  omega
theorem va_D.ofNodup {A : Nat → Prop} {w : va_W} (h : (w.map Prod.fst).Nodup) (hA : ∀ q ∈ w, A q.1) : va_D A w := by
  refine ⟨fun i j x y hi hj e => ?_, fun k q hk => hA q (List.mem_of_getElem? hk)⟩
  rw [List.nodup_iff_pairwise_ne, List.pairwise_iff_getElem] at h
  obtain ⟨hil, rfl⟩ := List.getElem?_eq_some_iff.mp hi
  obtain ⟨hjl, rfl⟩ := List.getElem?_eq_some_iff.mp hj
  rcases Nat.lt_trichotomy i j with q | q | q
  · have hq := h i j (by simpa using hil) (by simpa using hjl) q
    rw [List.getElem_map, List.getElem_map] at hq
    exact absurd e hq
  · exact q
  · have hq := h j i (by simpa using hjl) (by simpa using hil) q
    rw [List.getElem_map, List.getElem_map] at hq
    exact absurd e.symm hq
theorem va_D.perm {A : Nat → Prop} {w1 w2 : va_W} (h : w1.Perm w2) (hD : va_D A w1) : va_D A w2 :=
  va_D.ofNodup ((h.map Prod.fst).nodup_iff.mp hD.nodup) (fun q hq => by
    obtain ⟨i, hi⟩ := List.getElem?_of_mem (h.symm.mem_iff.mp hq)
    exact hD.2 i q hi)
/-- the groups of a world in another order -/
theorem zperm (f : Nat → va_W) (l1 l2 : List Nat) (h : l1.Perm l2) : (zcat (l1.map f)).Perm (zcat (l2.map f)) :=
  (zcat_perm _).trans ((((h.map f).flatten)).trans (zcat_perm _).symm)
section ZROW
variable {p : Program} {l : Launch} {e : Env} {R : Room} {s : State} {m : MethodId} {args : Array Value} {below : List Frame} {meth : Method} {c : Code} {H : Heap} {locs : List Loc} {cells slots : Nat} {Q : State → Prop}
variable {cc : ByteArray} {pc : Nat} {ls : Array Slot} {rest : List Value} {D : va_G} {ct ad : Nat → Nat} {A : Nat → Prop} {ws : va_W} {post : Option Value → va_W → Prop} {mc ms : Nat}
theorem z_iret {v : Int32} {w' : va_W} (hx : p.tables.exec = Jvm.exec) (hb : c.code = cc) (hr : meth.sig.returnType = some .int) (hlocks : meth.locks = false) (hP : va_P D vwCl w' H) (hD : va_D A w') (hS : va_S A s.heap H locs) (hc : cells ≤ mc ∧ slots ≤ ms) (hdg : decode cc pc = .ok (.ireturn, 1)) (hpost : post (some (.int v)) w') :
    W p l e R s m args below meth c H locs cells slots (MQ below (zQ D post A) args s mc ms A) (F0 m pc ls [.int v]) := by
  refine W.widen hc.1 hc.2 ?_
  exact W.iret (v := v) hx hb hr (fun t ht hW => ⟨⟨_, w', rfl, hpost, by rw [ht]; exact hP, hD⟩, hS.F ht⟩) hS.2.2 hdg hlocks
theorem z_zret {v : Int32} {w' : va_W} {ty : FieldType} (hx : p.tables.exec = Jvm.exec) (hb : c.code = cc) (hr : meth.sig.returnType = some ty) (hn : narrow ty (.int v) = .int v) (hlocks : meth.locks = false) (hP : va_P D vwCl w' H) (hD : va_D A w') (hS : va_S A s.heap H locs) (hc : cells ≤ mc ∧ slots ≤ ms) (hdg : decode cc pc = .ok (.ireturn, 1)) (hpost : post (some (.int v)) w') :
    W p l e R s m args below meth c H locs cells slots (MQ below (zQ D post A) args s mc ms A) (F0 m pc ls [.int v]) := by
  refine W.widen hc.1 hc.2 ?_
  exact W.zret (v := v) hx hb hr hn (fun t ht hW => ⟨⟨_, w', rfl, hpost, by rw [ht]; exact hP, hD⟩, hS.F ht⟩) hS.2.2 hdg hlocks
theorem z_lret {v : Int64} {w' : va_W} (hx : p.tables.exec = Jvm.exec) (hb : c.code = cc) (hr : meth.sig.returnType = some .long) (hlocks : meth.locks = false) (hP : va_P D vwCl w' H) (hD : va_D A w') (hS : va_S A s.heap H locs) (hc : cells ≤ mc ∧ slots ≤ ms) (hdg : decode cc pc = .ok (.lreturn, 1)) (hpost : post (some (.long v)) w') :
    W p l e R s m args below meth c H locs cells slots (MQ below (zQ D post A) args s mc ms A) (F0 m pc ls [.long v]) := by
  refine W.widen hc.1 hc.2 ?_
  exact W.lret (v := v) hx hb hr (fun t ht hW => ⟨⟨_, w', rfl, hpost, by rw [ht]; exact hP, hD⟩, hS.F ht⟩) hS.2.2 hdg hlocks
theorem z_fret {v : UInt32} {w' : va_W} (hx : p.tables.exec = Jvm.exec) (hb : c.code = cc) (hr : meth.sig.returnType = some .float) (hlocks : meth.locks = false) (hP : va_P D vwCl w' H) (hD : va_D A w') (hS : va_S A s.heap H locs) (hc : cells ≤ mc ∧ slots ≤ ms) (hdg : decode cc pc = .ok (.freturn, 1)) (hpost : post (some (.float v)) w') :
    W p l e R s m args below meth c H locs cells slots (MQ below (zQ D post A) args s mc ms A) (F0 m pc ls [.float v]) := by
  refine W.widen hc.1 hc.2 ?_
  exact W.fret (v := v) hx hb hr (fun t ht hW => ⟨⟨_, w', rfl, hpost, by rw [ht]; exact hP, hD⟩, hS.F ht⟩) hS.2.2 hdg hlocks
theorem z_dret {v : UInt64} {w' : va_W} (hx : p.tables.exec = Jvm.exec) (hb : c.code = cc) (hr : meth.sig.returnType = some .double) (hlocks : meth.locks = false) (hP : va_P D vwCl w' H) (hD : va_D A w') (hS : va_S A s.heap H locs) (hc : cells ≤ mc ∧ slots ≤ ms) (hdg : decode cc pc = .ok (.dreturn, 1)) (hpost : post (some (.double v)) w') :
    W p l e R s m args below meth c H locs cells slots (MQ below (zQ D post A) args s mc ms A) (F0 m pc ls [.double v]) := by
  refine W.widen hc.1 hc.2 ?_
  exact W.dret (v := v) hx hb hr (fun t ht hW => ⟨⟨_, w', rfl, hpost, by rw [ht]; exact hP, hD⟩, hS.F ht⟩) hS.2.2 hdg hlocks
theorem z_vret {w' : va_W} (hx : p.tables.exec = Jvm.exec) (hb : c.code = cc) (hr : meth.sig.returnType = none) (hlocks : meth.locks = false) (hP : va_P D vwCl w' H) (hD : va_D A w') (hS : va_S A s.heap H locs) (hc : cells ≤ mc ∧ slots ≤ ms) (hdg : decode cc pc = .ok (.return_, 1)) (hpost : post none w') :
    W p l e R s m args below meth c H locs cells slots (MQ below (zQ D post A) args s mc ms A) (F0 m pc ls []) := by
  refine W.widen hc.1 hc.2 ?_
  exact W.vret hx hb hr (fun t ht hW => ⟨⟨_, w', rfl, hpost, by rw [ht]; exact hP, hD⟩, hS.F ht⟩) hS.2.2 hdg hlocks
theorem z_iconst (hx : p.tables.exec = Jvm.exec) (hb : c.code = cc) {n : Int} (hdg : decode cc pc = .ok (.iconst n, 1))
    (k : W p l e R s m args below meth c H locs cells slots Q (F0 m (pc + 1) ls (.int (zI n) :: rest))) : W p l e R s m args below meth c H locs cells slots Q (F0 m (pc) ls (rest)) := lv_iconst hx hb hdg rfl k
theorem z_bipush (hx : p.tables.exec = Jvm.exec) (hb : c.code = cc) {n : Int} (hdg : decode cc pc = .ok (.bipush n, 2)) (hn : (Int8.ofInt n).toInt32 = zI n)
    (k : W p l e R s m args below meth c H locs cells slots Q (F0 m (pc + 2) ls (.int (zI n) :: rest))) : W p l e R s m args below meth c H locs cells slots Q (F0 m (pc) ls (rest)) := lv_bipush hx hb hdg hn k
theorem z_sipush (hx : p.tables.exec = Jvm.exec) (hb : c.code = cc) {n : Int} (hdg : decode cc pc = .ok (.sipush n, 3)) (hn : (Int16.ofInt n).toInt32 = zI n)
    (k : W p l e R s m args below meth c H locs cells slots Q (F0 m (pc + 3) ls (.int (zI n) :: rest))) : W p l e R s m args below meth c H locs cells slots Q (F0 m (pc) ls (rest)) := lv_sipush hx hb hdg hn k
theorem z_lconst (hx : p.tables.exec = Jvm.exec) (hb : c.code = cc) {n : Fin 2} {z : Int} (hdg : decode cc pc = .ok (.lconst n, 1)) (hn : Int64.ofNat (n : Nat) = zJ z)
    (k : W p l e R s m args below meth c H locs cells slots Q (F0 m (pc + 1) ls (.long (zJ z) :: rest))) : W p l e R s m args below meth c H locs cells slots Q (F0 m (pc) ls (rest)) := lv_lconst hx hb hdg hn k
theorem z_ldc (hx : p.tables.exec = Jvm.exec) (hb : c.code = cc) {own : String} {index : Nat} {v : Int32} (z : Int) (hown : s.vm.findClass own = some m.cls) (hconst : (Jvm.Cond.constant own index v).before args s = true) (hv : v = zI z) (hdg : decode cc pc = .ok (.ldc index, 2))
    (k : W p l e R s m args below meth c H locs cells slots Q (F0 m (pc + 2) ls (.int (zI z) :: rest))) : W p l e R s m args below meth c H locs cells slots Q (F0 m (pc) ls (rest)) := lv_ldc hx hb hown hconst hdg (hv ▸ k)
theorem z_ldcw (hx : p.tables.exec = Jvm.exec) (hb : c.code = cc) {own : String} {index : Nat} {v : Int32} (z : Int) (hown : s.vm.findClass own = some m.cls) (hconst : (Jvm.Cond.constant own index v).before args s = true) (hv : v = zI z) (hdg : decode cc pc = .ok (.ldc_w index, 3))
    (k : W p l e R s m args below meth c H locs cells slots Q (F0 m (pc + 3) ls (.int (zI z) :: rest))) : W p l e R s m args below meth c H locs cells slots Q (F0 m (pc) ls (rest)) := lv_ldcw hx hb hown hconst hdg (hv ▸ k)
theorem z_ldc2 (hx : p.tables.exec = Jvm.exec) (hb : c.code = cc) {own : String} {index : Nat} {v : Int64} (z : Int) (hown : s.vm.findClass own = some m.cls) (hconst : (Jvm.Cond.constantLong own index v).before args s = true) (hv : v = zJ z) (hdg : decode cc pc = .ok (.ldc2_w index, 3))
    (k : W p l e R s m args below meth c H locs cells slots Q (F0 m (pc + 3) ls (.long (zJ z) :: rest))) : W p l e R s m args below meth c H locs cells slots Q (F0 m (pc) ls (rest)) := lv_ldc2 hx hb hown hconst hdg (hv ▸ k)
theorem z_iadd (hx : p.tables.exec = Jvm.exec) (hb : c.code = cc) {a b : Int} (hdg : decode cc pc = .ok (.iadd, 1))
    (k : W p l e R s m args below meth c H locs cells slots Q (F0 m (pc + 1) ls (.int (zI (a + b)) :: rest))) : W p l e R s m args below meth c H locs cells slots Q (F0 m (pc) ls (.int (zI b) :: .int (zI a) :: rest)) := lv_iadd hx hb hdg (by rw [zI_add]; exact k)
theorem z_ladd (hx : p.tables.exec = Jvm.exec) (hb : c.code = cc) {a b : Int} (hdg : decode cc pc = .ok (.ladd, 1))
    (k : W p l e R s m args below meth c H locs cells slots Q (F0 m (pc + 1) ls (.long (zJ (a + b)) :: rest))) : W p l e R s m args below meth c H locs cells slots Q (F0 m (pc) ls (.long (zJ b) :: .long (zJ a) :: rest)) := lv_ladd hx hb hdg (by rw [zJ_add]; exact k)
theorem z_isub (hx : p.tables.exec = Jvm.exec) (hb : c.code = cc) {a b : Int} (hdg : decode cc pc = .ok (.isub, 1))
    (k : W p l e R s m args below meth c H locs cells slots Q (F0 m (pc + 1) ls (.int (zI (a - b)) :: rest))) : W p l e R s m args below meth c H locs cells slots Q (F0 m (pc) ls (.int (zI b) :: .int (zI a) :: rest)) := lv_isub hx hb hdg (by rw [zI_sub]; exact k)
theorem z_lsub (hx : p.tables.exec = Jvm.exec) (hb : c.code = cc) {a b : Int} (hdg : decode cc pc = .ok (.lsub, 1))
    (k : W p l e R s m args below meth c H locs cells slots Q (F0 m (pc + 1) ls (.long (zJ (a - b)) :: rest))) : W p l e R s m args below meth c H locs cells slots Q (F0 m (pc) ls (.long (zJ b) :: .long (zJ a) :: rest)) := lv_lsub hx hb hdg (by rw [zJ_sub]; exact k)
theorem z_imul (hx : p.tables.exec = Jvm.exec) (hb : c.code = cc) {a b : Int} (hdg : decode cc pc = .ok (.imul, 1))
    (k : W p l e R s m args below meth c H locs cells slots Q (F0 m (pc + 1) ls (.int (zI (a * b)) :: rest))) : W p l e R s m args below meth c H locs cells slots Q (F0 m (pc) ls (.int (zI b) :: .int (zI a) :: rest)) := lv_imul hx hb hdg (by rw [zI_mul]; exact k)
theorem z_lmul (hx : p.tables.exec = Jvm.exec) (hb : c.code = cc) {a b : Int} (hdg : decode cc pc = .ok (.lmul, 1))
    (k : W p l e R s m args below meth c H locs cells slots Q (F0 m (pc + 1) ls (.long (zJ (a * b)) :: rest))) : W p l e R s m args below meth c H locs cells slots Q (F0 m (pc) ls (.long (zJ b) :: .long (zJ a) :: rest)) := lv_lmul hx hb hdg (by rw [zJ_mul]; exact k)
theorem z_ineg (hx : p.tables.exec = Jvm.exec) (hb : c.code = cc) {a : Int} (hdg : decode cc pc = .ok (.ineg, 1))
    (k : W p l e R s m args below meth c H locs cells slots Q (F0 m (pc + 1) ls (.int (zI (-a)) :: rest))) : W p l e R s m args below meth c H locs cells slots Q (F0 m (pc) ls (.int (zI a) :: rest)) := lv_ineg hx hb hdg (by rw [zI_neg]; exact k)
theorem z_lneg (hx : p.tables.exec = Jvm.exec) (hb : c.code = cc) {a : Int} (hdg : decode cc pc = .ok (.lneg, 1))
    (k : W p l e R s m args below meth c H locs cells slots Q (F0 m (pc + 1) ls (.long (zJ (-a)) :: rest))) : W p l e R s m args below meth c H locs cells slots Q (F0 m (pc) ls (.long (zJ a) :: rest)) := lv_lneg hx hb hdg (by rw [zJ_neg]; exact k)
theorem z_idiv (hx : p.tables.exec = Jvm.exec) (hb : c.code = cc) {a b : Int} (hdg : decode cc pc = .ok (.idiv, 1)) (ra : 0 ≤ a ∧ a ≤ 2147483647) (rb : 0 < b ∧ b ≤ 2147483647)
    (k : W p l e R s m args below meth c H locs cells slots Q (F0 m (pc + 1) ls (.int (zI (a / b)) :: rest))) : W p l e R s m args below meth c H locs cells slots Q (F0 m (pc) ls (.int (zI b) :: .int (zI a) :: rest)) := lv_idiv hx hb hdg (zI_ne0 rb) (by rw [zI_div ra rb]; exact k)
theorem z_ldiv (hx : p.tables.exec = Jvm.exec) (hb : c.code = cc) {a b : Int} (hdg : decode cc pc = .ok (.ldiv, 1)) (ra : 0 ≤ a ∧ a ≤ 9223372036854775807) (rb : 0 < b ∧ b ≤ 9223372036854775807)
    (k : W p l e R s m args below meth c H locs cells slots Q (F0 m (pc + 1) ls (.long (zJ (a / b)) :: rest))) : W p l e R s m args below meth c H locs cells slots Q (F0 m (pc) ls (.long (zJ b) :: .long (zJ a) :: rest)) := lv_ldiv hx hb hdg (zJ_ne0 rb) (by rw [zJ_div ra rb]; exact k)
theorem z_irem (hx : p.tables.exec = Jvm.exec) (hb : c.code = cc) {a b : Int} (hdg : decode cc pc = .ok (.irem, 1)) (ra : 0 ≤ a ∧ a ≤ 2147483647) (rb : 0 < b ∧ b ≤ 2147483647)
    (k : W p l e R s m args below meth c H locs cells slots Q (F0 m (pc + 1) ls (.int (zI (a % b)) :: rest))) : W p l e R s m args below meth c H locs cells slots Q (F0 m (pc) ls (.int (zI b) :: .int (zI a) :: rest)) := lv_irem hx hb hdg (zI_ne0 rb) (by rw [zI_rem ra rb]; exact k)
theorem z_lrem (hx : p.tables.exec = Jvm.exec) (hb : c.code = cc) {a b : Int} (hdg : decode cc pc = .ok (.lrem, 1)) (ra : 0 ≤ a ∧ a ≤ 9223372036854775807) (rb : 0 < b ∧ b ≤ 9223372036854775807)
    (k : W p l e R s m args below meth c H locs cells slots Q (F0 m (pc + 1) ls (.long (zJ (a % b)) :: rest))) : W p l e R s m args below meth c H locs cells slots Q (F0 m (pc) ls (.long (zJ b) :: .long (zJ a) :: rest)) := lv_lrem hx hb hdg (zJ_ne0 rb) (by rw [zJ_rem ra rb]; exact k)
theorem z_i2l (hx : p.tables.exec = Jvm.exec) (hb : c.code = cc) {a : Int} (hdg : decode cc pc = .ok (.i2l, 1)) (ra : (-2147483648 ≤ a ∧ a ≤ 2147483647))
    (k : W p l e R s m args below meth c H locs cells slots Q (F0 m (pc + 1) ls (.long (zJ a) :: rest))) : W p l e R s m args below meth c H locs cells slots Q (F0 m (pc) ls (.int (zI a) :: rest)) := lv_i2l hx hb hdg (zI_i2l ra) k
theorem z_l2i (hx : p.tables.exec = Jvm.exec) (hb : c.code = cc) {a : Int} (hdg : decode cc pc = .ok (.l2i, 1))
    (k : W p l e R s m args below meth c H locs cells slots Q (F0 m (pc + 1) ls (.int (zI a) :: rest))) : W p l e R s m args below meth c H locs cells slots Q (F0 m (pc) ls (.long (zJ a) :: rest)) := lv_l2i hx hb hdg (zJ_l2i a) k
theorem z_iinc {i nL k : Nat} {n a : Int} {lv lv' : List (Nat × Value)} (hx : p.tables.exec = Jvm.exec) (hb : c.code = cc) (hdg : decode cc pc = .ok (.iinc i n, 3)) (h : lv_has ls nL lv) (hk : lv[k]? = some (i, .int (zI a))) (hn : i < nL) (hl : (i, Value.int (zI (a + n))) :: lv.filter (fun q => !(q.1 == i) && !(q.1 + 1 == i && q.2.category == 2)) = lv')
    (kk : ∀ ls' : Array Slot, lv_has ls' nL lv' → W p l e R s m args below meth c H locs cells slots Q (F0 m (pc + 3) ls' (rest))) : W p l e R s m args below meth c H locs cells slots Q (F0 m (pc) ls (rest)) := lv_iinc (k := k) hx hb hdg h hk (zI_add a n) hn hl kk
theorem z_icmp_eq {a b : Int} {off : Int} {tgt : Nat} (hx : p.tables.exec = Jvm.exec) (hb : c.code = cc) (hdg : decode cc pc = .ok (.if_icmp .eq off, 3)) (ht : (pc : Int) + off = (tgt : Int)) (ra : (-2147483648 ≤ a ∧ a ≤ 2147483647)) (rb : (-2147483648 ≤ b ∧ b ≤ 2147483647))
    (kt : a = b → W p l e R s m args below meth c H locs cells slots Q (F0 m (tgt) ls (rest))) (kf : a ≠ b → W p l e R s m args below meth c H locs cells slots Q (F0 m (pc + 3) ls (rest))) : W p l e R s m args below meth c H locs cells slots Q (F0 m (pc) ls (.int (zI b) :: .int (zI a) :: rest)) := lv_icmp_eq hx hb hdg ht (fun h => kt ((zI_eq ra rb).mp h)) (fun h => kf (fun q => h ((zI_eq ra rb).mpr q)))
theorem z_if_eq {a : Int} {off : Int} {tgt : Nat} (hx : p.tables.exec = Jvm.exec) (hb : c.code = cc) (hdg : decode cc pc = .ok (.ifCond .eq off, 3)) (ht : (pc : Int) + off = (tgt : Int)) (ra : (-2147483648 ≤ a ∧ a ≤ 2147483647))
    (kt : a = 0 → W p l e R s m args below meth c H locs cells slots Q (F0 m (tgt) ls (rest))) (kf : a ≠ 0 → W p l e R s m args below meth c H locs cells slots Q (F0 m (pc + 3) ls (rest))) : W p l e R s m args below meth c H locs cells slots Q (F0 m (pc) ls (.int (zI a) :: rest)) := lv_if_eq hx hb hdg ht (fun h => kt ((zI_eq ra (show (-2147483648 ≤ (0:Int) ∧ (0:Int) ≤ 2147483647) by omega)).mp h)) (fun h => kf (fun q => h ((zI_eq ra (show (-2147483648 ≤ (0:Int) ∧ (0:Int) ≤ 2147483647) by omega)).mpr q)))
theorem z_lcmp_eq {a b : Int} {off : Int} {tgt : Nat} (hx : p.tables.exec = Jvm.exec) (hb : c.code = cc) (hdg : decode cc pc = .ok (.lcmp, 1)) (hdh : decode cc (pc + 1) = .ok (.ifCond .eq off, 3)) (ht : ((pc + 1 : Nat) : Int) + off = (tgt : Int)) (ra : (-9223372036854775808 ≤ a ∧ a ≤ 9223372036854775807)) (rb : (-9223372036854775808 ≤ b ∧ b ≤ 9223372036854775807))
    (kt : a = b → W p l e R s m args below meth c H locs cells slots Q (F0 m (tgt) ls (rest))) (kf : a ≠ b → W p l e R s m args below meth c H locs cells slots Q (F0 m (pc + 1 + 3) ls (rest))) : W p l e R s m args below meth c H locs cells slots Q (F0 m (pc) ls (.long (zJ b) :: .long (zJ a) :: rest)) :=
  W.lcmp hx hb hdg (lv_if_eq hx hb hdh ht (fun h => kt ((zJ_eq ra rb).mp ((lg_cmp_eq _ _).mp h))) (fun h => kf (fun q => h ((lg_cmp_eq _ _).mpr ((zJ_eq ra rb).mpr q)))))
theorem z_icmp_ne {a b : Int} {off : Int} {tgt : Nat} (hx : p.tables.exec = Jvm.exec) (hb : c.code = cc) (hdg : decode cc pc = .ok (.if_icmp .ne off, 3)) (ht : (pc : Int) + off = (tgt : Int)) (ra : (-2147483648 ≤ a ∧ a ≤ 2147483647)) (rb : (-2147483648 ≤ b ∧ b ≤ 2147483647))
    (kt : a ≠ b → W p l e R s m args below meth c H locs cells slots Q (F0 m (tgt) ls (rest))) (kf : a = b → W p l e R s m args below meth c H locs cells slots Q (F0 m (pc + 3) ls (rest))) : W p l e R s m args below meth c H locs cells slots Q (F0 m (pc) ls (.int (zI b) :: .int (zI a) :: rest)) := lv_icmp_ne hx hb hdg ht (fun h => kt (fun q => h ((zI_eq ra rb).mpr q))) (fun h => kf ((zI_eq ra rb).mp h))
theorem z_if_ne {a : Int} {off : Int} {tgt : Nat} (hx : p.tables.exec = Jvm.exec) (hb : c.code = cc) (hdg : decode cc pc = .ok (.ifCond .ne off, 3)) (ht : (pc : Int) + off = (tgt : Int)) (ra : (-2147483648 ≤ a ∧ a ≤ 2147483647))
    (kt : a ≠ 0 → W p l e R s m args below meth c H locs cells slots Q (F0 m (tgt) ls (rest))) (kf : a = 0 → W p l e R s m args below meth c H locs cells slots Q (F0 m (pc + 3) ls (rest))) : W p l e R s m args below meth c H locs cells slots Q (F0 m (pc) ls (.int (zI a) :: rest)) := lv_if_ne hx hb hdg ht (fun h => kt (fun q => h ((zI_eq ra (show (-2147483648 ≤ (0:Int) ∧ (0:Int) ≤ 2147483647) by omega)).mpr q))) (fun h => kf ((zI_eq ra (show (-2147483648 ≤ (0:Int) ∧ (0:Int) ≤ 2147483647) by omega)).mp h))
theorem z_lcmp_ne {a b : Int} {off : Int} {tgt : Nat} (hx : p.tables.exec = Jvm.exec) (hb : c.code = cc) (hdg : decode cc pc = .ok (.lcmp, 1)) (hdh : decode cc (pc + 1) = .ok (.ifCond .ne off, 3)) (ht : ((pc + 1 : Nat) : Int) + off = (tgt : Int)) (ra : (-9223372036854775808 ≤ a ∧ a ≤ 9223372036854775807)) (rb : (-9223372036854775808 ≤ b ∧ b ≤ 9223372036854775807))
    (kt : a ≠ b → W p l e R s m args below meth c H locs cells slots Q (F0 m (tgt) ls (rest))) (kf : a = b → W p l e R s m args below meth c H locs cells slots Q (F0 m (pc + 1 + 3) ls (rest))) : W p l e R s m args below meth c H locs cells slots Q (F0 m (pc) ls (.long (zJ b) :: .long (zJ a) :: rest)) :=
  W.lcmp hx hb hdg (lv_if_ne hx hb hdh ht (fun h => kt (fun q => h ((lg_cmp_eq _ _).mpr ((zJ_eq ra rb).mpr q)))) (fun h => kf ((zJ_eq ra rb).mp ((lg_cmp_eq _ _).mp h))))
theorem z_icmp_lt {a b : Int} {off : Int} {tgt : Nat} (hx : p.tables.exec = Jvm.exec) (hb : c.code = cc) (hdg : decode cc pc = .ok (.if_icmp .lt off, 3)) (ht : (pc : Int) + off = (tgt : Int)) (ra : (-2147483648 ≤ a ∧ a ≤ 2147483647)) (rb : (-2147483648 ≤ b ∧ b ≤ 2147483647))
    (kt : a < b → W p l e R s m args below meth c H locs cells slots Q (F0 m (tgt) ls (rest))) (kf : b ≤ a → W p l e R s m args below meth c H locs cells slots Q (F0 m (pc + 3) ls (rest))) : W p l e R s m args below meth c H locs cells slots Q (F0 m (pc) ls (.int (zI b) :: .int (zI a) :: rest)) := lv_icmp_lt hx hb hdg ht (fun h => kt ((zI_lt ra rb).mp h)) (fun h => kf (Int.not_lt.mp (fun q => h ((zI_lt ra rb).mpr q))))
theorem z_if_lt {a : Int} {off : Int} {tgt : Nat} (hx : p.tables.exec = Jvm.exec) (hb : c.code = cc) (hdg : decode cc pc = .ok (.ifCond .lt off, 3)) (ht : (pc : Int) + off = (tgt : Int)) (ra : (-2147483648 ≤ a ∧ a ≤ 2147483647))
    (kt : a < 0 → W p l e R s m args below meth c H locs cells slots Q (F0 m (tgt) ls (rest))) (kf : 0 ≤ a → W p l e R s m args below meth c H locs cells slots Q (F0 m (pc + 3) ls (rest))) : W p l e R s m args below meth c H locs cells slots Q (F0 m (pc) ls (.int (zI a) :: rest)) := lv_if_lt hx hb hdg ht (fun h => kt ((zI_lt ra (show (-2147483648 ≤ (0:Int) ∧ (0:Int) ≤ 2147483647) by omega)).mp h)) (fun h => kf (Int.not_lt.mp (fun q => h ((zI_lt ra (show (-2147483648 ≤ (0:Int) ∧ (0:Int) ≤ 2147483647) by omega)).mpr q))))
theorem z_lcmp_lt {a b : Int} {off : Int} {tgt : Nat} (hx : p.tables.exec = Jvm.exec) (hb : c.code = cc) (hdg : decode cc pc = .ok (.lcmp, 1)) (hdh : decode cc (pc + 1) = .ok (.ifCond .lt off, 3)) (ht : ((pc + 1 : Nat) : Int) + off = (tgt : Int)) (ra : (-9223372036854775808 ≤ a ∧ a ≤ 9223372036854775807)) (rb : (-9223372036854775808 ≤ b ∧ b ≤ 9223372036854775807))
    (kt : a < b → W p l e R s m args below meth c H locs cells slots Q (F0 m (tgt) ls (rest))) (kf : b ≤ a → W p l e R s m args below meth c H locs cells slots Q (F0 m (pc + 1 + 3) ls (rest))) : W p l e R s m args below meth c H locs cells slots Q (F0 m (pc) ls (.long (zJ b) :: .long (zJ a) :: rest)) :=
  W.lcmp hx hb hdg (lv_if_lt hx hb hdh ht (fun h => kt ((zJ_lt ra rb).mp ((lg_cmp_lt _ _).mp h))) (fun h => kf (Int.not_lt.mp (fun q => h ((lg_cmp_lt _ _).mpr ((zJ_lt ra rb).mpr q))))))
theorem z_icmp_ge {a b : Int} {off : Int} {tgt : Nat} (hx : p.tables.exec = Jvm.exec) (hb : c.code = cc) (hdg : decode cc pc = .ok (.if_icmp .ge off, 3)) (ht : (pc : Int) + off = (tgt : Int)) (ra : (-2147483648 ≤ a ∧ a ≤ 2147483647)) (rb : (-2147483648 ≤ b ∧ b ≤ 2147483647))
    (kt : b ≤ a → W p l e R s m args below meth c H locs cells slots Q (F0 m (tgt) ls (rest))) (kf : a < b → W p l e R s m args below meth c H locs cells slots Q (F0 m (pc + 3) ls (rest))) : W p l e R s m args below meth c H locs cells slots Q (F0 m (pc) ls (.int (zI b) :: .int (zI a) :: rest)) := lv_icmp_ge hx hb hdg ht (fun h => kt ((zI_le rb ra).mp h)) (fun h => kf (Int.not_le.mp (fun q => h ((zI_le rb ra).mpr q))))
theorem z_if_ge {a : Int} {off : Int} {tgt : Nat} (hx : p.tables.exec = Jvm.exec) (hb : c.code = cc) (hdg : decode cc pc = .ok (.ifCond .ge off, 3)) (ht : (pc : Int) + off = (tgt : Int)) (ra : (-2147483648 ≤ a ∧ a ≤ 2147483647))
    (kt : 0 ≤ a → W p l e R s m args below meth c H locs cells slots Q (F0 m (tgt) ls (rest))) (kf : a < 0 → W p l e R s m args below meth c H locs cells slots Q (F0 m (pc + 3) ls (rest))) : W p l e R s m args below meth c H locs cells slots Q (F0 m (pc) ls (.int (zI a) :: rest)) := lv_if_ge hx hb hdg ht (fun h => kt ((zI_le (show (-2147483648 ≤ (0:Int) ∧ (0:Int) ≤ 2147483647) by omega) ra).mp h)) (fun h => kf (Int.not_le.mp (fun q => h ((zI_le (show (-2147483648 ≤ (0:Int) ∧ (0:Int) ≤ 2147483647) by omega) ra).mpr q))))
theorem z_lcmp_ge {a b : Int} {off : Int} {tgt : Nat} (hx : p.tables.exec = Jvm.exec) (hb : c.code = cc) (hdg : decode cc pc = .ok (.lcmp, 1)) (hdh : decode cc (pc + 1) = .ok (.ifCond .ge off, 3)) (ht : ((pc + 1 : Nat) : Int) + off = (tgt : Int)) (ra : (-9223372036854775808 ≤ a ∧ a ≤ 9223372036854775807)) (rb : (-9223372036854775808 ≤ b ∧ b ≤ 9223372036854775807))
    (kt : b ≤ a → W p l e R s m args below meth c H locs cells slots Q (F0 m (tgt) ls (rest))) (kf : a < b → W p l e R s m args below meth c H locs cells slots Q (F0 m (pc + 1 + 3) ls (rest))) : W p l e R s m args below meth c H locs cells slots Q (F0 m (pc) ls (.long (zJ b) :: .long (zJ a) :: rest)) :=
  W.lcmp hx hb hdg (lv_if_ge hx hb hdh ht (fun h => kt ((zJ_le rb ra).mp ((lg_cmp_ge _ _).mp h))) (fun h => kf (Int.not_le.mp (fun q => h ((lg_cmp_ge _ _).mpr ((zJ_le rb ra).mpr q))))))
theorem z_icmp_gt {a b : Int} {off : Int} {tgt : Nat} (hx : p.tables.exec = Jvm.exec) (hb : c.code = cc) (hdg : decode cc pc = .ok (.if_icmp .gt off, 3)) (ht : (pc : Int) + off = (tgt : Int)) (ra : (-2147483648 ≤ a ∧ a ≤ 2147483647)) (rb : (-2147483648 ≤ b ∧ b ≤ 2147483647))
    (kt : b < a → W p l e R s m args below meth c H locs cells slots Q (F0 m (tgt) ls (rest))) (kf : a ≤ b → W p l e R s m args below meth c H locs cells slots Q (F0 m (pc + 3) ls (rest))) : W p l e R s m args below meth c H locs cells slots Q (F0 m (pc) ls (.int (zI b) :: .int (zI a) :: rest)) := lv_icmp_gt hx hb hdg ht (fun h => kt ((zI_lt rb ra).mp h)) (fun h => kf (Int.not_lt.mp (fun q => h ((zI_lt rb ra).mpr q))))
theorem z_if_gt {a : Int} {off : Int} {tgt : Nat} (hx : p.tables.exec = Jvm.exec) (hb : c.code = cc) (hdg : decode cc pc = .ok (.ifCond .gt off, 3)) (ht : (pc : Int) + off = (tgt : Int)) (ra : (-2147483648 ≤ a ∧ a ≤ 2147483647))
    (kt : 0 < a → W p l e R s m args below meth c H locs cells slots Q (F0 m (tgt) ls (rest))) (kf : a ≤ 0 → W p l e R s m args below meth c H locs cells slots Q (F0 m (pc + 3) ls (rest))) : W p l e R s m args below meth c H locs cells slots Q (F0 m (pc) ls (.int (zI a) :: rest)) := lv_if_gt hx hb hdg ht (fun h => kt ((zI_lt (show (-2147483648 ≤ (0:Int) ∧ (0:Int) ≤ 2147483647) by omega) ra).mp h)) (fun h => kf (Int.not_lt.mp (fun q => h ((zI_lt (show (-2147483648 ≤ (0:Int) ∧ (0:Int) ≤ 2147483647) by omega) ra).mpr q))))
theorem z_lcmp_gt {a b : Int} {off : Int} {tgt : Nat} (hx : p.tables.exec = Jvm.exec) (hb : c.code = cc) (hdg : decode cc pc = .ok (.lcmp, 1)) (hdh : decode cc (pc + 1) = .ok (.ifCond .gt off, 3)) (ht : ((pc + 1 : Nat) : Int) + off = (tgt : Int)) (ra : (-9223372036854775808 ≤ a ∧ a ≤ 9223372036854775807)) (rb : (-9223372036854775808 ≤ b ∧ b ≤ 9223372036854775807))
    (kt : b < a → W p l e R s m args below meth c H locs cells slots Q (F0 m (tgt) ls (rest))) (kf : a ≤ b → W p l e R s m args below meth c H locs cells slots Q (F0 m (pc + 1 + 3) ls (rest))) : W p l e R s m args below meth c H locs cells slots Q (F0 m (pc) ls (.long (zJ b) :: .long (zJ a) :: rest)) :=
  W.lcmp hx hb hdg (lv_if_gt hx hb hdh ht (fun h => kt ((zJ_lt rb ra).mp ((lg_cmp_gt _ _).mp h))) (fun h => kf (Int.not_lt.mp (fun q => h ((lg_cmp_gt _ _).mpr ((zJ_lt rb ra).mpr q))))))
theorem z_icmp_le {a b : Int} {off : Int} {tgt : Nat} (hx : p.tables.exec = Jvm.exec) (hb : c.code = cc) (hdg : decode cc pc = .ok (.if_icmp .le off, 3)) (ht : (pc : Int) + off = (tgt : Int)) (ra : (-2147483648 ≤ a ∧ a ≤ 2147483647)) (rb : (-2147483648 ≤ b ∧ b ≤ 2147483647))
    (kt : a ≤ b → W p l e R s m args below meth c H locs cells slots Q (F0 m (tgt) ls (rest))) (kf : b < a → W p l e R s m args below meth c H locs cells slots Q (F0 m (pc + 3) ls (rest))) : W p l e R s m args below meth c H locs cells slots Q (F0 m (pc) ls (.int (zI b) :: .int (zI a) :: rest)) := lv_icmp_le hx hb hdg ht (fun h => kt ((zI_le ra rb).mp h)) (fun h => kf (Int.not_le.mp (fun q => h ((zI_le ra rb).mpr q))))
theorem z_if_le {a : Int} {off : Int} {tgt : Nat} (hx : p.tables.exec = Jvm.exec) (hb : c.code = cc) (hdg : decode cc pc = .ok (.ifCond .le off, 3)) (ht : (pc : Int) + off = (tgt : Int)) (ra : (-2147483648 ≤ a ∧ a ≤ 2147483647))
    (kt : a ≤ 0 → W p l e R s m args below meth c H locs cells slots Q (F0 m (tgt) ls (rest))) (kf : 0 < a → W p l e R s m args below meth c H locs cells slots Q (F0 m (pc + 3) ls (rest))) : W p l e R s m args below meth c H locs cells slots Q (F0 m (pc) ls (.int (zI a) :: rest)) := lv_if_le hx hb hdg ht (fun h => kt ((zI_le ra (show (-2147483648 ≤ (0:Int) ∧ (0:Int) ≤ 2147483647) by omega)).mp h)) (fun h => kf (Int.not_le.mp (fun q => h ((zI_le ra (show (-2147483648 ≤ (0:Int) ∧ (0:Int) ≤ 2147483647) by omega)).mpr q))))
theorem z_lcmp_le {a b : Int} {off : Int} {tgt : Nat} (hx : p.tables.exec = Jvm.exec) (hb : c.code = cc) (hdg : decode cc pc = .ok (.lcmp, 1)) (hdh : decode cc (pc + 1) = .ok (.ifCond .le off, 3)) (ht : ((pc + 1 : Nat) : Int) + off = (tgt : Int)) (ra : (-9223372036854775808 ≤ a ∧ a ≤ 9223372036854775807)) (rb : (-9223372036854775808 ≤ b ∧ b ≤ 9223372036854775807))
    (kt : a ≤ b → W p l e R s m args below meth c H locs cells slots Q (F0 m (tgt) ls (rest))) (kf : b < a → W p l e R s m args below meth c H locs cells slots Q (F0 m (pc + 1 + 3) ls (rest))) : W p l e R s m args below meth c H locs cells slots Q (F0 m (pc) ls (.long (zJ b) :: .long (zJ a) :: rest)) :=
  W.lcmp hx hb hdg (lv_if_le hx hb hdh ht (fun h => kt ((zJ_le ra rb).mp ((lg_cmp_le _ _).mp h))) (fun h => kf (Int.not_le.mp (fun q => h ((lg_cmp_le _ _).mpr ((zJ_le ra rb).mpr q))))))
theorem zb_if_eq {q : Prop} [Decidable q] {off : Int} {tgt : Nat} (hx : p.tables.exec = Jvm.exec) (hb : c.code = cc) (hdg : decode cc pc = .ok (.ifCond .eq off, 3)) (ht : (pc : Int) + off = (tgt : Int))
    (kt : ¬ q → W p l e R s m args below meth c H locs cells slots Q (F0 m (tgt) ls (rest))) (kf : q → W p l e R s m args below meth c H locs cells slots Q (F0 m (pc + 3) ls (rest))) : W p l e R s m args below meth c H locs cells slots Q (F0 m (pc) ls (.int (zI (zB q)) :: rest)) := by
  have r := zB_r (p := q)
  refine z_if_eq hx hb hdg ht (by omega) (fun h => kt (fun hq => ?_)) (fun h => ?_)
  · rw [zB_t hq] at h; omega
  · by_cases hq : q
    · exact kf hq
    · rw [zB_f hq] at h; exact absurd rfl h
theorem zb_if_ne {q : Prop} [Decidable q] {off : Int} {tgt : Nat} (hx : p.tables.exec = Jvm.exec) (hb : c.code = cc) (hdg : decode cc pc = .ok (.ifCond .ne off, 3)) (ht : (pc : Int) + off = (tgt : Int))
    (kt : q → W p l e R s m args below meth c H locs cells slots Q (F0 m (tgt) ls (rest))) (kf : ¬ q → W p l e R s m args below meth c H locs cells slots Q (F0 m (pc + 3) ls (rest))) : W p l e R s m args below meth c H locs cells slots Q (F0 m (pc) ls (.int (zI (zB q)) :: rest)) := by
  have r := zB_r (p := q)
  refine z_if_ne hx hb hdg ht (by omega) (fun h => ?_) (fun h => kf (fun hq => ?_))
  · by_cases hq : q
    · exact kt hq
    · rw [zB_f hq] at h; exact absurd rfl h
  · rw [zB_t hq] at h; omega
theorem z_iald {a n : Nat} {g : Int → Int} {i v : Int} (hx : p.tables.exec = Jvm.exec) (hb : c.code = cc) (hK : va_K D vwCl (zT ct) s) (hP : va_P D vwCl ws H) (q0 : Nat) (ha : ws[q0]? = some (a, .inl (ct 0, n, .inl (fun k => zI (clip n g (k : Int)))))) (hn : n ≤ 2147483647) (hi : 0 ≤ i ∧ i < n) (hv : g i = v) (hdg : decode cc pc = .ok (.iaload, 1))
    (kk : W p l e R s m args below meth c H locs cells slots Q (F0 m (pc + 1) ls (.int (zI v) :: rest))) : W p l e R s m args below meth c H locs cells slots Q (F0 m (pc) ls (.int (zI i) :: .ref a :: rest)) := by
  refine va_iald hx hb hK hP q0 0 ha rfl (zI_in hi hn) hdg ?_
  rw [zI_clamp (by omega)]
  have e : ((i.toNat : Nat) : Int) = i := by omega
  simp only [e, clip_lt hi.2, hv]
  exact kk
theorem z_lald {a n : Nat} {g : Int → Int} {i v : Int} (hx : p.tables.exec = Jvm.exec) (hb : c.code = cc) (hK : va_K D vwCl (zT ct) s) (hP : va_P D vwCl ws H) (q0 : Nat) (ha : ws[q0]? = some (a, .inl (ct 1, n, .inr (.inl (fun k => zJ (clip n g (k : Int))))))) (hn : n ≤ 2147483647) (hi : 0 ≤ i ∧ i < n) (hv : g i = v) (hdg : decode cc pc = .ok (.laload, 1))
    (kk : W p l e R s m args below meth c H locs cells slots Q (F0 m (pc + 1) ls (.long (zJ v) :: rest))) : W p l e R s m args below meth c H locs cells slots Q (F0 m (pc) ls (.int (zI i) :: .ref a :: rest)) := by
  refine va_lald hx hb hK hP q0 1 ha rfl (zI_in hi hn) hdg ?_
  rw [zI_clamp (by omega)]
  have e : ((i.toNat : Nat) : Int) = i := by omega
  simp only [e, clip_lt hi.2, hv]
  exact kk
theorem z_bald {a n : Nat} {g : Int → Int} {i v : Int} (hx : p.tables.exec = Jvm.exec) (hb : c.code = cc) (hK : va_K D vwCl (zT ct) s) (hP : va_P D vwCl ws H) (q0 : Nat) (ha : ws[q0]? = some (a, .inl (ct 2, n, .inl (fun k => zI (clip n g (k : Int)))))) (hn : n ≤ 2147483647) (hi : 0 ≤ i ∧ i < n) (hv : g i = v) (hdg : decode cc pc = .ok (.baload, 1))
    (kk : W p l e R s m args below meth c H locs cells slots Q (F0 m (pc + 1) ls (.int (zI v) :: rest))) : W p l e R s m args below meth c H locs cells slots Q (F0 m (pc) ls (.int (zI i) :: .ref a :: rest)) := by
  refine va_bald hx hb hK hP q0 2 ha rfl (zI_in hi hn) hdg ?_
  rw [zI_clamp (by omega)]
  have e : ((i.toNat : Nat) : Int) = i := by omega
  simp only [e, clip_lt hi.2, hv]
  exact kk
theorem z_iast {H0 : Heap} {a n : Nat} {g : Int → Int} {i v : Int} {w2 : va_W} (hx : p.tables.exec = Jvm.exec) (hb : c.code = cc) (hK : va_K D vwCl (zT ct) s) (hP : va_P D vwCl ws H) (hD : va_D A ws) (hS : va_S A H0 H locs) (q0 : Nat) (ha : ws[q0]? = some (a, .inl (ct 0, n, .inl (fun k => zI (clip n g (k : Int)))))) (hn : n ≤ 2147483647) (hi : 0 ≤ i ∧ i < n) (hdg : decode cc pc = .ok (.iastore, 1)) (hw : ws.set q0 (a, .inl (ct 0, n, .inl (fun k => zI (clip n (up g i v) (k : Int))))) = w2)
    (kk : ∀ (H1 : Heap) (locs1 : List Loc), va_P D vwCl w2 H1 → va_D A w2 → va_S A H0 H1 locs1 → W p l e R s m args below meth c H1 locs1 cells slots Q (F0 m (pc + 1) ls (rest))) : W p l e R s m args below meth c H locs cells slots Q (F0 m (pc) ls (.int (zI v) :: .int (zI i) :: .ref a :: rest)) := by
  subst hw
  refine va_iast hx hb hK hP hD hS q0 0 ha rfl (zI_in hi hn) hdg (fun H1 locs1 h1 h2 h3 => ?_)
  rw [zI_upd g v hi hn] at h1 h2
  exact kk H1 locs1 h1 h2 h3
theorem z_last {H0 : Heap} {a n : Nat} {g : Int → Int} {i v : Int} {w2 : va_W} (hx : p.tables.exec = Jvm.exec) (hb : c.code = cc) (hK : va_K D vwCl (zT ct) s) (hP : va_P D vwCl ws H) (hD : va_D A ws) (hS : va_S A H0 H locs) (q0 : Nat) (ha : ws[q0]? = some (a, .inl (ct 1, n, .inr (.inl (fun k => zJ (clip n g (k : Int))))))) (hn : n ≤ 2147483647) (hi : 0 ≤ i ∧ i < n) (hdg : decode cc pc = .ok (.lastore, 1)) (hw : ws.set q0 (a, .inl (ct 1, n, .inr (.inl (fun k => zJ (clip n (up g i v) (k : Int)))))) = w2)
    (kk : ∀ (H1 : Heap) (locs1 : List Loc), va_P D vwCl w2 H1 → va_D A w2 → va_S A H0 H1 locs1 → W p l e R s m args below meth c H1 locs1 cells slots Q (F0 m (pc + 1) ls (rest))) : W p l e R s m args below meth c H locs cells slots Q (F0 m (pc) ls (.long (zJ v) :: .int (zI i) :: .ref a :: rest)) := by
  subst hw
  refine va_last hx hb hK hP hD hS q0 1 ha rfl (zI_in hi hn) hdg (fun H1 locs1 h1 h2 h3 => ?_)
  rw [zJ_upd g v hi hn] at h1 h2
  exact kk H1 locs1 h1 h2 h3
theorem z_ldivT {a b : Int} (hx : p.tables.exec = Jvm.exec) (hb : c.code = cc) (hdg : decode cc pc = .ok (.ldiv, 1)) (ra : (-9223372036854775808 ≤ a ∧ a ≤ 9223372036854775807)) (rb : 0 < b ∧ b ≤ 9223372036854775807)
    (k : W p l e R s m args below meth c H locs cells slots Q (F0 m (pc + 1) ls (.long (zJ (a.tdiv b)) :: rest))) : W p l e R s m args below meth c H locs cells slots Q (F0 m (pc) ls (.long (zJ b) :: .long (zJ a) :: rest)) := lv_ldiv hx hb hdg (zJ_ne0 rb) (by rw [(zJ_tdiv ra rb).1]; exact k)
theorem z_lxor_ge {a b : Int} {off : Int} {tgt : Nat} (hx : p.tables.exec = Jvm.exec) (hb : c.code = cc) (hd0 : decode cc pc = .ok (.lxor, 1)) (hd1 : decode cc (pc + 1) = .ok (.lconst 0, 1)) (hd2 : decode cc (pc + 1 + 1) = .ok (.lcmp, 1)) (hd3 : decode cc (pc + 1 + 1 + 1) = .ok (.ifCond .ge off, 3)) (ht : ((pc + 1 + 1 + 1 : Nat) : Int) + off = (tgt : Int)) (ra : (-9223372036854775808 ≤ a ∧ a ≤ 9223372036854775807)) (rb : 0 ≤ b ∧ b ≤ 9223372036854775807)
    (kt : 0 ≤ a → W p l e R s m args below meth c H locs cells slots Q (F0 m (tgt) ls (rest))) (kf : a < 0 → W p l e R s m args below meth c H locs cells slots Q (F0 m (pc + 1 + 1 + 1 + 3) ls (rest))) : W p l e R s m args below meth c H locs cells slots Q (F0 m (pc) ls (.long (zJ b) :: .long (zJ a) :: rest)) := by
  refine lv_lxor hx hb hd0 ?_
  refine lv_lconst (v := 0) hx hb hd1 rfl ?_
  refine W.lcmp hx hb hd2 ?_
  refine lv_if_ge hx hb hd3 ht (fun h => kt ?_) (fun h => kf ?_)
  · exact (zJ_xor ra rb).mp ((lg_cmp_ge _ _).mp h)
  · exact Int.not_le.mp (fun q => h ((lg_cmp_ge _ _).mpr ((zJ_xor ra rb).mpr q)))
theorem z_mmax {a b : Int} {own : String} {index nL : Nat} {lv : List (Nat × Value)} (hx : p.tables.exec = Jvm.exec) (hb : c.code = cc) (hml : c.maxLocals = nL) (hl : lv_has ls nL lv) (hown : s.vm.findClass own = some m.cls) (hlink : (Cond.methodLink own index Lib.Math.max.name).before args s = true) (hstat : (Cond.static Lib.Math.max.name).before args s = true) (hini : (Cond.initialized "java/lang/Math").before args s = true) (hcode : (Cond.code Lib.Math.max.name Lib.Math.max.code 2 (some .int)).before args s = true)
    (hframes : 1 ≤ R.frames) (hlocals : (rest.map fun v => v.category).sum + 13 ≤ R.locals) (hc : cells ≤ R.cells) (hs : slots ≤ R.slots) (ra : (-2147483648 ≤ a ∧ a ≤ 2147483647)) (rb : (-2147483648 ≤ b ∧ b ≤ 2147483647)) (hdg : decode cc pc = .ok (.invokestatic index, 3))
    (kk : W p l e R s m args below meth c H locs cells slots Q (F0 m (pc + 3) ls (.int (zI (max a b)) :: rest))) : W p l e R s m args below meth c H locs cells slots Q (F0 m (pc) ls (.int (zI b) :: .int (zI a) :: rest)) := by
  refine va_mmax hx hb (hml.trans hl.1.symm) hown hlink hstat hini hcode hframes hlocals hc hs hdg ?_
  have e : (if zI a < zI b then zI b else zI a) = zI (max a b) := by
    by_cases h : a < b
    · rw [if_pos ((zI_lt ra rb).mpr h), Int.max_eq_right (by omega)]
    · rw [if_neg (fun q => h ((zI_lt ra rb).mp q)), Int.max_eq_left (by omega)]
  rw [e]
  exact kk
theorem z_mmaxl {a b : Int} {own : String} {index nL : Nat} {lv : List (Nat × Value)} (hx : p.tables.exec = Jvm.exec) (hb : c.code = cc) (hml : c.maxLocals = nL) (hl : lv_has ls nL lv) (hown : s.vm.findClass own = some m.cls) (hlink : (Cond.methodLink own index Lib.MathLoose.max_long.x).before args s = true) (hstat : (Cond.static Lib.MathLoose.max_long.x).before args s = true) (hini : (Cond.initialized "java/lang/Math").before args s = true) (hcode : (Cond.code Lib.MathLoose.max_long.x Lib.MathLoose.max_long.code 4 (some .long)).before args s = true)
    (hframes : 1 ≤ R.frames) (hlocals : (rest.map fun v => v.category).sum + 15 ≤ R.locals) (hc : cells ≤ R.cells) (hs : slots ≤ R.slots) (ra : (-9223372036854775808 ≤ a ∧ a ≤ 9223372036854775807)) (rb : (-9223372036854775808 ≤ b ∧ b ≤ 9223372036854775807)) (hdg : decode cc pc = .ok (.invokestatic index, 3))
    (kk : W p l e R s m args below meth c H locs cells slots Q (F0 m (pc + 3) ls (.long (zJ (max a b)) :: rest))) : W p l e R s m args below meth c H locs cells slots Q (F0 m (pc) ls (.long (zJ b) :: .long (zJ a) :: rest)) := by
  refine va_mmax_long hx hb (hml.trans hl.1.symm) hown hlink hstat hini hcode hframes hlocals hc hs hdg ?_
  have e : (if zJ b < zJ a then zJ a else zJ b) = zJ (max a b) := by
    by_cases h : b < a
    · rw [if_pos ((zJ_lt rb ra).mpr h), Int.max_eq_left (by omega)]
    · rw [if_neg (fun q => h ((zJ_lt rb ra).mp q)), Int.max_eq_right (by omega)]
  rw [e]
  exact kk
theorem z_mmin {a b : Int} {own : String} {index nL : Nat} {lv : List (Nat × Value)} (hx : p.tables.exec = Jvm.exec) (hb : c.code = cc) (hml : c.maxLocals = nL) (hl : lv_has ls nL lv) (hown : s.vm.findClass own = some m.cls) (hlink : (Cond.methodLink own index Lib.Math.min.name).before args s = true) (hstat : (Cond.static Lib.Math.min.name).before args s = true) (hini : (Cond.initialized "java/lang/Math").before args s = true) (hcode : (Cond.code Lib.Math.min.name Lib.Math.min.code 2 (some .int)).before args s = true)
    (hframes : 1 ≤ R.frames) (hlocals : (rest.map fun v => v.category).sum + 13 ≤ R.locals) (hc : cells ≤ R.cells) (hs : slots ≤ R.slots) (ra : (-2147483648 ≤ a ∧ a ≤ 2147483647)) (rb : (-2147483648 ≤ b ∧ b ≤ 2147483647)) (hdg : decode cc pc = .ok (.invokestatic index, 3))
    (kk : W p l e R s m args below meth c H locs cells slots Q (F0 m (pc + 3) ls (.int (zI (min a b)) :: rest))) : W p l e R s m args below meth c H locs cells slots Q (F0 m (pc) ls (.int (zI b) :: .int (zI a) :: rest)) := by
  refine va_mmin hx hb (hml.trans hl.1.symm) hown hlink hstat hini hcode hframes hlocals hc hs hdg ?_
  have e : (if zI b < zI a then zI b else zI a) = zI (min a b) := by
    by_cases h : b < a
    · rw [if_pos ((zI_lt rb ra).mpr h), Int.min_eq_right (by omega)]
    · rw [if_neg (fun q => h ((zI_lt rb ra).mp q)), Int.min_eq_left (by omega)]
  rw [e]
  exact kk
theorem z_mminl {a b : Int} {own : String} {index nL : Nat} {lv : List (Nat × Value)} (hx : p.tables.exec = Jvm.exec) (hb : c.code = cc) (hml : c.maxLocals = nL) (hl : lv_has ls nL lv) (hown : s.vm.findClass own = some m.cls) (hlink : (Cond.methodLink own index Lib.MathLoose.min_long.x).before args s = true) (hstat : (Cond.static Lib.MathLoose.min_long.x).before args s = true) (hini : (Cond.initialized "java/lang/Math").before args s = true) (hcode : (Cond.code Lib.MathLoose.min_long.x Lib.MathLoose.min_long.code 4 (some .long)).before args s = true)
    (hframes : 1 ≤ R.frames) (hlocals : (rest.map fun v => v.category).sum + 15 ≤ R.locals) (hc : cells ≤ R.cells) (hs : slots ≤ R.slots) (ra : (-9223372036854775808 ≤ a ∧ a ≤ 9223372036854775807)) (rb : (-9223372036854775808 ≤ b ∧ b ≤ 9223372036854775807)) (hdg : decode cc pc = .ok (.invokestatic index, 3))
    (kk : W p l e R s m args below meth c H locs cells slots Q (F0 m (pc + 3) ls (.long (zJ (min a b)) :: rest))) : W p l e R s m args below meth c H locs cells slots Q (F0 m (pc) ls (.long (zJ b) :: .long (zJ a) :: rest)) := by
  refine va_mmin_long hx hb (hml.trans hl.1.symm) hown hlink hstat hini hcode hframes hlocals hc hs hdg ?_
  have e : (if zJ b < zJ a then zJ b else zJ a) = zJ (min a b) := by
    by_cases h : b < a
    · rw [if_pos ((zJ_lt rb ra).mpr h), Int.min_eq_right (by omega)]
    · rw [if_neg (fun q => h ((zJ_lt rb ra).mp q)), Int.min_eq_left (by omega)]
  rw [e]
  exact kk
theorem z_mabsl {a : Int} {own : String} {index nL : Nat} {lv : List (Nat × Value)} (hx : p.tables.exec = Jvm.exec) (hb : c.code = cc) (hml : c.maxLocals = nL) (hl : lv_has ls nL lv) (hown : s.vm.findClass own = some m.cls) (hlink : (Cond.methodLink own index Lib.MathLoose.abs_long.x).before args s = true) (hstat : (Cond.static Lib.MathLoose.abs_long.x).before args s = true) (hini : (Cond.initialized "java/lang/Math").before args s = true) (hcode : (Cond.code Lib.MathLoose.abs_long.x Lib.MathLoose.abs_long.code 2 (some .long)).before args s = true)
    (hframes : 1 ≤ R.frames) (hlocals : (rest.map fun v => v.category).sum + 13 ≤ R.locals) (hc : cells ≤ R.cells) (hs : slots ≤ R.slots) (ra : (-9223372036854775808 ≤ a ∧ a ≤ 9223372036854775807)) (hdg : decode cc pc = .ok (.invokestatic index, 3))
    (kk : W p l e R s m args below meth c H locs cells slots Q (F0 m (pc + 3) ls (.long (zJ (if 0 < a then a else -a)) :: rest))) : W p l e R s m args below meth c H locs cells slots Q (F0 m (pc) ls (.long (zJ a) :: rest)) := by
  refine va_mabs_long hx hb (hml.trans hl.1.symm) hown hlink hstat hini hcode hframes hlocals hc hs hdg ?_
  have e : (if 0 < zJ a then zJ a else -zJ a) = zJ (if 0 < a then a else -a) := by
    have e0 : (0 : Int64) = zJ 0 := rfl
    rw [e0]
    by_cases h : 0 < a
    · rw [if_pos ((zJ_lt (show -9223372036854775808 ≤ (0:Int) ∧ (0:Int) ≤ 9223372036854775807 by omega) ra).mpr h), if_pos h]
    · rw [if_neg (fun q => h ((zJ_lt (show -9223372036854775808 ≤ (0:Int) ∧ (0:Int) ≤ 9223372036854775807 by omega) ra).mp q)), if_neg h, zJ_neg]
  rw [e]
  exact kk
theorem z_copyI {a0 a n0 n1 : Nat} {f g : Int → Int} {sp dp n : Int} {own : String} {index nL : Nat} {lv : List (Nat × Value)} {w2 : va_W} (hx : p.tables.exec = Jvm.exec) (hb : c.code = cc) (hml : c.maxLocals = nL) (hl : lv_has ls nL lv) (hown : s.vm.findClass own = some m.cls) (hlink : (Cond.methodLink own index arraycopyName).before args s = true) (hnat : (Cond.native arraycopyName).before args s = true) (hstat : (Cond.static arraycopyName).before args s = true) (hini : (Cond.initialized "java/lang/System").before args s = true)
    (hK : va_K D vwCl (zT ct) s) (hP : va_P D vwCl ws H) (hD : va_D A ws) (hS : va_S A s.heap H locs) (q0 q1 : Nat) (ha0 : ws[q0]? = some (a0, .inl (ct 0, n0, .inl (fun k => zI (clip n0 f (k : Int)))))) (ha1 : ws[q1]? = some (a, .inl (ct 0, n1, .inl (fun k => zI (clip n1 g (k : Int)))))) (hs : 0 ≤ sp ∧ 0 ≤ dp ∧ 0 ≤ n ∧ sp + n ≤ n0 ∧ dp + n ≤ n1) (hn : n0 ≤ 2147483647 ∧ n1 ≤ 2147483647)
    (hframes : 1 ≤ R.frames) (hlocals : (rest.map fun v => v.category).sum + (nativeFrameWords "java/lang/System" "arraycopy" 5 + 11) ≤ R.locals) (hdg : decode cc pc = .ok (.invokestatic index, 3)) (hw : ws.set q1 (a, .inl (ct 0, n1, .inl (fun k => zI (clip n1 (fun x => if dp ≤ x ∧ x < dp + n then f (sp + (x - dp)) else g x) (k : Int))))) = w2)
    (kk : ∀ (H1 : Heap) (locs1 : List Loc), va_P D vwCl w2 H1 → va_D A w2 → va_S A s.heap H1 locs1 → W p l e R s m args below meth c H1 locs1 cells slots Q (F0 m (pc + 3) ls (rest))) : W p l e R s m args below meth c H locs cells slots Q (F0 m (pc) ls (.int (zI n) :: .int (zI dp) :: .ref a :: .int (zI sp) :: .ref a0 :: rest)) := by
  subst hw
  have nz : ∀ z : Int, 0 ≤ z ∧ z ≤ 2147483647 → ¬ zI z < 0 := fun z hz q => by
    have e : (0 : Int32) = zI 0 := rfl
    rw [e, zI_lt (by omega) (by omega)] at q
    omega
  refine va_copyi hx hb (hml.trans hl.1.symm) hown hlink hnat hstat hini hK hP hD hS q0 q1 0 0 ha0 ha1 rfl rfl rfl (nz sp (by omega)) (nz dp (by omega)) (nz n (by omega)) (by rw [zI_clamp (by omega), zI_clamp (by omega)]; omega) (by rw [zI_clamp (by omega), zI_clamp (by omega)]; omega) (fun _ _ => rfl) hframes hlocals hdg (fun H1 locs1 h1 h2 h3 => ?_)
  have e : va_cpy (fun k : Nat => zI (clip n0 f (k : Int))) (fun k : Nat => zI (clip n1 g (k : Int))) (zI sp).toNatClampNeg (zI dp).toNatClampNeg (zI n).toNatClampNeg = fun k : Nat => zI (clip n1 (fun x => if dp ≤ x ∧ x < dp + n then f (sp + (x - dp)) else g x) (k : Int)) := by
    rw [zI_clamp (by omega), zI_clamp (by omega), zI_clamp (by omega)]
    funext k
    unfold va_cpy
    by_cases hk : dp ≤ (k : Int) ∧ (k : Int) < dp + n
    · rw [if_pos (by omega)]
      show zI (clip n0 f ((sp.toNat + (k - dp.toNat) : Nat) : Int)) = _
      rw [clip_lt (by omega), clip_lt (by omega), if_pos hk]
      congr 2
      omega
    · rw [if_neg (by omega)]
      show zI (clip n1 g (k : Int)) = _
      unfold clip
      dsimp only
      rw [if_neg hk]
  rw [e] at h1 h2
  exact kk H1 locs1 h1 h2 h3
theorem z_copyJ {a0 a n0 n1 : Nat} {f g : Int → Int} {sp dp n : Int} {own : String} {index nL : Nat} {lv : List (Nat × Value)} {w2 : va_W} (hx : p.tables.exec = Jvm.exec) (hb : c.code = cc) (hml : c.maxLocals = nL) (hl : lv_has ls nL lv) (hown : s.vm.findClass own = some m.cls) (hlink : (Cond.methodLink own index arraycopyName).before args s = true) (hnat : (Cond.native arraycopyName).before args s = true) (hstat : (Cond.static arraycopyName).before args s = true) (hini : (Cond.initialized "java/lang/System").before args s = true)
    (hK : va_K D vwCl (zT ct) s) (hP : va_P D vwCl ws H) (hD : va_D A ws) (hS : va_S A s.heap H locs) (q0 q1 : Nat) (ha0 : ws[q0]? = some (a0, .inl (ct 1, n0, .inr (.inl (fun k => zJ (clip n0 f (k : Int))))))) (ha1 : ws[q1]? = some (a, .inl (ct 1, n1, .inr (.inl (fun k => zJ (clip n1 g (k : Int))))))) (hs : 0 ≤ sp ∧ 0 ≤ dp ∧ 0 ≤ n ∧ sp + n ≤ n0 ∧ dp + n ≤ n1) (hn : n0 ≤ 2147483647 ∧ n1 ≤ 2147483647)
    (hframes : 1 ≤ R.frames) (hlocals : (rest.map fun v => v.category).sum + (nativeFrameWords "java/lang/System" "arraycopy" 5 + 11) ≤ R.locals) (hdg : decode cc pc = .ok (.invokestatic index, 3)) (hw : ws.set q1 (a, .inl (ct 1, n1, .inr (.inl (fun k => zJ (clip n1 (fun x => if dp ≤ x ∧ x < dp + n then f (sp + (x - dp)) else g x) (k : Int)))))) = w2)
    (kk : ∀ (H1 : Heap) (locs1 : List Loc), va_P D vwCl w2 H1 → va_D A w2 → va_S A s.heap H1 locs1 → W p l e R s m args below meth c H1 locs1 cells slots Q (F0 m (pc + 3) ls (rest))) : W p l e R s m args below meth c H locs cells slots Q (F0 m (pc) ls (.int (zI n) :: .int (zI dp) :: .ref a :: .int (zI sp) :: .ref a0 :: rest)) := by
  subst hw
  have nz : ∀ z : Int, 0 ≤ z ∧ z ≤ 2147483647 → ¬ zI z < 0 := fun z hz q => by
    have e : (0 : Int32) = zI 0 := rfl
    rw [e, zI_lt (by omega) (by omega)] at q
    omega
  refine va_copyl hx hb (hml.trans hl.1.symm) hown hlink hnat hstat hini hK hP hD hS q0 q1 1 1 ha0 ha1 rfl rfl rfl (nz sp (by omega)) (nz dp (by omega)) (nz n (by omega)) (by rw [zI_clamp (by omega), zI_clamp (by omega)]; omega) (by rw [zI_clamp (by omega), zI_clamp (by omega)]; omega) (fun _ _ => rfl) hframes hlocals hdg (fun H1 locs1 h1 h2 h3 => ?_)
  have e : va_cpy (fun k : Nat => zJ (clip n0 f (k : Int))) (fun k : Nat => zJ (clip n1 g (k : Int))) (zI sp).toNatClampNeg (zI dp).toNatClampNeg (zI n).toNatClampNeg = fun k : Nat => zJ (clip n1 (fun x => if dp ≤ x ∧ x < dp + n then f (sp + (x - dp)) else g x) (k : Int)) := by
    rw [zI_clamp (by omega), zI_clamp (by omega), zI_clamp (by omega)]
    funext k
    unfold va_cpy
    by_cases hk : dp ≤ (k : Int) ∧ (k : Int) < dp + n
    · rw [if_pos (by omega)]
      show zJ (clip n0 f ((sp.toNat + (k - dp.toNat) : Nat) : Int)) = _
      rw [clip_lt (by omega), clip_lt (by omega), if_pos hk]
      congr 2
      omega
    · rw [if_neg (by omega)]
      show zJ (clip n1 g (k : Int)) = _
      unfold clip
      dsimp only
      rw [if_neg hk]
  rw [e] at h1 h2
  exact kk H1 locs1 h1 h2 h3
theorem z_cpyI {a0 a n : Nat} {f g : Int → Int} {z : Int} {own : String} {index nL : Nat} {lv : List (Nat × Value)} {w2 : va_W} (hx : p.tables.exec = Jvm.exec) (hb : c.code = cc) (hml : c.maxLocals = nL) (hl : lv_has ls nL lv) (hown : s.vm.findClass own = some m.cls) (hlink : (Cond.methodLink own index arraycopyName).before args s = true) (hnat : (Cond.native arraycopyName).before args s = true) (hstat : (Cond.static arraycopyName).before args s = true) (hini : (Cond.initialized "java/lang/System").before args s = true)
    (hK : va_K D vwCl (zT ct) s) (hP : va_P D vwCl ws H) (hD : va_D A ws) (hS : va_S A s.heap H locs) (q0 q1 : Nat) (ha0 : ws[q0]? = some (a0, .inl (ct 0, n, .inl (fun k => zI (clip n f (k : Int)))))) (ha1 : ws[q1]? = some (a, .inl (ct 0, n, .inl (fun k => zI (clip n g (k : Int)))))) (hz : z = (n : Int)) (hn : n ≤ 2147483647)
    (hframes : 1 ≤ R.frames) (hlocals : (rest.map fun v => v.category).sum + (nativeFrameWords "java/lang/System" "arraycopy" 5 + 11) ≤ R.locals) (hdg : decode cc pc = .ok (.invokestatic index, 3)) (hw : ws.set q1 (a, .inl (ct 0, n, .inl (fun k => zI (clip n f (k : Int))))) = w2)
    (kk : ∀ (H1 : Heap) (locs1 : List Loc), va_P D vwCl w2 H1 → va_D A w2 → va_S A s.heap H1 locs1 → W p l e R s m args below meth c H1 locs1 cells slots Q (F0 m (pc + 3) ls (rest))) : W p l e R s m args below meth c H locs cells slots Q (F0 m (pc) ls (.int (zI z) :: .int (zI 0) :: .ref a :: .int (zI 0) :: .ref a0 :: rest)) := by
  refine z_copyI hx hb hml hl hown hlink hnat hstat hini hK hP hD hS q0 q1 ha0 ha1 (by omega) ⟨hn, hn⟩ hframes hlocals hdg ?_ kk
  rw [← hw]
  have e : (fun k : Nat => zI (clip n (fun x => if 0 ≤ x ∧ x < 0 + z then f (0 + (x - 0)) else g x) (k : Int))) = fun k : Nat => zI (clip n f (k : Int)) := funext fun k => congrArg zI (clip_eq (fun x h0 h1 => by rw [if_pos (by omega)]; congr 1; omega) k)
  rw [e]
theorem z_cpyJ {a0 a n : Nat} {f g : Int → Int} {z : Int} {own : String} {index nL : Nat} {lv : List (Nat × Value)} {w2 : va_W} (hx : p.tables.exec = Jvm.exec) (hb : c.code = cc) (hml : c.maxLocals = nL) (hl : lv_has ls nL lv) (hown : s.vm.findClass own = some m.cls) (hlink : (Cond.methodLink own index arraycopyName).before args s = true) (hnat : (Cond.native arraycopyName).before args s = true) (hstat : (Cond.static arraycopyName).before args s = true) (hini : (Cond.initialized "java/lang/System").before args s = true)
    (hK : va_K D vwCl (zT ct) s) (hP : va_P D vwCl ws H) (hD : va_D A ws) (hS : va_S A s.heap H locs) (q0 q1 : Nat) (ha0 : ws[q0]? = some (a0, .inl (ct 1, n, .inr (.inl (fun k => zJ (clip n f (k : Int))))))) (ha1 : ws[q1]? = some (a, .inl (ct 1, n, .inr (.inl (fun k => zJ (clip n g (k : Int))))))) (hz : z = (n : Int)) (hn : n ≤ 2147483647)
    (hframes : 1 ≤ R.frames) (hlocals : (rest.map fun v => v.category).sum + (nativeFrameWords "java/lang/System" "arraycopy" 5 + 11) ≤ R.locals) (hdg : decode cc pc = .ok (.invokestatic index, 3)) (hw : ws.set q1 (a, .inl (ct 1, n, .inr (.inl (fun k => zJ (clip n f (k : Int)))))) = w2)
    (kk : ∀ (H1 : Heap) (locs1 : List Loc), va_P D vwCl w2 H1 → va_D A w2 → va_S A s.heap H1 locs1 → W p l e R s m args below meth c H1 locs1 cells slots Q (F0 m (pc + 3) ls (rest))) : W p l e R s m args below meth c H locs cells slots Q (F0 m (pc) ls (.int (zI z) :: .int (zI 0) :: .ref a :: .int (zI 0) :: .ref a0 :: rest)) := by
  refine z_copyJ hx hb hml hl hown hlink hnat hstat hini hK hP hD hS q0 q1 ha0 ha1 (by omega) ⟨hn, hn⟩ hframes hlocals hdg ?_ kk
  rw [← hw]
  have e : (fun k : Nat => zJ (clip n (fun x => if 0 ≤ x ∧ x < 0 + z then f (0 + (x - 0)) else g x) (k : Int))) = fun k : Nat => zJ (clip n f (k : Int)) := funext fun k => congrArg zJ (clip_eq (fun x h0 h1 => by rw [if_pos (by omega)]; congr 1; omega) k)
  rw [e]
theorem z_tabIn {dflt lo hi : Int} {offs : Array Int} {len : Nat} {a off : Int} {tgt : Nat} (hx : p.tables.exec = Jvm.exec) (hb : c.code = cc) (hdg : decode cc pc = .ok (.tableswitch dflt lo hi offs, len)) (k : Int) (ha : a = k) (ra : -2147483648 ≤ k ∧ k ≤ 2147483647) (h1 : lo ≤ k ∧ k ≤ hi) (ho : offs[(k - lo).toNat]? = some off) (ht : (pc : Int) + off = (tgt : Int))
    (kk : W p l e R s m args below meth c H locs cells slots Q (F0 m (tgt) ls (rest))) : W p l e R s m args below meth c H locs cells slots Q (F0 m (pc) ls (.int (zI a) :: rest)) := by
  subst ha
  exact lv_tableIn hx hb hdg (by rw [zI_toInt ra]; omega) (by rw [zI_toInt ra]; omega) (by rw [zI_toInt ra]; exact ho) ht kk
theorem z_tabOut {dflt lo hi : Int} {offs : Array Int} {len : Nat} {a : Int} {tgt : Nat} (hx : p.tables.exec = Jvm.exec) (hb : c.code = cc) (hdg : decode cc pc = .ok (.tableswitch dflt lo hi offs, len)) (ra : -2147483648 ≤ a ∧ a ≤ 2147483647) (h : a < lo ∨ hi < a) (ht : (pc : Int) + dflt = (tgt : Int))
    (kk : W p l e R s m args below meth c H locs cells slots Q (F0 m (tgt) ls (rest))) : W p l e R s m args below meth c H locs cells slots Q (F0 m (pc) ls (.int (zI a) :: rest)) := lv_tableOut hx hb hdg (by rw [zI_toInt ra]; exact h) ht kk
theorem z_ialdT {t N : Nat} {g : Nat → Int} {i : Int} (hx : p.tables.exec = Jvm.exec) (hb : c.code = cc) (hT : va_T .int t N (fun j => .int (zI (g j))) A s s.heap) (hS : va_S A s.heap H locs) (hi : 0 ≤ i ∧ i < N) (hn : N ≤ 2147483647) (hdg : decode cc pc = .ok (.iaload, 1))
    (kk : W p l e R s m args below meth c H locs cells slots Q (F0 m (pc + 1) ls (.int (zI (g i.toNat)) :: rest))) : W p l e R s m args below meth c H locs cells slots Q (F0 m (pc) ls (.int (zI i) :: .ref t :: rest)) := by
  obtain ⟨cell, h1, h2, h3, h4, h5, h6, h7⟩ := hT.kept hS.2.1
  refine W.iald (v := .int (zI (g i.toNat))) hx hb h1 h2 h3 ?_ (by rw [zI_clamp (by omega)]; exact h6 _ (by omega)) rfl rfl hdg kk
  have := zI_in (n := N) hi hn
  exact fun q => this (q.elim Or.inl (fun q => Or.inr (Nat.le_trans h4 q)))
theorem z_callR {rm : Room} {st0 : List Value} {a : Array Value} (pw r : va_W) {wc : va_W} (hr : va_Run p l e R s m args below meth c H locs cells slots rm.cells rm.slots (F0 m pc ls st0) rest (zQ D post (va_A wc H.size) a) (va_A wc H.size)) (hS : va_S A s.heap H locs) (hA : ∀ q : Nat, s.heap.size ≤ q → A q) (hP : va_P D vwCl (pw ++ (wc ++ r)) H) (hD : va_D A (pw ++ (wc ++ r)))
    (kk : ∀ (v : Option Value) (w1 : va_W) (H1 : Heap) (locs1 : List Loc), post v w1 → va_P D vwCl (pw ++ (w1 ++ r)) H1 → va_D A (pw ++ (w1 ++ r)) → va_S A s.heap H1 locs1 → W p l e R s m args below meth c H1 locs1 (cells + rm.cells) (slots + rm.slots) Q (F0 m (pc + 3) ls (v.toList ++ rest))) : W p l e R s m args below meth c H locs cells slots Q (F0 m (pc) ls (st0)) := by
  have hF := zA_app (D := D) (H := H) hD (sz := H.size) (fun q h => hA q (Nat.le_trans hS.1 h))
  intro T hT X
  obtain ⟨v, st₀, t, T', L, h0, X', hL, e1, e2, ⟨⟨r', w1, hv, hp, hPt, hDt⟩, hz, hk⟩, st⟩ := hr T hT X
  cases hv
  rw [h0] at hz hk
  rw [← e1] at hz hPt
  have hk' : ∀ q : Nat, q < H.size → ¬ va_A wc H.size q → T'.heap[q]? = H[q]? := fun q h1 h2 => by rw [e1]; exact hk q h1 h2
  obtain ⟨j1, j2⟩ := zjoin hP hD hF hk' hPt hDt
  obtain ⟨t2, a1, b1⟩ := kk v w1 T'.heap (locs ++ L) hp j1 j2
    ⟨Nat.le_trans hS.1 hz, fun q h1 h2 => by rw [hk' q (Nat.lt_of_lt_of_le h1 hS.1) (fun z => h2 (hF q z))]; exact hS.2.1 q h1 h2, fun q hq => by
      rcases List.mem_append.mp hq with h | h
      · exact hS.2.2 q h
      · exact hF _ (hL q h)⟩ T' rfl X'
  exact ⟨t2, st t2 a1, b1⟩
theorem z_pre {w : va_W} {av : List Value} {locs : List Loc} (hE : zE D ct ad A s s.heap) (hS : va_S A s.heap H locs) (hF : ∀ q, va_A w H.size q → A q) (hPc : va_P D vwCl w H) (hDc : va_D A w) : ∀ U : State, U.heap = H → s.WarmedH U.vm → zP D ct ad w H.size av av.toArray U := fun U hU hW =>
  ⟨rfl, by rw [hU], by rw [hU]; exact hPc, hE.call hW hS hU hF, hDc.weaken (fun _ _ _ _ => trivial)⟩
theorem z_callV {y : MethodName} {ws ws' : List Cond} {rm : Room} {bytes : ByteArray} {maxL nL n index : Nat} {ret : Option FieldType} {Ts : List Cond} {own : String} {As st0 : List Value} {lv : List (Nat × Value)} {b : Addr} {C : String} {q0 ci : Nat} {qc : vw_C} {fs : List Value} (pw r : va_W) {wc : va_W} (hx : p.tables.exec = Jvm.exec) (hb : c.code = cc) (hml : c.maxLocals = nL) (hown : s.vm.findClass own = some m.cls) (hts : ∀ z ∈ Ts, z.before args s = true) (hl : lv_has ls nL lv) (hE : zE D ct ad A s s.heap) (hS : va_S A s.heap H locs) (hA : ∀ q : Nat, s.heap.size ≤ q → A q) (hP : va_P D vwCl (pw ++ (wc ++ r)) H) (hD : va_D A (pw ++ (wc ++ r)))
    (hM : ZM l y ws rm D ct ad (.ref b :: As) wc post) (hG : GoodIn Ts (wsV own index C y ws)) (hw : ws = Cond.code y bytes maxL ret :: ws') (hC : y.cls = C) (hd : y.cls ≠ "java/lang/invoke/MethodHandle" ∧ y.cls ≠ "java/lang/invoke/VarHandle" ∧ (parseMethodDescriptor y.desc).map (fun d => d.parameters.length) = some n) (hR : rm.frames + 1 ≤ R.frames ∧ 8 + (maxL + 11) + rm.locals ≤ R.locals) (hrecv : wc[q0]? = some (b, .inr (ci, fs))) (hci : vwCl[ci]? = some qc) (hqc : qc.1 = C) (hn : As.length = n) (hroom : (rest.map fun v => v.category).sum ≤ 8) (hf : cells + rm.cells ≤ R.cells ∧ slots + rm.slots ≤ R.slots) (hdg : decode cc pc = .ok (.invokevirtual index, 3)) (hst0 : st0 = As.reverse ++ .ref b :: rest)
    (kk : ∀ (v : Option Value) (w1 : va_W) (H1 : Heap) (locs1 : List Loc), post v w1 → va_P D vwCl (pw ++ (w1 ++ r)) H1 → va_D A (pw ++ (w1 ++ r)) → va_S A s.heap H1 locs1 → W p l e R s m args below meth c H1 locs1 (cells + rm.cells) (slots + rm.slots) Q (F0 m (pc + 3) ls (v.toList ++ rest))) : W p l e R s m args below meth c H locs cells slots Q (F0 m (pc) ls (st0)) := by
  subst hst0
  have hF := zA_app (D := D) (H := H) hD (sz := H.size) (fun q h => hA q (Nat.le_trans hS.1 h))
  have hPc := zsub hP
  have hDc := zsubD hD
  subst hC
  exact z_callR pw r (va_runV (As := As) (rest := rest) ⟨hx, hb, hml, hown, hts⟩ (hM H.size) (cwV n hts hG hw rfl rfl ⟨rfl, hd⟩ hR) ⟨zP_blind, by rw [← hqc]; exact va_recv hE.1 hPc hci hrecv, z_pre hE hS hF hPc hDc⟩ rfl hn hl.1 rfl (lv_room hroom) hdg hf) hS hA hP hD kk
theorem z_callS {y : MethodName} {ws ws' : List Cond} {rm : Room} {bytes : ByteArray} {maxL nL n index : Nat} {ret : Option FieldType} {Ts : List Cond} {own : String} {As st0 : List Value} {lv : List (Nat × Value)} (pw r : va_W) {wc : va_W} (hx : p.tables.exec = Jvm.exec) (hb : c.code = cc) (hml : c.maxLocals = nL) (hown : s.vm.findClass own = some m.cls) (hts : ∀ z ∈ Ts, z.before args s = true) (hl : lv_has ls nL lv) (hE : zE D ct ad A s s.heap) (hS : va_S A s.heap H locs) (hA : ∀ q : Nat, s.heap.size ≤ q → A q) (hP : va_P D vwCl (pw ++ (wc ++ r)) H) (hD : va_D A (pw ++ (wc ++ r)))
    (hM : ZM l y ws rm D ct ad (As) wc post) (hG : GoodIn Ts (va_wsS own index y ws)) (hw : ws = Cond.code y bytes maxL ret :: ws') (hd : y.cls ≠ "java/lang/invoke/MethodHandle" ∧ y.cls ≠ "java/lang/invoke/VarHandle" ∧ (parseMethodDescriptor y.desc).map (fun d => d.parameters.length) = some n) (hR : rm.frames + 1 ≤ R.frames ∧ 8 + (maxL + 11) + rm.locals ≤ R.locals) (hn : As.length = n) (hroom : (rest.map fun v => v.category).sum ≤ 8) (hf : cells + rm.cells ≤ R.cells ∧ slots + rm.slots ≤ R.slots) (hdg : decode cc pc = .ok (.invokestatic index, 3)) (hst0 : st0 = As.reverse ++ rest)
    (kk : ∀ (v : Option Value) (w1 : va_W) (H1 : Heap) (locs1 : List Loc), post v w1 → va_P D vwCl (pw ++ (w1 ++ r)) H1 → va_D A (pw ++ (w1 ++ r)) → va_S A s.heap H1 locs1 → W p l e R s m args below meth c H1 locs1 (cells + rm.cells) (slots + rm.slots) Q (F0 m (pc + 3) ls (v.toList ++ rest))) : W p l e R s m args below meth c H locs cells slots Q (F0 m (pc) ls (st0)) := by
  subst hst0
  have hF := zA_app (D := D) (H := H) hD (sz := H.size) (fun q h => hA q (Nat.le_trans hS.1 h))
  have hPc := zsub hP
  have hDc := zsubD hD
  exact z_callR pw r (va_runS (As := As) (rest := rest) ⟨hx, hb, hml, hown, hts⟩ (hM H.size) (va_cwS n hts hG hw rfl rfl hd hR) ⟨zP_blind, z_pre hE hS hF hPc hDc⟩ rfl hn hl.1 rfl (lv_room hroom) hdg hf) hS hA hP hD kk
theorem z_callSN {y : MethodName} {ws ws' : List Cond} {rm : Room} {bytes : ByteArray} {maxL nL n index : Nat} {ret : Option FieldType} {Ts : List Cond} {own : String} {As st0 : List Value} {lv : List (Nat × Value)} {host : String} (pw r : va_W) {wc : va_W} (hx : p.tables.exec = Jvm.exec) (hb : c.code = cc) (hml : c.maxLocals = nL) (hown : s.vm.findClass own = some m.cls) (hts : ∀ z ∈ Ts, z.before args s = true) (hl : lv_has ls nL lv) (hE : zE D ct ad A s s.heap) (hS : va_S A s.heap H locs) (hA : ∀ q : Nat, s.heap.size ≤ q → A q) (hP : va_P D vwCl (pw ++ (wc ++ r)) H) (hD : va_D A (pw ++ (wc ++ r)))
    (hM : ZM l y ws rm D ct ad (As) wc post) (hG : GoodIn Ts ws) (hw : ws = Cond.code y bytes maxL ret :: ws') (hd : y.cls ≠ "java/lang/invoke/MethodHandle" ∧ y.cls ≠ "java/lang/invoke/VarHandle" ∧ (parseMethodDescriptor y.desc).map (fun d => d.parameters.length) = some n) (hR : rm.frames + 1 ≤ R.frames ∧ 8 + (maxL + 11) + rm.locals ≤ R.locals) (hlk : va_Nw (.methodLinkNest own index y host) s) (hini : (Cond.initialized y.cls).before args s = true) (hst : (Cond.static y).before args s = true) (hn : As.length = n) (hroom : (rest.map fun v => v.category).sum ≤ 8) (hf : cells + rm.cells ≤ R.cells ∧ slots + rm.slots ≤ R.slots) (hdg : decode cc pc = .ok (.invokestatic index, 3)) (hst0 : st0 = As.reverse ++ rest)
    (kk : ∀ (v : Option Value) (w1 : va_W) (H1 : Heap) (locs1 : List Loc), post v w1 → va_P D vwCl (pw ++ (w1 ++ r)) H1 → va_D A (pw ++ (w1 ++ r)) → va_S A s.heap H1 locs1 → W p l e R s m args below meth c H1 locs1 (cells + rm.cells) (slots + rm.slots) Q (F0 m (pc + 3) ls (v.toList ++ rest))) : W p l e R s m args below meth c H locs cells slots Q (F0 m (pc) ls (st0)) := by
  subst hst0
  have hF := zA_app (D := D) (H := H) hD (sz := H.size) (fun q h => hA q (Nat.le_trans hS.1 h))
  have hPc := zsub hP
  have hDc := zsubD hD
  exact z_callR pw r (va_runSN (As := As) (rest := rest) ⟨hx, hb, hml, hown, hts⟩ (hM H.size) ⟨va_cnB n hts hG hw rfl rfl hlk hini hd hR, hst, trivial⟩ ⟨zP_blind, z_pre hE hS hF hPc hDc⟩ rfl hn hl.1 rfl (lv_room hroom) hdg hf) hS hA hP hD kk
theorem z_callI {y : MethodName} {ws ws' : List Cond} {rm : Room} {bytes : ByteArray} {maxL nL n index : Nat} {ret : Option FieldType} {Ts : List Cond} {own : String} {As st0 : List Value} {lv : List (Nat × Value)} {b : Addr} (pw r : va_W) {wc : va_W} (hx : p.tables.exec = Jvm.exec) (hb : c.code = cc) (hml : c.maxLocals = nL) (hown : s.vm.findClass own = some m.cls) (hts : ∀ z ∈ Ts, z.before args s = true) (hl : lv_has ls nL lv) (hE : zE D ct ad A s s.heap) (hS : va_S A s.heap H locs) (hA : ∀ q : Nat, s.heap.size ≤ q → A q) (hP : va_P D vwCl (pw ++ (wc ++ r)) H) (hD : va_D A (pw ++ (wc ++ r)))
    (hM : ZM l y ws rm D ct ad (.ref b :: As) wc post) (hG : GoodIn Ts ws) (hw : ws = Cond.code y bytes maxL none :: ws') (hd : y.cls ≠ "java/lang/invoke/MethodHandle" ∧ y.cls ≠ "java/lang/invoke/VarHandle" ∧ (parseMethodDescriptor y.desc).map (fun d => d.parameters.length) = some n) (hR : rm.frames + 1 ≤ R.frames ∧ 8 + (maxL + 11) + rm.locals ≤ R.locals) (hini : (Cond.initialized y.cls).before args s = true) (hlk : (Cond.methodLink own index y).before args s = true) (hin : (Cond.instanceMethod y).before args s = true) (hy1 : y.name = "<init>") (hn : As.length = n) (hroom : (rest.map fun v => v.category).sum ≤ 8) (hf : cells + rm.cells ≤ R.cells ∧ slots + rm.slots ≤ R.slots) (hdg : decode cc pc = .ok (.invokespecial index, 3)) (hst0 : st0 = As.reverse ++ .ref b :: rest)
    (kk : ∀ (v : Option Value) (w1 : va_W) (H1 : Heap) (locs1 : List Loc), post v w1 → va_P D vwCl (pw ++ (w1 ++ r)) H1 → va_D A (pw ++ (w1 ++ r)) → va_S A s.heap H1 locs1 → W p l e R s m args below meth c H1 locs1 (cells + rm.cells) (slots + rm.slots) Q (F0 m (pc + 3) ls (v.toList ++ rest))) : W p l e R s m args below meth c H locs cells slots Q (F0 m (pc) ls (st0)) := by
  subst hst0
  have hF := zA_app (D := D) (H := H) hD (sz := H.size) (fun q h => hA q (Nat.le_trans hS.1 h))
  have hPc := zsub hP
  have hDc := zsubD hD
  exact z_callR pw r (va_runI (As := As) (rest := rest) ⟨hx, hb, hml, hown, hts⟩ (hM H.size) (cwI n hts hG hw rfl rfl hini hlk hin hy1 hd hR) ⟨zP_blind, z_pre hE hS hF hPc hDc⟩ rfl hn hl.1 rfl (lv_room hroom) hdg hf) hS hA hP hD kk
theorem z_callIN {y : MethodName} {ws ws' : List Cond} {rm : Room} {bytes : ByteArray} {maxL nL n index : Nat} {ret : Option FieldType} {Ts : List Cond} {own : String} {As st0 : List Value} {lv : List (Nat × Value)} {b : Addr} {host : String} (pw r : va_W) {wc : va_W} (hx : p.tables.exec = Jvm.exec) (hb : c.code = cc) (hml : c.maxLocals = nL) (hown : s.vm.findClass own = some m.cls) (hts : ∀ z ∈ Ts, z.before args s = true) (hl : lv_has ls nL lv) (hE : zE D ct ad A s s.heap) (hS : va_S A s.heap H locs) (hA : ∀ q : Nat, s.heap.size ≤ q → A q) (hP : va_P D vwCl (pw ++ (wc ++ r)) H) (hD : va_D A (pw ++ (wc ++ r)))
    (hM : ZM l y ws rm D ct ad (.ref b :: As) wc post) (hG : GoodIn Ts ws) (hw : ws = Cond.code y bytes maxL none :: ws') (hd : y.cls ≠ "java/lang/invoke/MethodHandle" ∧ y.cls ≠ "java/lang/invoke/VarHandle" ∧ (parseMethodDescriptor y.desc).map (fun d => d.parameters.length) = some n) (hR : rm.frames + 1 ≤ R.frames ∧ 8 + (maxL + 11) + rm.locals ≤ R.locals) (hlk : va_Nw (.methodLinkNest own index y host) s) (hini : (Cond.initialized y.cls).before args s = true) (hin : (Cond.instanceMethod y).before args s = true) (hy1 : y.name = "<init>") (hn : As.length = n) (hroom : (rest.map fun v => v.category).sum ≤ 8) (hf : cells + rm.cells ≤ R.cells ∧ slots + rm.slots ≤ R.slots) (hdg : decode cc pc = .ok (.invokespecial index, 3)) (hst0 : st0 = As.reverse ++ .ref b :: rest)
    (kk : ∀ (v : Option Value) (w1 : va_W) (H1 : Heap) (locs1 : List Loc), post v w1 → va_P D vwCl (pw ++ (w1 ++ r)) H1 → va_D A (pw ++ (w1 ++ r)) → va_S A s.heap H1 locs1 → W p l e R s m args below meth c H1 locs1 (cells + rm.cells) (slots + rm.slots) Q (F0 m (pc + 3) ls (v.toList ++ rest))) : W p l e R s m args below meth c H locs cells slots Q (F0 m (pc) ls (st0)) := by
  subst hst0
  have hF := zA_app (D := D) (H := H) hD (sz := H.size) (fun q h => hA q (Nat.le_trans hS.1 h))
  have hPc := zsub hP
  have hDc := zsubD hD
  exact z_callR pw r (va_runIN (As := As) (rest := rest) ⟨hx, hb, hml, hown, hts⟩ (hM H.size) ⟨va_cnB n hts hG hw rfl rfl hlk hini hd hR, hy1, hin⟩ ⟨zP_blind, z_pre hE hS hF hPc hDc⟩ rfl hn hl.1 rfl (lv_room hroom) hdg hf) hS hA hP hD kk
theorem z_put {own ref C : String} {T : u_T} {N ci index : Nat} {Ts : List Cond} {a : Nat} {w2 : va_W} (hx : p.tables.exec = Jvm.exec) (hb : c.code = cc) (hts : ∀ z ∈ Ts, z.before args s = true) (hin : ∀ z ∈ u_ws C T N, z ∈ Ts) (ty0 : Nat → FieldType) (hty : ∀ k, k < N → parseFieldDescriptor (T k).2.2.1 = some (ty0 k)) (hnm : ∀ a, a < N → ∀ b, b < N → a ≠ b → (T a).2.1 ≠ (T b).2.1) (hown : s.vm.findClass own = some m.cls) (hE : zE D ct ad A s s.heap) (hP : va_P D vwCl ws H) (hD : va_D A ws) (hS : va_S A s.heap H locs) (q0 : Nat) {fs : List Value} (he : ws[q0]? = some (a, .inr (ci, fs))) (hc : vwCl[ci]? = some (C, T, N)) (k : Nat) (hk : k < N) (hlink : (Cond.fieldLink own index ref (T k).2.1 (T k).2.2.1).before args s = true) (hsame : ∀ x, s.fieldFound? (T k).1 (T k).2.1 (T k).2.2.1 = some x → s.fieldFound? ref (T k).2.1 (T k).2.2.1 = some x) (hfin : (T k).2.2.2 = false) {ty : FieldType} {v : Value} (hd : parseFieldDescriptor (T k).2.2.1 = some ty) (hn : narrow ty v = v) (hfit : fits ty v = true) (hl : k < fs.length)
    (hdg : decode cc pc = .ok (.putfield index, 3)) (hw : ws.set q0 (a, .inr (ci, fs.set k v)) = w2) (kk : ∀ (H1 : Heap) (locs1 : List Loc), va_P D vwCl w2 H1 → va_D A w2 → va_S A s.heap H1 locs1 → W p l e R s m args below meth c H1 locs1 cells slots Q (F0 m (pc + 3) ls (rest))) : W p l e R s m args below meth c H locs cells slots Q (F0 m (pc) ls (v :: .ref a :: rest)) := by
  subst hw
  exact va_put hx hb hts hin ty0 hty hnm hown hE.1 hP hD hS q0 he hc k hk hlink hsame hfin hd hn hfit hl hdg kk
/-- a loop, or a place where roads meet: by what stands there, for every x with I x -/
theorem z_loop {σ : Type} {nL : Nat} {st0 : List Value} (μ : σ → Nat) (I : σ → Prop) (w : σ → va_W) (lv : σ → List (Nat × Value)) (st : σ → List Value) (x0 : σ) (h0 : I x0) (hP : va_P D vwCl (w x0) H) (hD : va_D A (w x0)) (hS : va_S A s.heap H locs) (hl : lv_has ls nL (lv x0)) (hst : st0 = st x0)
    (body : ∀ x : σ, I x → (∀ y : σ, I y → μ y < μ x → ∀ (H : Heap) (locs : List Loc) (ls : Array Slot), va_P D vwCl (w y) H → va_D A (w y) → va_S A s.heap H locs → lv_has ls nL (lv y) → W p l e R s m args below meth c H locs cells slots Q (F0 m (pc) ls (st y))) →
      ∀ (H : Heap) (locs : List Loc) (ls : Array Slot), va_P D vwCl (w x) H → va_D A (w x) → va_S A s.heap H locs → lv_has ls nL (lv x) → W p l e R s m args below meth c H locs cells slots Q (F0 m (pc) ls (st x))) : W p l e R s m args below meth c H locs cells slots Q (F0 m (pc) ls (st0)) := by
  subst hst
  have go : ∀ (n : Nat) (x : σ), μ x < n → I x → ∀ (H : Heap) (locs : List Loc) (ls : Array Slot), va_P D vwCl (w x) H → va_D A (w x) → va_S A s.heap H locs → lv_has ls nL (lv x) → W p l e R s m args below meth c H locs cells slots Q (F0 m (pc) ls (st x)) := by
    intro n
    induction n with
    | zero => intro x hx; exact absurd hx (Nat.not_lt_zero _)
    | succ n ih => exact fun x hx hI => body x hI (fun y hy hlt => ih y (by omega) hy)
  exact go (μ x0 + 1) x0 (Nat.lt_succ_self _) h0 H locs ls hP hD hS hl
end ZROW
