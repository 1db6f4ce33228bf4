/-! strings that stand in the program: their letters -/
def zLn (k : Nat) : Int := ((zWlen.getD k 0 : Nat) : Int)
def zCh (k j : Nat) : Int := ((zWbyt.getD k []).getD j 0).toInt
theorem zCh_B (k j : Nat) (h : k < 12) : 0 ≤ zCh k j ∧ zCh k j ≤ 127 := by
  have e : ∀ (k : Fin 12) (j : Fin 5), 0 ≤ zCh k.val j.val ∧ zCh k.val j.val ≤ 127 := by decide +kernel
  by_cases hj : j < 5
  · exact e ⟨k, h⟩ ⟨j, hj⟩
  · have z : ∀ k : Fin 12, (zWbyt.getD k.val []).length ≤ 5 := by decide +kernel
    have q := z ⟨k, h⟩
    have q2 : (zWbyt.getD k []).length ≤ j := by
      show (zWbyt.getD k []).length ≤ j
      have : (zWbyt.getD k []).length ≤ 5 := q
      omega
    have e2 : (zWbyt.getD k []).getD j 0 = 0 := by
      rw [List.getD_eq_getElem?_getD, List.getElem?_eq_none q2]
      rfl
    unfold zCh
    rw [e2]
    decide
theorem zLn_B (k : Nat) (h : k < 12) : 2 ≤ zLn k ∧ zLn k ≤ 5 := by
  have e : ∀ k : Fin 12, 2 ≤ zLn k.val ∧ zLn k.val ≤ 5 := by decide +kernel
  exact e ⟨k, h⟩
theorem zLn_w (k : Nat) (h : k < 12) : wlen (k : Int) = zLn k := by
  have e : ∀ k : Fin 12, wlen ((k.val : Nat) : Int) = zLn k.val := by decide +kernel
  exact e ⟨k, h⟩
theorem zCh_w (k : Nat) (h : k < 12) : (wls (k : Int)).1 = zCh k 0 ∧ (wls (k : Int)).2.1 = zCh k 1 ∧ (2 < zLn k → (wls (k : Int)).2.2.1 = zCh k 2) ∧ (3 < zLn k → (wls (k : Int)).2.2.2.1 = zCh k 3) ∧ (4 < zLn k → (wls (k : Int)).2.2.2.2 = zCh k 4) := by
  have e : ∀ k : Fin 12, (wls ((k.val : Nat) : Int)).1 = zCh k.val 0 ∧ (wls ((k.val : Nat) : Int)).2.1 = zCh k.val 1 ∧ (2 < zLn k.val → (wls ((k.val : Nat) : Int)).2.2.1 = zCh k.val 2) ∧ (3 < zLn k.val → (wls ((k.val : Nat) : Int)).2.2.2.1 = zCh k.val 3) ∧ (4 < zLn k.val → (wls ((k.val : Nat) : Int)).2.2.2.2 = zCh k.val 4) := by decide +kernel
  exact e ⟨k, h⟩
theorem isW_of {TX : Int → Int} {s e : Int} {k : Nat} (hk : k < 12) : isW TX (k : Int) s e ↔ (e - s = zLn k ∧ ∀ j : Int, 0 ≤ j → j < zLn k → zCh k j.toNat = TX (s + j)) := by
  have a := zLn_w k hk
  have b := zCh_w k hk
  have l := zLn_B k hk
  unfold isW
  rw [a]
  constructor
  · rintro ⟨h1, h2, h3, h4, h5, h6⟩
    refine ⟨h1, fun j j0 j1 => ?_⟩
    rcases (show j = 0 ∨ j = 1 ∨ j = 2 ∨ j = 3 ∨ j = 4 by omega) with z | z | z | z | z <;> subst z
    · rw [Int.add_zero, h2]; exact b.1.symm
    · rw [h3]; exact b.2.1.symm
    · rw [h4 j1]; exact (b.2.2.1 j1).symm
    · rw [h5 j1]; exact (b.2.2.2.1 j1).symm
    · rw [h6 j1]; exact (b.2.2.2.2 j1).symm
  · rintro ⟨h1, h2⟩
    refine ⟨h1, ?_, ?_, fun z => ?_, fun z => ?_, fun z => ?_⟩
    · rw [b.1]; have q := h2 0 (by omega) (by omega); rw [Int.add_zero] at q; exact q.symm
    · rw [b.2.1]; exact (h2 1 (by omega) (by omega)).symm
    · rw [b.2.2.1 z]; exact (h2 2 (by omega) z).symm
    · rw [b.2.2.2.1 z]; exact (h2 3 (by omega) z).symm
    · rw [b.2.2.2.2 z]; exact (h2 4 (by omega) z).symm
theorem zI_and255 {v : Int} (h : 0 ≤ v ∧ v ≤ 127) : zI v &&& zI 255 = zI v := by
  have e : ∀ k : Fin 128, zI ((k.val : Nat) : Int) &&& zI 255 = zI ((k.val : Nat) : Int) := by decide +kernel
  have q := e ⟨v.toNat, by omega⟩
  rw [show (((⟨v.toNat, by omega⟩ : Fin 128).val : Nat) : Int) = v from by show ((v.toNat : Nat) : Int) = v; omega] at q
  exact q
theorem zI_chr {v : Int} (h : 0 ≤ v ∧ v ≤ 127) : ((zI v).toUInt32 % 65536).toInt32 = zI v := by
  have e : ∀ k : Fin 128, ((zI ((k.val : Nat) : Int)).toUInt32 % 65536).toInt32 = zI ((k.val : Nat) : Int) := by decide +kernel
  have q := e ⟨v.toNat, by omega⟩
  rw [show (((⟨v.toNat, by omega⟩ : Fin 128).val : Nat) : Int) = v from by show ((v.toNat : Nat) : Int) = v; omega] at q
  exact q
theorem zI_chn {v : Int} (h : 0 ≤ v ∧ v ≤ 127) : narrow .char (.int (zI v)) = .int (zI v) := by
  have e : ∀ k : Fin 128, narrow .char (.int (zI ((k.val : Nat) : Int))) = .int (zI ((k.val : Nat) : Int)) := by
    have q : ∀ k : Fin 128, vp_nar .char (zI ((k.val : Nat) : Int)) = zI ((k.val : Nat) : Int) := by decide +kernel
    intro k
    exact congrArg Value.int (q k)
  have q := e ⟨v.toNat, by omega⟩
  rw [show (((⟨v.toNat, by omega⟩ : Fin 128).val : Nat) : Int) = v from by show ((v.toNat : Nat) : Int) = v; omega] at q
  exact q
theorem zI_shr0 {v : Int} (h : 0 ≤ v ∧ v ≤ 127) : zI v >>> (zI 0 &&& 31) = zI v := by
  have e : ∀ k : Fin 128, zI ((k.val : Nat) : Int) >>> (zI 0 &&& 31) = zI ((k.val : Nat) : Int) := by decide +kernel
  have q := e ⟨v.toNat, by omega⟩
  rw [show (((⟨v.toNat, by omega⟩ : Fin 128).val : Nat) : Int) = v from by show ((v.toNat : Nat) : Int) = v; omega] at q
  exact q
section ZROW3
variable {p : Program} {l : Launch} {e : Env} {R : Room} {s : State} {m : MethodId} {args : Array Value} {below : List Frame} {meth : Method} {c : Code} {H : Heap} {locs : List Loc} {cells slots : Nat} {Q : State → Prop}
variable {cc : ByteArray} {pc : Nat} {ls : Array Slot} {rest : List Value} {D : va_G} {ct ad : Nat → Nat} {A : Nat → Prop} {ws : va_W} {post : Option Value → va_W → Prop} {mc ms : Nat}
theorem z_ishr0 {a : Int} (hx : p.tables.exec = Jvm.exec) (hb : c.code = cc) (hdg : decode cc pc = .ok (.ishr, 1)) (h : 0 ≤ a ∧ a ≤ 127)
    (k : W p l e R s m args below meth c H locs cells slots Q (F0 m (pc + 1) ls (.int (zI a) :: rest))) : W p l e R s m args below meth c H locs cells slots Q (F0 m (pc) ls (.int (zI 0) :: .int (zI a) :: rest)) := lv_ishr hx hb hdg (by rw [zI_shr0 h]; exact k)
theorem z_and255 {v : Int} (hx : p.tables.exec = Jvm.exec) (hb : c.code = cc) (hdg : decode cc pc = .ok (.iand, 1)) (h : 0 ≤ v ∧ v ≤ 127)
    (k : W p l e R s m args below meth c H locs cells slots Q (F0 m (pc + 1) ls (.int (zI v) :: rest))) : W p l e R s m args below meth c H locs cells slots Q (F0 m (pc) ls (.int (zI 255) :: .int (zI v) :: rest)) := lv_iand hx hb hdg (by rw [zI_and255 h]; exact k)
theorem z_i2c {v : Int} (hx : p.tables.exec = Jvm.exec) (hb : c.code = cc) (hdg : decode cc pc = .ok (.i2c, 1)) (h : 0 ≤ v ∧ v ≤ 127)
    (k : W p l e R s m args below meth c H locs cells slots Q (F0 m (pc + 1) ls (.int (zI v) :: rest))) : W p l e R s m args below meth c H locs cells slots Q (F0 m (pc) ls (.int (zI v) :: rest)) := lv_i2c hx hb hdg (zI_chr h) k
theorem z_sbald {t k : Nat} {i : Int} (hx : p.tables.exec = Jvm.exec) (hb : c.code = cc) (hT : va_T .byte t (zWlen.getD k 0) (fun j => .int ((zWbyt.getD k []).getD j 0)) A s s.heap) (hS : va_S A s.heap H locs) (hk : k < 12) (hi : 0 ≤ i ∧ i < zLn k) (hdg : decode cc pc = .ok (.baload, 1))
    (kk : W p l e R s m args below meth c H locs cells slots Q (F0 m (pc + 1) ls (.int (zI (zCh k i.toNat)) :: rest))) : W p l e R s m args below meth c H locs cells slots Q (F0 m (pc) ls (.int (zI i) :: .ref t :: rest)) := by
  have l := zLn_B k hk
  refine va_tb hx hb hT hS (zI_in (n := zWlen.getD k 0) hi (by unfold zLn at l; omega)) ?_ hdg kk
  rw [zI_clamp (by omega)]
  show Value.int _ = Value.int (zI _)
  unfold zCh zI
  rw [Int32.ofInt_toInt]
theorem z_callVS {y : MethodName} {ws ws' : List Cond} {rm : Room} {bytes : ByteArray} {maxL nL n index : Nat} {ret : Option FieldType} {Ts : List Cond} {own : String} {As st0 : List Value} {lv : List (Nat × Value)} {b : Addr} {C : String} (pw r : va_W) {wc : va_W} (hx : p.tables.exec = Jvm.exec) (hb : c.code = cc) (hml : c.maxLocals = nL) (hown : s.vm.findClass own = some m.cls) (hts : ∀ z ∈ Ts, z.before args s = true) (hl : lv_has ls nL lv) (hE : zE D ct ad A s s.heap) (hS : va_S A s.heap H locs) (hA : ∀ q : Nat, s.heap.size ≤ q → A q) (hP : va_P D vwCl (pw ++ (wc ++ r)) H) (hD : va_D A (pw ++ (wc ++ r)))
    (hM : ZM l y ws rm D ct ad (.ref b :: As) wc post) (hG : GoodIn Ts (wsV own index C y ws)) (hw : ws = Cond.code y bytes maxL ret :: ws') (hC : y.cls = C) (hd : y.cls ≠ "java/lang/invoke/MethodHandle" ∧ y.cls ≠ "java/lang/invoke/VarHandle" ∧ (parseMethodDescriptor y.desc).map (fun d => d.parameters.length) = some n) (hR : rm.frames + 1 ≤ R.frames ∧ 8 + (maxL + 11) + rm.locals ≤ R.locals) (hrecv : ∃ cell : Cell, H[b]? = some cell ∧ cell.vm.isStatics = false ∧ s.vm.findClass C = some cell.cls) (hn : As.length = n) (hroom : (rest.map fun v => v.category).sum ≤ 8) (hf : cells + rm.cells ≤ R.cells ∧ slots + rm.slots ≤ R.slots) (hdg : decode cc pc = .ok (.invokevirtual index, 3)) (hst0 : st0 = As.reverse ++ .ref b :: rest)
    (kk : ∀ (v : Option Value) (w1 : va_W) (H1 : Heap) (locs1 : List Loc), post v w1 → va_P D vwCl (pw ++ (w1 ++ r)) H1 → va_D A (pw ++ (w1 ++ r)) → va_S A s.heap H1 locs1 → W p l e R s m args below meth c H1 locs1 (cells + rm.cells) (slots + rm.slots) Q (F0 m (pc + 3) ls (v.toList ++ rest))) : W p l e R s m args below meth c H locs cells slots Q (F0 m (pc) ls (st0)) := by
  subst hst0
  have hF := zA_app (D := D) (H := H) hD (sz := H.size) (fun q h => hA q (Nat.le_trans hS.1 h))
  have hPc := zsub hP
  have hDc := zsubD hD
  subst hC
  exact z_callR pw r (va_runV (As := As) (rest := rest) ⟨hx, hb, hml, hown, hts⟩ (hM H.size) (cwV n hts hG hw rfl rfl ⟨rfl, hd⟩ hR) ⟨zP_blind, hrecv, z_pre hE hS hF hPc hDc⟩ rfl hn hl.1 rfl (lv_room hroom) hdg hf) hS hA hP hD kk
end ZROW3
