/-! a new object: what its cells hold -/
def zM0 : Int → Int := fun j => if j = 0 then 994000 else if j = 1 then 4 else if j = 2 then 20 else if j = 3 then 2 else if j = 6 then 200 else if j = 8 then 192 else if j = 16 then 115 else if j = 17 then 190 else if 49 ≤ j ∧ j ≤ 53 then 200 else 0
theorem sInv_0 : sInv zM0 := by
  refine ⟨⟨by decide, by decide, fun k h1 h2 => ?_, fun k h1 h2 => ?_, fun k h1 h2 => ?_⟩, ⟨by decide, by decide, by decide, fun k h1 h2 => ?_, by decide⟩, by decide⟩
  · rcases (show k = 0 ∨ k = 1 ∨ k = 2 ∨ k = 3 ∨ k = 4 ∨ k = 5 by omega) with z | z | z | z | z | z <;> subst z <;> decide
  · rcases (show k = 0 ∨ k = 1 ∨ k = 2 ∨ k = 3 ∨ k = 4 ∨ k = 5 ∨ k = 6 ∨ k = 7 ∨ k = 8 by omega) with z | z | z | z | z | z | z | z | z <;> subst z <;> decide
  · have e : zM0 4 = 0 := rfl
    omega
  · rcases (show k = 0 ∨ k = 1 ∨ k = 2 ∨ k = 3 ∨ k = 4 by omega) with z | z | z | z | z <;> subst z <;> decide
def f1W (h : Nat) : va_W := [(h, .inr (0, [.null, .null, .int (zI 0), .int (zI 0), .int (zI 0), .int (zI 0), .int (zI 0), .int (zI 0), .int (zI 0), .long (zJ 0), .long (zJ 0), .int (zI 0)]))]
def f2W (h : Nat) : va_W := [(h, .inr (1, [.null, .int (zI 0), .int (zI 0), .int (zI 0), .null, .int (zI 0), .int (zI 0)]))]
def f3W (h : Nat) : va_W := [(h, .inr (2, [.int (zI 0), .null]))]
def f4W (h : Nat) : va_W := [(h, .inr (3, [.int (zI 0), .null, .int (zI 0), .null, .null, .null]))]
def f5W (h : Nat) : va_W := [(h, .inr (4, [.null, .int (zI 0), .int (zI 0)]))]
def f6W (h : Nat) : va_W := [(h, .inr (5, [.null, .null, .null]))]
def f8W (h : Nat) : va_W := [(h, .inr (6, [.null, .null, .null]))]
def f9W (h : Nat) : va_W := [(h, .inr (7, [.null, .null, .null, .int (zI 0), .null, .int (zI 0), .int (zI 0), .int (zI 0), .int (zI 0), .null, .long (zJ 0)]))]
def b1W (h q7 q8 : Nat) : va_W := [(h, .inr (0, [.ref q7, .ref q8, .int (zI 0), .int (zI 200), .int (zI 0), .int (zI 192), .int (zI 0), .int (zI 0), .int (zI 0), .long (zJ 0), .long (zJ 0), .int (zI 0)]))]
def m9W (h q1 q2 q3 q4 q5 : Nat) : va_W := [(h, .inr (7, [.ref q1, .ref q2, .ref q3, .int (zI 0), .ref q4, .int (zI 0), .int (zI 0), .int (zI 0), .int (zI 0), .ref q5, .long (zJ 0)]))]
def gA (h q2 q3 q4 q5 : Nat) : Nat → Nat := fun k => match k with
  | 1 => h
  | 2 => q2
  | 3 => q3
  | 4 => q4
  | _ => q5
def bA (h q7 q8 : Nat) : Nat → Nat := fun k => match k with
  | 6 => h
  | 7 => q7
  | _ => q8
def lA (h q10 : Nat) : Nat → Nat := fun k => match k with
  | 9 => h
  | _ => q10
def sA (h : Nat) (g b l : Nat → Nat) : Nat → Nat := fun k => match k with
  | 0 => h
  | 1 => g 1
  | 2 => g 2
  | 3 => g 3
  | 4 => g 4
  | 5 => g 5
  | 6 => b 6
  | 7 => b 7
  | 8 => b 8
  | 9 => l 9
  | _ => l 10
def tA (h q1 : Nat) : Nat → Nat := fun k => match k with
  | 0 => h
  | _ => q1
def rA4 (a0 a1 a2 a3 : Nat → Nat) : Nat → Nat → Nat := fun k => match k with
  | 0 => a0
  | 1 => a1
  | 2 => a2
  | _ => a3
def mA (h q1 q2 q3 q4 q5 : Nat) : Nat → Nat := fun k => match k with
  | 0 => h
  | 1 => q1
  | 2 => q2
  | 3 => q3
  | 4 => q4
  | _ => q5
theorem gridW_0 {ct : Nat → Nat} {h q2 q3 q4 q5 : Nat} : ([(h, .inr (3, [.int (zI 2), .ref q2, .int (zI 0), .ref q3, .ref q4, .ref q5]))] : va_W) ++ (irW ct q2 6 (up (up (fun _ => 0) 0 115) 1 190) ++ (irW ct q3 9 (fun _ => 0) ++ (irW ct q4 9 (fun _ => 0) ++ (irW ct q5 9 (fun _ => 0))))) = gridW ct (gA h q2 q3 q4 q5) zM0 := by
  have e2 : irW ct q2 6 (up (up (fun _ => 0) 0 115) 1 190) = irW ct q2 6 (fun x => zM0 (16 + x)) := irW_eq fun x h1 h2 => by
    unfold zM0 up
    dsimp only
    (repeat' split) <;> omega
  have e3 : ∀ q : Nat, irW ct q 9 (fun _ => 0) = irW ct q 9 (fun x => zM0 (22 + 3 * x)) := fun q => irW_eq fun x h1 h2 => by
    unfold zM0
    (repeat' split) <;> omega
  have e4 : ∀ q : Nat, irW ct q 9 (fun _ => 0) = irW ct q 9 (fun x => zM0 (23 + 3 * x)) := fun q => irW_eq fun x h1 h2 => by
    unfold zM0
    (repeat' split) <;> omega
  have e5 : ∀ q : Nat, irW ct q 9 (fun _ => 0) = irW ct q 9 (fun x => zM0 (24 + 3 * x)) := fun q => irW_eq fun x h1 h2 => by
    unfold zM0
    (repeat' split) <;> omega
  rw [e2, e3 q3, e4 q4, e5 q5]
  rfl
theorem benchW_0 {ct : Nat → Nat} {h q7 q8 : Nat} {U : Int → Int} (hU : ∀ x : Int, 0 ≤ x → x < 5 → U x = 200) : b1W h q7 q8 ++ (irW ct q7 5 U ++ (irW ct q8 3 (up (up (up (fun _ => 0) 0 994000) 1 4) 2 20))) = benchW ct (bA h q7 q8) zM0 := by
  have e2 : irW ct q7 5 U = irW ct q7 5 (fun x => zM0 (49 + x)) := irW_eq fun x h1 h2 => by
    rw [hU x h1 h2]
    unfold zM0
    (repeat' split) <;> omega
  have e3 : irW ct q8 3 (up (up (up (fun _ => 0) 0 994000) 1 4) 2 20) = irW ct q8 3 (fun x => zM0 x) := irW_eq fun x h1 h2 => by
    unfold zM0 up
    dsimp only
    (repeat' split) <;> omega
  rw [e2, e3]
  rfl
theorem logW_0 {ct : Nat → Nat} {h q10 : Nat} : ([(h, .inr (2, [.int (zI 0), .ref q10]))] : va_W) ++ (jrW ct q10 40 (fun _ => 0)) = logW ct (lA h q10) zM0 := by
  have e2 : jrW ct q10 40 (fun _ => 0) = jrW ct q10 40 (fun x => zM0 (54 + x)) := jrW_eq fun x h1 h2 => by
    unfold zM0
    (repeat' split) <;> omega
  rw [e2]
  rfl
def mV0 : Int → Int := up (up (up (up (up (up (up (up (fun _ => 0) 0 994000) 1 4) 2 20) 3 2) 6 200) 8 192) 16 115) 17 190
theorem modW_0 {ct : Nat → Nat} {h q1 q2 q3 q4 q5 : Nat} {U : Int → Int} (hU : ∀ x : Int, U x = if 49 ≤ x ∧ x < 54 then 200 else mV0 x) : m9W h q1 q2 q3 q4 q5 ++ (jrW ct q1 94 U ++ (jrW ct q2 94 (fun _ => 0) ++ (jrW ct q3 376 (fun _ => 0) ++ (irW ct q4 150 (fun _ => 0) ++ (irW ct q5 2 (fun _ => 0)))))) = moW (mA h q1 q2 q3 q4 q5) 0 0 0 0 0 0 ++ (jrW ct (mA h q1 q2 q3 q4 q5 1) 94 zM0 ++ (jrW ct (mA h q1 q2 q3 q4 q5 2) 94 (fun _ => 0) ++ (jrW ct (mA h q1 q2 q3 q4 q5 3) 376 (fun _ => 0) ++ (irW ct (mA h q1 q2 q3 q4 q5 4) 150 (fun _ => 0) ++ (irW ct (mA h q1 q2 q3 q4 q5 5) 2 (fun _ => 0)))))) := by
  have e2 : jrW ct q1 94 U = jrW ct q1 94 zM0 := jrW_eq fun x h1 h2 => by
    rw [hU x]
    unfold zM0 mV0 up
    dsimp only
    (repeat' split) <;> omega
  rw [e2]
  rfl
/-! rows of constructors -/
def qnW (ct : Nat → Nat) (q : Nat) (f : Nat → Option Nat) : va_W := [(q, .inl (ct 3, 4, .inr (.inr (.inr (.inr f)))))]
section ZINI
variable {p : Program} {l : Launch} {e : Env} {R : Room} {s : State} {m : MethodId} {args : Array Value} {below : List Frame} {meth : Method} {c : Code} {H : Heap} {locs : List Loc} {cells slots : Nat} {Q : State → Prop}
variable {cc : ByteArray} {pc : Nat} {ls : Array Slot} {rest : List Value} {D : va_G} {ct ad : Nat → Nat} {A : Nat → Prop} {ws : va_W} {post : Option Value → va_W → Prop}
theorem z_putF {own ref C : String} {T : u_T} {N ci index : Nat} {Ts : List Cond} {a : Nat} {w2 : va_W} (hx : p.tables.exec = Jvm.exec) (hb : c.code = cc) (hts : ∀ z ∈ Ts, z.before args s = true) (hin : ∀ z ∈ u_ws C T N, z ∈ Ts) (ty0 : Nat → FieldType) (hty : ∀ k, k < N → parseFieldDescriptor (T k).2.2.1 = some (ty0 k)) (hnm : ∀ a, a < N → ∀ b, b < N → a ≠ b → (T a).2.1 ≠ (T b).2.1) (hown : s.vm.findClass own = some m.cls) (hE : zE D ct ad A s s.heap) (hP : va_P D vwCl ws H) (hD : va_D A ws) (hS : va_S A s.heap H locs) (q0 : Nat) {fs : List Value} (he : ws[q0]? = some (a, .inr (ci, fs))) (hc : vwCl[ci]? = some (C, T, N)) (k : Nat) (hk : k < N) (hlink : (Cond.fieldLink own index ref (T k).2.1 (T k).2.2.1).before args s = true) (hsame : ∀ x, s.fieldFound? (T k).1 (T k).2.1 (T k).2.2.1 = some x → s.fieldFound? ref (T k).2.1 (T k).2.2.1 = some x) (hfin : (T k).2.2.2 = true) (hin2 : meth.name = "<init>") (hdecl : (T k).1 = own) {ty : FieldType} {v : Value} (hd : parseFieldDescriptor (T k).2.2.1 = some ty) (hn : narrow ty v = v) (hfit : fits ty v = true) (hl : k < fs.length)
    (hdg : decode cc pc = .ok (.putfield index, 3)) (hw : ws.set q0 (a, .inr (ci, fs.set k v)) = w2) (kk : ∀ (H1 : Heap) (locs1 : List Loc), va_P D vwCl w2 H1 → va_D A w2 → va_S A s.heap H1 locs1 → W p l e R s m args below meth c H1 locs1 cells slots Q (F0 m (pc + 3) ls (rest))) : W p l e R s m args below meth c H locs cells slots Q (F0 m (pc) ls (v :: .ref a :: rest)) := by
  subst hw
  exact va_putF hx hb hts hin ty0 hty hnm hown hE.1 hP hD hS q0 he hc k hk hlink hsame hfin hin2 hdecl hd hn hfit hl hdg kk
theorem znew_eQ {cA : ClassId} (hK : va_K D vwCl (zT ct) s) (h1 : va_K D vwCl (zT ct ++ [(cA, .object "RodGrids$State")]) s) : cA = ct 3 := by
  obtain ⟨-, kA, comp, f2, f3, f4, f1⟩ := h1.2 4 (cA, .object "RodGrids$State") rfl
  obtain ⟨-, kA', comp', g2, g3, g4, g1⟩ := hK.2 3 (ct 3, .object "RodGrids$State") rfl
  exact Option.some.inj (f1.symm.trans g1)
theorem z_newQ {own : String} {index : Nat} (hx : p.tables.exec = Jvm.exec) (hb : c.code = cc) (hown : s.vm.findClass own = some m.cls) (hclink : (Cond.classLink own index "RodGrids$State").before args s = true) (hover : va_AO "RodGrids$State" s) (hK : va_K D vwCl (zT ct) s) (hP : va_P D vwCl ws H) (hD : va_D A ws) (hS : va_S A s.heap H locs) (hA : ∀ q, s.heap.size ≤ q → A q) (hcells : cells + 1 ≤ R.cells) (hslots : slots + 4 ≤ R.slots) (hdg : decode cc pc = .ok (.anewarray index, 3))
    (kk : ∀ (q : Nat) (H1 : Heap), va_P D vwCl (ws ++ qnW ct q (fun _ => none)) H1 → va_D A (ws ++ qnW ct q (fun _ => none)) → va_S A s.heap H1 locs → W p l e R s m args below meth c H1 locs (cells + 1) (slots + 4) Q (F0 m (pc + 3) ls (.ref q :: rest))) : W p l e R s m args below meth c H locs cells slots Q (F0 m pc ls (.int (zI 4) :: rest)) := by
  refine va_newq (C := "RodGrids$State") (N' := 4) hx hb hown hclink hover hK hP hD hS hA (by decide) (by decide) (by decide) hcells hslots hdg (fun q cA H1 g1 g2 g3 g4 => ?_)
  have a3 := znew_eQ hK g1
  subst a3
  exact kk q H1 g2 g3 g4
theorem z_astq {n v i : Nat} {z : Int} {vs : List Value} {f : Nat → Option Nat} {w2 : va_W} (hx : p.tables.exec = Jvm.exec) (hb : c.code = cc) (hK : va_K D vwCl (zT ct) s) (hP : va_P D vwCl ws H) (hD : va_D A ws) (hS : va_S A s.heap H locs) (q0 qk : Nat) {a : Nat} (ha : ws[q0]? = some (a, .inl (ct 3, n, .inr (.inr (.inr (.inr f)))))) (hv : ws[qk]? = some (v, .inr (5, vs))) (hz : z = (i : Int)) (hi : i < n) (hn : n ≤ 2147483647) (hdg : decode cc pc = .ok (.aastore, 1)) (hw : ws.set q0 (a, .inl (ct 3, n, .inr (.inr (.inr (.inr (va_up f i (some v))))))) = w2)
    (kk : ∀ (H1 : Heap) (locs1 : List Loc), va_P D vwCl w2 H1 → va_D A w2 → va_S A s.heap H1 locs1 → W p l e R s m args below meth c H1 locs1 cells slots Q (F0 m (pc + 1) ls rest)) : W p l e R s m args below meth c H locs cells slots Q (F0 m pc ls (.ref v :: .int (zI z) :: .ref a :: rest)) := by
  subst hw
  subst hz
  have e : (zI (i : Int)).toNatClampNeg = i := by rw [zI_clamp (by omega)]; omega
  refine va_astq (r := (RX6, TX6, 3)) hx hb hK hP hD hS q0 3 qk 5 ha rfl hv rfl (zI_in (by omega) hn) hdg ?_
  rw [e]
  exact kk
theorem z_qnq {q : Nat} {pw r : va_W} {b : Nat → Nat → Nat} {f : Nat → Option Nat} (hP : va_P D vwCl (pw ++ (qnW ct q f ++ r)) H) (hD : va_D A (pw ++ (qnW ct q f ++ r))) (hf : ∀ k : Nat, k < 4 → f k = some (b k 0)) : va_P D vwCl (pw ++ (qrW ct q b ++ r)) H ∧ va_D A (pw ++ (qrW ct q b ++ r)) := by
  have ha : (pw ++ (qnW ct q f ++ r))[pw.length]? = some (q, .inl (ct 3, 4, .inr (.inr (.inr (.inr f))))) := by
    rw [List.getElem?_append_right (Nat.le_refl _), Nat.sub_self]
    rfl
  have hs : (pw ++ (qnW ct q f ++ r)).set pw.length (q, .inl (ct 3, 4, .inr (.inr (.inr (.inr (fun k => some (b k 0))))))) = pw ++ (qrW ct q b ++ r) := by
    rw [List.set_append_right _ _ (Nat.le_refl _), Nat.sub_self]
    rfl
  have h0 := hP _ _ ha
  have hc : vp_cell (ct 3) (4, .inr (.inr (.inr (.inr f)))) = vp_cell (ct 3) (4, .inr (.inr (.inr (.inr (fun k => some (b k 0)))))) := by
    rw [vp_cell_q, vp_cell_q]
    unfold arrV
    congr 1
    apply Array.ext
    · simp
    · intro i h1 h2
      simp only [Array.size_ofFn] at h1
      simp only [Array.getElem_ofFn]
      rw [hf i h1]
  have h1 : H[q]? = some (vp_cell (ct 3) (4, .inr (.inr (.inr (.inr (fun k => some (b k 0))))))) := by
    rw [← hc]
    exact h0
  have k1 := hP.set hD ha (e := .inl (ct 3, 4, .inr (.inr (.inr (.inr (fun k => some (b k 0))))))) h1 (fun _ _ => rfl)
  have k2 := hD.set (e := .inl (ct 3, 4, .inr (.inr (.inr (.inr (fun k => some (b k 0))))))) ha
  rw [hs] at k1 k2
  exact ⟨k1, k2⟩
end ZINI
/-! contracts with one premise more: the class of arrays of states -/
def zPx (D : va_G) (ct ad : Nat → Nat) (w : va_W) (sz : Nat) (av : List Value) : Array Value → State → Prop := va_Pc av (fun U => U.heap.size = sz ∧ va_P D vwCl w U.heap ∧ (zE D ct ad (va_A w sz) U U.heap ∧ va_AO "RodGrids$State" U) ∧ va_D (fun _ => True) w)
def ZMx (l : Launch) (y : MethodName) (ws : List Cond) (rm : Room) (D : va_G) (ct ad : Nat → Nat) (av : List Value) (w : va_W) (post : Option Value → va_W → Prop) : Prop := ∀ sz : Nat, Met l y ws rm (zPx D ct ad w sz av) (zQ D post (va_A w sz)) rm.cells rm.slots (va_A w sz)
theorem zPx_blind {D : va_G} {ct ad : Nat → Nat} {w : va_W} {sz : Nat} {av : List Value} : FrameBlind (zPx D ct ad w sz av) := fun a U g mk q => by
  obtain ⟨q0, q1, qP, ⟨⟨qK, qN, qS, qX⟩, qO⟩, qD⟩ := q
  exact ⟨q0, q1, qP, ⟨⟨va_K.moved (u := U) (U := U.calling g mk a) (Vm.Alike.refl U.vm) qK, zN.same (u := U) rfl qN, zS.same (u := U) rfl qS, zX.same (u := U) rfl qX⟩, va_AO.moved (u := U) (U := U.calling g mk a) (Vm.Alike.refl U.vm) qO⟩, qD⟩
theorem ZMx.of {l : Launch} {y : MethodName} {ws ws' : List Cond} {rm : Room} {D : va_G} {ct ad : Nat → Nat} {av : List Value} {w : va_W} {post : Option Value → va_W → Prop} {cc : ByteArray} {maxL : Nat} {ret : Option FieldType}
    (hy : plainFor y = true) (hw : ws = Cond.code y cc maxL ret :: ws') (hn : (lg_sl av).length ≤ maxL)
    (body : ∀ (p : Program) (e : Env) (s : State) (m : MethodId) (below : List Frame) (meth : Method) (c : Code) (A : Nat → Prop) (ls : Array Slot), p.tables.exec = Jvm.exec → c.code = cc → meth.sig.returnType = ret → (∀ z ∈ ws, z.before av.toArray s = true) → s.vm.findClass y.cls = some m.cls → meth.locks = false → c.maxLocals = maxL → meth.name = y.name → va_AO "RodGrids$State" s →
      zE D ct ad A s s.heap → va_P D vwCl w s.heap → va_D A w → (∀ q : Nat, s.heap.size ≤ q → A q) → va_S A s.heap s.heap [] → lv_has ls maxL (lv_args 0 av) →
      W p l e rm s m av.toArray below meth c s.heap [] 0 0 (MQ below (zQ D post A) av.toArray s rm.cells rm.slots A) (F0 m 0 ls [])) : ZMx l y ws rm D ct ad av w post := by
  intro sz
  refine va_MetF (cc := cc) (maxL := maxL) (ret := ret) hy hw ?_
  intro p e s m args below meth c s₁ B hml hv
  obtain ⟨rfl, hsz, hP, ⟨hE, hO⟩, hD0⟩ := hv
  have hts := atoms_spec (ws := ws) B.pre
  have hown : s.vm.findClass y.cls = some m.cls := findClass_of_methodNamed B.named
  have hin := (name_of_methodNamed B.named B.method).1
  subst hsz
  have hD := hD0.self (sz := s.heap.size)
  have hl := lv_entry av (n := maxL) hn
  rw [lg_entry_eq]
  exact body p e s m below meth c (va_A w s.heap.size) _ B.exec B.bytes B.returns hts hown B.notSynchronized hml hin hO hE hP hD (fun q h => Or.inr h) va_S.rf hl
section ZINX
variable {p : Program} {l : Launch} {e : Env} {R : Room} {s : State} {m : MethodId} {args : Array Value} {below : List Frame} {meth : Method} {c : Code} {H : Heap} {locs : List Loc} {cells slots : Nat} {Q : State → Prop}
variable {cc : ByteArray} {pc : Nat} {ls : Array Slot} {rest : List Value} {D : va_G} {ct ad : Nat → Nat} {A : Nat → Prop} {ws : va_W} {post : Option Value → va_W → Prop}
theorem z_prex {w : va_W} {av : List Value} {locs : List Loc} (hO : va_AO "RodGrids$State" s) (hE : zE D ct ad A s s.heap) (hS : va_S A s.heap H locs) (hF : ∀ q, va_A w H.size q → A q) (hPc : va_P D vwCl w H) (hDc : va_D A w) : ∀ U : State, U.heap = H → s.WarmedH U.vm → zPx D ct ad w H.size av av.toArray U := fun U hU hW =>
  ⟨rfl, by rw [hU], by rw [hU]; exact hPc, ⟨hE.call hW hS hU hF, va_AO.moved hW.alike hO⟩, hDc.weaken (fun _ _ _ _ => trivial)⟩
theorem z_callIx {y : MethodName} {ws ws' : List Cond} {rm : Room} {bytes : ByteArray} {maxL nL n index : Nat} {ret : Option FieldType} {Ts : List Cond} {own : String} {As st0 : List Value} {lv : List (Nat × Value)} {b : Addr} (pw r : va_W) {wc : va_W} (hO : va_AO "RodGrids$State" s) (hx : p.tables.exec = Jvm.exec) (hb : c.code = cc) (hml : c.maxLocals = nL) (hown : s.vm.findClass own = some m.cls) (hts : ∀ z ∈ Ts, z.before args s = true) (hl : lv_has ls nL lv) (hE : zE D ct ad A s s.heap) (hS : va_S A s.heap H locs) (hA : ∀ q : Nat, s.heap.size ≤ q → A q) (hP : va_P D vwCl (pw ++ (wc ++ r)) H) (hD : va_D A (pw ++ (wc ++ r)))
    (hM : ZMx l y ws rm D ct ad (.ref b :: As) wc post) (hG : GoodIn Ts ws) (hw : ws = Cond.code y bytes maxL none :: ws') (hd : y.cls ≠ "java/lang/invoke/MethodHandle" ∧ y.cls ≠ "java/lang/invoke/VarHandle" ∧ (parseMethodDescriptor y.desc).map (fun d => d.parameters.length) = some n) (hR : rm.frames + 1 ≤ R.frames ∧ 8 + (maxL + 11) + rm.locals ≤ R.locals) (hini : (Cond.initialized y.cls).before args s = true) (hlk : (Cond.methodLink own index y).before args s = true) (hin : (Cond.instanceMethod y).before args s = true) (hy1 : y.name = "<init>") (hn : As.length = n) (hroom : (rest.map fun v => v.category).sum ≤ 8) (hf : cells + rm.cells ≤ R.cells ∧ slots + rm.slots ≤ R.slots) (hdg : decode cc pc = .ok (.invokespecial index, 3)) (hst0 : st0 = As.reverse ++ .ref b :: rest)
    (kk : ∀ (v : Option Value) (w1 : va_W) (H1 : Heap) (locs1 : List Loc), post v w1 → va_P D vwCl (pw ++ (w1 ++ r)) H1 → va_D A (pw ++ (w1 ++ r)) → va_S A s.heap H1 locs1 → W p l e R s m args below meth c H1 locs1 (cells + rm.cells) (slots + rm.slots) Q (F0 m (pc + 3) ls (v.toList ++ rest))) : W p l e R s m args below meth c H locs cells slots Q (F0 m (pc) ls (st0)) := by
  subst hst0
  have hF := zA_app (D := D) (H := H) hD (sz := H.size) (fun q h => hA q (Nat.le_trans hS.1 h))
  have hPc := zsub hP
  have hDc := zsubD hD
  exact z_callR pw r (va_runI (As := As) (rest := rest) ⟨hx, hb, hml, hown, hts⟩ (hM H.size) (cwI n hts hG hw rfl rfl hini hlk hin hy1 hd hR) ⟨zPx_blind, z_prex hO hE hS hF hPc hDc⟩ rfl hn hl.1 rfl (lv_room hroom) hdg hf) hS hA hP hD kk
end ZINX
