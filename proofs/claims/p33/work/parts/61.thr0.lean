/-! methods that throw -/
def zXC (D : va_G) (w : va_W) (A : Nat → Prop) (E : String) : String → State → State → Prop := fun E' st t => E' = E ∧ zR D A w t ∧ va_F A st t
def zF : Array Value → State → Outcome → State → Prop := fun _ _ _ _ => False
def ZX (l : Launch) (y : MethodName) (ws : List Cond) (rm : Room) (D : va_G) (ct ad : Nat → Nat) (av : List Value) (w : va_W) (E : String) : Prop := ∀ sz : Nat, vx_Met l y ws rm (zP D ct ad w sz av) zF (zXC D w (va_A w sz) E) rm.cells rm.slots (va_A w sz)
theorem ZX.toE {l : Launch} {y : MethodName} {ws : List Cond} {rm : Room} {D : va_G} {ct ad : Nat → Nat} {av : List Value} {w : va_W} {E E' : String} (h : ZX l y ws rm D ct ad av w E) (e : E = E') : ZX l y ws rm D ct ad av w E' := e ▸ h
def zEx (k : Int) : String := if k = 1 then "java/lang/IndexOutOfBoundsException" else if k = 2 then "java/lang/IllegalArgumentException" else "java/lang/IllegalStateException"
theorem ZX.of {l : Launch} {y : MethodName} {ws ws' : List Cond} {rm : Room} {D : va_G} {ct ad : Nat → Nat} {av : List Value} {w : va_W} {E : String} {cc : ByteArray} {maxL : Nat} {ret : Option FieldType}
    (hy : plainName y.cls = true) (hw : ws = Cond.code y cc maxL ret :: ws') (hn : (lg_sl av).length ≤ maxL)
    (body : ∀ (p : Program) (e : Env) (s : State) (m : MethodId) (below : List Frame) (meth : Method) (c : Code) (A : Nat → Prop) (ls : Array Slot), p.tables.exec = Jvm.exec → c.code = cc → meth.sig.returnType = ret → (∀ z ∈ ws, z.before av.toArray s = true) → s.vm.findClass y.cls = some m.cls → meth.locks = false → c.maxLocals = maxL → (∀ x ∈ c.exceptionTable.toList, False) →
      zE D ct ad A s s.heap → va_P D vwCl w s.heap → va_D A w → (∀ q : Nat, s.heap.size ≤ q → A q) → va_S A s.heap s.heap [] → lv_has ls maxL (lv_args 0 av) →
      W p l e rm s m av.toArray below meth c s.heap [] 0 0 (vx_MQ below zF (zXC D w A E) av.toArray s rm.cells rm.slots A) (F0 m 0 ls [])) : ZX l y ws rm D ct ad av w E := by
  intro sz
  refine vx_ofW (cc := cc) (maxL := maxL) (ret := ret) hy hw ?_
  intro p e s m args below meth c s₁ B hml ht hv
  obtain ⟨rfl, hsz, hP, hE, hD0⟩ := hv
  have hts := atoms_spec (ws := ws) B.pre
  have hown : s.vm.findClass y.cls = some m.cls := findClass_of_methodNamed B.named
  subst hsz
  have hD := hD0.self (sz := s.heap.size)
  have hl := lv_entry av (n := maxL) hn
  rw [lg_entry_eq]
  exact body p e s m below meth c (va_A w s.heap.size) _ B.exec B.bytes B.returns hts hown B.notSynchronized hml ht hE hP hD (fun q h => Or.inr h) va_S.rf hl
/-- a method with an exception table -/
theorem ZM.ofH {l : Launch} {y : MethodName} {ws ws' : List Cond} {rm : Room} {D : va_G} {ct ad : Nat → Nat} {av : List Value} {w : va_W} {post : Option Value → va_W → Prop} {cc : ByteArray} {maxL : Nat} {ret : Option FieldType} {hh : List (Nat × Nat × Nat × Nat)}
    (hy : plainName y.cls = true) (hw : ws = Cond.codeWith y cc maxL ret hh :: ws') (hn : (lg_sl av).length ≤ maxL)
    (body : ∀ (p : Program) (e : Env) (s : State) (m : MethodId) (below : List Frame) (meth : Method) (c : Code) (A : Nat → Prop) (ls : Array Slot), p.tables.exec = Jvm.exec → c.code = cc → meth.sig.returnType = ret → (∀ z ∈ ws, z.before av.toArray s = true) → s.vm.findClass y.cls = some m.cls → meth.locks = false → c.maxLocals = maxL → c.exceptionTable.toList = tableOf hh →
      zE D ct ad A s s.heap → va_P D vwCl w s.heap → va_D A w → (∀ q : Nat, s.heap.size ≤ q → A q) → va_S A s.heap s.heap [] → lv_has ls maxL (lv_args 0 av) →
      W p l e rm s m av.toArray below meth c s.heap [] 0 0 (MQ below (zQ D post A) av.toArray s rm.cells rm.slots A) (F0 m 0 ls [])) : ZM l y ws rm D ct ad av w post := by
  intro sz
  refine va_MetW (cc := cc) (maxL := maxL) (ret := ret) (hh := hh) hy hw ?_
  intro p e s m args below meth c s₁ B hml hv
  obtain ⟨rfl, hsz, hP, hE, hD0⟩ := hv
  have hts := atoms_spec (ws := ws) B.pre
  have hown : s.vm.findClass y.cls = some m.cls := findClass_of_methodNamed B.named
  have hT := vx_table (x := y) B (hts (Cond.codeWith y cc maxL ret hh) (by rw [hw]; exact List.mem_cons_self))
  subst hsz
  have hD := hD0.self (sz := s.heap.size)
  have hl := lv_entry av (n := maxL) hn
  rw [lg_entry_eq]
  exact body p e s m below meth c (va_A w s.heap.size) _ B.exec B.bytes B.returns hts hown B.notSynchronized hml hT hE hP hD (fun q h => Or.inr h) va_S.rf hl
section ZTHR
variable {p : Program} {l : Launch} {e : Env} {R : Room} {s : State} {m : MethodId} {args : Array Value} {below : List Frame} {meth : Method} {c : Code} {H : Heap} {locs : List Loc} {cells slots : Nat} {Q : State → Prop}
variable {cc : ByteArray} {pc : Nat} {ls : Array Slot} {rest : List Value} {D : va_G} {ct ad : Nat → Nat} {A : Nat → Prop} {ws : va_W} {mc ms : Nat}
theorem z_throw {own cls text : String} {ik is ic sa nL : Nat} {lv : List (Nat × Value)} (hx : p.tables.exec = Jvm.exec) (hb : c.code = cc) (hst : l.stackTraces = false) (hown : s.vm.findClass own = some m.cls) (hcls : Bundle.fit cls = true) (hk : (Cond.classLink own ik cls).before args s = true) (hini : (Cond.initialized cls).before args s = true) (hstr : vk_R own is text sa s)
    (h1 : ∀ w ∈ (vx_atS own ic cls ["java/lang/RuntimeException", "java/lang/Exception"]).filter goodWord, w.before args s = true) (h2 : ∀ w ∈ (vx_atS own ic cls ["java/lang/RuntimeException", "java/lang/Exception"]).filter (fun w => !goodWord w), w ∈ [Cond.castable cls cls, .declares (Bundle.initS "java/lang/RuntimeException"), .declares (Bundle.initS "java/lang/Exception"), .declares (Bundle.initS Bundle.tN)]) (hN : va_Nw (.castable cls cls) s)
    (hgood : ∀ w ∈ Cond.classLink own ik cls :: Cond.initialized cls :: vx_atS own ic cls ["java/lang/RuntimeException", "java/lang/Exception"], vx_ot w = true)
    (hE : zE D ct ad A s s.heap) (hP : va_P D vwCl ws H) (hD : va_D A ws) (hS : va_S A s.heap H locs) (hl : lv_has ls nL lv) (hml : c.maxLocals = nL)
    (d0 : decode cc pc = .ok (.new ik, 3)) (d3 : decode cc (pc + 3) = .ok (.dup, 1)) (d4 : decode cc (pc + 4) = .ok (.ldc_w is, 3)) (d7 : decode cc (pc + 7) = .ok (.invokespecial ic, 3)) (d10 : decode cc (pc + 10) = .ok (.athrow, 1))
    (hout : ∀ x ∈ c.exceptionTable.toList, False) (hR : 5 < R.frames ∧ 82 ≤ R.locals ∧ cells + 1 ≤ R.cells ∧ slots + 6 ≤ R.slots) (hlocks : meth.locks = false) (hc : cells + 1 ≤ mc ∧ slots + 6 ≤ ms) :
    W p l e R s m args below meth c H locs cells slots (vx_MQ below zF (zXC D ws A cls) args s mc ms A) (F0 m pc ls []) := by
  refine vx_throwSW (A := A) (sa := sa) (text := text) (names := ["java/lang/RuntimeException", "java/lang/Exception"]) hx hb hst hown hcls (by decide +kernel) hk hini hstr (vx_hat h1 h2 (vx_c (va_Nw.use rfl hN) (vx_c (va_Nw.use rfl (hE.2.1.1 _ (List.mem_of_getElem? (i := 21) rfl))) (vx_c (va_Nw.use rfl (hE.2.1.1 _ (List.mem_of_getElem? (i := 22) rfl))) (vx_c (va_Nw.use rfl (hE.2.1.1 _ (List.mem_of_getElem? (i := 23) rfl))) vx_n))))) hgood hE.2.2.1.2.2.2.1.1 hE.2.2.1.2.2.2.1.2 hS (hl.1.trans hml.symm) d0 d3 d4 d7 d10 (fun x h => (hout x h).elim) hR.1 ?_ hR.2.2.1 hR.2.2.2 hlocks ?_ hS.2.2 hc.1 hc.2
  · show 0 + (13 * (2 + 1) + 43) ≤ R.locals
    omega
  · intro t hal hz hk2
    have hk3 : ∀ (k : Nat) (x : Nat × va_E), ws[k]? = some x → t.heap[x.1]? = H[x.1]? := fun k x hx => hk2 x.1 ((hP k x hx).lt)
    exact ⟨rfl, ⟨hP.kept hk3, hD⟩, Nat.le_trans hS.1 hz, fun q a b => by rw [hk2 q (Nat.lt_of_lt_of_le a hS.1)]; exact hS.2.1 q a b⟩
theorem z_thrJ {rm : Room} {E : String} {st0 : List Value} {a : Array Value} {w' : va_W} (pw r : va_W) {wc : va_W} (hr : vx_Run p l e R s m args below meth c H locs cells slots rm.cells rm.slots (F0 m pc ls st0) rest (zF a) (zXC D wc (va_A wc H.size) E) (va_A wc H.size)) (hS : va_S A s.heap H locs) (hA : ∀ q : Nat, s.heap.size ≤ q → A q) (hP : va_P D vwCl (pw ++ (wc ++ r)) H) (hD : va_D A (pw ++ (wc ++ r)))
    (kk : ∀ (q9 : Nat) (ce : Cell) (H1 : Heap) (locs1 : List Loc), va_P D vwCl (pw ++ (wc ++ r)) H1 → va_D A (pw ++ (wc ++ r)) → va_S A s.heap H1 locs1 → H1[q9]? = some ce → ce.vm = .none → s.vm.findClass E = some ce.cls → vx_W p l e R s m args below meth c H1 locs1 (cells + rm.cells) (slots + rm.slots) Q (F0 m pc ls rest) q9) : W p l e R s m args below meth c H locs cells slots Q (F0 m pc ls st0) := by
  have hF := zA_app (D := D) (H := H) hD (sz := H.size) (fun q h => hA q (Nat.le_trans hS.1 h))
  intro T hT X
  rcases hr T hT X with ⟨v, st₀, t, T', L, h0, X', hL, e1, e2, hq, st⟩ | ⟨q, st₀, t, T', L, E', ce, h0, X', hL, e1, e2, ⟨rfl, ⟨hPt, hDt⟩, hz, hk⟩, hce, hcv, hcl, st⟩
  · exact hq.elim
  · rw [h0] at hz hk
    rw [← e1] at hz hPt hce
    have hk' : ∀ q : Nat, q < H.size → ¬ va_A wc H.size q → T'.heap[q]? = H[q]? := fun q h1 h2 => by rw [e1]; exact hk q h1 h2
    obtain ⟨j1, j2⟩ := zjoin hP hD hF hk' hPt hDt
    obtain ⟨t2, a1, b1⟩ := kk q ce T'.heap (locs ++ L) j1 j2
      ⟨Nat.le_trans hS.1 hz, fun q h1 h2 => by rw [hk' q (Nat.lt_of_lt_of_le h1 hS.1) (fun z => h2 (hF q z))]; exact hS.2.1 q h1 h2, fun q hq => by
        rcases List.mem_append.mp hq with h | h
        · exact hS.2.2 q h
        · exact hF _ (hL q h)⟩ hce hcv hcl T' rfl X'
    exact ⟨t2, st.trans a1, b1⟩
/-- a static call that throws, not caught here -/
theorem z_thrS {y : MethodName} {ws ws' : List Cond} {rm : Room} {bytes : ByteArray} {maxL nL n index : Nat} {ret : Option FieldType} {Ts : List Cond} {own E : String} {As st0 : List Value} {lv : List (Nat × Value)} {w' : va_W} (pw r : va_W) {wc : va_W} (hx : p.tables.exec = Jvm.exec) (hb : c.code = cc) (hml : c.maxLocals = nL) (hown : s.vm.findClass own = some m.cls) (hts : ∀ z ∈ Ts, z.before args s = true) (hl : lv_has ls nL lv) (hE : zE D ct ad A s s.heap) (hS : va_S A s.heap H locs) (hA : ∀ q : Nat, s.heap.size ≤ q → A q) (hP : va_P D vwCl (pw ++ (wc ++ r)) H) (hD : va_D A (pw ++ (wc ++ r)))
    (hM : ZX l y ws rm D ct ad (As) wc E) (hG : GoodIn Ts (va_wsS own index y ws)) (hw : ws = Cond.code y bytes maxL ret :: ws') (hd : y.cls ≠ "java/lang/invoke/MethodHandle" ∧ y.cls ≠ "java/lang/invoke/VarHandle" ∧ (parseMethodDescriptor y.desc).map (fun d => d.parameters.length) = some n) (hR : rm.frames + 1 ≤ R.frames ∧ 8 + (maxL + 11) + rm.locals ≤ R.locals) (hn : As.length = n) (hroom : (rest.map fun v => v.category).sum ≤ 8) (hf : cells + rm.cells ≤ R.cells ∧ slots + rm.slots ≤ R.slots) (hdg : decode cc pc = .ok (.invokestatic index, 3)) (hst0 : st0 = As.reverse ++ rest)
    (hout : ∀ x ∈ c.exceptionTable.toList, False) (hlocks : meth.locks = false) (hc : cells + rm.cells ≤ mc ∧ slots + rm.slots ≤ ms) (hw' : pw ++ (wc ++ r) = w') : W p l e R s m args below meth c H locs cells slots (vx_MQ below zF (zXC D w' A E) args s mc ms A) (F0 m (pc) ls (st0)) := by
  subst hst0
  subst hw'
  have hF := zA_app (D := D) (H := H) hD (sz := H.size) (fun q h => hA q (Nat.le_trans hS.1 h))
  have hPc := zsub hP
  have hDc := zsubD hD
  refine z_thrJ (w' := pw ++ (wc ++ r)) pw r (vx_runS (As := As) (rest := rest) ⟨hx, hb, hml, hown, hts⟩ (hM H.size) (va_cwS n hts hG hw rfl rfl hd hR) ⟨zP_blind, z_pre hE hS hF hPc hDc⟩ rfl hn hl.1 rfl (lv_room hroom) hdg hf) hS hA hP hD (fun q9 ce H1 locs1 hP1 hD1 hS1 hce hcv hcl => ?_)
  exact vx_out (fun x h => (hout x h).elim) hlocks hce hcv hcl (fun t ht hal => ⟨rfl, ⟨by rw [ht]; exact hP1, hD1⟩, hS1.F ht⟩) hS1.2.2 hc.1 hc.2
/-- a call that throws, caught by the row x of this method's table -/
theorem z_catV {y : MethodName} {ws ws' : List Cond} {rm : Room} {bytes : ByteArray} {maxL nL n index : Nat} {ret : Option FieldType} {Ts : List Cond} {own E name : String} {As st0 : List Value} {lv : List (Nat × Value)} {b : Addr} {C : String} {q0 ci : Nat} {qc : vw_C} {fs : List Value} (pw r : va_W) {wc : va_W} (hx : p.tables.exec = Jvm.exec) (hb : c.code = cc) (hml : c.maxLocals = nL) (hown : s.vm.findClass own = some m.cls) (hts : ∀ z ∈ Ts, z.before args s = true) (hl : lv_has ls nL lv) (hE : zE D ct ad A s s.heap) (hS : va_S A s.heap H locs) (hA : ∀ q : Nat, s.heap.size ≤ q → A q) (hP : va_P D vwCl (pw ++ (wc ++ r)) H) (hD : va_D A (pw ++ (wc ++ r)))
    (hM : ZX l y ws rm D ct ad (.ref b :: As) wc E) (hG : GoodIn Ts (wsV own index C y ws)) (hw : ws = Cond.code y bytes maxL ret :: ws') (hC : y.cls = C) (hd : y.cls ≠ "java/lang/invoke/MethodHandle" ∧ y.cls ≠ "java/lang/invoke/VarHandle" ∧ (parseMethodDescriptor y.desc).map (fun d => d.parameters.length) = some n) (hR : rm.frames + 1 ≤ R.frames ∧ 8 + (maxL + 11) + rm.locals ≤ R.locals) (hrecv : wc[q0]? = some (b, .inr (ci, fs))) (hci : vwCl[ci]? = some qc) (hqc : qc.1 = C) (hn : As.length = n) (hroom : (rest.map fun v => v.category).sum ≤ 8) (hf : cells + rm.cells ≤ R.cells ∧ slots + rm.slots ≤ R.slots) (hdg : decode cc pc = .ok (.invokevirtual index, 3)) (hst0 : st0 = As.reverse ++ .ref b :: rest)
    (pre : List ExceptionTableEntry) (x : ExceptionTableEntry) (suf : List ExceptionTableEntry) (hsplit : c.exceptionTable.toList = pre ++ x :: suf) (hpass : ∀ z ∈ pre, covers z pc = false ∨ (z.catchType ≠ 0 ∧ ∃ nm : String, (Cond.classLink own z.catchType nm).before args s = true ∧ va_Nc E nm s)) (hcov : covers x pc = true) (h0 : x.catchType ≠ 0) (hlink : (Cond.classLink own x.catchType name).before args s = true) (hcast : va_Nw (.castable E name) s)
    (kk : ∀ (q9 : Nat) (H1 : Heap) (locs1 : List Loc), va_P D vwCl (pw ++ (wc ++ r)) H1 → va_D A (pw ++ (wc ++ r)) → va_S A s.heap H1 locs1 → W p l e R s m args below meth c H1 locs1 (cells + rm.cells) (slots + rm.slots) Q (F0 m x.handlerPc ls [.ref q9])) : W p l e R s m args below meth c H locs cells slots Q (F0 m (pc) ls (st0)) := by
  subst hst0
  have hF := zA_app (D := D) (H := H) hD (sz := H.size) (fun q h => hA q (Nat.le_trans hS.1 h))
  have hPc := zsub hP
  have hDc := zsubD hD
  subst hC
  refine z_thrJ (w' := pw ++ (wc ++ r)) pw r (vx_runV (As := As) (rest := rest) ⟨hx, hb, hml, hown, hts⟩ (hM H.size) (cwV n hts hG hw rfl rfl ⟨rfl, hd⟩ hR) ⟨zP_blind, by rw [← hqc]; exact va_recv hE.1 hPc hci hrecv, z_pre hE hS hF hPc hDc⟩ rfl hn hl.1 rfl (lv_room hroom) hdg hf) hS hA hP hD (fun q9 ce H1 locs1 hP1 hD1 hS1 hce hcv hcl => ?_)
  exact vx_catch hown pre x suf hsplit hpass hcov h0 hlink (va_Nw.use rfl hcast) hce hcv hcl (kk q9 H1 locs1 hP1 hD1 hS1)
/-- a static call of a method with an exception table -/
theorem z_callSW {y : MethodName} {ws ws' : List Cond} {rm : Room} {bytes : ByteArray} {maxL nL n index : Nat} {ret : Option FieldType} {hh : List (Nat × Nat × Nat × Nat)} {Ts : List Cond} {own : String} {As st0 : List Value} {lv : List (Nat × Value)} {post : Option Value → va_W → Prop} (pw r : va_W) {wc : va_W} (hx : p.tables.exec = Jvm.exec) (hb : c.code = cc) (hml : c.maxLocals = nL) (hown : s.vm.findClass own = some m.cls) (hts : ∀ z ∈ Ts, z.before args s = true) (hl : lv_has ls nL lv) (hE : zE D ct ad A s s.heap) (hS : va_S A s.heap H locs) (hA : ∀ q : Nat, s.heap.size ≤ q → A q) (hP : va_P D vwCl (pw ++ (wc ++ r)) H) (hD : va_D A (pw ++ (wc ++ r)))
    (hM : ZM l y ws rm D ct ad (As) wc post) (hG : GoodIn Ts (va_wsS own index y ws)) (hw : ws = Cond.codeWith y bytes maxL ret hh :: ws') (hd : y.cls ≠ "java/lang/invoke/MethodHandle" ∧ y.cls ≠ "java/lang/invoke/VarHandle" ∧ (parseMethodDescriptor y.desc).map (fun d => d.parameters.length) = some n) (hR : rm.frames + 1 ≤ R.frames ∧ 8 + (maxL + 11) + rm.locals ≤ R.locals) (hn : As.length = n) (hroom : (rest.map fun v => v.category).sum ≤ 8) (hf : cells + rm.cells ≤ R.cells ∧ slots + rm.slots ≤ R.slots) (hdg : decode cc pc = .ok (.invokestatic index, 3)) (hst0 : st0 = As.reverse ++ rest)
    (kk : ∀ (v : Option Value) (w1 : va_W) (H1 : Heap) (locs1 : List Loc), post v w1 → va_P D vwCl (pw ++ (w1 ++ r)) H1 → va_D A (pw ++ (w1 ++ r)) → va_S A s.heap H1 locs1 → W p l e R s m args below meth c H1 locs1 (cells + rm.cells) (slots + rm.slots) Q (F0 m (pc + 3) ls (v.toList ++ rest))) : W p l e R s m args below meth c H locs cells slots Q (F0 m (pc) ls (st0)) := by
  subst hst0
  have hF := zA_app (D := D) (H := H) hD (sz := H.size) (fun q h => hA q (Nat.le_trans hS.1 h))
  have hPc := zsub hP
  have hDc := zsubD hD
  exact z_callR pw r (vx_runSW (As := As) (rest := rest) ⟨hx, hb, hml, hown, hts⟩ (hM H.size) (vx_cwSW n hts hG hw rfl rfl hd hR) ⟨zP_blind, z_pre hE hS hF hPc hDc⟩ rfl hn hl.1 rfl (lv_room hroom) hdg hf) hS hA hP hD kk
/-! floats -/
theorem z_fcmpv {x y : UInt32} {o : Ordering} {op : CmpOp} {v : Int} (hx : p.tables.exec = Jvm.exec) (hb : c.code = cc) (hdg : decode cc pc = .ok (.fcmp op, 1)) (h : FP.fcmp x y = some o) (hv : v = (match o with | .lt => -1 | .eq => 0 | .gt => 1))
    (k : W p l e R s m args below meth c H locs cells slots Q (F0 m (pc + 1) ls (.int (zI v) :: rest))) : W p l e R s m args below meth c H locs cells slots Q (F0 m pc ls (.float y :: .float x :: rest)) := by
  refine lv_fcmp hx hb hdg ?_
  rw [h]
  subst hv
  cases o <;> exact k
theorem z_fcmp_lt {x y : UInt32} {P : Prop} {op : CmpOp} {off : Int} {tgt : Nat} (hx : p.tables.exec = Jvm.exec) (hb : c.code = cc) (hdg : decode cc pc = .ok (.fcmp op, 1)) (hdh : decode cc (pc + 1) = .ok (.ifCond .lt off, 3)) (ht : ((pc + 1 : Nat) : Int) + off = (tgt : Int)) {N : Prop} (h : (P ∧ FP.fcmp x y = some .lt) ∨ (N ∧ (FP.fcmp x y = some .eq ∨ FP.fcmp x y = some .gt)))
    (kt : P → W p l e R s m args below meth c H locs cells slots Q (F0 m tgt ls rest)) (kf : N → W p l e R s m args below meth c H locs cells slots Q (F0 m (pc + 1 + 3) ls rest)) : W p l e R s m args below meth c H locs cells slots Q (F0 m pc ls (.float y :: .float x :: rest)) := by
  rcases h with ⟨h1, h2⟩ | ⟨h1, h2 | h2⟩
  · refine z_fcmpv (v := -1) hx hb hdg h2 rfl ?_
    exact z_if_lt hx hb hdh ht (by omega) (fun _ => kt h1) (fun z => (show False by omega).elim)
  · refine z_fcmpv (v := 0) hx hb hdg h2 rfl ?_
    exact z_if_lt hx hb hdh ht (by omega) (fun z => (show False by omega).elim) (fun _ => kf h1)
  · refine z_fcmpv (v := 1) hx hb hdg h2 rfl ?_
    exact z_if_lt hx hb hdh ht (by omega) (fun z => (show False by omega).elim) (fun _ => kf h1)
theorem z_fcmp_ge {x y : UInt32} {P : Prop} {op : CmpOp} {off : Int} {tgt : Nat} (hx : p.tables.exec = Jvm.exec) (hb : c.code = cc) (hdg : decode cc pc = .ok (.fcmp op, 1)) (hdh : decode cc (pc + 1) = .ok (.ifCond .ge off, 3)) (ht : ((pc + 1 : Nat) : Int) + off = (tgt : Int)) {N : Prop} (h : (P ∧ FP.fcmp x y = some .lt) ∨ (N ∧ (FP.fcmp x y = some .eq ∨ FP.fcmp x y = some .gt)))
    (kt : N → W p l e R s m args below meth c H locs cells slots Q (F0 m tgt ls rest)) (kf : P → W p l e R s m args below meth c H locs cells slots Q (F0 m (pc + 1 + 3) ls rest)) : W p l e R s m args below meth c H locs cells slots Q (F0 m pc ls (.float y :: .float x :: rest)) := by
  rcases h with ⟨h1, h2⟩ | ⟨h1, h2 | h2⟩
  · refine z_fcmpv (v := -1) hx hb hdg h2 rfl ?_
    exact z_if_ge hx hb hdh ht (by omega) (fun z => (show False by omega).elim) (fun _ => kf h1)
  · refine z_fcmpv (v := 0) hx hb hdg h2 rfl ?_
    exact z_if_ge hx hb hdh ht (by omega) (fun _ => kt h1) (fun z => (show False by omega).elim)
  · refine z_fcmpv (v := 1) hx hb hdg h2 rfl ?_
    exact z_if_ge hx hb hdh ht (by omega) (fun _ => kt h1) (fun z => (show False by omega).elim)
theorem z_canF {a b : UInt32} (h : a = b) (k : W p l e R s m args below meth c H locs cells slots Q (F0 m pc ls (.float b :: rest))) : W p l e R s m args below meth c H locs cells slots Q (F0 m pc ls (.float a :: rest)) := h ▸ k
end ZTHR
/-- the bits of the balance for the whole length -/
def sp_fl (M : Int → Int) : UInt32 := FP.fdiv (FP.l2f (zJ (sp_bal M))) (FP.l2f (zJ (sp_sumN M (M 4).toNat)))
def sp_bits (M : Int → Int) : Int := if sp_sumN M (M 4).toNat = 0 then 0 else (sp_fl M).toInt32.toInt
theorem sp_bitsI {M : Int → Int} (h : sp_sumN M (M 4).toNat ≠ 0) : zI (sp_bits M) = (sp_fl M).toInt32 := by
  unfold sp_bits
  rw [if_neg h]
  exact Int32.ofInt_toInt _
theorem sp_bitsB {M : Int → Int} : -2147483648 ≤ sp_bits M ∧ sp_bits M ≤ 2147483647 := by
  unfold sp_bits
  split
  · omega
  · have h1 := (sp_fl M).toInt32.le_toInt
    have h2 := (sp_fl M).toInt32.toInt_lt
    omega
theorem sp_flC {M : Int → Int} (hI : gInv M) (h : sp_sumN M (M 4).toNat ≠ 0) : (sp_fl M = FP.fconst0) ∨ (∃ E T : Int, (60 ≤ E ∧ E ≤ 200) ∧ (0 ≤ T ∧ T < 8388608) ∧ sp_fl M = fbit E T) ∨ (∃ E T : Int, (60 ≤ E ∧ E ≤ 200) ∧ (0 ≤ T ∧ T < 8388608) ∧ sp_fl M = fbitn E T) := by
  have i4 := hI.2.1
  have b1 := sp_balB hI (M 4).toNat (by omega)
  have b2 := sp_sumB hI (M 4).toNat (by omega)
  have b3 : sp_bal M = sp_balN M (M 4).toNat := rfl
  rcases fl_quot (a := sp_bal M) (n := sp_sumN M (M 4).toNat) (by omega) (by omega) with q | q | q
  · exact Or.inl q.2
  · exact Or.inr (Or.inl q)
  · exact Or.inr (Or.inr q)
theorem fbn_n32 {E T : Int} (hE : 1 ≤ E ∧ E ≤ 254) (hT : 0 ≤ T ∧ T < 8388608) : vf_n32 (fbitn E T) := fl_n32 (by rw [fbitn_v hE hT]; exact fun h => nomatch h)
theorem sp_flN {M : Int → Int} (hI : gInv M) (h : sp_sumN M (M 4).toNat ≠ 0) : vf_n32 (sp_fl M) ∧ FP.Core.val32 (sp_fl M) ≠ .nan := by
  rcases sp_flC hI h with q | ⟨E, T, a, b, q⟩ | ⟨E, T, a, b, q⟩
  · rw [q]
    exact ⟨fl_n32 (by rw [fl_c0]; exact fun h => nomatch h), by rw [fl_c0]; exact fun h => nomatch h⟩
  · rw [q]
    exact ⟨fb_n32 (by omega) b, by rw [fbit_v (by omega) b]; exact fun h => nomatch h⟩
  · rw [q]
    exact ⟨fbn_n32 (by omega) b, by rw [fbitn_v (by omega) b]; exact fun h => nomatch h⟩
section ZLDF
variable {p : Program} {l : Launch} {e : Env} {R : Room} {s : State} {m : MethodId} {args : Array Value} {below : List Frame} {meth : Method} {c : Code} {H : Heap} {locs : List Loc} {cells slots : Nat} {Q : State → Prop}
variable {cc : ByteArray} {pc : Nat} {ls : Array Slot} {rest : List Value}
theorem z_ldcwF (hx : p.tables.exec = Jvm.exec) (hb : c.code = cc) {own : String} {index : Nat} {v : UInt32} (hown : s.vm.findClass own = some m.cls) (hconst : (Jvm.Cond.constantFloat own index v).before args s = true) (hdg : decode cc pc = .ok (.ldc_w index, 3)) (k : W p l e R s m args below meth c H locs cells slots Q (F0 m (pc + 3) ls (.float v :: rest))) : W p l e R s m args below meth c H locs cells slots Q (F0 m pc ls rest) := by
  intro T hT X
  obtain ⟨t, a, b⟩ := k T hT X
  obtain ⟨k1, cf, hk, hcf, hcp⟩ := Cond.constantFloat_spec hown hconst
  obtain ⟨k', hk', he⟩ := X.warmed.alike.2.2 _ _ hk
  refine ⟨t, ?_, b⟩
  subst hb
  jvm_step X.here [hx, hdg, ldc_w.wp_float (s := T) (f := F0 m pc ls rest) X.here.top hk' (by rw [he]; exact hcf) hcp]
  exact a
end ZLDF
