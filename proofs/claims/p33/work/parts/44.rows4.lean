/-! a call of an inherited method on a constant of the list of words -/
section ZROW6
variable {p : Program} {l : Launch} {e : Env} {R : Room} {s : State} {m : MethodId} {args : Array Value} {below : List Frame} {meth : Method} {c : Code} {H : Heap} {locs : List Loc} {cells slots : Nat} {Q : State → Prop}
variable {cc : ByteArray} {pc : Nat} {ls : Array Slot} {rest : List Value} {D : va_G} {ct ad : Nat → Nat} {A : Nat → Prop} {ws : va_W} {post : Option Value → va_W → Prop} {mc ms : Nat}
theorem z_callVU {x y : MethodName} {owner : String} {ws ws' : List Cond} {rm : Room} {bytes : ByteArray} {maxL nL n index : Nat} {ret : Option FieldType} {Ts : List Cond} {own : String} {As st0 : List Value} {lv : List (Nat × Value)} {b : Addr} {C : String} (pw r : va_W) {wc : va_W} (hx : p.tables.exec = Jvm.exec) (hb : c.code = cc) (hml : c.maxLocals = nL) (hown : s.vm.findClass own = some m.cls) (hts : ∀ z ∈ Ts, z.before args s = true) (hl : lv_has ls nL lv) (hE : zE D ct ad A s s.heap) (hS : va_S A s.heap H locs) (hA : ∀ q : Nat, s.heap.size ≤ q → A q) (hP : va_P D vwCl (pw ++ (wc ++ r)) H) (hD : va_D A (pw ++ (wc ++ r)))
    (hM : ZM l y ws rm D ct ad (.ref b :: As) wc post) (hG : GoodIn Ts (va_wsU own index C owner x y ws)) (hw : ws = Cond.code y bytes maxL ret :: ws') (hyx : y = ⟨owner, x.name, x.desc⟩) (hd : owner ≠ "java/lang/invoke/MethodHandle" ∧ owner ≠ "java/lang/invoke/VarHandle" ∧ (parseMethodDescriptor x.desc).map (fun d => d.parameters.length) = some n) (hR : rm.frames + 1 ≤ R.frames ∧ 8 + (maxL + 11) + rm.locals ≤ R.locals) (hrecv : ∃ cell : Cell, H[b]? = some cell ∧ cell.vm.isStatics = false ∧ s.vm.findClass C = some cell.cls) (hn : As.length = n) (hroom : (rest.map fun v => v.category).sum ≤ 8) (hf : cells + rm.cells ≤ R.cells ∧ slots + rm.slots ≤ R.slots) (hdg : decode cc pc = .ok (.invokevirtual index, 3)) (hst0 : st0 = As.reverse ++ .ref b :: rest)
    (kk : ∀ (v : Option Value) (w1 : va_W) (H1 : Heap) (locs1 : List Loc), post v w1 → va_P D vwCl (pw ++ (w1 ++ r)) H1 → va_D A (pw ++ (w1 ++ r)) → va_S A s.heap H1 locs1 → W p l e R s m args below meth c H1 locs1 (cells + rm.cells) (slots + rm.slots) Q (F0 m (pc + 3) ls (v.toList ++ rest))) : W p l e R s m args below meth c H locs cells slots Q (F0 m (pc) ls (st0)) := by
  subst hst0
  have hF := zA_app (D := D) (H := H) hD (sz := H.size) (fun q h => hA q (Nat.le_trans hS.1 h))
  have hPc := zsub hP
  have hDc := zsubD hD
  exact z_callR pw r (va_runU (As := As) (rest := rest) ⟨hx, hb, hml, hown, hts⟩ (hM H.size) (va_cwU n hts hG hw rfl rfl hyx hd hR) ⟨zP_blind, hrecv, z_pre hE hS hF hPc hDc⟩ rfl hn hl.1 rfl (lv_room hroom) hdg hf) hS hA hP hD kk
end ZROW6
theorem zSw_w {c : Int} (h : 0 ≤ c ∧ c ≤ 11) : zSwm (zOrd c.toNat).toNat = (if c = 9 then 12 else if c = 10 then 10 else if c = 11 then 11 else c + 1) := by
  rw [zOrd_w h]
  unfold zSwm
  (repeat' split) <;> omega
def x8W (u : Nat) (a r q : Nat → Nat) : va_W := [(u, .inr (6, [.ref (a 0), .ref (r 0), .ref (q 0)]))]
