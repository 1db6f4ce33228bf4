/-! more rows: bytes, answers that refer, static rows of references -/
section ZROW2
variable {p : Program} {l : Launch} {e : Env} {R : Room} {s : State} {m : MethodId} {args : Array Value} {below : List Frame} {meth : Method} {c : Code} {H : Heap} {locs : List Loc} {cells slots : Nat} {Q : State → Prop}
variable {cc : ByteArray} {pc : Nat} {ls : Array Slot} {rest : List Value} {D : va_G} {ct ad : Nat → Nat} {A : Nat → Prop} {ws : va_W} {post : Option Value → va_W → Prop} {mc ms : Nat}
theorem W.aretR {Qc : Array Value → State → Outcome → State → Prop} {free : Addr → Prop} {x : Nat} {C : String} (hexec : p.tables.exec = Jvm.exec) (hb : c.code = cc) (hr : meth.sig.returnType = some (.object C))
    (hq : ∀ t : State, t.heap = H → s.WarmedH t.vm → Qc args s (.returned (some (.ref x))) t) (hf : ∀ q ∈ locs, free q.base)
    (hdg : decode cc pc = .ok (.areturn, 1)) (hlocks : meth.locks = false := by assumption) : W p l e R s m args below meth c H locs cells slots (MQ below Qc args s cells slots free) (F0 m pc ls [.ref x]) := by
  intro T hT X
  have hlocks : meth.locks = false := hlocks
  obtain ⟨fs, hret, hrun, hended, hW, hframe⟩ := X.leave (v := some (.ref x)) (fun h => by rw [hr] at h; cases h)
  have hmeth' : T.vm.method? m = some meth := X.method'
  refine ⟨T.setFrames fs, ?_, .returned (some (.ref x)), hrun, hended, hq _ hT hW, locs, ⟨⟨_, rfl⟩, hW, hframe⟩, hf⟩
  jvm_step X.here [X.here.top, hexec, hb, hdg, hmeth', hr, Value.isRef, FieldType.isReference]
  (try refine ⟨rfl, ?_⟩); (try refine ⟨rfl, ?_⟩)
  first | (intro acts; rw [hret _ acts rfl rfl rfl]) | rw [hret _ _ rfl rfl rfl]
  exact Steps.refl _
theorem W.aretN {Qc : Array Value → State → Outcome → State → Prop} {free : Addr → Prop} {C : String} (hexec : p.tables.exec = Jvm.exec) (hb : c.code = cc) (hr : meth.sig.returnType = some (.object C))
    (hq : ∀ t : State, t.heap = H → s.WarmedH t.vm → Qc args s (.returned (some .null)) t) (hf : ∀ q ∈ locs, free q.base)
    (hdg : decode cc pc = .ok (.areturn, 1)) (hlocks : meth.locks = false := by assumption) : W p l e R s m args below meth c H locs cells slots (MQ below Qc args s cells slots free) (F0 m pc ls [.null]) := by
  intro T hT X
  have hlocks : meth.locks = false := hlocks
  obtain ⟨fs, hret, hrun, hended, hW, hframe⟩ := X.leave (v := some .null) (fun h => by rw [hr] at h; cases h)
  have hmeth' : T.vm.method? m = some meth := X.method'
  refine ⟨T.setFrames fs, ?_, .returned (some .null), hrun, hended, hq _ hT hW, locs, ⟨⟨_, rfl⟩, hW, hframe⟩, hf⟩
  jvm_step X.here [X.here.top, hexec, hb, hdg, hmeth', hr, Value.isRef, FieldType.isReference]
  (try refine ⟨rfl, ?_⟩); (try refine ⟨rfl, ?_⟩)
  first | (intro acts; rw [hret _ acts rfl rfl rfl]) | rw [hret _ _ rfl rfl rfl]
  exact Steps.refl _
theorem z_aretR {x : Nat} {C : String} {w' : va_W} (hx : p.tables.exec = Jvm.exec) (hb : c.code = cc) (hr : meth.sig.returnType = some (.object C)) (hlocks : meth.locks = false) (hP : va_P D vwCl w' H) (hD : va_D A w') (hS : va_S A s.heap H locs) (hc : cells ≤ mc ∧ slots ≤ ms) (hdg : decode cc pc = .ok (.areturn, 1)) (hpost : post (some (.ref x)) w') :
    W p l e R s m args below meth c H locs cells slots (MQ below (zQ D post A) args s mc ms A) (F0 m pc ls [.ref x]) := by
  refine W.widen hc.1 hc.2 ?_
  exact W.aretR hx hb hr (fun t ht hW => ⟨⟨_, w', rfl, hpost, by rw [ht]; exact hP, hD⟩, hS.F ht⟩) hS.2.2 hdg hlocks
theorem z_aretN {C : String} {w' : va_W} (hx : p.tables.exec = Jvm.exec) (hb : c.code = cc) (hr : meth.sig.returnType = some (.object C)) (hlocks : meth.locks = false) (hP : va_P D vwCl w' H) (hD : va_D A w') (hS : va_S A s.heap H locs) (hc : cells ≤ mc ∧ slots ≤ ms) (hdg : decode cc pc = .ok (.areturn, 1)) (hpost : post (some .null) w') :
    W p l e R s m args below meth c H locs cells slots (MQ below (zQ D post A) args s mc ms A) (F0 m pc ls [.null]) := by
  refine W.widen hc.1 hc.2 ?_
  exact W.aretN hx hb hr (fun t ht hW => ⟨⟨_, w', rfl, hpost, by rw [ht]; exact hP, hD⟩, hS.F ht⟩) hS.2.2 hdg hlocks
theorem zI_byte {v : Int} (h : 0 ≤ v ∧ v ≤ 127) : (zI v).toInt8.toInt32 = zI v := by
  have e : ∀ k : Fin 128, (zI ((k.val : Nat) : Int)).toInt8.toInt32 = zI ((k.val : Nat) : Int) := by decide +kernel
  have q := e ⟨v.toNat, by omega⟩
  rw [show (((⟨v.toNat, by omega⟩ : Fin 128).val : Nat) : Int) = v from by show ((v.toNat : Nat) : Int) = v; omega] at q
  exact q
theorem z_i2b {v : Int} (hx : p.tables.exec = Jvm.exec) (hb : c.code = cc) (hdg : decode cc pc = .ok (.i2b, 1)) (h : 0 ≤ v ∧ v ≤ 127)
    (k : W p l e R s m args below meth c H locs cells slots Q (F0 m (pc + 1) ls (.int (zI v) :: rest))) : W p l e R s m args below meth c H locs cells slots Q (F0 m (pc) ls (.int (zI v) :: rest)) := lv_i2b hx hb hdg (zI_byte h) k
theorem zI_narB {v : Int} (h : 0 ≤ v ∧ v ≤ 127) : vp_nar .byte (zI v) = zI v := zI_byte h
theorem z_bast {H0 : Heap} {a n : Nat} {g : Int → Int} {i v : Int} {w2 : va_W} (hv : 0 ≤ v ∧ v ≤ 127) (hx : p.tables.exec = Jvm.exec) (hb : c.code = cc) (hK : va_K D vwCl (zT ct) s) (hP : va_P D vwCl ws H) (hD : va_D A ws) (hS : va_S A H0 H locs) (q0 : Nat) (ha : ws[q0]? = some (a, .inl (ct 2, n, .inl (fun k => zI (clip n g (k : Int)))))) (hn : n ≤ 2147483647) (hi : 0 ≤ i ∧ i < n) (hdg : decode cc pc = .ok (.bastore, 1)) (hw : ws.set q0 (a, .inl (ct 2, n, .inl (fun k => zI (clip n (up g i v) (k : Int))))) = w2)
    (kk : ∀ (H1 : Heap) (locs1 : List Loc), va_P D vwCl w2 H1 → va_D A w2 → va_S A H0 H1 locs1 → W p l e R s m args below meth c H1 locs1 cells slots Q (F0 m (pc + 1) ls (rest))) : W p l e R s m args below meth c H locs cells slots Q (F0 m (pc) ls (.int (zI v) :: .int (zI i) :: .ref a :: rest)) := by
  subst hw
  refine va_bast hx hb hK hP hD hS q0 2 ha rfl (zI_in hi hn) hdg (fun H1 locs1 h1 h2 h3 => ?_)
  rw [zI_narB hv, zI_upd g v hi hn] at h1 h2
  exact kk H1 locs1 h1 h2 h3
theorem z_tq {t N : Nat} {C : String} {f : Nat → Nat} {i : Int} (hx : p.tables.exec = Jvm.exec) (hb : c.code = cc) (hT : va_T (.object C) t N (fun j => .ref (f j)) A s s.heap) (hS : va_S A s.heap H locs) (hi : 0 ≤ i ∧ i < N) (hn : N ≤ 2147483647) (hdg : decode cc pc = .ok (.aaload, 1))
    (kk : W p l e R s m args below meth c H locs cells slots Q (F0 m (pc + 1) ls (.ref (f i.toNat) :: rest))) : W p l e R s m args below meth c H locs cells slots Q (F0 m (pc) ls (.int (zI i) :: .ref t :: rest)) :=
  vb_tq hx hb hT hS (zI_in (n := N) hi hn) (by rw [zI_clamp (by omega)]) hdg kk
theorem z_tlen {t N : Nat} {ty : FieldType} {f : Nat → Value} (hx : p.tables.exec = Jvm.exec) (hb : c.code = cc) (hT : va_T ty t N f A s s.heap) (hS : va_S A s.heap H locs) (hdg : decode cc pc = .ok (.arraylength, 1))
    (kk : W p l e R s m args below meth c H locs cells slots Q (F0 m (pc + 1) ls (.int (zI (N : Int)) :: rest))) : W p l e R s m args below meth c H locs cells slots Q (F0 m (pc) ls (.ref t :: rest)) := va_tlen hx hb (hT.kept hS.2.1 |> fun h => hT) hS rfl hdg kk
end ZROW2
