/-! Enum.ordinal, walked: no word says that its class is initialised -/
section ZORD
variable {p : Program} {l : Launch} {e : Env} {R : Room} {s : State} {m : MethodId} {args : Array Value} {below : List Frame} {meth : Method} {c : Code} {H : Heap} {locs : List Loc} {cells slots : Nat} {Q : State → Prop}
/-- the callee's stand, where it is walked -/
theorem z_enter {U : State} (X : Stand p l e R s m args below meth c U locs cells slots) {g : JFrame} (hg : g.method = m) (hsize : g.locals.size = c.maxLocals) {ig : Instr} {len : Nat} (hdg : decode c.code g.pc = .ok (ig, len)) {y : MethodName} {mk : MethodId} {a : Array Value} {methY : Method} {cY : Code} {maxL : Nat} {rm : Room} (hy : plainFor y = true) (hn : U.methodNamed? y = some mk) (hmY : U.vm.method? mk = some methY) (hcY : methY.code = some cY)
    (hframes : rm.frames + 1 ≤ R.frames) (hlocals : 2 * g.monitorRoom + (g.stack.map fun v => v.category).sum + (cY.maxLocals + 11) + rm.locals ≤ R.locals) (hc : cells + rm.cells ≤ R.cells) (hs : slots + rm.slots ≤ R.slots) :
    Stand p l e rm (U.calling g mk a) mk a (.java g :: U.frames.tail) methY cY ((U.calling g mk a).setFrames (.java (entryFrame mk a maxL) :: .java g :: U.frames.tail)) [] 0 0 := by
  have h : At U g.method c below := by rw [hg]; exact X.here
  have hf : (U.calling g mk a).frames = .invoking mk a :: .java g :: U.frames.tail := State.frames_calling h.top g mk a
  have hcur := State.cur_lt_of_frames hf
  have hf1 : ((U.calling g mk a).setFrames (.java (entryFrame mk a maxL) :: .java g :: U.frames.tail)).frames = .java (entryFrame mk a maxL) :: .java g :: U.frames.tail := State.frames_setFrames _ hcur
  have ht1 := State.topJava?_of_frames hf1
  have hcode : (U.calling g mk a).code? g.method = some c := by
    have := h.code
    rw [State.code?_eq] at this ⊢
    simpa [State.calling, State.pushFrame, State.setFrames] using this
  have hplain : ((U.calling g mk a).setFrames (.java (entryFrame mk a maxL) :: .java g :: U.frames.tail)).plainMethod mk := State.plainMethod.of_named (s := U) hy hn hmY
  have hrunb : (U.calling g mk a).curStatus? = some .runnable := by simpa [State.calling] using h.runnable
  have halone : (U.calling g mk a).alone = true := by simpa [State.calling] using h.alone
  have hmY' : (U.calling g mk a).vm.method? mk = some methY := hmY
  have hAt : At ((U.calling g mk a).setFrames (.java (entryFrame mk a maxL) :: .java g :: U.frames.tail)) mk cY (.java g :: U.frames.tail) :=
    ⟨by rw [ht1]; rfl, ⟨[], by rw [hf1]; rfl⟩, h.running, by simpa using hrunb, by simpa using halone,
      by rw [State.code?_eq]; simp [State.setFrames, hmY', hcY], hplain⟩
  obtain ⟨t, ht, -⟩ := State.frames_cons hf
  refine ⟨X.admits, X.cas, X.clock, hf, X.room_calling (g := g) (R' := rm) hsize hmY hcY hframes hlocals hc hs, ?_, hmY', hcY, hAt, by rw [hf1]; rfl, State.WarmedH.refl _, by rw [State.stackLimits_setFrames], by rw [State.stackBytes_setFrames], ?_⟩
  · simp [State.hears, hcode, hdg, Except.toOption]
  · exact (State.sameButNew.refl (U.calling g mk a) ht).setFrames (.java (entryFrame mk a maxL) :: .java g :: U.frames.tail) hcur
theorem z_back0 {y : MethodName} {mc ms : Nat} {rm : Room} {Qc : Array Value → State → Outcome → State → Prop} {free : Addr → Prop} {g : JFrame} {ig : Instr} {len : Nat} {mk : MethodId} {a : Array Value} {U : State} {methY : Method} {cY : Code} {maxL : Nat}
    (X : Stand p l e R s m args below meth c U locs cells slots) (hg : g.method = m) (hsize : g.locals.size = c.maxLocals) (hdg : decode c.code g.pc = .ok (ig, len)) (hy : plainFor y = true) (hn : U.methodNamed? y = some mk) (hmY : U.vm.method? mk = some methY) (hcY : methY.code = some cY) (hlY : cY.maxLocals = maxL) (hkY : methY.locks = false)
    (hframes : rm.frames + 1 ≤ R.frames) (hlocals : 2 * g.monitorRoom + (g.stack.map fun v => v.category).sum + (maxL + 11) + rm.locals ≤ R.locals) (hc : cells + rm.cells ≤ R.cells) (hs : slots + rm.slots ≤ R.slots)
    (K : W p l e rm (U.calling g mk a) mk a (.java g :: U.frames.tail) methY cY U.heap [] 0 0 (MQ (.java g :: U.frames.tail) Qc a (U.calling g mk a) mc ms free) (entryFrame mk a maxL)) :
    ∃ (v : Option Value) (B : Pt) (s₂ : State) (L : List Loc), Stand p l e R s m args below meth c B.U B.locs B.cells B.slots ∧ (B.U.heap = s₂.heap ∧ B.U.vm = s₂.vm ∧ Qc a (U.calling g mk a) (.returned v) s₂ ∧ B.locs = locs ++ L ∧ (∀ q ∈ L, free q.base) ∧ B.cells = cells + mc ∧ B.slots = slots + ms) ∧
      Steps p.tables e below (doInvoke e (U.setTop g) [] mk a).1 (B.U.setTop { g with pc := g.pc + len, stack := v.toList ++ g.stack }) := by
  subst hlY
  have h : At U g.method c below := by rw [hg]; exact X.here
  have Y := z_enter (a := a) (maxL := cY.maxLocals) X hg hsize hdg hy hn hmY hcY hframes hlocals hc hs
  obtain ⟨s₂, hst, o, -, hend, hqc, L, hfe, hL⟩ := K ((U.calling g mk a).setFrames (.java (entryFrame mk a cY.maxLocals) :: .java g :: U.frames.tail)) rfl Y
  obtain ⟨mid, hmid⟩ := h.above
  obtain ⟨g₀, hg0⟩ := Option.isSome_iff_exists.mp h.top
  obtain ⟨r, hr⟩ := State.topJava?_eq_some.mp hg0
  have hroom := X.notFull (g := g) hsize (vars := cY.maxLocals) (by omega) (by omega)
  have hent := doInvoke_enter (e := e) (g := g) (args := a) h.top [] hmY hcY hkY hroom
  have hS0 : (U.calling g mk a).setFrames (.java (entryFrame mk a cY.maxLocals) :: .java g :: U.frames.tail) = (U.setTop g).pushFrame (.java (entryFrame mk a cY.maxLocals)) := by
    rw [State.calling_eq h.top, State.setFrames_setFrames, State.pushFrame, State.frames_setTop _ hr, State.setTop_of_frames _ hr, State.setFrames_setFrames, hr]
    rfl
  have hsteps : Steps p.tables e below (doInvoke e (U.setTop g) [] mk a).1 s₂ := by
    rw [hent, ← hS0]
    obtain ⟨n, hn1, hw1⟩ := hst
    refine ⟨n, hn1, fun j hj => ?_⟩
    have hwj := hw1 j hj
    have hw2 : ∀ fs : List Frame, fs = (.java g :: mid) ++ below → ∀ st : State, Within st fs → Within st below := by
      rintro _ rfl st h9
      exact h9.weaken
    exact hw2 _ (by rw [hmid]; rfl) _ hwj
  have hr' : (({ U with heap := s₂.heap, slotsUsed := s₂.slotsUsed } : State).setVm s₂.vm).frames = .java g₀ :: r := hr
  obtain ⟨⟨v, rfl⟩, hW₂, e2, q2, q3, q4, q5, q6⟩ := id hfe
  have e3 : s₂ = ({ (U.calling g mk a).setFrames s₂.frames with heap := s₂.heap, slotsUsed := s₂.slotsUsed } : State).setVm s₂.vm := by
    have : s₂ = ({ s₂ with vm := (U.calling g mk a).vm } : State).setVm s₂.vm := rfl
    rw [e2] at this
    exact this
  obtain ⟨c₂, i₂, len₂, hc₂, hd₂, hf₂⟩ := hend
  have hW' : U.WarmedH s₂.vm := hW₂
  have hcc : c₂ = c := by
    have h1 : s₂.code? g.method = U.code? g.method := by
      rw [State.code?_eq, State.code?_eq, hW'.alike.method?]
    exact Option.some.inj (hc₂.symm.trans (h1.trans h.code))
  subst hcc
  have hlen : len₂ = len := by rw [hdg] at hd₂; cases hd₂; rfl
  subst hlen
  have hs₂ : s₂ = (({ U with heap := s₂.heap, slotsUsed := s₂.slotsUsed } : State).setVm s₂.vm).setTop { g with pc := g.pc + len₂, stack := v.toList ++ g.stack } := by
    refine e3.trans ?_
    rw [hf₂, State.calling_eq h.top, State.setFrames_setFrames, State.setTop_of_frames _ hr', hr]
    rfl
  have hsame : U.sameButNew ({ U with heap := s₂.heap, slotsUsed := s₂.slotsUsed } : State) L mc ms := by
    refine ⟨?_, q2, q3, q4, q5, q6⟩
    obtain ⟨t, ht, -⟩ := State.frames_cons hr
    show ({ U with heap := s₂.heap, slotsUsed := s₂.slotsUsed } : State) = { U.setFrames U.frames with heap := s₂.heap, slotsUsed := s₂.slotsUsed }
    rw [State.setFrames_self ht]
  subst hg
  refine ⟨v, ⟨(({ U with heap := s₂.heap, slotsUsed := s₂.slotsUsed } : State).setVm s₂.vm), locs ++ L, cells + mc, slots + ms⟩, s₂, L,
    ⟨X.admits, X.cas, X.clock, X.frames, X.room, X.hears, X.method, X.code, (X.here.setHeapUsed s₂.heap s₂.slotsUsed).setVm hW'.alike, X.tail, State.WarmedH.trans X.warmed hW', X.limits, X.bytes, X.same.trans (hsame.setVm s.vm)⟩,
    ⟨rfl, rfl, hqc, rfl, hL, rfl, rfl⟩, ?_⟩
  show Steps p.tables e below _ ((({ U with heap := s₂.heap, slotsUsed := s₂.slotsUsed } : State).setVm s₂.vm).setTop { g with pc := g.pc + len₂, stack := v.toList ++ g.stack })
  rw [← hs₂]
  exact hsteps
theorem z_ord {D : va_G} {ct ad : Nat → Nat} {A : Nat → Prop} {cc : ByteArray} {pc : Nat} {ls : Array Slot} {rest : List Value} {own : String} {index nL k : Nat} {lv : List (Nat × Value)} (hx : p.tables.exec = Jvm.exec) (hb : c.code = cc) (hml : c.maxLocals = nL) (hl : lv_has ls nL lv) (hown : s.vm.findClass own = some m.cls)
    (hlk : (Cond.methodLink own index ⟨"RodGrids$Word", "ordinal", "()I"⟩).before args s = true) (hsame : (Cond.sameMethod "RodGrids$Word" "java/lang/Enum" "ordinal" "()I").before args s = true) (hsel : (Cond.selects RX7 ⟨"RodGrids$Word", "ordinal", "()I"⟩ yJx29ce0_ordinal_8abf5).before args s = true) (hin : (Cond.instanceMethod yJx29ce0_ordinal_8abf5).before args s = true) (hcode : (Cond.code yJx29ce0_ordinal_8abf5 cJx29ce0_ordinal_8abf5 1 (some .int)).before args s = true) (hfld : (Cond.fieldLink RJx29ce0 7 "java/lang/Enum" "ordinal" "I").before args s = true)
    (hE : zE D ct ad A s s.heap) (hS : va_S A s.heap H locs) (hk : k < 12) (hR : 1 ≤ R.frames ∧ 20 ≤ R.locals) (hroom : (rest.map fun v => v.category).sum ≤ 8) (hc : cells ≤ R.cells ∧ slots ≤ R.slots) (hdg : decode cc pc = .ok (.invokevirtual index, 3))
    (kk : W p l e R s m args below meth c H locs cells slots Q (F0 m (pc + 3) ls (.int (zI (zOrd k)) :: rest))) : W p l e R s m args below meth c H locs cells slots Q (F0 m pc ls (.ref (ad k) :: rest)) := by
  intro T hT X
  have hEn := hE.2.2.1.1.1
  obtain ⟨cellB, hcB, hoB, hclB⟩ := hEn.recv (i := k) hk hS
  have hK : Back l R p e below s args yJx29ce0_ordinal_8abf5 3 8 (fun A1 a => A1.U.heap = H ∧ a = ([.ref (ad k)] : List Value).toArray ∧ A1.cells ≤ R.cells ∧ A1.slots ≤ R.slots) (fun A1 a v B => v = some (.int (zI (zOrd k))) ∧ B.U.heap = A1.U.heap ∧ B.locs = A1.locs ∧ B.cells = A1.cells ∧ B.slots = A1.slots) := by
    intro m' meth' c' A1 g ig mk a X1 hg hsize hdg1 hW hn hp
    obtain ⟨U, Ls, c0, s0⟩ := A1
    obtain ⟨hH, rfl, hc0, hs0⟩ := hp
    dsimp only [Pt.U, Pt.locs, Pt.cells, Pt.slots] at X1 hn hH hc0 hs0 ⊢
    have h2 : (Cond.code yJx29ce0_ordinal_8abf5 cJx29ce0_ordinal_8abf5 1 (some .int)).before ([.ref (ad k)] : List Value).toArray U = true := word_at X1.warmed (good_of_word (by decide +kernel)) hcode
    obtain ⟨methY, cY, hmY, hcY, hbY, hlY, hrY, hkY, -, -⟩ := Cond.code_spec hn h2
    have hS0 : ∀ q : State, q = U.calling g mk ([.ref (ad k)] : List Value).toArray → q.vm = U.vm ∧ q.heap = U.heap := fun q hq => by rw [hq]; exact ⟨rfl, rfl⟩
    have hf0 : (Cond.fieldLink RJx29ce0 7 "java/lang/Enum" "ordinal" "I").before ([.ref (ad k)] : List Value).toArray (U.calling g mk ([.ref (ad k)] : List Value).toArray) = true := word_at (U := U.calling g mk ([.ref (ad k)] : List Value).toArray) X1.warmed (good_of_word (by decide +kernel)) hfld
    have hown' : (U.calling g mk ([.ref (ad k)] : List Value).toArray).vm.findClass RJx29ce0 = some mk.cls := findClass_of_methodNamed hn
    have hEn' : zEn ad A (U.calling g mk ([.ref (ad k)] : List Value).toArray) (U.calling g mk ([.ref (ad k)] : List Value).toArray).heap := by
      have q1 := (hEn.kept (fun a h1 h2 => hS.2.1 a h1 h2)).moved (U := U.calling g mk ([.ref (ad k)] : List Value).toArray) X1.warmed.alike
      rw [← hH] at q1
      exact q1
    have hcat : 2 * g.monitorRoom + (g.stack.map fun v => v.category).sum + (1 + 11) + 0 ≤ R.locals := by omega
    obtain ⟨v, B, s₂, L, X', ⟨hh, hv, ⟨hr1, hr2⟩, hl1, hl2, hl3, hl4⟩, hst⟩ := z_back0 (rm := { frames := 0, cells := 0, slots := 0, locals := 0 }) (mc := 0) (ms := 0) (free := fun _ => False) (Qc := fun _ st o t => o = .returned (some (.int (zI (zOrd k)))) ∧ t.heap = st.heap) (a := ([.ref (ad k)] : List Value).toArray) X1 hg hsize hdg1 (y := yJx29ce0_ordinal_8abf5) (by decide +kernel) hn hmY hcY hlY hkY hR.1 hcat hc0 hs0 (by
        have hl0 := lv_entry ([.ref (ad k)] : List Value) (n := 1) (Nat.le_of_ble_eq_true rfl)
        rw [lg_entry_eq]
        generalize (lg_sl ([.ref (ad k)] : List Value) ++ List.replicate (1 - (lg_sl ([.ref (ad k)] : List Value)).length) Slot.unset).toArray = ls0 at hl0 ⊢
        have hl0 : lv_has ls0 1 [(0, .ref (ad k))] := hl0
        refine lv_aload_n hx hbY dJx29ce0_ordinal_8abf5_0 rfl (lv_at hl0 0 rfl) ?_
        refine z_getE0 (i := k) hx hbY hEn' hk va_S.rf hown' hf0 dJx29ce0_ordinal_8abf5_1 ?_
        exact W.iret (v := zI (zOrd k)) hx hbY hrY (fun t ht hW => ⟨rfl, ht⟩) (fun q hq => nomatch hq) dJx29ce0_ordinal_8abf5_4 hkY)
    cases hr1
    have hL0 : L = [] := by
      cases L with
      | nil => rfl
      | cons q L => exact (hl2 q List.mem_cons_self).elim
    subst hL0
    exact ⟨_, B, X', ⟨rfl, hh.trans hr2, hl1.trans (List.append_nil _), hl3, hl4⟩, hst⟩
  obtain ⟨v, vm₁, B, hW₁, X', ⟨rfl, k1, k2, k3, k4⟩, st⟩ := va_callVU X hx (C := RX7) (owner := "java/lang/Enum") (x := ⟨"RodGrids$Word", "ordinal", "()I"⟩) hown hlk hsame (va_Decl.of hin hcode) ⟨by decide, by decide⟩ hsel hin hcode hK (by rw [hT]; exact hcB) hoB hclB (g := F0 m pc ls (.ref (ad k) :: rest)) rfl (hl.1.trans hml.symm) (argsL := []) (rest := rest) (fun sig hsig => by
      have e : (parseMethodDescriptor "()I").map (fun d => d.parameters.length) = some 0 := by decide +kernel
      rw [hsig] at e
      exact (Option.some.inj e).symm) rfl (by show 2 * 0 + _ ≤ 8; omega) (by rw [hb]; exact hdg) (fun vm₁ hW₁ => ⟨hT, rfl, hc.1, hc.2⟩)
  obtain ⟨U', l2, c2, s2⟩ := B
  dsimp only [Pt.U, Pt.locs, Pt.cells, Pt.slots] at X' k1 k2 k3 k4 st
  subst k2; subst k3; subst k4
  obtain ⟨t2, a1, b1⟩ := kk U' (k1.trans hT) X'
  exact ⟨t2, st t2 a1, b1⟩
end ZORD
