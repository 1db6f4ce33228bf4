/-! THE CLAIM OUT OF ONE WALK OF THE LAW'S BODY. Your part is whole_start (and what it stands on); all else here is the same for every law, but numbers. -/
def R_law : String := "RodGridsLaw"
def lw_P (b : Addr) (xs : List Int32) (args : Array Value) (s : State) : Prop := args = #[.ref b] ∧ s.IntsAt b xs ∧ xs.length ≤ 260 ∧ (Jvm.Cond.and given_1 narrow_1).before args s = true
/-- what a walk over the start with the record d0 says of its end, said of the start itself -/
theorem lw_closed {s t : State} {o : Outcome} {d0 : Drawn} {L : List Loc} {k n : Nat} (hd0 : s.drawn.sameBut d0 lw_cs) (hv : ∃ v, o = .returned v) (hW : (s.setDrawn d0).WarmedH t.vm) (hs : (s.setDrawn d0).sameButNew ({ t with vm := s.vm } : State) L k n) : State.butDraws s t lw_cs (fun t1 => Framed s o t1 L k n) := by
  have h2 : t.drawn = d0 := congrArg State.drawn hs.1
  refine ⟨⟨hv, hW, State.sameButNew.setDrawn hs s.drawn⟩, ?_, by decide⟩
  rw [h2]
  exact hd0
def lw_Q (_ : Array Value) (s : State) (o : Outcome) (t : State) : Prop := o = .returned (some (.int 1)) ∧ State.butDraws s t lw_cs (fun t1 => Framed s o t1 [] 604022 7289401)
def lw_Z (below : List Frame) (a : Array Value) (s : State) : State → Prop := fun t => ∃ o, t.status = .running ∧ Ended t below o ∧ lw_Q a s o t
/-- the law's own end, with 1 on the stack, nothing written that was there before, its room as the claim has it; d0: the record of draws at this point (at the entry s.drawn: begin with 'refine W.base ?_' and 'have hd0 := Drawn.sameBut.refl s.drawn lw_cs') -/
theorem lw_ret {p : Program} {l : Launch} {e : Env} {s : State} {m : MethodId} {below : List Frame} {meth : Method} {c : Code} {b : Nat} {d0 : Drawn} (hd0 : s.drawn.sameBut d0 lw_cs) (hx : p.tables.exec = Jvm.exec) (hb : c.code = code) (hr : meth.sig.returnType = ret) (hlocks : meth.locks = false) {pc : Nat} {H : Heap} {ls : Array Slot} (hdg : decode code pc = .ok (.ireturn, 1)) : W p l e room_1 (s.setDrawn d0) m #[Value.ref b] below meth c H [] 604022 7289401 (lw_Z below #[Value.ref b] s) (F0 m pc ls [.int 1]) := by
  intro T hT X
  obtain ⟨fs, hret, hrun, hended, hW, hframe⟩ := X.leave (v := some (.int 1)) (hlocks := hlocks) (fun h => by rw [hr] at h; cases h)
  have hmeth' : T.vm.method? m = some meth := X.method'
  refine ⟨T.setFrames fs, ?_, .returned (some (.int 1)), hrun, hended, rfl, lw_closed hd0 ⟨_, rfl⟩ hW hframe⟩
  jvm_step X.here [X.here.top, hx, hb, hdg, hmeth', hr, ret, narrow_b1]
  (try refine ⟨rfl, ?_⟩); (try refine ⟨rfl, ?_⟩)
  first | (intro acts; rw [hret _ acts rfl rfl rfl]) | rw [hret _ _ rfl rfl rfl]
  exact Steps.refl _
/-- what holds at the law's entry: the machine, the code, the tables' words (any of lw_tbl by 'hts w (by decide +kernel)'), the script of L ints xs at the cell b, what the Statement gives of the start (any of its parts by flat_of_before) -/
def lw_At (p : Program) (s : State) (m : MethodId) (meth : Method) (c : Code) (b L : Nat) (xs : Nat → Int32) : Prop :=
  p.tables.exec = Jvm.exec ∧ c.code = code ∧ meth.sig.returnType = ret ∧ c.maxLocals = 13 ∧ s.vm.findClass R_law = some m.cls ∧ (∀ w ∈ lw_tbl, w.before #[Value.ref b] s = true) ∧ va_X b L xs s s.heap ∧ b < s.heap.size ∧ meth.locks = false ∧ (Jvm.Cond.and given_1 narrow_1).before #[Value.ref b] s = true
theorem lw_end {p : Program} {l : Launch} {e : Env} {s : State} {m : MethodId} {below : List Frame} {meth : Method} {c : Code} {b : Nat} (hx : p.tables.exec = Jvm.exec) (hb : c.code = code) (hr : meth.sig.returnType = ret) (hlocks : meth.locks = false) {H : Heap} {locs : List Loc} {cells slots : Nat} {ls : Array Slot} (hS : va_S (fun q : Nat => s.heap.size ≤ q) s.heap H locs) (hcap : cells ≤ 604022 ∧ slots ≤ 7289401) : W p l e room_1 s m #[Value.ref b] below meth c H locs cells slots (lw_Z below #[Value.ref b] s) (F0 m 1142 ls [.int 1]) := by
  refine va_forget (fun q hq => hS.2.2 q hq) ?_
  refine W.widen (k := 604022) (n := 7289401) hcap.1 hcap.2 ?_
  refine W.base ?_
  exact lw_ret (Drawn.sameBut.refl s.drawn lw_cs) hx hb hr hlocks dL_law_1142
/-- what holds at every place of the law -/
def lwC (p : Program) (l : Launch) (s : State) (m : MethodId) (meth : Method) (c : Code) (D : va_G) (ct ad : Nat → Nat) (b : Nat) : Prop :=
  p.tables.exec = Jvm.exec ∧ c.code = code ∧ meth.sig.returnType = ret ∧ c.maxLocals = 13 ∧ s.vm.findClass RL = some m.cls ∧ (∀ w ∈ lw_tbl, w.before #[Value.ref b] s = true) ∧ meth.locks = false ∧ zE D ct ad (fun q : Nat => s.heap.size ≤ q) s s.heap ∧ l.stackTraces = false
/-- a piece of the law's walk: from the place pc to its end -/
def LZ (l : Launch) (D : va_G) (ct ad : Nat → Nat) (cells slots pc : Nat) (w : va_W) (lv : List (Nat × Value)) (st : List Value) : Prop :=
  ∀ (p : Program) (e : Env) (s : State) (m : MethodId) (below : List Frame) (meth : Method) (c : Code) (b : Nat) (H : Heap) (locs : List Loc) (ls : Array Slot), lwC p l s m meth c D ct ad b → va_P D vwCl w H → va_D (fun q : Nat => s.heap.size ≤ q) w → va_S (fun q : Nat => s.heap.size ≤ q) s.heap H locs → lv_has ls 13 lv → W p l e room_1 s m #[Value.ref b] below meth c H locs cells slots (lw_Z below #[Value.ref b] s) (F0 m pc ls st)
theorem rod_v {M : Int → Int} {k d n : Int} (h4 : 0 ≤ M 4) : st_rod M k d n 4 = M 4 + 1 ∧ st_rod M k d n (22 + 3 * M 4) = k ∧ st_rod M k d n (23 + 3 * M 4) = d ∧ st_rod M k d n (24 + 3 * M 4) = n := by
  refine ⟨up_s, ?_, ?_, ?_⟩
  · unfold st_rod
    rw [up_n (by omega), up_n (by omega), up_n (by omega), up_s]
  · unfold st_rod
    rw [up_n (by omega), up_n (by omega), up_s]
  · unfold st_rod
    rw [up_n (by omega), up_s]
theorem metal_v {M : Int → Int} {v : Int} (h3 : 0 ≤ M 3) : st_metal M v 3 = M 3 + 1 ∧ st_metal M v (16 + M 3) = v := by
  refine ⟨up_s, ?_⟩
  unfold st_metal
  rw [up_n (by omega), up_s]
theorem drop_len {M : Int → Int} {r : Int} (h : 0 ≤ r ∧ r + 1 < M 4) : st_drop M r (24 + 3 * r) = M (24 + 3 * (r + 1)) ∧ st_drop M r 4 = M 4 - 1 := by
  refine ⟨?_, up_s⟩
  rw [drop_v (by omega), if_pos (by omega), show 24 + 3 * r + 3 = 24 + 3 * (r + 1) by omega]
theorem wh_set {M : Int → Int} {tl w : Int} (h : w = 0 ∨ w = 1 ∨ w = 2) : sp_wh M tl (13 + w) = M w := by
  rcases h with h | h | h <;> subst h <;> rfl
theorem run_0 {TX : Int → Int} {M : Int → Int} : run TX 0 M 0 0 = (M, 0) := rfl
theorem tf_0 {TX : Int → Int} : tf TX 0 0 = -1 := by
  rw [tf_at (by omega) (sk_ge (by omega)), if_neg (by omega)]
theorem k_L_hour : yL_hour.cls ≠ "java/lang/invoke/MethodHandle" ∧ yL_hour.cls ≠ "java/lang/invoke/VarHandle" ∧ (parseMethodDescriptor yL_hour.desc).map (fun d => d.parameters.length) = some 1 := by decide +kernel
theorem k_L_lot : yL_lot.cls ≠ "java/lang/invoke/MethodHandle" ∧ yL_lot.cls ≠ "java/lang/invoke/VarHandle" ∧ (parseMethodDescriptor yL_lot.desc).map (fun d => d.parameters.length) = some 2 := by decide +kernel
theorem k_L_refuses : yL_refuses.cls ≠ "java/lang/invoke/MethodHandle" ∧ yL_refuses.cls ≠ "java/lang/invoke/VarHandle" ∧ (parseMethodDescriptor yL_refuses.desc).map (fun d => d.parameters.length) = some 1 := by decide +kernel
theorem k_L_sound : yL_sound.cls ≠ "java/lang/invoke/MethodHandle" ∧ yL_sound.cls ≠ "java/lang/invoke/VarHandle" ∧ (parseMethodDescriptor yL_sound.desc).map (fun d => d.parameters.length) = some 1 := by decide +kernel
theorem k_L_thoughts : yL_thoughts.cls ≠ "java/lang/invoke/MethodHandle" ∧ yL_thoughts.cls ≠ "java/lang/invoke/VarHandle" ∧ (parseMethodDescriptor yL_thoughts.desc).map (fun d => d.parameters.length) = some 2 := by decide +kernel
theorem k_X8_wind : yX8_wind.cls ≠ "java/lang/invoke/MethodHandle" ∧ yX8_wind.cls ≠ "java/lang/invoke/VarHandle" ∧ (parseMethodDescriptor yX8_wind.desc).map (fun d => d.parameters.length) = some 0 := by decide +kernel
