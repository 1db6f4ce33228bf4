/-! the law: the relation of the two systems -/
theorem sInv_stcA {M : Int → Int} (h : sInv M) {c x y : Int} (hk : ckc M c x y = 0) : sInv (stc M c x y) := by
  by_cases hc : 0 ≤ c ∧ c ≤ 11
  · exact sInv_stc h hc hk
  · have e1 : ckc M c x y = ck_hours M x := by
      unfold ckc
      rw [if_neg (by omega), if_neg (by omega), if_neg (by omega), if_neg (by omega), if_neg (by omega), if_neg (by omega), if_neg (by omega), if_neg (by omega), if_neg (by omega), if_neg (by omega), if_neg (by omega)]
    have e2 : stc M c x y = sp_pass M x.toNat := by
      unfold stc
      rw [if_neg (by omega), if_neg (by omega), if_neg (by omega), if_neg (by omega), if_neg (by omega), if_neg (by omega), if_neg (by omega), if_neg (by omega), if_neg (by omega), if_neg (by omega), if_neg (by omega)]
    rw [e1] at hk
    rw [e2]
    exact sInv_pass h hk
theorem sInv_rN {TX : Int → Int} {tl : Int} : ∀ (k : Nat) (M : Int → Int) (p n : Int), sInv M → sInv (rN TX tl k M p n).1
  | 0, M, p, n, h => h
  | k + 1, M, p, n, h => by
    unfold rN
    split
    · split
      · rename_i hk
        exact sInv_rN k _ _ _ (sInv_stcA h hk)
      · exact h
    · exact h
theorem sInv_run {TX : Int → Int} {tl : Int} {M : Int → Int} {p n : Int} (h : sInv M) : sInv (run TX tl M p n).1 := sInv_rN _ _ _ _ h
theorem sv_min {sz : Int} : sv_n sz + 1 = min (sz + 1) 4 ∨ ¬ (0 ≤ sz ∧ sz ≤ 4) := by
  unfold sv_n
  split <;> omega
/-- the saved states of both: the place of the class's ring and the reference's row -/
def lwR (M TX : Int → Int) (nx sz tl : Int) (S : Nat → Int → Int) (SV : Int → Int) : Prop :=
  sInv M ∧ tInv TX tl ∧ (0 ≤ nx ∧ nx ≤ 3) ∧ (0 ≤ sz ∧ sz ≤ 4) ∧ (∀ j : Nat, j < 4 → sInv (S j)) ∧ ∀ j k : Int, 0 ≤ j → j < sz → 0 ≤ k → k < 94 → S ((nx - sz + j) % 4).toNat k = SV (94 * j + k)
theorem lwR_0 : lwR zM0 (fun _ => 0) 0 0 0 (fun _ => zM0) (fun _ => 0) :=
  ⟨sInv_0, ⟨by omega, fun k h1 h2 => by omega⟩, by omega, by omega, fun _ _ => sInv_0, fun j k h1 h2 => by omega⟩
theorem lwR_type {M TX : Int → Int} {nx sz tl : Int} {S : Nat → Int → Int} {SV : Int → Int} (h : lwR M TX nx sz tl S SV) {v : Int} (hv : (0 ≤ v ∧ v ≤ 127) ∧ tl < 150) : lwR M (up TX tl v) nx sz (tl + 1) S SV := by
  obtain ⟨h1, ⟨h2, h2'⟩, h3, h4, h5, h6⟩ := h
  refine ⟨h1, ⟨by omega, fun k a b => ?_⟩, h3, h4, h5, h6⟩
  unfold up
  split
  · omega
  · exact h2' k a (by omega)
theorem lwR_clear {M TX : Int → Int} {nx sz tl : Int} {S : Nat → Int → Int} {SV : Int → Int} (h : lwR M TX nx sz tl S SV) : lwR M TX nx sz 0 S SV := by
  obtain ⟨h1, ⟨h2, h2'⟩, h3, h4, h5, h6⟩ := h
  exact ⟨h1, ⟨by omega, fun k a b => by omega⟩, h3, h4, h5, h6⟩
theorem lwR_push {M N TX : Int → Int} {nx sz tl : Int} {S : Nat → Int → Int} {SV : Int → Int} (h : lwR M TX nx sz tl S SV) (hN : sInv N) : lwR N TX ((nx + 1) % 4) (min (sz + 1) 4) tl (updS S nx M) (sv_keep SV M sz) := by
  obtain ⟨h1, h2, h3, h4, h5, h6⟩ := h
  refine ⟨hN, h2, by omega, by omega, fun j hj => ?_, fun j k a1 a2 a3 a4 => ?_⟩
  · unfold updS
    split
    · exact h1
    · exact h5 j hj
  · unfold sv_keep brN
    by_cases hlast : j = sv_n sz
    · have e0 : ((((nx + 1) % 4 - min (sz + 1) 4 + j) % 4).toNat : Int) = nx := by
        subst hlast
        unfold sv_n
        split <;> omega
      have e1 : updS S nx M (((nx + 1) % 4 - min (sz + 1) 4 + j) % 4).toNat = M := by
        unfold updS
        rw [if_pos e0]
      rw [e1, if_pos (by subst hlast; omega)]
      congr 1
      subst hlast
      omega
    · have hj : j < sv_n sz := by
        unfold sv_n at hlast ⊢
        split at hlast <;> split <;> omega
      have e0 : ¬ ((((nx + 1) % 4 - min (sz + 1) 4 + j) % 4).toNat : Int) = nx := by
        unfold sv_n at hj
        split at hj <;> omega
      have e1 : updS S nx M (((nx + 1) % 4 - min (sz + 1) 4 + j) % 4).toNat = S (((nx + 1) % 4 - min (sz + 1) 4 + j) % 4).toNat := by
        unfold updS
        rw [if_neg e0]
      rw [e1, if_neg (by omega)]
      by_cases h44 : sz = 4
      · rw [if_pos h44]
        have hj3 : j < 3 := by
          unfold sv_n at hj
          rw [if_pos h44] at hj
          exact hj
        have q := h6 (j + 1) k (by omega) (by omega) a3 a4
        unfold shN
        rw [if_pos (by omega), show 94 * j + k + 94 = 94 * (j + 1) + k by omega, ← q]
        congr 2
        omega
      · rw [if_neg h44]
        have hj3 : j < sz := by
          unfold sv_n at hj
          rw [if_neg h44] at hj
          exact hj
        have q := h6 j k a1 hj3 a3 a4
        rw [← q]
        congr 2
        omega
theorem lwR_undo {M TX : Int → Int} {nx sz tl : Int} {S : Nat → Int → Int} {SV : Int → Int} (h : lwR M TX nx sz tl S SV) (hs : 1 ≤ sz ∧ sz ≤ 4) : lwR (S ((nx + 3) % 4).toNat) TX ((nx + 3) % 4) (sz - 1) tl S SV := by
  obtain ⟨h1, h2, h3, h4, h5, h6⟩ := h
  refine ⟨h5 _ (by omega), h2, by omega, by omega, h5, fun j k a1 a2 a3 a4 => ?_⟩
  have q := h6 j k a1 (by omega) a3 a4
  rw [← q]
  congr 2
  omega
theorem lwR_back {M TX : Int → Int} {nx sz tl : Int} {S : Nat → Int → Int} {SV : Int → Int} (h : lwR M TX nx sz tl S SV) (hs : 1 ≤ sz ∧ sz ≤ 4) (ct : Nat → Nat) (q : Nat) : jrW ct q 94 (brN SV M (94 * (sz - 1)) 0 94) = jrW ct q 94 (S ((nx + 3) % 4).toNat) := by
  refine jrW_eq fun x x1 x2 => ?_
  have q := h.2.2.2.2.2 (sz - 1) x (by omega) (by omega) x1 (by omega)
  unfold brN
  rw [if_pos (by omega), show 94 * (sz - 1) + (x - 0) = 94 * (sz - 1) + x by omega, ← q]
  congr 2
  have := h.2.2.1
  omega
/-! bounds of the answers -/
theorem sp_errB {M : Int → Int} : -2147483648 ≤ sp_err M ∧ sp_err M ≤ 2147483647 := by
  unfold sp_err
  omega
theorem sp_matchB {M : Int → Int} {r : Int} : -2147483648 ≤ sp_match M r ∧ sp_match M r ≤ 2147483647 := by
  unfold sp_match sp_clamp
  (repeat' split) <;> omega
theorem sp_rangeB {M : Int → Int} {lo hi : Int} (hB : bInv M) : -2147483648 ≤ sp_range M lo hi ∧ sp_range M lo hi ≤ 2147483647 := by
  have q := sp_mxB (lo := lo) hB ((hi - lo) / 10).toNat
  unfold sp_range
  omega
theorem sp_rtB {M : Int → Int} {t : Int} (hB : bInv M) : -2147483648 ≤ sp_rt M t ∧ sp_rt M t ≤ 2147483647 := by
  have j1 := hB.2.1
  have q := sp_rateB (len := sp_len M t) hB j1.2.2.2
  unfold sp_rt
  omega
section ZLAW
variable {p : Program} {l : Launch} {e : Env} {R : Room} {s : State} {m : MethodId} {args : Array Value} {below : List Frame} {meth : Method} {c : Code} {H : Heap} {locs : List Loc} {cells slots : Nat} {Q : State → Prop}
variable {cc : ByteArray} {pc : Nat} {ls : Array Slot} {rest : List Value} {A : Nat → Prop}
theorem z_sld {b L : Nat} {xs : Nat → Int32} {z v : Int} (hx : p.tables.exec = Jvm.exec) (hb : c.code = cc) (hX : va_X b L xs s s.heap) (hbl : b < s.heap.size) (hbA : ¬ A b) (hS : va_S A s.heap H locs) (hz : 0 ≤ z ∧ z < L) (hL : L ≤ 2048) (hv : xs z.toNat = zI v) (hdg : decode cc pc = .ok (.iaload, 1))
    (kk : W p l e R s m args below meth c H locs cells slots Q (F0 m (pc + 1) ls (.int (zI v) :: rest))) : W p l e R s m args below meth c H locs cells slots Q (F0 m pc ls (.int (zI z) :: .ref b :: rest)) := by
  refine va_sld hx hb hX hbl hbA hS (zI_in (n := L) (by omega) (by omega)) hdg ?_
  rw [zI_clamp (by omega), hv]
  exact kk
theorem z_icmp_eqS {a : Int32} {off : Int} {tgt : Nat} (hx : p.tables.exec = Jvm.exec) (hb : c.code = cc) (hdg : decode cc pc = .ok (.if_icmp .eq off, 3)) (ht : (pc : Int) + off = (tgt : Int))
    (k : W p l e R s m args below meth c H locs cells slots Q (F0 m tgt ls rest)) : W p l e R s m args below meth c H locs cells slots Q (F0 m pc ls (.int a :: .int a :: rest)) :=
  lv_icmp_eq hx hb hdg ht (fun _ => k) (fun h => absurd rfl h)
theorem z_lcmp_eqS {a : Int64} {off : Int} {tgt : Nat} (hx : p.tables.exec = Jvm.exec) (hb : c.code = cc) (hdg : decode cc pc = .ok (.lcmp, 1)) (hdh : decode cc (pc + 1) = .ok (.ifCond .eq off, 3)) (ht : ((pc + 1 : Nat) : Int) + off = (tgt : Int))
    (k : W p l e R s m args below meth c H locs cells slots Q (F0 m tgt ls rest)) : W p l e R s m args below meth c H locs cells slots Q (F0 m pc ls (.long a :: .long a :: rest)) := by
  exact W.lcmp hx hb hdg (lv_if_eq hx hb hdh ht (fun _ => k) (fun h => absurd ((lg_cmp_eq a a).mpr rfl) h))
theorem z_and31 (x : Int32) : ∃ k : Int, x &&& zI 31 = zI k ∧ 0 ≤ k ∧ k ≤ 31 := by
  refine ⟨((x &&& zI 31).toBitVec.toNat : Int), ?_, by omega, ?_⟩
  · apply Int32.toBitVec_inj.mp
    show (x &&& zI 31).toBitVec = BitVec.ofInt 32 ((x &&& zI 31).toBitVec.toNat : Int)
    rw [BitVec.ofInt_natCast]
    simp
  · have e : (x &&& zI 31).toBitVec = x.toBitVec &&& (31 : BitVec 32) := rfl
    rw [e, BitVec.toNat_and]
    have e2 : (31 : BitVec 32).toNat = 31 := rfl
    rw [e2]
    have := Nat.and_le_right (n := x.toBitVec.toNat) (m := 31)
    omega
end ZLAW
/-- what holds at every place of the law -/
def lwC (p : Program) (l : Launch) (s : State) (m : MethodId) (meth : Method) (c : Code) (D : va_G) (ct ad : Nat → Nat) (b L : Nat) (xs : Nat → Int32) : Prop :=
  p.tables.exec = Jvm.exec ∧ c.code = code ∧ meth.sig.returnType = ret ∧ c.maxLocals = 9 ∧ s.vm.findClass RL = some m.cls ∧ (∀ w ∈ lw_tbl, w.before #[Value.ref b] s = true) ∧ va_X b L xs s s.heap ∧ b < s.heap.size ∧ meth.locks = false ∧ zE D ct ad (fun q : Nat => s.heap.size ≤ q) s s.heap ∧ l.stackTraces = false ∧ L ≤ 2048
def lwW (ct : Nat → Nat) (u : Nat) (a r q : Nat → Nat) (b2 : Nat → Nat → Nat) (o0 : Nat) (mb : Nat → Nat) (nx sz : Int) (S : Nat → Int → Int) (M TX : Int → Int) (tl pl ft n1 n2 : Int) (wd : Value) (O SP SV NB : Int → Int) (cd plm cm h : Int) : va_W :=
  x8W u a r q ++ (svW ct r b2 nx sz S ++ (sobjW a ++ (gridW ct a M ++ (benchW ct a M ++ (logW ct a M ++ (txtW ct q TX tl pl ft wd n1 n2 ++ (jrW ct o0 1 O ++ (moW mb sz tl cd plm cm h ++ (jrW ct (mb 1) 94 M ++ (jrW ct (mb 2) 94 SP ++ (jrW ct (mb 3) 376 SV ++ (irW ct (mb 4) 150 TX ++ (irW ct (mb 5) 2 NB)))))))))))))
/-- what holds ahead of a call: of the heap, the locals -/
def lwI (s : State) (D : va_G) (ct : Nat → Nat) (b u : Nat) (a r q : Nat → Nat) (b2 : Nat → Nat → Nat) (o0 : Nat) (mb : Nat → Nat) (i : Int) (H : Heap) (locs : List Loc) (ls : Array Slot) : Prop :=
  ∃ (nx sz : Int) (S : Nat → Int → Int) (M TX : Int → Int) (tl pl ft n1 n2 : Int) (wd : Value) (O SP SV NB : Int → Int) (cd plm cm h : Int),
    lwR M TX nx sz tl S SV ∧ va_P D vwCl (lwW ct u a r q b2 o0 mb nx sz S M TX tl pl ft n1 n2 wd O SP SV NB cd plm cm h) H ∧ va_D (fun q : Nat => s.heap.size ≤ q) (lwW ct u a r q b2 o0 mb nx sz S M TX tl pl ft n1 n2 wd O SP SV NB cd plm cm h) ∧ va_S (fun q : Nat => s.heap.size ≤ q) s.heap H locs ∧ lv_has ls 9 [(0, .ref b), (1, .ref u), (2, .ref (mb 0)), (3, .ref o0), (4, .int (zI i))]
