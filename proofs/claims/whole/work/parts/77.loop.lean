theorem zI_ofNat (L : Nat) : Int32.ofNat L = zI (L : Int) := by
  apply Int32.toBitVec_inj.mp
  show BitVec.ofNat 32 L = BitVec.ofInt 32 (L : Int)
  rw [BitVec.ofInt_natCast]
set_option maxHeartbeats 4000000 in
set_option maxRecDepth 100000 in
theorem law_head (p : Program) (l : Launch) (e : Env) (s : State) (m : MethodId) (below : List Frame) (meth : Method) (c : Code) (D : va_G) (ct ad : Nat → Nat) (b L : Nat) (xs : Nat → Int32) (u : Nat) (a r q : Nat → Nat) (b2 : Nat → Nat → Nat) (o0 : Nat) (mb : Nat → Nat) (hC : lwC p l s m meth c D ct ad b L xs) (i : Int) (hi : 0 ≤ i ∧ i ≤ (L : Int)) (cells slots : Nat) (hcap : cells + 1 ≤ 601024 ∧ slots + 6 ≤ 7293034) (ih : i + 4 ≤ (L : Int) → ∀ (H : Heap) (locs : List Loc) (ls : Array Slot), lwI s D ct b u a r q b2 o0 mb (i + 4) H locs ls → W p l e room_1 s m #[Value.ref b] below meth c H locs (cells + 1) (slots + 6) (lw_Z below #[Value.ref b] s) (F0 m 23 ls [])) (H : Heap) (locs : List Loc) (ls : Array Slot) (hI0 : lwI s D ct b u a r q b2 o0 mb i H locs ls) : W p l e room_1 s m #[Value.ref b] below meth c H locs cells slots (lw_Z below #[Value.ref b] s) (F0 m 23 ls []) := by
  have hC0 := hC
  obtain ⟨hx, hb, hr, hml, hown, hts, hX, hbl, hlocks, hE, hst, hL⟩ := hC
  have hl : lv_has ls 9 [(0, .ref b), (1, .ref u), (2, .ref (mb 0)), (3, .ref o0), (4, .int (zI i))] := by
    obtain ⟨nx, sz, S, M, TX, tl, pl, ft, n1, n2, wd, O, SP, SV, NB, cd, plm, cm, h, hR, hP, hD, hS, hl⟩ := hI0
    exact hl
  have hS : va_S (fun q : Nat => s.heap.size ≤ q) s.heap H locs := by
    obtain ⟨nx, sz, S, M, TX, tl, pl, ft, n1, n2, wd, O, SP, SV, NB, cd, plm, cm, h, hR, hP, hD, hS, hl⟩ := hI0
    exact hS
  have hbA : ¬ (fun q : Nat => s.heap.size ≤ q) b := Nat.not_le.mpr hbl
  refine lv_iload hx hb dL_law_23 (lv_at hl 4 rfl) ?_
  refine lv_aload_n hx hb dL_law_25 rfl (lv_at hl 0 rfl) ?_
  refine va_slen hx hb hX hbl hbA hS dL_law_26 ?_
  rw [zI_ofNat]
  refine z_iconst hx hb dL_law_27 ?_
  refine z_isub hx hb dL_law_28 ?_
  refine z_icmp_gt (tgt := 1596) hx hb dL_law_29 (by decide) (by omega) (by omega) (fun hc => ?_) (fun hc => ?_)
  · refine z_iconst hx hb dL_law_1596 ?_
    exact lw_end hx hb hr hlocks hS (by omega)
  · have hi4 : 0 ≤ i ∧ i + 4 ≤ (L : Int) := by omega
    have K : ∀ (H : Heap) (locs : List Loc) (ls : Array Slot), lwI s D ct b u a r q b2 o0 mb i H locs ls → W p l e room_1 s m #[Value.ref b] below meth c H locs (cells + 1) (slots + 6) (lw_Z below #[Value.ref b] s) (F0 m 1590 ls []) := by
      intro H locs ls hI1
      obtain ⟨nx, sz, S, M, TX, tl, pl, ft, n1, n2, wd, O, SP, SV, NB, cd, plm, cm, h, hR, hP, hD, hS, hl⟩ := hI1
      refine z_iinc (k := 4) (lv' := [(4, .int (zI (i + 4))), (0, .ref b), (1, .ref u), (2, .ref (mb 0)), (3, .ref o0)]) hx hb dL_law_1590 hl rfl (by decide) rfl (fun ls hl => ?_)
      refine lv_goto (tgt := 23) hx hb dL_law_1593 (by decide) ?_
      exact ih hi4.2 _ _ _ ⟨nx, sz, S, M, TX, tl, pl, ft, n1, n2, wd, O, SP, SV, NB, cd, plm, cm, h, hR, hP, hD, hS, lv_sub hl [1, 2, 3, 4, 0] rfl⟩
    obtain ⟨v0, e0, r0⟩ := zI_any (xs i.toNat)
    refine lv_aload_n hx hb dL_law_32 rfl (lv_at hl 0 rfl) ?_
    refine lv_iload hx hb dL_law_33 (lv_at hl 4 rfl) ?_
    refine z_sld hx hb hX hbl hbA hS (by omega) hL e0 dL_law_35 ?_
    refine z_bipush hx hb dL_law_36 (by decide) ?_
    refine lv_iand hx hb dL_law_38 ?_
    obtain ⟨k, ek, k1, k2⟩ := z_and31 (zI v0)
    rw [ek]
    by_cases hk : 29 < k
    · refine z_tabOut (tgt := 1590) hx hb dL_law_39 (by omega) (Or.inr hk) (by decide) ?_
      refine W.widen (k := cells + 1) (n := slots + 6) (Nat.le_add_right _ _) (Nat.le_add_right _ _) ?_
      exact K _ _ _ hI0
    rcases (show k = 0 ∨ k = 1 ∨ k = 2 ∨ k = 3 ∨ k = 4 ∨ k = 5 ∨ k = 6 ∨ k = 7 ∨ k = 8 ∨ k = 9 ∨ k = 10 ∨ k = 11 ∨ k = 12 ∨ k = 13 ∨ k = 14 ∨ k = 15 ∨ k = 16 ∨ k = 17 ∨ k = 18 ∨ k = 19 ∨ k = 20 ∨ k = 21 ∨ k = 22 ∨ k = 23 ∨ k = 24 ∨ k = 25 ∨ k = 26 ∨ k = 27 ∨ k = 28 ∨ k = 29 by omega) with hk1 | hk1 | hk1 | hk1 | hk1 | hk1 | hk1 | hk1 | hk1 | hk1 | hk1 | hk1 | hk1 | hk1 | hk1 | hk1 | hk1 | hk1 | hk1 | hk1 | hk1 | hk1 | hk1 | hk1 | hk1 | hk1 | hk1 | hk1 | hk1 | hk1
    · refine z_tabIn (off := 133) (tgt := 172) hx hb dL_law_39 0 hk1 (by decide) (by decide) rfl (by decide) ?_
      exact law_c0 p l e s m below meth c D ct ad b L xs u a r q b2 o0 mb hC0 i hi4 cells slots hcap K H locs ls hI0
    · refine z_tabIn (off := 189) (tgt := 228) hx hb dL_law_39 1 hk1 (by decide) (by decide) rfl (by decide) ?_
      exact law_c1 p l e s m below meth c D ct ad b L xs u a r q b2 o0 mb hC0 i hi4 cells slots hcap K H locs ls hI0
    · refine z_tabIn (off := 257) (tgt := 296) hx hb dL_law_39 2 hk1 (by decide) (by decide) rfl (by decide) ?_
      exact law_c2 p l e s m below meth c D ct ad b L xs u a r q b2 o0 mb hC0 i hi4 cells slots hcap K H locs ls hI0
    · refine z_tabIn (off := 337) (tgt := 376) hx hb dL_law_39 3 hk1 (by decide) (by decide) rfl (by decide) ?_
      exact law_c3 p l e s m below meth c D ct ad b L xs u a r q b2 o0 mb hC0 i hi4 cells slots hcap K H locs ls hI0
    · refine z_tabIn (off := 393) (tgt := 432) hx hb dL_law_39 4 hk1 (by decide) (by decide) rfl (by decide) ?_
      exact law_c4 p l e s m below meth c D ct ad b L xs u a r q b2 o0 mb hC0 i hi4 cells slots hcap K H locs ls hI0
    · refine z_tabIn (off := 461) (tgt := 500) hx hb dL_law_39 5 hk1 (by decide) (by decide) rfl (by decide) ?_
      exact law_c5 p l e s m below meth c D ct ad b L xs u a r q b2 o0 mb hC0 i hi4 cells slots hcap K H locs ls hI0
    · refine z_tabIn (off := 529) (tgt := 568) hx hb dL_law_39 6 hk1 (by decide) (by decide) rfl (by decide) ?_
      exact law_c6 p l e s m below meth c D ct ad b L xs u a r q b2 o0 mb hC0 i hi4 cells slots hcap K H locs ls hI0
    · refine z_tabIn (off := 585) (tgt := 624) hx hb dL_law_39 7 hk1 (by decide) (by decide) rfl (by decide) ?_
      exact law_c7 p l e s m below meth c D ct ad b L xs u a r q b2 o0 mb hC0 i hi4 cells slots hcap K H locs ls hI0
    · refine z_tabIn (off := 641) (tgt := 680) hx hb dL_law_39 8 hk1 (by decide) (by decide) rfl (by decide) ?_
      exact law_c8 p l e s m below meth c D ct ad b L xs u a r q b2 o0 mb hC0 i hi4 cells slots hcap K H locs ls hI0
    · refine z_tabIn (off := 654) (tgt := 693) hx hb dL_law_39 9 hk1 (by decide) (by decide) rfl (by decide) ?_
      exact law_c9 p l e s m below meth c D ct ad b L xs u a r q b2 o0 mb hC0 i hi4 cells slots hcap K H locs ls hI0
    · refine z_tabIn (off := 722) (tgt := 761) hx hb dL_law_39 10 hk1 (by decide) (by decide) rfl (by decide) ?_
      exact law_c10 p l e s m below meth c D ct ad b L xs u a r q b2 o0 mb hC0 i hi4 cells slots hcap K H locs ls hI0
    · refine z_tabIn (off := 778) (tgt := 817) hx hb dL_law_39 11 hk1 (by decide) (by decide) rfl (by decide) ?_
      exact law_c11 p l e s m below meth c D ct ad b L xs u a r q b2 o0 mb hC0 i hi4 cells slots hcap K H locs ls hI0
    · refine z_tabIn (off := 846) (tgt := 885) hx hb dL_law_39 12 hk1 (by decide) (by decide) rfl (by decide) ?_
      exact law_c12 p l e s m below meth c D ct ad b L xs u a r q b2 o0 mb hC0 i hi4 cells slots hcap K H locs ls hI0
    · refine z_tabIn (off := 902) (tgt := 941) hx hb dL_law_39 13 hk1 (by decide) (by decide) rfl (by decide) ?_
      exact law_c13 p l e s m below meth c D ct ad b L xs u a r q b2 o0 mb hC0 i hi4 cells slots hcap K H locs ls hI0
    · refine z_tabIn (off := 958) (tgt := 997) hx hb dL_law_39 14 hk1 (by decide) (by decide) rfl (by decide) ?_
      exact law_c14 p l e s m below meth c D ct ad b L xs u a r q b2 o0 mb hC0 i hi4 cells slots hcap K H locs ls hI0
    · refine z_tabIn (off := 1014) (tgt := 1053) hx hb dL_law_39 15 hk1 (by decide) (by decide) rfl (by decide) ?_
      exact law_c15 p l e s m below meth c D ct ad b L xs u a r q b2 o0 mb hC0 i hi4 cells slots hcap K H locs ls hI0
    · refine z_tabIn (off := 1028) (tgt := 1067) hx hb dL_law_39 16 hk1 (by decide) (by decide) rfl (by decide) ?_
      exact law_c16 p l e s m below meth c D ct ad b L xs u a r q b2 o0 mb hC0 i hi4 cells slots hcap K H locs ls hI0
    · refine z_tabIn (off := 1042) (tgt := 1081) hx hb dL_law_39 17 hk1 (by decide) (by decide) rfl (by decide) ?_
      exact law_c17 p l e s m below meth c D ct ad b L xs u a r q b2 o0 mb hC0 i hi4 cells slots hcap K H locs ls hI0
    · refine z_tabIn (off := 1055) (tgt := 1094) hx hb dL_law_39 18 hk1 (by decide) (by decide) rfl (by decide) ?_
      exact law_c18 p l e s m below meth c D ct ad b L xs u a r q b2 o0 mb hC0 i hi4 cells slots hcap K H locs ls hI0
    · refine z_tabIn (off := 1122) (tgt := 1161) hx hb dL_law_39 19 hk1 (by decide) (by decide) rfl (by decide) ?_
      exact law_c19 p l e s m below meth c D ct ad b L xs u a r q b2 o0 mb hC0 i hi4 cells slots hcap K H locs ls hI0
    · refine z_tabIn (off := 1163) (tgt := 1202) hx hb dL_law_39 20 hk1 (by decide) (by decide) rfl (by decide) ?_
      exact law_c20 p l e s m below meth c D ct ad b L xs u a r q b2 o0 mb hC0 i hi4 cells slots hcap K H locs ls hI0
    · refine z_tabIn (off := 1219) (tgt := 1258) hx hb dL_law_39 21 hk1 (by decide) (by decide) rfl (by decide) ?_
      exact law_c21 p l e s m below meth c D ct ad b L xs u a r q b2 o0 mb hC0 i hi4 cells slots hcap K H locs ls hI0
    · refine z_tabIn (off := 1275) (tgt := 1314) hx hb dL_law_39 22 hk1 (by decide) (by decide) rfl (by decide) ?_
      exact law_c22 p l e s m below meth c D ct ad b L xs u a r q b2 o0 mb hC0 i hi4 cells slots hcap K H locs ls hI0
    · refine z_tabIn (off := 1288) (tgt := 1327) hx hb dL_law_39 23 hk1 (by decide) (by decide) rfl (by decide) ?_
      exact law_c23 p l e s m below meth c D ct ad b L xs u a r q b2 o0 mb hC0 i hi4 cells slots hcap K H locs ls hI0
    · refine z_tabIn (off := 1356) (tgt := 1395) hx hb dL_law_39 24 hk1 (by decide) (by decide) rfl (by decide) ?_
      exact law_c24 p l e s m below meth c D ct ad b L xs u a r q b2 o0 mb hC0 i hi4 cells slots hcap K H locs ls hI0
    · refine z_tabIn (off := 1411) (tgt := 1450) hx hb dL_law_39 25 hk1 (by decide) (by decide) rfl (by decide) ?_
      exact law_c25 p l e s m below meth c D ct ad b L xs u a r q b2 o0 mb hC0 i hi4 cells slots hcap K H locs ls hI0
    · refine z_tabIn (off := 1467) (tgt := 1506) hx hb dL_law_39 26 hk1 (by decide) (by decide) rfl (by decide) ?_
      exact law_c26 p l e s m below meth c D ct ad b L xs u a r q b2 o0 mb hC0 i hi4 cells slots hcap K H locs ls hI0
    · refine z_tabIn (off := 1480) (tgt := 1519) hx hb dL_law_39 27 hk1 (by decide) (by decide) rfl (by decide) ?_
      exact law_c27 p l e s m below meth c D ct ad b L xs u a r q b2 o0 mb hC0 i hi4 cells slots hcap K H locs ls hI0
    · refine z_tabIn (off := 1493) (tgt := 1532) hx hb dL_law_39 28 hk1 (by decide) (by decide) rfl (by decide) ?_
      exact law_c28 p l e s m below meth c D ct ad b L xs u a r q b2 o0 mb hC0 i hi4 cells slots hcap K H locs ls hI0
    · refine z_tabIn (off := 1537) (tgt := 1576) hx hb dL_law_39 29 hk1 (by decide) (by decide) rfl (by decide) ?_
      exact law_c29 p l e s m below meth c D ct ad b L xs u a r q b2 o0 mb hC0 i hi4 cells slots hcap K H locs ls hI0
theorem law_loop (p : Program) (l : Launch) (e : Env) (s : State) (m : MethodId) (below : List Frame) (meth : Method) (c : Code) (D : va_G) (ct ad : Nat → Nat) (b L : Nat) (xs : Nat → Int32) (u : Nat) (a r q : Nat → Nat) (b2 : Nat → Nat → Nat) (o0 : Nat) (mb : Nat → Nat) (hC : lwC p l s m meth c D ct ad b L xs) : ∀ (n : Nat) (i : Int) (cells slots : Nat), 0 ≤ i ∧ i ≤ (L : Int) → ((L : Int) - i).toNat ≤ n → (cells + n + 1 ≤ 601024 ∧ slots + 6 * n + 6 ≤ 7293034) → ∀ (H : Heap) (locs : List Loc) (ls : Array Slot), lwI s D ct b u a r q b2 o0 mb i H locs ls → W p l e room_1 s m #[Value.ref b] below meth c H locs cells slots (lw_Z below #[Value.ref b] s) (F0 m 23 ls [])
  | 0, i, cells, slots, hi, hn, hcap, H, locs, ls, hI0 => law_head p l e s m below meth c D ct ad b L xs u a r q b2 o0 mb hC i hi cells slots (by omega) (fun h4 => (show False by omega).elim) H locs ls hI0
  | n + 1, i, cells, slots, hi, hn, hcap, H, locs, ls, hI0 => law_head p l e s m below meth c D ct ad b L xs u a r q b2 o0 mb hC i hi cells slots (by omega) (fun h4 => law_loop p l e s m below meth c D ct ad b L xs u a r q b2 o0 mb hC n (i + 4) (cells + 1) (slots + 6) (by omega) (by omega) (by omega)) H locs ls hI0
