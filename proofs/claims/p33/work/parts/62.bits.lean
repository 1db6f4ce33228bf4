set_option maxHeartbeats 4000000 in
set_option maxRecDepth 100000 in
theorem c_X8_bitsOf_0 (l : Launch) (D : va_G) (ct ad : Nat → Nat)   : ZM l yX8_bitsOf wsX8_bitsOf ({ frames := 0, cells := 0, slots := 0, locals := 0 } : Room) D ct ad [.float FP.fconst0] ([]) (zD (some (.int (zI 0))) ([])) := by
  refine ZM.of (cc := cX8_bitsOf) (maxL := 5) (ret := (some .int)) (by decide +kernel) rfl (Nat.le_of_ble_eq_true rfl) ?_
  intro p e s m below meth c A ls hx hb hr hts hown hlocks hml hname hE hP hD hA hS hl
  have hK := hE.1
  have hl : lv_has ls 5 [(0, .float FP.fconst0)] := hl
  refine lv_fload_n hx hb dX8_bitsOf_0 rfl (lv_at hl 0 rfl) ?_
  refine lv_fconst0 hx hb dX8_bitsOf_1 ?_
  refine z_fcmpv (o := .eq) (v := 0) hx hb dX8_bitsOf_2 (by decide +kernel) rfl ?_
  refine z_if_ne (tgt := 8) hx hb dX8_bitsOf_3 (by decide) (by omega) (fun hc_3 => ?_) (fun hc_3 => ?_)
  · have hc_3 := hc_3
    omega
  · have hc_3 := hc_3
    refine z_iconst hx hb dX8_bitsOf_6 ?_
    exact z_iret hx hb hr hlocks hP hD hS ⟨Nat.le_of_ble_eq_true rfl, Nat.le_of_ble_eq_true rfl⟩ dX8_bitsOf_7 (⟨congrArg (fun z => some (Value.int (zI z))) (rfl), rfl⟩)
set_option maxHeartbeats 4000000 in
set_option maxRecDepth 100000 in
theorem c_X8_bitsOf_p (l : Launch) (D : va_G) (ct ad : Nat → Nat) (E T : Int) (hEe : 60 ≤ E ∧ E ≤ 200) (hT : 0 ≤ T ∧ T < 8388608) : ZM l yX8_bitsOf wsX8_bitsOf ({ frames := 0, cells := 0, slots := 0, locals := 0 } : Room) D ct ad [.float (fbit E T)] ([]) (zD (some (.int (zI (E * 8388608 + T)))) ([])) := by
  refine ZM.of (cc := cX8_bitsOf) (maxL := 5) (ret := (some .int)) (by decide +kernel) rfl (Nat.le_of_ble_eq_true rfl) ?_
  intro p e s m below meth c A ls hx hb hr hts hown hlocks hml hname hE hP hD hA hS hl
  have hK := hE.1
  have hf_0 := hts (.constantFloat RX8 322 (1258291200)) (by decide +kernel)
  have hf_1 := hts (.constant RX8 323 (8388608)) (by decide +kernel)
  have hl : lv_has ls 5 [(0, .float (fbit E T))] := hl
  refine lv_fload_n hx hb dX8_bitsOf_0 rfl (lv_at hl 0 rfl) ?_
  refine lv_fconst0 hx hb dX8_bitsOf_1 ?_
  refine z_fcmpv (o := .gt) (v := 1) hx hb dX8_bitsOf_2 (fb_p0 (by omega) hT) rfl ?_
  refine z_if_ne (tgt := 8) hx hb dX8_bitsOf_3 (by decide) (by omega) (fun hc_3 => ?_) (fun hc_3 => ?_)
  · have hc_3 := hc_3
    refine lv_fload_n hx hb dX8_bitsOf_8 rfl (lv_at hl 0 rfl) ?_
    refine lv_fconst0 hx hb dX8_bitsOf_9 ?_
    refine z_fcmpv (o := .gt) (v := 1) hx hb dX8_bitsOf_10 (fb_p0 (by omega) hT) rfl ?_
    refine z_if_ge (tgt := 20) hx hb dX8_bitsOf_11 (by decide) (by omega) (fun hc_11 => ?_) (fun hc_11 => ?_)
    · have hc_11 := hc_11
      refine z_iconst hx hb dX8_bitsOf_20 ?_
      refine lv_istore_n (lv' := [(1, .int (zI 0)), (0, .float (fbit E T))]) hx hb dX8_bitsOf_21 rfl hl (by decide) rfl (fun ls hl => ?_)
      refine lv_fload_n hx hb dX8_bitsOf_22 rfl (lv_at hl 1 rfl) ?_
      refine lv_fconst0 hx hb dX8_bitsOf_23 ?_
      refine z_fcmpv (o := .gt) (v := 1) hx hb dX8_bitsOf_24 (fb_p0 (by omega) hT) rfl ?_
      refine z_if_ge (tgt := 33) hx hb dX8_bitsOf_25 (by decide) (by omega) (fun hc_25 => ?_) (fun hc_25 => ?_)
      · have hc_25 := hc_25
        refine lv_fload_n hx hb dX8_bitsOf_33 rfl (lv_at hl 1 rfl) ?_
        refine z_canF (show fbit E T = fbit (E + 127 - 127) T from (by rw [show E + 127 - 127 = E by omega])) ?_
        refine lv_fstore_n (lv' := [(2, .float (fbit (E + 127 - 127) T)), (1, .int (zI 0)), (0, .float (fbit E T))]) hx hb dX8_bitsOf_34 rfl hl (by decide) rfl (fun ls hl => ?_)
        refine z_bipush hx hb dX8_bitsOf_35 (by decide) ?_
        refine lv_istore_n (lv' := [(3, .int (zI 127)), (2, .float (fbit (E + 127 - 127) T)), (1, .int (zI 0)), (0, .float (fbit E T))]) hx hb dX8_bitsOf_37 rfl hl (by decide) rfl (fun ls hl => ?_)
        refine z_loop (σ := Int) (fun q9 => (254 - q9).toNat) (fun q9 => (127 ≤ q9 ∧ (q9 = 127 ∨ q9 ≤ E))) (fun q9 => []) (fun q9 => [(0, .float (fbit E T)), (1, .int (zI 0)), (2, .float (fbit (E + 127 - q9) T)), (3, .int (zI q9))]) (fun q9 => []) (127) (show 127 ≤ 127 ∧ (127 = 127 ∨ 127 ≤ E) from (by omega)) hP hD hS (lv_sub hl [3, 2, 1, 0] rfl) rfl ?_
        rintro i hI_38 ih_38 H locs ls hP hD hS hl
        have hi := hI_38
        have hi : 127 ≤ i ∧ (i = 127 ∨ i ≤ E) := hi
        have hP : va_P D vwCl ([]) H := hP
        have hD : va_D A ([]) := hD
        have hl : lv_has ls 5 [(0, .float (fbit E T)), (1, .int (zI 0)), (2, .float (fbit (E + 127 - i) T)), (3, .int (zI i))] := hl
        refine lv_iload_n hx hb dX8_bitsOf_38 rfl (lv_at hl 3 rfl) ?_
        refine z_sipush hx hb dX8_bitsOf_39 (by decide) ?_
        refine z_icmp_ge (tgt := 61) hx hb dX8_bitsOf_42 (by decide) (by omega) (by omega) (fun hc_42 => ?_) (fun hc_42 => ?_)
        · have hc_42 := hc_42
          omega
        · have hc_42 := hc_42
          refine lv_fload_n hx hb dX8_bitsOf_45 rfl (lv_at hl 2 rfl) ?_
          refine lv_fconst2 hx hb dX8_bitsOf_46 ?_
          refine z_fcmp_lt (tgt := 61) hx hb dX8_bitsOf_47 dX8_bitsOf_48 (by decide) (fb_lt2 (E := E + 127 - i) (T := T) (by omega) hT) (fun hc_47 => ?_) (fun hc_47 => ?_)
          · have hc_47 := hc_47
            refine z_loop (σ := Int) (fun q9 => q9.toNat) (fun q9 => (E ≤ q9 ∧ q9 ≤ 200 ∧ (q9 ≤ 127 ∨ q9 = E))) (fun q9 => []) (fun q9 => [(0, .float (fbit E T)), (1, .int (zI 0)), (2, .float (fbit (E + 127 - q9) T)), (3, .int (zI q9))]) (fun q9 => []) (i) (show E ≤ i ∧ i ≤ 200 ∧ (i ≤ 127 ∨ i = E) from (by omega)) hP hD hS (lv_sub hl [0, 1, 2, 3] rfl) rfl ?_
            rintro i hI_61 ih_61 H locs ls hP hD hS hl
            have hj := hI_61
            have hj : E ≤ i ∧ i ≤ 200 ∧ (i ≤ 127 ∨ i = E) := hj
            have hP : va_P D vwCl ([]) H := hP
            have hD : va_D A ([]) := hD
            have hl : lv_has ls 5 [(0, .float (fbit E T)), (1, .int (zI 0)), (2, .float (fbit (E + 127 - i) T)), (3, .int (zI i))] := hl
            refine lv_iload_n hx hb dX8_bitsOf_61 rfl (lv_at hl 3 rfl) ?_
            refine z_iconst hx hb dX8_bitsOf_62 ?_
            refine z_icmp_le (tgt := 82) hx hb dX8_bitsOf_63 (by decide) (by omega) (by omega) (fun hc_63 => ?_) (fun hc_63 => ?_)
            · have hc_63 := hc_63
              omega
            · have hc_63 := hc_63
              refine lv_fload_n hx hb dX8_bitsOf_66 rfl (lv_at hl 2 rfl) ?_
              refine lv_fconst1 hx hb dX8_bitsOf_67 ?_
              refine z_fcmp_ge (tgt := 82) hx hb dX8_bitsOf_68 dX8_bitsOf_69 (by decide) (fb_lt1 (E := E + 127 - i) (T := T) (by omega) hT) (fun hc_68 => ?_) (fun hc_68 => ?_)
              · have hc_68 := hc_68
                refine lv_fload_n hx hb dX8_bitsOf_82 rfl (lv_at hl 2 rfl) ?_
                refine z_canF (show fbit (E + 127 - i) T = fbit 127 T from (by rw [show E + 127 - i = 127 by omega])) ?_
                refine z_ldcwF (v := 1258291200) hx hb hown hf_0 dX8_bitsOf_83 ?_
                refine lv_fmul hx hb dX8_bitsOf_86 (by rw [fb_mulc hT]; exact fb_n32 (by omega) hT) ?_
                refine z_canF (fb_mulc hT) ?_
                refine lv_f2i hx hb dX8_bitsOf_87 ?_
                rw [fb_f2i hT]
                refine z_ldcw hx hb 8388608 hown hf_1 (by decide) dX8_bitsOf_88 ?_
                refine z_isub hx hb dX8_bitsOf_91 ?_
                refine lv_istore (lv' := [(4, .int (zI ((8388608 + T) - 8388608))), (0, .float (fbit E T)), (1, .int (zI 0)), (2, .float (fbit (E + 127 - i) T)), (3, .int (zI i))]) hx hb dX8_bitsOf_92 hl (by decide) rfl (fun ls hl => ?_)
                refine lv_iload_n hx hb dX8_bitsOf_94 rfl (lv_at hl 2 rfl) ?_
                refine lv_iload_n hx hb dX8_bitsOf_95 rfl (lv_at hl 4 rfl) ?_
                refine z_bipush hx hb dX8_bitsOf_96 (by decide) ?_
                refine lv_ishl hx hb dX8_bitsOf_98 ?_
                refine lv_ior hx hb dX8_bitsOf_99 ?_
                refine lv_iload hx hb dX8_bitsOf_100 (lv_at hl 0 rfl) ?_
                refine lv_ior hx hb dX8_bitsOf_102 ?_
                have iE : i = E := by omega
                exact z_iret hx hb hr hlocks hP hD hS ⟨Nat.le_of_ble_eq_true rfl, Nat.le_of_ble_eq_true rfl⟩ dX8_bitsOf_103 (⟨congrArg (fun z => some (Value.int z)) (by rw [show i = E by omega, show 8388608 + T - 8388608 = T by omega]; exact fb_or (by omega) hT), rfl⟩)
              · have hc_68 := hc_68
                refine lv_fload_n hx hb dX8_bitsOf_72 rfl (lv_at hl 2 rfl) ?_
                refine lv_fconst2 hx hb dX8_bitsOf_73 ?_
                refine lv_fmul hx hb dX8_bitsOf_74 (by rw [(fb_mul (E := E + 127 - i) (by omega) hT).trans (congrArg (fun z => fbit z T) (show E + 127 - i + 1 = E + 127 - (i + (-1)) by omega))]; exact fb_n32 (by omega) hT) ?_
                refine z_canF ((fb_mul (E := E + 127 - i) (by omega) hT).trans (congrArg (fun z => fbit z T) (show E + 127 - i + 1 = E + 127 - (i + (-1)) by omega))) ?_
                refine lv_fstore_n (lv' := [(2, .float (fbit (E + 127 - (i + (-1))) T)), (0, .float (fbit E T)), (1, .int (zI 0)), (3, .int (zI i))]) hx hb dX8_bitsOf_75 rfl hl (by decide) rfl (fun ls hl => ?_)
                refine z_iinc (k := 3) (lv' := [(3, .int (zI (i + (-1)))), (2, .float (fbit (E + 127 - (i + (-1))) T)), (0, .float (fbit E T)), (1, .int (zI 0))]) hx hb dX8_bitsOf_76 hl rfl (by decide) rfl (fun ls hl => ?_)
                refine lv_goto (tgt := 61) hx hb dX8_bitsOf_79 (by decide) ?_
                exact ih_61 (i + (-1)) (show E ≤ (i + (-1)) ∧ (i + (-1)) ≤ 200 ∧ ((i + (-1)) ≤ 127 ∨ (i + (-1)) = E) from (by omega)) (show (i + (-1)).toNat < i.toNat from (by omega)) _ _ _ hP hD hS (lv_sub hl [2, 3, 1, 0] rfl)
          · have hc_47 := hc_47
            refine lv_fload_n hx hb dX8_bitsOf_51 rfl (lv_at hl 2 rfl) ?_
            refine lv_fconst2 hx hb dX8_bitsOf_52 ?_
            refine lv_fdiv hx hb dX8_bitsOf_53 (by rw [(fb_div (E := E + 127 - i) (by omega) hT).trans (congrArg (fun z => fbit z T) (show E + 127 - i - 1 = E + 127 - (i + 1) by omega))]; exact fb_n32 (by omega) hT) ?_
            refine z_canF ((fb_div (E := E + 127 - i) (by omega) hT).trans (congrArg (fun z => fbit z T) (show E + 127 - i - 1 = E + 127 - (i + 1) by omega))) ?_
            refine lv_fstore_n (lv' := [(2, .float (fbit (E + 127 - (i + 1)) T)), (0, .float (fbit E T)), (1, .int (zI 0)), (3, .int (zI i))]) hx hb dX8_bitsOf_54 rfl hl (by decide) rfl (fun ls hl => ?_)
            refine z_iinc (k := 3) (lv' := [(3, .int (zI (i + 1))), (2, .float (fbit (E + 127 - (i + 1)) T)), (0, .float (fbit E T)), (1, .int (zI 0))]) hx hb dX8_bitsOf_55 hl rfl (by decide) rfl (fun ls hl => ?_)
            refine lv_goto (tgt := 38) hx hb dX8_bitsOf_58 (by decide) ?_
            exact ih_38 (i + 1) (show 127 ≤ (i + 1) ∧ ((i + 1) = 127 ∨ (i + 1) ≤ E) from (by omega)) (show (254 - (i + 1)).toNat < (254 - i).toNat from (by omega)) _ _ _ hP hD hS (lv_sub hl [2, 3, 1, 0] rfl)
      · have hc_25 := hc_25
        omega
    · have hc_11 := hc_11
      omega
  · have hc_3 := hc_3
    omega
set_option maxHeartbeats 4000000 in
set_option maxRecDepth 100000 in
theorem c_X8_bitsOf_n (l : Launch) (D : va_G) (ct ad : Nat → Nat) (E T : Int) (hEe : 60 ≤ E ∧ E ≤ 200) (hT : 0 ≤ T ∧ T < 8388608) : ZM l yX8_bitsOf wsX8_bitsOf ({ frames := 0, cells := 0, slots := 0, locals := 0 } : Room) D ct ad [.float (fbitn E T)] ([]) (zD (some (.int (zI (E * 8388608 + T - 2147483648)))) ([])) := by
  refine ZM.of (cc := cX8_bitsOf) (maxL := 5) (ret := (some .int)) (by decide +kernel) rfl (Nat.le_of_ble_eq_true rfl) ?_
  intro p e s m below meth c A ls hx hb hr hts hown hlocks hml hname hE hP hD hA hS hl
  have hK := hE.1
  have hf_0 := hts (.constant RX8 321 (-2147483648)) (by decide +kernel)
  have hf_1 := hts (.constantFloat RX8 322 (1258291200)) (by decide +kernel)
  have hf_2 := hts (.constant RX8 323 (8388608)) (by decide +kernel)
  have hl : lv_has ls 5 [(0, .float (fbitn E T))] := hl
  refine lv_fload_n hx hb dX8_bitsOf_0 rfl (lv_at hl 0 rfl) ?_
  refine lv_fconst0 hx hb dX8_bitsOf_1 ?_
  refine z_fcmpv (o := .lt) (v := (-1)) hx hb dX8_bitsOf_2 (fb_n0 (by omega) hT) rfl ?_
  refine z_if_ne (tgt := 8) hx hb dX8_bitsOf_3 (by decide) (by omega) (fun hc_3 => ?_) (fun hc_3 => ?_)
  · have hc_3 := hc_3
    refine lv_fload_n hx hb dX8_bitsOf_8 rfl (lv_at hl 0 rfl) ?_
    refine lv_fconst0 hx hb dX8_bitsOf_9 ?_
    refine z_fcmpv (o := .lt) (v := (-1)) hx hb dX8_bitsOf_10 (fb_n0 (by omega) hT) rfl ?_
    refine z_if_ge (tgt := 20) hx hb dX8_bitsOf_11 (by decide) (by omega) (fun hc_11 => ?_) (fun hc_11 => ?_)
    · have hc_11 := hc_11
      omega
    · have hc_11 := hc_11
      refine z_ldcw hx hb (-2147483648) hown hf_0 (by decide) dX8_bitsOf_14 ?_
      refine lv_goto (tgt := 21) hx hb dX8_bitsOf_17 (by decide) ?_
      refine lv_istore_n (lv' := [(1, .int (zI (-2147483648))), (0, .float (fbitn E T))]) hx hb dX8_bitsOf_21 rfl hl (by decide) rfl (fun ls hl => ?_)
      refine lv_fload_n hx hb dX8_bitsOf_22 rfl (lv_at hl 1 rfl) ?_
      refine lv_fconst0 hx hb dX8_bitsOf_23 ?_
      refine z_fcmpv (o := .lt) (v := (-1)) hx hb dX8_bitsOf_24 (fb_n0 (by omega) hT) rfl ?_
      refine z_if_ge (tgt := 33) hx hb dX8_bitsOf_25 (by decide) (by omega) (fun hc_25 => ?_) (fun hc_25 => ?_)
      · have hc_25 := hc_25
        omega
      · have hc_25 := hc_25
        refine lv_fload_n hx hb dX8_bitsOf_28 rfl (lv_at hl 1 rfl) ?_
        refine lv_fneg hx hb dX8_bitsOf_29 ?_
        refine z_canF (fb_neg (by omega) hT) ?_
        refine lv_goto (tgt := 34) hx hb dX8_bitsOf_30 (by decide) ?_
        refine z_canF (show fbit E T = fbit (E + 127 - 127) T from (by rw [show E + 127 - 127 = E by omega])) ?_
        refine lv_fstore_n (lv' := [(2, .float (fbit (E + 127 - 127) T)), (1, .int (zI (-2147483648))), (0, .float (fbitn E T))]) hx hb dX8_bitsOf_34 rfl hl (by decide) rfl (fun ls hl => ?_)
        refine z_bipush hx hb dX8_bitsOf_35 (by decide) ?_
        refine lv_istore_n (lv' := [(3, .int (zI 127)), (2, .float (fbit (E + 127 - 127) T)), (1, .int (zI (-2147483648))), (0, .float (fbitn E T))]) hx hb dX8_bitsOf_37 rfl hl (by decide) rfl (fun ls hl => ?_)
        refine z_loop (σ := Int) (fun q9 => (254 - q9).toNat) (fun q9 => (127 ≤ q9 ∧ (q9 = 127 ∨ q9 ≤ E))) (fun q9 => []) (fun q9 => [(0, .float (fbitn E T)), (1, .int (zI (-2147483648))), (2, .float (fbit (E + 127 - q9) T)), (3, .int (zI q9))]) (fun q9 => []) (127) (show 127 ≤ 127 ∧ (127 = 127 ∨ 127 ≤ E) from (by omega)) hP hD hS (lv_sub hl [3, 2, 1, 0] rfl) rfl ?_
        rintro i hI_38 ih_38 H locs ls hP hD hS hl
        have hi := hI_38
        have hi : 127 ≤ i ∧ (i = 127 ∨ i ≤ E) := hi
        have hP : va_P D vwCl ([]) H := hP
        have hD : va_D A ([]) := hD
        have hl : lv_has ls 5 [(0, .float (fbitn E T)), (1, .int (zI (-2147483648))), (2, .float (fbit (E + 127 - i) T)), (3, .int (zI i))] := hl
        refine lv_iload_n hx hb dX8_bitsOf_38 rfl (lv_at hl 3 rfl) ?_
        refine z_sipush hx hb dX8_bitsOf_39 (by decide) ?_
        refine z_icmp_ge (tgt := 61) hx hb dX8_bitsOf_42 (by decide) (by omega) (by omega) (fun hc_42 => ?_) (fun hc_42 => ?_)
        · have hc_42 := hc_42
          omega
        · have hc_42 := hc_42
          refine lv_fload_n hx hb dX8_bitsOf_45 rfl (lv_at hl 2 rfl) ?_
          refine lv_fconst2 hx hb dX8_bitsOf_46 ?_
          refine z_fcmp_lt (tgt := 61) hx hb dX8_bitsOf_47 dX8_bitsOf_48 (by decide) (fb_lt2 (E := E + 127 - i) (T := T) (by omega) hT) (fun hc_47 => ?_) (fun hc_47 => ?_)
          · have hc_47 := hc_47
            refine z_loop (σ := Int) (fun q9 => q9.toNat) (fun q9 => (E ≤ q9 ∧ q9 ≤ 200 ∧ (q9 ≤ 127 ∨ q9 = E))) (fun q9 => []) (fun q9 => [(0, .float (fbitn E T)), (1, .int (zI (-2147483648))), (2, .float (fbit (E + 127 - q9) T)), (3, .int (zI q9))]) (fun q9 => []) (i) (show E ≤ i ∧ i ≤ 200 ∧ (i ≤ 127 ∨ i = E) from (by omega)) hP hD hS (lv_sub hl [0, 1, 2, 3] rfl) rfl ?_
            rintro i hI_61 ih_61 H locs ls hP hD hS hl
            have hj := hI_61
            have hj : E ≤ i ∧ i ≤ 200 ∧ (i ≤ 127 ∨ i = E) := hj
            have hP : va_P D vwCl ([]) H := hP
            have hD : va_D A ([]) := hD
            have hl : lv_has ls 5 [(0, .float (fbitn E T)), (1, .int (zI (-2147483648))), (2, .float (fbit (E + 127 - i) T)), (3, .int (zI i))] := hl
            refine lv_iload_n hx hb dX8_bitsOf_61 rfl (lv_at hl 3 rfl) ?_
            refine z_iconst hx hb dX8_bitsOf_62 ?_
            refine z_icmp_le (tgt := 82) hx hb dX8_bitsOf_63 (by decide) (by omega) (by omega) (fun hc_63 => ?_) (fun hc_63 => ?_)
            · have hc_63 := hc_63
              omega
            · have hc_63 := hc_63
              refine lv_fload_n hx hb dX8_bitsOf_66 rfl (lv_at hl 2 rfl) ?_
              refine lv_fconst1 hx hb dX8_bitsOf_67 ?_
              refine z_fcmp_ge (tgt := 82) hx hb dX8_bitsOf_68 dX8_bitsOf_69 (by decide) (fb_lt1 (E := E + 127 - i) (T := T) (by omega) hT) (fun hc_68 => ?_) (fun hc_68 => ?_)
              · have hc_68 := hc_68
                refine lv_fload_n hx hb dX8_bitsOf_82 rfl (lv_at hl 2 rfl) ?_
                refine z_canF (show fbit (E + 127 - i) T = fbit 127 T from (by rw [show E + 127 - i = 127 by omega])) ?_
                refine z_ldcwF (v := 1258291200) hx hb hown hf_1 dX8_bitsOf_83 ?_
                refine lv_fmul hx hb dX8_bitsOf_86 (by rw [fb_mulc hT]; exact fb_n32 (by omega) hT) ?_
                refine z_canF (fb_mulc hT) ?_
                refine lv_f2i hx hb dX8_bitsOf_87 ?_
                rw [fb_f2i hT]
                refine z_ldcw hx hb 8388608 hown hf_2 (by decide) dX8_bitsOf_88 ?_
                refine z_isub hx hb dX8_bitsOf_91 ?_
                refine lv_istore (lv' := [(4, .int (zI ((8388608 + T) - 8388608))), (0, .float (fbitn E T)), (1, .int (zI (-2147483648))), (2, .float (fbit (E + 127 - i) T)), (3, .int (zI i))]) hx hb dX8_bitsOf_92 hl (by decide) rfl (fun ls hl => ?_)
                refine lv_iload_n hx hb dX8_bitsOf_94 rfl (lv_at hl 2 rfl) ?_
                refine lv_iload_n hx hb dX8_bitsOf_95 rfl (lv_at hl 4 rfl) ?_
                refine z_bipush hx hb dX8_bitsOf_96 (by decide) ?_
                refine lv_ishl hx hb dX8_bitsOf_98 ?_
                refine lv_ior hx hb dX8_bitsOf_99 ?_
                refine lv_iload hx hb dX8_bitsOf_100 (lv_at hl 0 rfl) ?_
                refine lv_ior hx hb dX8_bitsOf_102 ?_
                have iE : i = E := by omega
                exact z_iret hx hb hr hlocks hP hD hS ⟨Nat.le_of_ble_eq_true rfl, Nat.le_of_ble_eq_true rfl⟩ dX8_bitsOf_103 (⟨congrArg (fun z => some (Value.int z)) (by rw [show i = E by omega, show 8388608 + T - 8388608 = T by omega]; exact fb_orn (by omega) hT), rfl⟩)
              · have hc_68 := hc_68
                refine lv_fload_n hx hb dX8_bitsOf_72 rfl (lv_at hl 2 rfl) ?_
                refine lv_fconst2 hx hb dX8_bitsOf_73 ?_
                refine lv_fmul hx hb dX8_bitsOf_74 (by rw [(fb_mul (E := E + 127 - i) (by omega) hT).trans (congrArg (fun z => fbit z T) (show E + 127 - i + 1 = E + 127 - (i + (-1)) by omega))]; exact fb_n32 (by omega) hT) ?_
                refine z_canF ((fb_mul (E := E + 127 - i) (by omega) hT).trans (congrArg (fun z => fbit z T) (show E + 127 - i + 1 = E + 127 - (i + (-1)) by omega))) ?_
                refine lv_fstore_n (lv' := [(2, .float (fbit (E + 127 - (i + (-1))) T)), (0, .float (fbitn E T)), (1, .int (zI (-2147483648))), (3, .int (zI i))]) hx hb dX8_bitsOf_75 rfl hl (by decide) rfl (fun ls hl => ?_)
                refine z_iinc (k := 3) (lv' := [(3, .int (zI (i + (-1)))), (2, .float (fbit (E + 127 - (i + (-1))) T)), (0, .float (fbitn E T)), (1, .int (zI (-2147483648)))]) hx hb dX8_bitsOf_76 hl rfl (by decide) rfl (fun ls hl => ?_)
                refine lv_goto (tgt := 61) hx hb dX8_bitsOf_79 (by decide) ?_
                exact ih_61 (i + (-1)) (show E ≤ (i + (-1)) ∧ (i + (-1)) ≤ 200 ∧ ((i + (-1)) ≤ 127 ∨ (i + (-1)) = E) from (by omega)) (show (i + (-1)).toNat < i.toNat from (by omega)) _ _ _ hP hD hS (lv_sub hl [2, 3, 1, 0] rfl)
          · have hc_47 := hc_47
            refine lv_fload_n hx hb dX8_bitsOf_51 rfl (lv_at hl 2 rfl) ?_
            refine lv_fconst2 hx hb dX8_bitsOf_52 ?_
            refine lv_fdiv hx hb dX8_bitsOf_53 (by rw [(fb_div (E := E + 127 - i) (by omega) hT).trans (congrArg (fun z => fbit z T) (show E + 127 - i - 1 = E + 127 - (i + 1) by omega))]; exact fb_n32 (by omega) hT) ?_
            refine z_canF ((fb_div (E := E + 127 - i) (by omega) hT).trans (congrArg (fun z => fbit z T) (show E + 127 - i - 1 = E + 127 - (i + 1) by omega))) ?_
            refine lv_fstore_n (lv' := [(2, .float (fbit (E + 127 - (i + 1)) T)), (0, .float (fbitn E T)), (1, .int (zI (-2147483648))), (3, .int (zI i))]) hx hb dX8_bitsOf_54 rfl hl (by decide) rfl (fun ls hl => ?_)
            refine z_iinc (k := 3) (lv' := [(3, .int (zI (i + 1))), (2, .float (fbit (E + 127 - (i + 1)) T)), (0, .float (fbitn E T)), (1, .int (zI (-2147483648)))]) hx hb dX8_bitsOf_55 hl rfl (by decide) rfl (fun ls hl => ?_)
            refine lv_goto (tgt := 38) hx hb dX8_bitsOf_58 (by decide) ?_
            exact ih_38 (i + 1) (show 127 ≤ (i + 1) ∧ ((i + 1) = 127 ∨ (i + 1) ≤ E) from (by omega)) (show (254 - (i + 1)).toNat < (254 - i).toNat from (by omega)) _ _ _ hP hD hS (lv_sub hl [2, 3, 1, 0] rfl)
  · have hc_3 := hc_3
    omega
