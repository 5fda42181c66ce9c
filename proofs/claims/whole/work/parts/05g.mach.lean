theorem lk_X10_range_51 : Cond.fieldLink RX10 51 "CoarseSteps" "claim" "LCoarseSteps$Claim;" ∈ wsX10_range := by decide +kernel
theorem in_X10_range_10 : ∀ w ∈ wsX100, w ∈ wsX10_range := by decide +kernel
abbrev rm_X10_range : Room := { frames := 3, cells := 0, slots := 0, locals := 83 }
set_option maxHeartbeats 4000000 in
set_option maxRecDepth 100000 in
theorem m_X10_range (l : Launch) (D : va_G) (cy : ClassId × ClassId × ClassId) (ad : Nat → Nat) (s1_low : Int64) (s1_high : Int64) (s7_over : Int32) (s7_count : Int32) (a7_values : Nat → Int32) (x1 : Int32) (x2 : Int32) (x3 : Int32) (sz : Nat) {K : Int32 → Prop} (hv : v_X10_range s7_over s7_count a7_values x1 x2 x3 K) : Met l yX10_range wsX10_range rm_X10_range (va_Pc [.ref (ad 10), .int x1, .int x2, .int x3] (wd D cy [oX1 ad s1_low s1_high, oX7 ad s7_over s7_count, oX10 ad , aI cy (ad 34) 8 a7_values] sz)) (va_Qi (fun (r : Int32) (u : Unit) => K r) (fun u t => we D ((fun u : Unit => [oX1 ad s1_low s1_high, oX7 ad s7_over s7_count, oX10 ad , aI cy (ad 34) 8 a7_values]) u) (va_A [oX1 ad s1_low s1_high, oX7 ad s7_over s7_count, oX10 ad , aI cy (ad 34) 8 a7_values] sz) t) (va_A [oX1 ad s1_low s1_high, oX7 ad s7_over s7_count, oX10 ad , aI cy (ad 34) 8 a7_values] sz)) 0 0 (va_A [oX1 ad s1_low s1_high, oX7 ad s7_over s7_count, oX10 ad , aI cy (ad 34) 8 a7_values] sz) := by
  refine k_ofW (cc := cX10_range) (maxL := 4) (ret := (some .int)) (fun A => va_Qi (fun (r : Int32) (u : Unit) => K r) (fun u t => we D ((fun u : Unit => [oX1 ad s1_low s1_high, oX7 ad s7_over s7_count, oX10 ad , aI cy (ad 34) 8 a7_values]) u) A t) A) (by decide) rfl (Nat.le_of_ble_eq_true rfl) ?_
  intro p e s m below meth c A ls H locs hx hb hml hr hts hown hlocks hname hK hN hA hP hD hS hl
  have hl : lv_has ls 4 [(0, .ref (ad 10)), (1, .int x1), (2, .int x2), (3, .int x3)] := hl
  generalize hQ : MQ below _ _ s _ _ A = Q
  unfold v_X10_range at hv
  refine lv_iload_n hx hb dX10_range_0 rfl (lv_at hl 1 rfl) ?_
  refine lv_iconst (v := 1) hx hb dX10_range_1 (by decide) ?_
  refine lv_icmp_lt (tgt := 25) hx hb dX10_range_2 (by decide) (fun c_2 => ?_) (fun c_2 => ?_)
  · have hv := hv.1 c_2
    refine lv_iconst (v := -1) hx hb dX10_range_25 (by decide) ?_
    rw [← hQ]
    exact k_iret hx hb hr hlocks hS () hP hD hv dX10_range_26
  · have hv := hv.2 c_2
    refine lv_iload_n hx hb dX10_range_5 rfl (lv_at hl 1 rfl) ?_
    refine lv_bipush (v := 64) hx hb dX10_range_6 (by decide) ?_
    refine lv_icmp_gt (tgt := 25) hx hb dX10_range_8 (by decide) (fun c_8 => ?_) (fun c_8 => ?_)
    · have hv := hv.1 c_8
      refine lv_iconst (v := -1) hx hb dX10_range_25 (by decide) ?_
      rw [← hQ]
      exact k_iret hx hb hr hlocks hS () hP hD hv dX10_range_26
    · have hv := hv.2 c_8
      refine lv_iload_n hx hb dX10_range_11 rfl (lv_at hl 2 rfl) ?_
      have hPc := hP.sub (ws' := []) [] rfl
      have hDc := hD.sub (ws' := []) [] (by decide) rfl
      refine k_cali (wc := []) (wr := [oX1 ad s1_low s1_high, oX7 ad s7_over s7_count, oX10 ad , aI cy (ad 34) 8 a7_values]) (va_runS (As := [.int x2]) (rest := []) ⟨hx, hb, hml, hown, hts⟩ (m_X10_isWish l D cy ad x2 H.size hv) (va_cwS 1 hts gX10_range_X10_isWish rfl rfl rfl (by decide +kernel) ⟨Nat.le_of_ble_eq_true rfl, Nat.le_of_ble_eq_true rfl⟩) ⟨wd_blind, wd_ok hPc hK hDc hN⟩ rfl rfl hl.1 rfl (lv_room (Nat.le_of_ble_eq_true rfl)) dX10_range_12 ⟨Nat.le_of_ble_eq_true rfl, Nat.le_of_ble_eq_true rfl⟩) hP hD hS hA [] [0, 1, 2, 3] rfl rfl (by decide) (by decide) (fun r1 u H locs hv hP hD hS => ?_)
      obtain ⟨hz_r1, hv⟩ := hv
      have hP : va_P D vwCl [oX1 ad s1_low s1_high, oX7 ad s7_over s7_count, oX10 ad , aI cy (ad 34) 8 a7_values] H := hP.sub [0, 1, 2, 3] rfl
      have hD : va_D A [oX1 ad s1_low s1_high, oX7 ad s7_over s7_count, oX10 ad , aI cy (ad 34) 8 a7_values] := hD.sub [0, 1, 2, 3] (by decide) rfl
      refine lv_if_eq (tgt := 25) hx hb dX10_range_15 (by decide) (fun c_15 => ?_) (fun c_15 => ?_)
      · have hv := hv.1 c_15
        refine lv_iconst (v := -1) hx hb dX10_range_25 (by decide) ?_
        rw [← hQ]
        exact k_iret hx hb hr hlocks hS () hP hD hv dX10_range_26
      · have hv := hv.2 c_15
        refine lv_iload_n hx hb dX10_range_18 rfl (lv_at hl 3 rfl) ?_
        have hPc := hP.sub (ws' := []) [] rfl
        have hDc := hD.sub (ws' := []) [] (by decide) rfl
        refine k_cali (wc := []) (wr := [oX1 ad s1_low s1_high, oX7 ad s7_over s7_count, oX10 ad , aI cy (ad 34) 8 a7_values]) (va_runS (As := [.int x3]) (rest := []) ⟨hx, hb, hml, hown, hts⟩ (m_X10_isWish l D cy ad x3 H.size hv) (va_cwS 1 hts gX10_range_X10_isWish rfl rfl rfl (by decide +kernel) ⟨Nat.le_of_ble_eq_true rfl, Nat.le_of_ble_eq_true rfl⟩) ⟨wd_blind, wd_ok hPc hK hDc hN⟩ rfl rfl hl.1 rfl (lv_room (Nat.le_of_ble_eq_true rfl)) dX10_range_19 ⟨Nat.le_of_ble_eq_true rfl, Nat.le_of_ble_eq_true rfl⟩) hP hD hS hA [] [0, 1, 2, 3] rfl rfl (by decide) (by decide) (fun r2 u H locs hv hP hD hS => ?_)
        obtain ⟨hz_r2, hv⟩ := hv
        have hP : va_P D vwCl [oX1 ad s1_low s1_high, oX7 ad s7_over s7_count, oX10 ad , aI cy (ad 34) 8 a7_values] H := hP.sub [0, 1, 2, 3] rfl
        have hD : va_D A [oX1 ad s1_low s1_high, oX7 ad s7_over s7_count, oX10 ad , aI cy (ad 34) 8 a7_values] := hD.sub [0, 1, 2, 3] (by decide) rfl
        refine lv_if_ne (tgt := 27) hx hb dX10_range_22 (by decide) (fun c_22 => ?_) (fun c_22 => ?_)
        · have hv := hv.1 c_22
          refine lv_iload_n hx hb dX10_range_27 rfl (lv_at hl 2 rfl) ?_
          refine lv_iload_n hx hb dX10_range_28 rfl (lv_at hl 3 rfl) ?_
          refine lv_icmp_gt (tgt := 41) hx hb dX10_range_29 (by decide) (fun c_29 => ?_) (fun c_29 => ?_)
          · have hv := hv.1 c_29
            refine lv_iconst (v := -1) hx hb dX10_range_41 (by decide) ?_
            rw [← hQ]
            exact k_iret hx hb hr hlocks hS () hP hD hv dX10_range_42
          · have hv := hv.2 c_29
            refine lv_iload_n hx hb dX10_range_32 rfl (lv_at hl 3 rfl) ?_
            refine lv_iload_n hx hb dX10_range_33 rfl (lv_at hl 2 rfl) ?_
            refine lv_isub hx hb dX10_range_34 ?_
            refine lv_topi (fun e3 h_e3 => ?_)
            have hv := hv e3 h_e3
            refine lv_sipush (v := 2000) hx hb dX10_range_35 (by decide) ?_
            refine lv_icmp_le (tgt := 43) hx hb dX10_range_38 (by decide) (fun c_38 => ?_) (fun c_38 => ?_)
            · have hv := hv.1 c_38
              refine lv_aload_n hx hb dX10_range_43 rfl (lv_at hl 0 rfl) ?_
              refine va_get (D := D) (ci := 10) (v := .ref (ad 1)) (C := RX10) (T := TX10) (N := 6) hx hb hts in_X10_range_10 hown hK hP 2 rfl rfl 5 (by decide) (hts _ lk_X10_range_51) (fun _ h9 => h9) rfl dX10_range_44 ?_
              refine lv_iload_n hx hb dX10_range_47 rfl (lv_at hl 1 rfl) ?_
              refine lv_iload_n hx hb dX10_range_48 rfl (lv_at hl 2 rfl) ?_
              refine lv_iload_n hx hb dX10_range_49 rfl (lv_at hl 3 rfl) ?_
              have hPc := hP.sub (ws' := [oX1 ad s1_low s1_high, oX7 ad s7_over s7_count, aI cy (ad 34) 8 a7_values]) [0, 1, 3] rfl
              have hDc := hD.sub (ws' := [oX1 ad s1_low s1_high, oX7 ad s7_over s7_count, aI cy (ad 34) 8 a7_values]) [0, 1, 3] (by decide) rfl
              refine k_cali (wc := [oX1 ad s1_low s1_high, oX7 ad s7_over s7_count, aI cy (ad 34) 8 a7_values]) (wr := [oX10 ad ]) (va_runV (As := [.int x1, .int x2, .int x3]) (rest := []) ⟨hx, hb, hml, hown, hts⟩ (m_X1_countRows l D cy ad s1_low s1_high s7_over s7_count a7_values x1 x2 x3 H.size hv) (cwV 3 hts gX10_range_X1_countRows rfl rfl rfl (by decide +kernel) ⟨Nat.le_of_ble_eq_true rfl, Nat.le_of_ble_eq_true rfl⟩) ⟨wd_blind, va_recv hK hPc (ci := 1) (q0 := 0) rfl rfl, wd_ok hPc hK hDc hN⟩ rfl rfl hl.1 rfl (lv_room (Nat.le_of_ble_eq_true rfl)) dX10_range_50 ⟨Nat.le_of_ble_eq_true rfl, Nat.le_of_ble_eq_true rfl⟩) hP hD hS hA [0, 1, 3] [2] rfl rfl (by decide) (by decide) (fun r4 u H locs hv hP hD hS => ?_)
              have hP : va_P D vwCl [oX1 ad s1_low s1_high, oX7 ad s7_over s7_count, oX10 ad , aI cy (ad 34) 8 a7_values] H := hP.sub [1, 2, 0, 3] rfl
              have hD : va_D A [oX1 ad s1_low s1_high, oX7 ad s7_over s7_count, oX10 ad , aI cy (ad 34) 8 a7_values] := hD.sub [1, 2, 0, 3] (by decide) rfl
              rw [← hQ]
              exact k_iret hx hb hr hlocks hS () hP hD hv dX10_range_53
            · have hv := hv.2 c_38
              refine lv_iconst (v := -1) hx hb dX10_range_41 (by decide) ?_
              rw [← hQ]
              exact k_iret hx hb hr hlocks hS () hP hD hv dX10_range_42
        · have hv := hv.2 c_22
          refine lv_iconst (v := -1) hx hb dX10_range_25 (by decide) ?_
          rw [← hQ]
          exact k_iret hx hb hr hlocks hS () hP hD hv dX10_range_26
theorem lk_X10_part_21 : Cond.fieldLink RX10 21 "CoarseSteps" "loop" "LCoarseSteps$Loop;" ∈ wsX10_part := by decide +kernel
theorem in_X10_part_10 : ∀ w ∈ wsX100, w ∈ wsX10_part := by decide +kernel
theorem in_X10_part_4 : ∀ w ∈ wsX40, w ∈ wsX10_part := by decide +kernel
theorem in_X10_part_9 : ∀ w ∈ wsX90, w ∈ wsX10_part := by decide +kernel
abbrev rm_X10_part : Room := { frames := 0, cells := 0, slots := 0, locals := 0 }
set_option maxHeartbeats 4000000 in
set_option maxRecDepth 100000 in
theorem m_X10_part (l : Launch) (D : va_G) (cy : ClassId × ClassId × ClassId) (ad : Nat → Nat) (s4_ticks : Int32) (s4_firstBeganWith : Int64) (s4_secondBefore : Int32) (s4_thirdBefore : Int32) (s4_thirdTwoBefore : Int32) (s9_parts : Int32) (s9_rule : Int32) (s9_hand : Int32) (a9_isOn : Nat → Int32) (a9_timesOn : Nat → Int32) (x1 : Int32) (x2 : Int32) (sz : Nat) {K : Int32 → Prop} (hv : v_X10_part s9_parts a9_isOn a9_timesOn x1 x2 K) : Met l yX10_part wsX10_part rm_X10_part (va_Pc [.ref (ad 10), .int x1, .int x2] (wd D cy [oX4 ad s4_ticks s4_firstBeganWith s4_secondBefore s4_thirdBefore s4_thirdTwoBefore, oX9 ad s9_parts s9_rule s9_hand, oX10 ad , aZ cy (ad 39) 16 a9_isOn, aI cy (ad 40) 16 a9_timesOn] sz)) (va_Qi (fun (r : Int32) (u : Unit) => K r) (fun u t => we D ((fun u : Unit => [oX4 ad s4_ticks s4_firstBeganWith s4_secondBefore s4_thirdBefore s4_thirdTwoBefore, oX9 ad s9_parts s9_rule s9_hand, oX10 ad , aZ cy (ad 39) 16 a9_isOn, aI cy (ad 40) 16 a9_timesOn]) u) (va_A [oX4 ad s4_ticks s4_firstBeganWith s4_secondBefore s4_thirdBefore s4_thirdTwoBefore, oX9 ad s9_parts s9_rule s9_hand, oX10 ad , aZ cy (ad 39) 16 a9_isOn, aI cy (ad 40) 16 a9_timesOn] sz) t) (va_A [oX4 ad s4_ticks s4_firstBeganWith s4_secondBefore s4_thirdBefore s4_thirdTwoBefore, oX9 ad s9_parts s9_rule s9_hand, oX10 ad , aZ cy (ad 39) 16 a9_isOn, aI cy (ad 40) 16 a9_timesOn] sz)) 0 0 (va_A [oX4 ad s4_ticks s4_firstBeganWith s4_secondBefore s4_thirdBefore s4_thirdTwoBefore, oX9 ad s9_parts s9_rule s9_hand, oX10 ad , aZ cy (ad 39) 16 a9_isOn, aI cy (ad 40) 16 a9_timesOn] sz) := by
  refine k_ofW (cc := cX10_part) (maxL := 3) (ret := (some .int)) (fun A => va_Qi (fun (r : Int32) (u : Unit) => K r) (fun u t => we D ((fun u : Unit => [oX4 ad s4_ticks s4_firstBeganWith s4_secondBefore s4_thirdBefore s4_thirdTwoBefore, oX9 ad s9_parts s9_rule s9_hand, oX10 ad , aZ cy (ad 39) 16 a9_isOn, aI cy (ad 40) 16 a9_timesOn]) u) A t) A) (by decide) rfl (Nat.le_of_ble_eq_true rfl) ?_
  intro p e s m below meth c A ls H locs hx hb hml hr hts hown hlocks hname hK hN hA hP hD hS hl
  have hl : lv_has ls 3 [(0, .ref (ad 10)), (1, .int x1), (2, .int x2)] := hl
  generalize hQ : MQ below _ _ s _ _ A = Q
  unfold v_X10_part at hv
  refine lv_iload_n hx hb dX10_part_0 rfl (lv_at hl 1 rfl) ?_
  refine lv_if_lt (tgt := 18) hx hb dX10_part_1 (by decide) (fun c_1 => ?_) (fun c_1 => ?_)
  · have hv := hv.1 c_1
    refine lv_iconst (v := -1) hx hb dX10_part_18 (by decide) ?_
    rw [← hQ]
    exact k_iret hx hb hr hlocks hS () hP hD hv dX10_part_19
  · have hv := hv.2 c_1
    refine lv_iload_n hx hb dX10_part_4 rfl (lv_at hl 1 rfl) ?_
    refine lv_aload_n hx hb dX10_part_5 rfl (lv_at hl 0 rfl) ?_
    refine va_get (D := D) (ci := 10) (v := .ref (ad 4)) (C := RX10) (T := TX10) (N := 6) hx hb hts in_X10_part_10 hown hK hP 2 rfl rfl 1 (by decide) (hts _ lk_X10_part_21) (fun _ h9 => h9) rfl dX10_part_6 ?_
    refine va_getN (D := D) (ci := 4) (v := .ref (ad 9)) (C := RX4) (T := TX4) (N := 9) hx hb hts in_X10_part_4 hown hK hP 0 rfl rfl 1 (by decide) (nz_use hN nzf_X10_214) (fun _ h9 => h9) rfl dX10_part_9 ?_
    refine va_getN (D := D) (ci := 9) (v := .int s9_parts) (C := RX9) (T := TX9) (N := 5) hx hb hts in_X10_part_9 hown hK hP 1 rfl rfl 2 (by decide) (nz_use hN nzf_X10_218) (fun _ h9 => h9) rfl dX10_part_12 ?_
    refine lv_icmp_lt (tgt := 20) hx hb dX10_part_15 (by decide) (fun c_15 => ?_) (fun c_15 => ?_)
    · have hv := hv.1 c_15
      refine lv_iload_n hx hb dX10_part_20 rfl (lv_at hl 2 rfl) ?_
      by_cases c_21_0 : x2 = 0
      · refine lv_lookup (tgt := 48) (off := 27) hx hb dX10_part_21 (by decide) (by rw [c_21_0] <;> rfl) (by decide) ?_
        have hv := hv.1 c_21_0
        refine lv_aload_n hx hb dX10_part_48 rfl (lv_at hl 0 rfl) ?_
        refine va_get (D := D) (ci := 10) (v := .ref (ad 4)) (C := RX10) (T := TX10) (N := 6) hx hb hts in_X10_part_10 hown hK hP 2 rfl rfl 1 (by decide) (hts _ lk_X10_part_21) (fun _ h9 => h9) rfl dX10_part_49 ?_
        refine va_getN (D := D) (ci := 4) (v := .ref (ad 9)) (C := RX4) (T := TX4) (N := 9) hx hb hts in_X10_part_4 hown hK hP 0 rfl rfl 1 (by decide) (nz_use hN nzf_X10_214) (fun _ h9 => h9) rfl dX10_part_52 ?_
        refine va_getN (D := D) (ci := 9) (v := .ref (ad 39)) (C := RX9) (T := TX9) (N := 5) hx hb hts in_X10_part_9 hown hK hP 1 rfl rfl 0 (by decide) (nz_use hN nzf_X10_223) (fun _ h9 => h9) rfl dX10_part_55 ?_
        refine lv_iload_n hx hb dX10_part_58 rfl (lv_at hl 1 rfl) ?_
        refine va_zald hx hb hK hP 3 2 rfl rfl hv.1 dX10_part_59 ?_
        refine lv_topi (fun g1 h_g1 => ?_)
        have hv := hv.2 g1 h_g1
        refine lv_if_eq (tgt := 67) hx hb dX10_part_60 (by decide) (fun c_60 => ?_) (fun c_60 => ?_)
        · have hv := hv.1 c_60
          refine lv_iconst (v := 0) hx hb dX10_part_67 (by decide) ?_
          rw [← hQ]
          exact k_iret hx hb hr hlocks hS () hP hD hv dX10_part_68
        · have hv := hv.2 c_60
          refine lv_iconst (v := 1) hx hb dX10_part_63 (by decide) ?_
          refine lv_goto (tgt := 68) hx hb dX10_part_64 (by decide) ?_
          rw [← hQ]
          exact k_iret hx hb hr hlocks hS () hP hD hv dX10_part_68
      have hv := hv.2
      by_cases c_21_1 : x2 = 1
      · refine lv_lookup (tgt := 69) (off := 48) hx hb dX10_part_21 (by decide) (by rw [c_21_1] <;> rfl) (by decide) ?_
        have hv := hv.1 c_21_1
        refine lv_aload_n hx hb dX10_part_69 rfl (lv_at hl 0 rfl) ?_
        refine va_get (D := D) (ci := 10) (v := .ref (ad 4)) (C := RX10) (T := TX10) (N := 6) hx hb hts in_X10_part_10 hown hK hP 2 rfl rfl 1 (by decide) (hts _ lk_X10_part_21) (fun _ h9 => h9) rfl dX10_part_70 ?_
        refine va_getN (D := D) (ci := 4) (v := .ref (ad 9)) (C := RX4) (T := TX4) (N := 9) hx hb hts in_X10_part_4 hown hK hP 0 rfl rfl 1 (by decide) (nz_use hN nzf_X10_214) (fun _ h9 => h9) rfl dX10_part_73 ?_
        refine va_getN (D := D) (ci := 9) (v := .ref (ad 40)) (C := RX9) (T := TX9) (N := 5) hx hb hts in_X10_part_9 hown hK hP 1 rfl rfl 1 (by decide) (nz_use hN nzf_X10_227) (fun _ h9 => h9) rfl dX10_part_76 ?_
        refine lv_iload_n hx hb dX10_part_79 rfl (lv_at hl 1 rfl) ?_
        refine va_iald hx hb hK hP 4 0 rfl rfl hv.1 dX10_part_80 ?_
        refine lv_topi (fun g2 h_g2 => ?_)
        have hv := hv.2 g2 h_g2
        rw [← hQ]
        exact k_iret hx hb hr hlocks hS () hP hD hv dX10_part_81
      have hv := hv.2
      refine lv_lookup (tgt := 82) (off := 61) hx hb dX10_part_21 (by decide) ((lv_osw c_21_0 (by decide)).trans ((lv_osw c_21_1 (by decide)).trans rfl)) (by decide) ?_
      have hv := hv c_21_0 c_21_1
      refine lv_iconst (v := -1) hx hb dX10_part_82 (by decide) ?_
      rw [← hQ]
      exact k_iret hx hb hr hlocks hS () hP hD hv dX10_part_83
    · have hv := hv.2 c_15
      refine lv_iconst (v := -1) hx hb dX10_part_18 (by decide) ?_
      rw [← hQ]
      exact k_iret hx hb hr hlocks hS () hP hD hv dX10_part_19
theorem lk_X10_spread_21 : Cond.fieldLink RX10 21 "CoarseSteps" "loop" "LCoarseSteps$Loop;" ∈ wsX10_spread := by decide +kernel
theorem in_X10_spread_10 : ∀ w ∈ wsX100, w ∈ wsX10_spread := by decide +kernel
theorem in_X10_spread_4 : ∀ w ∈ wsX40, w ∈ wsX10_spread := by decide +kernel
theorem in_X10_spread_5 : ∀ w ∈ wsX50, w ∈ wsX10_spread := by decide +kernel
abbrev rm_X10_spread : Room := { frames := 2, cells := 0, slots := 0, locals := 44 }
set_option maxHeartbeats 4000000 in
set_option maxRecDepth 100000 in
theorem m_X10_spread (l : Launch) (D : va_G) (cy : ClassId × ClassId × ClassId) (ad : Nat → Nat) (s4_ticks : Int32) (s4_firstBeganWith : Int64) (s4_secondBefore : Int32) (s4_thirdBefore : Int32) (s4_thirdTwoBefore : Int32) (s5_kind : Int32) (s5_sums : Int32) (s9_parts : Int32) (s9_rule : Int32) (s9_hand : Int32) (a9_timesOn : Nat → Int32) (sz : Nat) {K : Int32 → Prop} (hv : v_X10_spread s5_kind s9_parts a9_timesOn K) : Met l yX10_spread wsX10_spread rm_X10_spread (va_Pc [.ref (ad 10)] (wd D cy [oX4 ad s4_ticks s4_firstBeganWith s4_secondBefore s4_thirdBefore s4_thirdTwoBefore, oX5 ad s5_kind s5_sums, oX9 ad s9_parts s9_rule s9_hand, oX10 ad , aI cy (ad 40) 16 a9_timesOn] sz)) (va_Qi (fun (r : Int32) (u : Unit) => K r) (fun u t => we D ((fun u : Unit => [oX4 ad s4_ticks s4_firstBeganWith s4_secondBefore s4_thirdBefore s4_thirdTwoBefore, oX5 ad s5_kind s5_sums, oX9 ad s9_parts s9_rule s9_hand, oX10 ad , aI cy (ad 40) 16 a9_timesOn]) u) (va_A [oX4 ad s4_ticks s4_firstBeganWith s4_secondBefore s4_thirdBefore s4_thirdTwoBefore, oX5 ad s5_kind s5_sums, oX9 ad s9_parts s9_rule s9_hand, oX10 ad , aI cy (ad 40) 16 a9_timesOn] sz) t) (va_A [oX4 ad s4_ticks s4_firstBeganWith s4_secondBefore s4_thirdBefore s4_thirdTwoBefore, oX5 ad s5_kind s5_sums, oX9 ad s9_parts s9_rule s9_hand, oX10 ad , aI cy (ad 40) 16 a9_timesOn] sz)) 0 0 (va_A [oX4 ad s4_ticks s4_firstBeganWith s4_secondBefore s4_thirdBefore s4_thirdTwoBefore, oX5 ad s5_kind s5_sums, oX9 ad s9_parts s9_rule s9_hand, oX10 ad , aI cy (ad 40) 16 a9_timesOn] sz) := by
  refine k_ofW (cc := cX10_spread) (maxL := 1) (ret := (some .int)) (fun A => va_Qi (fun (r : Int32) (u : Unit) => K r) (fun u t => we D ((fun u : Unit => [oX4 ad s4_ticks s4_firstBeganWith s4_secondBefore s4_thirdBefore s4_thirdTwoBefore, oX5 ad s5_kind s5_sums, oX9 ad s9_parts s9_rule s9_hand, oX10 ad , aI cy (ad 40) 16 a9_timesOn]) u) A t) A) (by decide) rfl (Nat.le_of_ble_eq_true rfl) ?_
  intro p e s m below meth c A ls H locs hx hb hml hr hts hown hlocks hname hK hN hA hP hD hS hl
  have hl : lv_has ls 1 [(0, .ref (ad 10))] := hl
  generalize hQ : MQ below _ _ s _ _ A = Q
  unfold v_X10_spread at hv
  refine lv_aload_n hx hb dX10_spread_0 rfl (lv_at hl 0 rfl) ?_
  refine va_get (D := D) (ci := 10) (v := .ref (ad 4)) (C := RX10) (T := TX10) (N := 6) hx hb hts in_X10_spread_10 hown hK hP 3 rfl rfl 1 (by decide) (hts _ lk_X10_spread_21) (fun _ h9 => h9) rfl dX10_spread_1 ?_
  refine va_getN (D := D) (ci := 4) (v := .ref (ad 5)) (C := RX4) (T := TX4) (N := 9) hx hb hts in_X10_spread_4 hown hK hP 0 rfl rfl 0 (by decide) (nz_use hN nzf_X10_74) (fun _ h9 => h9) rfl dX10_spread_4 ?_
  refine va_getN (D := D) (ci := 5) (v := .int s5_kind) (C := RX5) (T := TX5) (N := 6) hx hb hts in_X10_spread_5 hown hK hP 1 rfl rfl 4 (by decide) (nz_use hN nzf_X10_90) (fun _ h9 => h9) rfl dX10_spread_7 ?_
  refine lv_iconst (v := 4) hx hb dX10_spread_10 (by decide) ?_
  refine lv_icmp_ne (tgt := 27) hx hb dX10_spread_11 (by decide) (fun c_11 => ?_) (fun c_11 => ?_)
  · have hv := hv.1 c_11
    refine lv_iconst (v := -1) hx hb dX10_spread_27 (by decide) ?_
    rw [← hQ]
    exact k_iret hx hb hr hlocks hS () hP hD hv dX10_spread_28
  · have hv := hv.2 c_11
    refine lv_aload_n hx hb dX10_spread_14 rfl (lv_at hl 0 rfl) ?_
    refine va_get (D := D) (ci := 10) (v := .ref (ad 4)) (C := RX10) (T := TX10) (N := 6) hx hb hts in_X10_spread_10 hown hK hP 3 rfl rfl 1 (by decide) (hts _ lk_X10_spread_21) (fun _ h9 => h9) rfl dX10_spread_15 ?_
    refine va_getN (D := D) (ci := 4) (v := .ref (ad 9)) (C := RX4) (T := TX4) (N := 9) hx hb hts in_X10_spread_4 hown hK hP 0 rfl rfl 1 (by decide) (nz_use hN nzf_X10_214) (fun _ h9 => h9) rfl dX10_spread_18 ?_
    have hPc := hP.sub (ws' := [oX9 ad s9_parts s9_rule s9_hand, aI cy (ad 40) 16 a9_timesOn]) [2, 4] rfl
    have hDc := hD.sub (ws' := [oX9 ad s9_parts s9_rule s9_hand, aI cy (ad 40) 16 a9_timesOn]) [2, 4] (by decide) rfl
    refine k_cali (wc := [oX9 ad s9_parts s9_rule s9_hand, aI cy (ad 40) 16 a9_timesOn]) (wr := [oX4 ad s4_ticks s4_firstBeganWith s4_secondBefore s4_thirdBefore s4_thirdTwoBefore, oX5 ad s5_kind s5_sums, oX10 ad ]) (va_runV (As := []) (rest := []) ⟨hx, hb, hml, hown, hts⟩ (m_X9_mostLessLeast l D cy ad s9_parts s9_rule s9_hand a9_timesOn H.size hv) (cwV 0 hts gX10_spread_X9_mostLessLeast rfl rfl rfl (by decide +kernel) ⟨Nat.le_of_ble_eq_true rfl, Nat.le_of_ble_eq_true rfl⟩) ⟨wd_blind, va_recv hK hPc (ci := 9) (q0 := 0) rfl rfl, wd_ok hPc hK hDc hN⟩ rfl rfl hl.1 rfl (lv_room (Nat.le_of_ble_eq_true rfl)) dX10_spread_21 ⟨Nat.le_of_ble_eq_true rfl, Nat.le_of_ble_eq_true rfl⟩) hP hD hS hA [2, 4] [0, 1, 3] rfl rfl (by decide) (by decide) (fun r1 u H locs hv hP hD hS => ?_)
    have hP : va_P D vwCl [oX4 ad s4_ticks s4_firstBeganWith s4_secondBefore s4_thirdBefore s4_thirdTwoBefore, oX5 ad s5_kind s5_sums, oX9 ad s9_parts s9_rule s9_hand, oX10 ad , aI cy (ad 40) 16 a9_timesOn] H := hP.sub [0, 1, 3, 2, 4] rfl
    have hD : va_D A [oX4 ad s4_ticks s4_firstBeganWith s4_secondBefore s4_thirdBefore s4_thirdTwoBefore, oX5 ad s5_kind s5_sums, oX9 ad s9_parts s9_rule s9_hand, oX10 ad , aI cy (ad 40) 16 a9_timesOn] := hD.sub [0, 1, 3, 2, 4] (by decide) rfl
    refine lv_goto (tgt := 28) hx hb dX10_spread_24 (by decide) ?_
    rw [← hQ]
    exact k_iret hx hb hr hlocks hS () hP hD hv dX10_spread_28
theorem lk_X10_about_10 : Cond.fieldLink RX10 10 "CoarseSteps" "scale" "LCoarseSteps$Scale;" ∈ wsX10_about := by decide +kernel
theorem in_X10_about_10 : ∀ w ∈ wsX100, w ∈ wsX10_about := by decide +kernel
theorem in_X10_about_7 : ∀ w ∈ wsX70, w ∈ wsX10_about := by decide +kernel
theorem lk_X10_about_21 : Cond.fieldLink RX10 21 "CoarseSteps" "loop" "LCoarseSteps$Loop;" ∈ wsX10_about := by decide +kernel
theorem in_X10_about_4 : ∀ w ∈ wsX40, w ∈ wsX10_about := by decide +kernel
theorem in_X10_about_5 : ∀ w ∈ wsX50, w ∈ wsX10_about := by decide +kernel
theorem in_X10_about_9 : ∀ w ∈ wsX90, w ∈ wsX10_about := by decide +kernel
theorem in_X10_about_3 : ∀ w ∈ wsX30, w ∈ wsX10_about := by decide +kernel
theorem lk_X10_about_44 : Cond.fieldLink RX10 44 "CoarseSteps" "filter" "LCoarseSteps$Filter;" ∈ wsX10_about := by decide +kernel
theorem in_X10_about_2 : ∀ w ∈ wsX20, w ∈ wsX10_about := by decide +kernel
abbrev rm_X10_about : Room := { frames := 0, cells := 0, slots := 0, locals := 0 }
set_option maxHeartbeats 4000000 in
set_option maxRecDepth 100000 in
theorem m_X10_about (l : Launch) (D : va_G) (cy : ClassId × ClassId × ClassId) (ad : Nat → Nat) (s2_count : Int32) (s3_next : Int32) (s3_kept : Int32) (s4_ticks : Int32) (s4_firstBeganWith : Int64) (s4_secondBefore : Int32) (s4_thirdBefore : Int32) (s4_thirdTwoBefore : Int32) (s5_kind : Int32) (s5_sums : Int32) (s7_over : Int32) (s7_count : Int32) (s9_parts : Int32) (s9_rule : Int32) (s9_hand : Int32) (x1 : Int32) (sz : Nat) {K : Int32 → Prop} (hv : v_X10_about s2_count s3_kept s4_ticks s5_kind s5_sums s7_over s7_count s9_parts s9_hand x1 K) : Met l yX10_about wsX10_about rm_X10_about (va_Pc [.ref (ad 10), .int x1] (wd D cy [oX2 ad s2_count, oX3 ad s3_next s3_kept, oX4 ad s4_ticks s4_firstBeganWith s4_secondBefore s4_thirdBefore s4_thirdTwoBefore, oX5 ad s5_kind s5_sums, oX7 ad s7_over s7_count, oX9 ad s9_parts s9_rule s9_hand, oX10 ad ] sz)) (va_Qi (fun (r : Int32) (u : Unit) => K r) (fun u t => we D ((fun u : Unit => [oX2 ad s2_count, oX3 ad s3_next s3_kept, oX4 ad s4_ticks s4_firstBeganWith s4_secondBefore s4_thirdBefore s4_thirdTwoBefore, oX5 ad s5_kind s5_sums, oX7 ad s7_over s7_count, oX9 ad s9_parts s9_rule s9_hand, oX10 ad ]) u) (va_A [oX2 ad s2_count, oX3 ad s3_next s3_kept, oX4 ad s4_ticks s4_firstBeganWith s4_secondBefore s4_thirdBefore s4_thirdTwoBefore, oX5 ad s5_kind s5_sums, oX7 ad s7_over s7_count, oX9 ad s9_parts s9_rule s9_hand, oX10 ad ] sz) t) (va_A [oX2 ad s2_count, oX3 ad s3_next s3_kept, oX4 ad s4_ticks s4_firstBeganWith s4_secondBefore s4_thirdBefore s4_thirdTwoBefore, oX5 ad s5_kind s5_sums, oX7 ad s7_over s7_count, oX9 ad s9_parts s9_rule s9_hand, oX10 ad ] sz)) 0 0 (va_A [oX2 ad s2_count, oX3 ad s3_next s3_kept, oX4 ad s4_ticks s4_firstBeganWith s4_secondBefore s4_thirdBefore s4_thirdTwoBefore, oX5 ad s5_kind s5_sums, oX7 ad s7_over s7_count, oX9 ad s9_parts s9_rule s9_hand, oX10 ad ] sz) := by
  refine k_ofW (cc := cX10_about) (maxL := 2) (ret := (some .int)) (fun A => va_Qi (fun (r : Int32) (u : Unit) => K r) (fun u t => we D ((fun u : Unit => [oX2 ad s2_count, oX3 ad s3_next s3_kept, oX4 ad s4_ticks s4_firstBeganWith s4_secondBefore s4_thirdBefore s4_thirdTwoBefore, oX5 ad s5_kind s5_sums, oX7 ad s7_over s7_count, oX9 ad s9_parts s9_rule s9_hand, oX10 ad ]) u) A t) A) (by decide) rfl (Nat.le_of_ble_eq_true rfl) ?_
  intro p e s m below meth c A ls H locs hx hb hml hr hts hown hlocks hname hK hN hA hP hD hS hl
  have hl : lv_has ls 2 [(0, .ref (ad 10)), (1, .int x1)] := hl
  generalize hQ : MQ below _ _ s _ _ A = Q
  unfold v_X10_about at hv
  refine lv_iload_n hx hb dX10_about_0 rfl (lv_at hl 1 rfl) ?_
  by_cases c_1_0 : x1 = 0
  · refine lv_tableIn (tgt := 52) (off := 51) hx hb dX10_about_1 (by rw [c_1_0] <;> decide) (by rw [c_1_0] <;> decide) (by rw [c_1_0] <;> rfl) (by decide) ?_
    have hv := hv.1 c_1_0
    refine lv_aload_n hx hb dX10_about_52 rfl (lv_at hl 0 rfl) ?_
    refine va_get (D := D) (ci := 10) (v := .ref (ad 7)) (C := RX10) (T := TX10) (N := 6) hx hb hts in_X10_about_10 hown hK hP 6 rfl rfl 0 (by decide) (hts _ lk_X10_about_10) (fun _ h9 => h9) rfl dX10_about_53 ?_
    refine va_getN (D := D) (ci := 7) (v := .int s7_over) (C := RX7) (T := TX7) (N := 3) hx hb hts in_X10_about_7 hown hK hP 4 rfl rfl 0 (by decide) (nz_use hN nzf_X10_55) (fun _ h9 => h9) rfl dX10_about_56 ?_
    rw [← hQ]
    exact k_iret hx hb hr hlocks hS () hP hD hv dX10_about_59
  have hv := hv.2
  by_cases c_1_1 : x1 = 1
  · refine lv_tableIn (tgt := 60) (off := 59) hx hb dX10_about_1 (by rw [c_1_1] <;> decide) (by rw [c_1_1] <;> decide) (by rw [c_1_1] <;> rfl) (by decide) ?_
    have hv := hv.1 c_1_1
    refine lv_aload_n hx hb dX10_about_60 rfl (lv_at hl 0 rfl) ?_
    refine va_get (D := D) (ci := 10) (v := .ref (ad 7)) (C := RX10) (T := TX10) (N := 6) hx hb hts in_X10_about_10 hown hK hP 6 rfl rfl 0 (by decide) (hts _ lk_X10_about_10) (fun _ h9 => h9) rfl dX10_about_61 ?_
    refine va_getN (D := D) (ci := 7) (v := .int s7_count) (C := RX7) (T := TX7) (N := 3) hx hb hts in_X10_about_7 hown hK hP 4 rfl rfl 1 (by decide) (nz_use hN nzf_X10_234) (fun _ h9 => h9) rfl dX10_about_64 ?_
    rw [← hQ]
    exact k_iret hx hb hr hlocks hS () hP hD hv dX10_about_67
  have hv := hv.2
  by_cases c_1_2 : x1 = 2
  · refine lv_tableIn (tgt := 68) (off := 67) hx hb dX10_about_1 (by rw [c_1_2] <;> decide) (by rw [c_1_2] <;> decide) (by rw [c_1_2] <;> rfl) (by decide) ?_
    have hv := hv.1 c_1_2
    refine lv_aload_n hx hb dX10_about_68 rfl (lv_at hl 0 rfl) ?_
    refine va_get (D := D) (ci := 10) (v := .ref (ad 4)) (C := RX10) (T := TX10) (N := 6) hx hb hts in_X10_about_10 hown hK hP 6 rfl rfl 1 (by decide) (hts _ lk_X10_about_21) (fun _ h9 => h9) rfl dX10_about_69 ?_
    refine va_getN (D := D) (ci := 4) (v := .ref (ad 5)) (C := RX4) (T := TX4) (N := 9) hx hb hts in_X10_about_4 hown hK hP 2 rfl rfl 0 (by decide) (nz_use hN nzf_X10_74) (fun _ h9 => h9) rfl dX10_about_72 ?_
    refine va_getN (D := D) (ci := 5) (v := .int s5_kind) (C := RX5) (T := TX5) (N := 6) hx hb hts in_X10_about_5 hown hK hP 3 rfl rfl 4 (by decide) (nz_use hN nzf_X10_90) (fun _ h9 => h9) rfl dX10_about_75 ?_
    rw [← hQ]
    exact k_iret hx hb hr hlocks hS () hP hD hv dX10_about_78
  have hv := hv.2
  by_cases c_1_3 : x1 = 3
  · refine lv_tableIn (tgt := 79) (off := 78) hx hb dX10_about_1 (by rw [c_1_3] <;> decide) (by rw [c_1_3] <;> decide) (by rw [c_1_3] <;> rfl) (by decide) ?_
    have hv := hv.1 c_1_3
    refine lv_aload_n hx hb dX10_about_79 rfl (lv_at hl 0 rfl) ?_
    refine va_get (D := D) (ci := 10) (v := .ref (ad 4)) (C := RX10) (T := TX10) (N := 6) hx hb hts in_X10_about_10 hown hK hP 6 rfl rfl 1 (by decide) (hts _ lk_X10_about_21) (fun _ h9 => h9) rfl dX10_about_80 ?_
    refine va_getN (D := D) (ci := 4) (v := .ref (ad 5)) (C := RX4) (T := TX4) (N := 9) hx hb hts in_X10_about_4 hown hK hP 2 rfl rfl 0 (by decide) (nz_use hN nzf_X10_74) (fun _ h9 => h9) rfl dX10_about_83 ?_
    refine va_getN (D := D) (ci := 5) (v := .int s5_sums) (C := RX5) (T := TX5) (N := 6) hx hb hts in_X10_about_5 hown hK hP 3 rfl rfl 5 (by decide) (nz_use hN nzf_X10_78) (fun _ h9 => h9) rfl dX10_about_86 ?_
    rw [← hQ]
    exact k_iret hx hb hr hlocks hS () hP hD hv dX10_about_89
  have hv := hv.2
  by_cases c_1_4 : x1 = 4
  · refine lv_tableIn (tgt := 90) (off := 89) hx hb dX10_about_1 (by rw [c_1_4] <;> decide) (by rw [c_1_4] <;> decide) (by rw [c_1_4] <;> rfl) (by decide) ?_
    have hv := hv.1 c_1_4
    refine lv_aload_n hx hb dX10_about_90 rfl (lv_at hl 0 rfl) ?_
    refine va_get (D := D) (ci := 10) (v := .ref (ad 4)) (C := RX10) (T := TX10) (N := 6) hx hb hts in_X10_about_10 hown hK hP 6 rfl rfl 1 (by decide) (hts _ lk_X10_about_21) (fun _ h9 => h9) rfl dX10_about_91 ?_
    refine va_getN (D := D) (ci := 4) (v := .ref (ad 9)) (C := RX4) (T := TX4) (N := 9) hx hb hts in_X10_about_4 hown hK hP 2 rfl rfl 1 (by decide) (nz_use hN nzf_X10_214) (fun _ h9 => h9) rfl dX10_about_94 ?_
    refine va_getN (D := D) (ci := 9) (v := .int s9_parts) (C := RX9) (T := TX9) (N := 5) hx hb hts in_X10_about_9 hown hK hP 5 rfl rfl 2 (by decide) (nz_use hN nzf_X10_218) (fun _ h9 => h9) rfl dX10_about_97 ?_
    rw [← hQ]
    exact k_iret hx hb hr hlocks hS () hP hD hv dX10_about_100
  have hv := hv.2
  by_cases c_1_5 : x1 = 5
  · refine lv_tableIn (tgt := 101) (off := 100) hx hb dX10_about_1 (by rw [c_1_5] <;> decide) (by rw [c_1_5] <;> decide) (by rw [c_1_5] <;> rfl) (by decide) ?_
    have hv := hv.1 c_1_5
    refine lv_aload_n hx hb dX10_about_101 rfl (lv_at hl 0 rfl) ?_
    refine va_get (D := D) (ci := 10) (v := .ref (ad 4)) (C := RX10) (T := TX10) (N := 6) hx hb hts in_X10_about_10 hown hK hP 6 rfl rfl 1 (by decide) (hts _ lk_X10_about_21) (fun _ h9 => h9) rfl dX10_about_102 ?_
    refine va_getN (D := D) (ci := 4) (v := .int s4_ticks) (C := RX4) (T := TX4) (N := 9) hx hb hts in_X10_about_4 hown hK hP 2 rfl rfl 4 (by decide) (nz_use hN nzf_X10_114) (fun _ h9 => h9) rfl dX10_about_105 ?_
    rw [← hQ]
    exact k_iret hx hb hr hlocks hS () hP hD hv dX10_about_108
  have hv := hv.2
  by_cases c_1_6 : x1 = 6
  · refine lv_tableIn (tgt := 109) (off := 108) hx hb dX10_about_1 (by rw [c_1_6] <;> decide) (by rw [c_1_6] <;> decide) (by rw [c_1_6] <;> rfl) (by decide) ?_
    have hv := hv.1 c_1_6
    refine lv_aload_n hx hb dX10_about_109 rfl (lv_at hl 0 rfl) ?_
    refine va_get (D := D) (ci := 10) (v := .ref (ad 4)) (C := RX10) (T := TX10) (N := 6) hx hb hts in_X10_about_10 hown hK hP 6 rfl rfl 1 (by decide) (hts _ lk_X10_about_21) (fun _ h9 => h9) rfl dX10_about_110 ?_
    refine va_getN (D := D) (ci := 4) (v := .ref (ad 3)) (C := RX4) (T := TX4) (N := 9) hx hb hts in_X10_about_4 hown hK hP 2 rfl rfl 2 (by decide) (nz_use hN nzf_X10_132) (fun _ h9 => h9) rfl dX10_about_113 ?_
    refine va_getN (D := D) (ci := 3) (v := .int s3_kept) (C := RX3) (T := TX3) (N := 6) hx hb hts in_X10_about_3 hown hK hP 1 rfl rfl 5 (by decide) (nz_use hN nzf_X10_237) (fun _ h9 => h9) rfl dX10_about_116 ?_
    rw [← hQ]
    exact k_iret hx hb hr hlocks hS () hP hD hv dX10_about_119
  have hv := hv.2
  by_cases c_1_7 : x1 = 7
  · refine lv_tableIn (tgt := 120) (off := 119) hx hb dX10_about_1 (by rw [c_1_7] <;> decide) (by rw [c_1_7] <;> decide) (by rw [c_1_7] <;> rfl) (by decide) ?_
    have hv := hv.1 c_1_7
    refine lv_aload_n hx hb dX10_about_120 rfl (lv_at hl 0 rfl) ?_
    refine va_get (D := D) (ci := 10) (v := .ref (ad 2)) (C := RX10) (T := TX10) (N := 6) hx hb hts in_X10_about_10 hown hK hP 6 rfl rfl 4 (by decide) (hts _ lk_X10_about_44) (fun _ h9 => h9) rfl dX10_about_121 ?_
    refine va_getN (D := D) (ci := 2) (v := .int s2_count) (C := RX2) (T := TX2) (N := 2) hx hb hts in_X10_about_2 hown hK hP 0 rfl rfl 1 (by decide) (nz_use hN nzf_X10_240) (fun _ h9 => h9) rfl dX10_about_124 ?_
    rw [← hQ]
    exact k_iret hx hb hr hlocks hS () hP hD hv dX10_about_127
  have hv := hv.2
  by_cases c_1_8 : x1 = 8
  · refine lv_tableIn (tgt := 128) (off := 127) hx hb dX10_about_1 (by rw [c_1_8] <;> decide) (by rw [c_1_8] <;> decide) (by rw [c_1_8] <;> rfl) (by decide) ?_
    have hv := hv.1 c_1_8
    refine lv_aload_n hx hb dX10_about_128 rfl (lv_at hl 0 rfl) ?_
    refine va_get (D := D) (ci := 10) (v := .ref (ad 4)) (C := RX10) (T := TX10) (N := 6) hx hb hts in_X10_about_10 hown hK hP 6 rfl rfl 1 (by decide) (hts _ lk_X10_about_21) (fun _ h9 => h9) rfl dX10_about_129 ?_
    refine va_getN (D := D) (ci := 4) (v := .ref (ad 9)) (C := RX4) (T := TX4) (N := 9) hx hb hts in_X10_about_4 hown hK hP 2 rfl rfl 1 (by decide) (nz_use hN nzf_X10_214) (fun _ h9 => h9) rfl dX10_about_132 ?_
    refine va_getN (D := D) (ci := 9) (v := .int s9_hand) (C := RX9) (T := TX9) (N := 5) hx hb hts in_X10_about_9 hown hK hP 5 rfl rfl 4 (by decide) (nz_use hN nzf_X10_241) (fun _ h9 => h9) rfl dX10_about_135 ?_
    rw [← hQ]
    exact k_iret hx hb hr hlocks hS () hP hD hv dX10_about_138
  have hv := hv.2
  refine lv_tableOut (tgt := 139) hx hb dX10_about_1 (by have q0 := lv_neT c_1_0 (a := 0) (by decide); have q1 := lv_neT c_1_1 (a := 1) (by decide); have q2 := lv_neT c_1_2 (a := 2) (by decide); have q3 := lv_neT c_1_3 (a := 3) (by decide); have q4 := lv_neT c_1_4 (a := 4) (by decide); have q5 := lv_neT c_1_5 (a := 5) (by decide); have q6 := lv_neT c_1_6 (a := 6) (by decide); have q7 := lv_neT c_1_7 (a := 7) (by decide); have q8 := lv_neT c_1_8 (a := 8) (by decide); omega) (by decide) ?_
  have hv := hv c_1_0 c_1_1 c_1_2 c_1_3 c_1_4 c_1_5 c_1_6 c_1_7 c_1_8
  refine lv_iconst (v := -1) hx hb dX10_about_139 (by decide) ?_
  rw [← hQ]
  exact k_iret hx hb hr hlocks hS () hP hD hv dX10_about_140
theorem lk_X10_step_128 : Cond.constant RX10 128 (-2147483648) ∈ wsX10_step := by decide +kernel
theorem lk_X10_step_10 : Cond.fieldLink RX10 10 "CoarseSteps" "scale" "LCoarseSteps$Scale;" ∈ wsX10_step := by decide +kernel
theorem in_X10_step_10 : ∀ w ∈ wsX100, w ∈ wsX10_step := by decide +kernel
theorem in_X10_step_7 : ∀ w ∈ wsX70, w ∈ wsX10_step := by decide +kernel
abbrev rm_X10_step : Room := { frames := 0, cells := 0, slots := 0, locals := 0 }
set_option maxHeartbeats 4000000 in
set_option maxRecDepth 100000 in
theorem m_X10_step (l : Launch) (D : va_G) (cy : ClassId × ClassId × ClassId) (ad : Nat → Nat) (s7_over : Int32) (s7_count : Int32) (a7_values : Nat → Int32) (x1 : Int32) (sz : Nat) {K : Int32 → Prop} (hv : v_X10_step s7_count a7_values x1 K) : Met l yX10_step wsX10_step rm_X10_step (va_Pc [.ref (ad 10), .int x1] (wd D cy [oX7 ad s7_over s7_count, oX10 ad , aI cy (ad 34) 8 a7_values] sz)) (va_Qi (fun (r : Int32) (u : Unit) => K r) (fun u t => we D ((fun u : Unit => [oX7 ad s7_over s7_count, oX10 ad , aI cy (ad 34) 8 a7_values]) u) (va_A [oX7 ad s7_over s7_count, oX10 ad , aI cy (ad 34) 8 a7_values] sz) t) (va_A [oX7 ad s7_over s7_count, oX10 ad , aI cy (ad 34) 8 a7_values] sz)) 0 0 (va_A [oX7 ad s7_over s7_count, oX10 ad , aI cy (ad 34) 8 a7_values] sz) := by
  refine k_ofW (cc := cX10_step) (maxL := 2) (ret := (some .int)) (fun A => va_Qi (fun (r : Int32) (u : Unit) => K r) (fun u t => we D ((fun u : Unit => [oX7 ad s7_over s7_count, oX10 ad , aI cy (ad 34) 8 a7_values]) u) A t) A) (by decide) rfl (Nat.le_of_ble_eq_true rfl) ?_
  intro p e s m below meth c A ls H locs hx hb hml hr hts hown hlocks hname hK hN hA hP hD hS hl
  have hl : lv_has ls 2 [(0, .ref (ad 10)), (1, .int x1)] := hl
  generalize hQ : MQ below _ _ s _ _ A = Q
  unfold v_X10_step at hv
  refine lv_iload_n hx hb dX10_step_0 rfl (lv_at hl 1 rfl) ?_
  refine lv_if_lt (tgt := 27) hx hb dX10_step_1 (by decide) (fun c_1 => ?_) (fun c_1 => ?_)
  · have hv := hv.1 c_1
    refine lv_ldc hx hb hown (hts _ lk_X10_step_128) dX10_step_27 ?_
    rw [← hQ]
    exact k_iret hx hb hr hlocks hS () hP hD hv dX10_step_29
  · have hv := hv.2 c_1
    refine lv_iload_n hx hb dX10_step_4 rfl (lv_at hl 1 rfl) ?_
    refine lv_aload_n hx hb dX10_step_5 rfl (lv_at hl 0 rfl) ?_
    refine va_get (D := D) (ci := 10) (v := .ref (ad 7)) (C := RX10) (T := TX10) (N := 6) hx hb hts in_X10_step_10 hown hK hP 1 rfl rfl 0 (by decide) (hts _ lk_X10_step_10) (fun _ h9 => h9) rfl dX10_step_6 ?_
    refine va_getN (D := D) (ci := 7) (v := .int s7_count) (C := RX7) (T := TX7) (N := 3) hx hb hts in_X10_step_7 hown hK hP 0 rfl rfl 1 (by decide) (nz_use hN nzf_X10_234) (fun _ h9 => h9) rfl dX10_step_9 ?_
    refine lv_icmp_ge (tgt := 27) hx hb dX10_step_12 (by decide) (fun c_12 => ?_) (fun c_12 => ?_)
    · have hv := hv.1 c_12
      refine lv_ldc hx hb hown (hts _ lk_X10_step_128) dX10_step_27 ?_
      rw [← hQ]
      exact k_iret hx hb hr hlocks hS () hP hD hv dX10_step_29
    · have hv := hv.2 c_12
      refine lv_aload_n hx hb dX10_step_15 rfl (lv_at hl 0 rfl) ?_
      refine va_get (D := D) (ci := 10) (v := .ref (ad 7)) (C := RX10) (T := TX10) (N := 6) hx hb hts in_X10_step_10 hown hK hP 1 rfl rfl 0 (by decide) (hts _ lk_X10_step_10) (fun _ h9 => h9) rfl dX10_step_16 ?_
      refine va_getN (D := D) (ci := 7) (v := .ref (ad 34)) (C := RX7) (T := TX7) (N := 3) hx hb hts in_X10_step_7 hown hK hP 0 rfl rfl 2 (by decide) (nz_use hN nzf_X10_244) (fun _ h9 => h9) rfl dX10_step_19 ?_
      refine lv_iload_n hx hb dX10_step_22 rfl (lv_at hl 1 rfl) ?_
      refine va_iald hx hb hK hP 2 0 rfl rfl hv.1 dX10_step_23 ?_
      refine lv_topi (fun g1 h_g1 => ?_)
      have hv := hv.2 g1 h_g1
      refine lv_goto (tgt := 29) hx hb dX10_step_24 (by decide) ?_
      rw [← hQ]
      exact k_iret hx hb hr hlocks hS () hP hD hv dX10_step_29
theorem lk_X11_anew_81 : Cond.fieldLink RX11 81 "CoarseStepsModel" "ticks" "I" ∈ wsX11_anew := by decide +kernel
theorem in_X11_anew_11 : ∀ w ∈ wsX110, w ∈ wsX11_anew := by decide +kernel
theorem lk_X11_anew_84 : Cond.fieldLink RX11 84 "CoarseStepsModel" "hand" "I" ∈ wsX11_anew := by decide +kernel
theorem lk_X11_anew_87 : Cond.fieldLink RX11 87 "CoarseStepsModel" "dBefore" "I" ∈ wsX11_anew := by decide +kernel
theorem lk_X11_anew_90 : Cond.fieldLink RX11 90 "CoarseStepsModel" "fBefore" "I" ∈ wsX11_anew := by decide +kernel
theorem lk_X11_anew_93 : Cond.fieldLink RX11 93 "CoarseStepsModel" "fFirst" "I" ∈ wsX11_anew := by decide +kernel
theorem lk_X11_anew_96 : Cond.fieldLink RX11 96 "CoarseStepsModel" "beganElsewhere" "Z" ∈ wsX11_anew := by decide +kernel
theorem lk_X11_anew_48 : Cond.fieldLink RX11 48 "CoarseStepsModel" "on" "[I" ∈ wsX11_anew := by decide +kernel
theorem lk_X11_anew_51 : Cond.fieldLink RX11 51 "CoarseStepsModel" "often" "[I" ∈ wsX11_anew := by decide +kernel
theorem lk_X11_anew_38 : Cond.fieldLink RX11 38 "CoarseStepsModel" "sums" "[J" ∈ wsX11_anew := by decide +kernel
abbrev rm_X11_anew : Room := { frames := 0, cells := 0, slots := 0, locals := 0 }
set_option maxHeartbeats 4000000 in
set_option maxRecDepth 100000 in
theorem m_X11_anew (l : Launch) (D : va_G) (cy : ClassId × ClassId × ClassId) (ad : Nat → Nat) (s11_d : Int32) (s11_stepMany : Int32) (s11_kind : Int32) (s11_many : Int32) (s11_partMany : Int32) (s11_rule : Int32) (s11_ticks : Int32) (s11_hand : Int32) (s11_g : Int32) (s11_beganElsewhere : Int32) (s11_dBefore : Int32) (s11_fBefore : Int32) (s11_fFirst : Int32) (s11_weightMany : Int32) (s11_tailTold : Int32) (a11_sums : Nat → Int64) (a11_on : Nat → Int32) (a11_often : Nat → Int32) (sz : Nat) {K : Int32 → Int32 → Int32 → Int32 → Int32 → Int32 → (Nat → Int64) → (Nat → Int32) → (Nat → Int32) → Prop} (hv : v_X11_anew a11_sums a11_on a11_often K) : Met l yX11_anew wsX11_anew rm_X11_anew (va_Pc [.ref (ad 11)] (wd D cy [oX11 ad s11_d s11_stepMany s11_kind s11_many s11_partMany s11_rule s11_ticks s11_hand s11_g s11_beganElsewhere s11_dBefore s11_fBefore s11_fFirst s11_weightMany s11_tailTold, aJ cy (ad 47) 4 a11_sums, aI cy (ad 50) 16 a11_on, aI cy (ad 51) 16 a11_often] sz)) (va_Qv (fun u : Int32 × Int32 × Int32 × Int32 × Int32 × Int32 × (Nat → Int64) × (Nat → Int32) × (Nat → Int32) => K u.1 u.2.1 u.2.2.1 u.2.2.2.1 u.2.2.2.2.1 u.2.2.2.2.2.1 u.2.2.2.2.2.2.1 u.2.2.2.2.2.2.2.1 u.2.2.2.2.2.2.2.2) (fun u t => we D ((fun u : Int32 × Int32 × Int32 × Int32 × Int32 × Int32 × (Nat → Int64) × (Nat → Int32) × (Nat → Int32) => [oX11 ad s11_d s11_stepMany s11_kind s11_many s11_partMany s11_rule u.1 u.2.1 s11_g u.2.2.1 u.2.2.2.1 u.2.2.2.2.1 u.2.2.2.2.2.1 s11_weightMany s11_tailTold, aJ cy (ad 47) 4 u.2.2.2.2.2.2.1, aI cy (ad 50) 16 u.2.2.2.2.2.2.2.1, aI cy (ad 51) 16 u.2.2.2.2.2.2.2.2]) u) (va_A [oX11 ad s11_d s11_stepMany s11_kind s11_many s11_partMany s11_rule s11_ticks s11_hand s11_g s11_beganElsewhere s11_dBefore s11_fBefore s11_fFirst s11_weightMany s11_tailTold, aJ cy (ad 47) 4 a11_sums, aI cy (ad 50) 16 a11_on, aI cy (ad 51) 16 a11_often] sz) t) (va_A [oX11 ad s11_d s11_stepMany s11_kind s11_many s11_partMany s11_rule s11_ticks s11_hand s11_g s11_beganElsewhere s11_dBefore s11_fBefore s11_fFirst s11_weightMany s11_tailTold, aJ cy (ad 47) 4 a11_sums, aI cy (ad 50) 16 a11_on, aI cy (ad 51) 16 a11_often] sz)) 0 0 (va_A [oX11 ad s11_d s11_stepMany s11_kind s11_many s11_partMany s11_rule s11_ticks s11_hand s11_g s11_beganElsewhere s11_dBefore s11_fBefore s11_fFirst s11_weightMany s11_tailTold, aJ cy (ad 47) 4 a11_sums, aI cy (ad 50) 16 a11_on, aI cy (ad 51) 16 a11_often] sz) := by
  refine k_ofW (cc := cX11_anew) (maxL := 2) (ret := none) (fun A => va_Qv (fun u : Int32 × Int32 × Int32 × Int32 × Int32 × Int32 × (Nat → Int64) × (Nat → Int32) × (Nat → Int32) => K u.1 u.2.1 u.2.2.1 u.2.2.2.1 u.2.2.2.2.1 u.2.2.2.2.2.1 u.2.2.2.2.2.2.1 u.2.2.2.2.2.2.2.1 u.2.2.2.2.2.2.2.2) (fun u t => we D ((fun u : Int32 × Int32 × Int32 × Int32 × Int32 × Int32 × (Nat → Int64) × (Nat → Int32) × (Nat → Int32) => [oX11 ad s11_d s11_stepMany s11_kind s11_many s11_partMany s11_rule u.1 u.2.1 s11_g u.2.2.1 u.2.2.2.1 u.2.2.2.2.1 u.2.2.2.2.2.1 s11_weightMany s11_tailTold, aJ cy (ad 47) 4 u.2.2.2.2.2.2.1, aI cy (ad 50) 16 u.2.2.2.2.2.2.2.1, aI cy (ad 51) 16 u.2.2.2.2.2.2.2.2]) u) A t) A) (by decide) rfl (Nat.le_of_ble_eq_true rfl) ?_
  intro p e s m below meth c A ls H locs hx hb hml hr hts hown hlocks hname hK hN hA hP hD hS hl
  have hl : lv_has ls 2 [(0, .ref (ad 11))] := hl
  generalize hQ : MQ below _ _ s _ _ A = Q
  unfold v_X11_anew at hv
  refine lv_iconst (v := 0) hx hb dX11_anew_0 (by decide) ?_
  refine lv_istore_n (lv' := [(1, .int (0 : Int32)), (0, .ref (ad 11))]) hx hb dX11_anew_1 rfl hl (by decide) rfl (fun ls hl => ?_)
  have lp2 : ∀ (n2 : Nat) (l1_1 : Int32) (a11_sums_2 : Nat → Int64) (H : Heap) (locs : List Loc) (ls : Array Slot), vfix (vF_X11_anew_2 a11_on a11_often K) n2 (l1_1, a11_sums_2) → lv_has ls 2 [(1, .int l1_1), (0, .ref (ad 11))] → va_P D vwCl [oX11 ad s11_d s11_stepMany s11_kind s11_many s11_partMany s11_rule s11_ticks s11_hand s11_g s11_beganElsewhere s11_dBefore s11_fBefore s11_fFirst s11_weightMany s11_tailTold, aJ cy (ad 47) 4 a11_sums_2, aI cy (ad 50) 16 a11_on, aI cy (ad 51) 16 a11_often] H → va_D A [oX11 ad s11_d s11_stepMany s11_kind s11_many s11_partMany s11_rule s11_ticks s11_hand s11_g s11_beganElsewhere s11_dBefore s11_fBefore s11_fFirst s11_weightMany s11_tailTold, aJ cy (ad 47) 4 a11_sums_2, aI cy (ad 50) 16 a11_on, aI cy (ad 51) 16 a11_often] → va_S A s.heap H locs → W p l e rm_X11_anew s m ([.ref (ad 11)] : List Value).toArray below meth c H locs 0 0 Q (F0 m 2 ls []) := by
    intro n2
    induction n2 with
    | zero => intro l1_1 a11_sums_2 H locs ls hv; exact hv.elim
    | succ n2 ih2 =>
      intro l1_1 a11_sums_2 H locs ls hv hl hP hD hS
      have hv : vB_X11_anew_2 a11_on a11_often K (fun z0 z1 => vfix (vF_X11_anew_2 a11_on a11_often K) n2 (z0, z1)) l1_1 a11_sums_2 := hv
      unfold vB_X11_anew_2 at hv
      refine lv_iload_n hx hb dX11_anew_2 rfl (lv_at hl 0 rfl) ?_
      refine lv_iconst (v := 4) hx hb dX11_anew_3 (by decide) ?_
      refine lv_icmp_ge (tgt := 20) hx hb dX11_anew_4 (by decide) (fun c_4 => ?_) (fun c_4 => ?_)
      · have hv := hv.1 c_4
        refine lv_iconst (v := 0) hx hb dX11_anew_20 (by decide) ?_
        refine lv_istore_n (lv' := [(1, .int (0 : Int32)), (0, .ref (ad 11))]) hx hb dX11_anew_21 rfl hl (by decide) rfl (fun ls hl => ?_)
        have lp22 : ∀ (n22 : Nat) (l1_3 : Int32) (a11_on_4 : Nat → Int32) (a11_often_5 : Nat → Int32) (H : Heap) (locs : List Loc) (ls : Array Slot), vfix (vF_X11_anew_22 K a11_sums_2) n22 (l1_3, a11_on_4, a11_often_5) → lv_has ls 2 [(1, .int l1_3), (0, .ref (ad 11))] → va_P D vwCl [oX11 ad s11_d s11_stepMany s11_kind s11_many s11_partMany s11_rule s11_ticks s11_hand s11_g s11_beganElsewhere s11_dBefore s11_fBefore s11_fFirst s11_weightMany s11_tailTold, aJ cy (ad 47) 4 a11_sums_2, aI cy (ad 50) 16 a11_on_4, aI cy (ad 51) 16 a11_often_5] H → va_D A [oX11 ad s11_d s11_stepMany s11_kind s11_many s11_partMany s11_rule s11_ticks s11_hand s11_g s11_beganElsewhere s11_dBefore s11_fBefore s11_fFirst s11_weightMany s11_tailTold, aJ cy (ad 47) 4 a11_sums_2, aI cy (ad 50) 16 a11_on_4, aI cy (ad 51) 16 a11_often_5] → va_S A s.heap H locs → W p l e rm_X11_anew s m ([.ref (ad 11)] : List Value).toArray below meth c H locs 0 0 Q (F0 m 22 ls []) := by
          intro n22
          induction n22 with
          | zero => intro l1_3 a11_on_4 a11_often_5 H locs ls hv; exact hv.elim
          | succ n22 ih22 =>
            intro l1_3 a11_on_4 a11_often_5 H locs ls hv hl hP hD hS
            have hv : vB_X11_anew_22 K a11_sums_2 (fun z0 z1 z2 => vfix (vF_X11_anew_22 K a11_sums_2) n22 (z0, z1, z2)) l1_3 a11_on_4 a11_often_5 := hv
            unfold vB_X11_anew_22 at hv
            refine lv_iload_n hx hb dX11_anew_22 rfl (lv_at hl 0 rfl) ?_
            refine lv_bipush (v := 16) hx hb dX11_anew_23 (by decide) ?_
            refine lv_icmp_ge (tgt := 48) hx hb dX11_anew_25 (by decide) (fun c_25 => ?_) (fun c_25 => ?_)
            · have hv := hv.1 c_25
              refine lv_aload_n hx hb dX11_anew_48 rfl (lv_at hl 1 rfl) ?_
              refine lv_iconst (v := 0) hx hb dX11_anew_49 (by decide) ?_
              refine va_put (D := D) (ci := 11) (v := .int (0 : Int32)) (ty := .int) (C := RX11) (T := TX11) (N := 35) hx hb hts in_X11_anew_11 tyX11 tyX11_ok nmX11 hown hK hP hD hS 0 rfl rfl 6 (by decide) (hts _ lk_X11_anew_81) (fun _ h9 => h9) rfl (by decide +kernel) rfl rfl (Nat.le_of_ble_eq_true rfl) dX11_anew_50 (fun H locs hP hD hS => ?_)
              have hP : va_P D vwCl [oX11 ad s11_d s11_stepMany s11_kind s11_many s11_partMany s11_rule (0 : Int32) s11_hand s11_g s11_beganElsewhere s11_dBefore s11_fBefore s11_fFirst s11_weightMany s11_tailTold, aJ cy (ad 47) 4 a11_sums_2, aI cy (ad 50) 16 a11_on_4, aI cy (ad 51) 16 a11_often_5] H := hP
              have hD : va_D A [oX11 ad s11_d s11_stepMany s11_kind s11_many s11_partMany s11_rule (0 : Int32) s11_hand s11_g s11_beganElsewhere s11_dBefore s11_fBefore s11_fFirst s11_weightMany s11_tailTold, aJ cy (ad 47) 4 a11_sums_2, aI cy (ad 50) 16 a11_on_4, aI cy (ad 51) 16 a11_often_5] := hD
              refine lv_aload_n hx hb dX11_anew_53 rfl (lv_at hl 1 rfl) ?_
              refine lv_iconst (v := 0) hx hb dX11_anew_54 (by decide) ?_
              refine va_put (D := D) (ci := 11) (v := .int (0 : Int32)) (ty := .int) (C := RX11) (T := TX11) (N := 35) hx hb hts in_X11_anew_11 tyX11 tyX11_ok nmX11 hown hK hP hD hS 0 rfl rfl 7 (by decide) (hts _ lk_X11_anew_84) (fun _ h9 => h9) rfl (by decide +kernel) rfl rfl (Nat.le_of_ble_eq_true rfl) dX11_anew_55 (fun H locs hP hD hS => ?_)
              have hP : va_P D vwCl [oX11 ad s11_d s11_stepMany s11_kind s11_many s11_partMany s11_rule (0 : Int32) (0 : Int32) s11_g s11_beganElsewhere s11_dBefore s11_fBefore s11_fFirst s11_weightMany s11_tailTold, aJ cy (ad 47) 4 a11_sums_2, aI cy (ad 50) 16 a11_on_4, aI cy (ad 51) 16 a11_often_5] H := hP
              have hD : va_D A [oX11 ad s11_d s11_stepMany s11_kind s11_many s11_partMany s11_rule (0 : Int32) (0 : Int32) s11_g s11_beganElsewhere s11_dBefore s11_fBefore s11_fFirst s11_weightMany s11_tailTold, aJ cy (ad 47) 4 a11_sums_2, aI cy (ad 50) 16 a11_on_4, aI cy (ad 51) 16 a11_often_5] := hD
              refine lv_aload_n hx hb dX11_anew_58 rfl (lv_at hl 1 rfl) ?_
              refine lv_iconst (v := 0) hx hb dX11_anew_59 (by decide) ?_
              refine va_put (D := D) (ci := 11) (v := .int (0 : Int32)) (ty := .int) (C := RX11) (T := TX11) (N := 35) hx hb hts in_X11_anew_11 tyX11 tyX11_ok nmX11 hown hK hP hD hS 0 rfl rfl 19 (by decide) (hts _ lk_X11_anew_87) (fun _ h9 => h9) rfl (by decide +kernel) rfl rfl (Nat.le_of_ble_eq_true rfl) dX11_anew_60 (fun H locs hP hD hS => ?_)
              have hP : va_P D vwCl [oX11 ad s11_d s11_stepMany s11_kind s11_many s11_partMany s11_rule (0 : Int32) (0 : Int32) s11_g s11_beganElsewhere (0 : Int32) s11_fBefore s11_fFirst s11_weightMany s11_tailTold, aJ cy (ad 47) 4 a11_sums_2, aI cy (ad 50) 16 a11_on_4, aI cy (ad 51) 16 a11_often_5] H := hP
              have hD : va_D A [oX11 ad s11_d s11_stepMany s11_kind s11_many s11_partMany s11_rule (0 : Int32) (0 : Int32) s11_g s11_beganElsewhere (0 : Int32) s11_fBefore s11_fFirst s11_weightMany s11_tailTold, aJ cy (ad 47) 4 a11_sums_2, aI cy (ad 50) 16 a11_on_4, aI cy (ad 51) 16 a11_often_5] := hD
              refine lv_aload_n hx hb dX11_anew_63 rfl (lv_at hl 1 rfl) ?_
              refine lv_iconst (v := 0) hx hb dX11_anew_64 (by decide) ?_
              refine va_put (D := D) (ci := 11) (v := .int (0 : Int32)) (ty := .int) (C := RX11) (T := TX11) (N := 35) hx hb hts in_X11_anew_11 tyX11 tyX11_ok nmX11 hown hK hP hD hS 0 rfl rfl 20 (by decide) (hts _ lk_X11_anew_90) (fun _ h9 => h9) rfl (by decide +kernel) rfl rfl (Nat.le_of_ble_eq_true rfl) dX11_anew_65 (fun H locs hP hD hS => ?_)
              have hP : va_P D vwCl [oX11 ad s11_d s11_stepMany s11_kind s11_many s11_partMany s11_rule (0 : Int32) (0 : Int32) s11_g s11_beganElsewhere (0 : Int32) (0 : Int32) s11_fFirst s11_weightMany s11_tailTold, aJ cy (ad 47) 4 a11_sums_2, aI cy (ad 50) 16 a11_on_4, aI cy (ad 51) 16 a11_often_5] H := hP
              have hD : va_D A [oX11 ad s11_d s11_stepMany s11_kind s11_many s11_partMany s11_rule (0 : Int32) (0 : Int32) s11_g s11_beganElsewhere (0 : Int32) (0 : Int32) s11_fFirst s11_weightMany s11_tailTold, aJ cy (ad 47) 4 a11_sums_2, aI cy (ad 50) 16 a11_on_4, aI cy (ad 51) 16 a11_often_5] := hD
              refine lv_aload_n hx hb dX11_anew_68 rfl (lv_at hl 1 rfl) ?_
              refine lv_iconst (v := 0) hx hb dX11_anew_69 (by decide) ?_
              refine va_put (D := D) (ci := 11) (v := .int (0 : Int32)) (ty := .int) (C := RX11) (T := TX11) (N := 35) hx hb hts in_X11_anew_11 tyX11 tyX11_ok nmX11 hown hK hP hD hS 0 rfl rfl 21 (by decide) (hts _ lk_X11_anew_93) (fun _ h9 => h9) rfl (by decide +kernel) rfl rfl (Nat.le_of_ble_eq_true rfl) dX11_anew_70 (fun H locs hP hD hS => ?_)
              have hP : va_P D vwCl [oX11 ad s11_d s11_stepMany s11_kind s11_many s11_partMany s11_rule (0 : Int32) (0 : Int32) s11_g s11_beganElsewhere (0 : Int32) (0 : Int32) (0 : Int32) s11_weightMany s11_tailTold, aJ cy (ad 47) 4 a11_sums_2, aI cy (ad 50) 16 a11_on_4, aI cy (ad 51) 16 a11_often_5] H := hP
              have hD : va_D A [oX11 ad s11_d s11_stepMany s11_kind s11_many s11_partMany s11_rule (0 : Int32) (0 : Int32) s11_g s11_beganElsewhere (0 : Int32) (0 : Int32) (0 : Int32) s11_weightMany s11_tailTold, aJ cy (ad 47) 4 a11_sums_2, aI cy (ad 50) 16 a11_on_4, aI cy (ad 51) 16 a11_often_5] := hD
              refine lv_aload_n hx hb dX11_anew_73 rfl (lv_at hl 1 rfl) ?_
              refine lv_iconst (v := 0) hx hb dX11_anew_74 (by decide) ?_
              refine va_put (D := D) (ci := 11) (v := .int (0 : Int32)) (ty := .boolean) (C := RX11) (T := TX11) (N := 35) hx hb hts in_X11_anew_11 tyX11 tyX11_ok nmX11 hown hK hP hD hS 0 rfl rfl 18 (by decide) (hts _ lk_X11_anew_96) (fun _ h9 => h9) rfl (by decide +kernel) rfl rfl (Nat.le_of_ble_eq_true rfl) dX11_anew_75 (fun H locs hP hD hS => ?_)
              have hP : va_P D vwCl [oX11 ad s11_d s11_stepMany s11_kind s11_many s11_partMany s11_rule (0 : Int32) (0 : Int32) s11_g (0 : Int32) (0 : Int32) (0 : Int32) (0 : Int32) s11_weightMany s11_tailTold, aJ cy (ad 47) 4 a11_sums_2, aI cy (ad 50) 16 a11_on_4, aI cy (ad 51) 16 a11_often_5] H := hP
              have hD : va_D A [oX11 ad s11_d s11_stepMany s11_kind s11_many s11_partMany s11_rule (0 : Int32) (0 : Int32) s11_g (0 : Int32) (0 : Int32) (0 : Int32) (0 : Int32) s11_weightMany s11_tailTold, aJ cy (ad 47) 4 a11_sums_2, aI cy (ad 50) 16 a11_on_4, aI cy (ad 51) 16 a11_often_5] := hD
              rw [← hQ]
              exact k_vret hx hb hr hlocks hS ((0 : Int32), (0 : Int32), (0 : Int32), (0 : Int32), (0 : Int32), (0 : Int32), a11_sums_2, a11_on_4, a11_often_5) hP hD hv dX11_anew_78
            · have hv := hv.2 c_25
              refine lv_aload_n hx hb dX11_anew_28 rfl (lv_at hl 1 rfl) ?_
              refine va_get (D := D) (ci := 11) (v := .ref (ad 50)) (C := RX11) (T := TX11) (N := 35) hx hb hts in_X11_anew_11 hown hK hP 0 rfl rfl 22 (by decide) (hts _ lk_X11_anew_48) (fun _ h9 => h9) rfl dX11_anew_29 ?_
              refine lv_iload_n hx hb dX11_anew_32 rfl (lv_at hl 0 rfl) ?_
              refine lv_iconst (v := 0) hx hb dX11_anew_33 (by decide) ?_
              refine k_iast hx hb hK hP hD hS 2 0 rfl rfl hv.1 dX11_anew_34 (fun a11_on_6 H locs h_a11_on_6 hP hD hS => ?_)
              have hv := hv.2 a11_on_6 h_a11_on_6
              have hP : va_P D vwCl [oX11 ad s11_d s11_stepMany s11_kind s11_many s11_partMany s11_rule s11_ticks s11_hand s11_g s11_beganElsewhere s11_dBefore s11_fBefore s11_fFirst s11_weightMany s11_tailTold, aJ cy (ad 47) 4 a11_sums_2, aI cy (ad 50) 16 a11_on_6, aI cy (ad 51) 16 a11_often_5] H := hP
              have hD : va_D A [oX11 ad s11_d s11_stepMany s11_kind s11_many s11_partMany s11_rule s11_ticks s11_hand s11_g s11_beganElsewhere s11_dBefore s11_fBefore s11_fFirst s11_weightMany s11_tailTold, aJ cy (ad 47) 4 a11_sums_2, aI cy (ad 50) 16 a11_on_6, aI cy (ad 51) 16 a11_often_5] := hD
              refine lv_aload_n hx hb dX11_anew_35 rfl (lv_at hl 1 rfl) ?_
              refine va_get (D := D) (ci := 11) (v := .ref (ad 51)) (C := RX11) (T := TX11) (N := 35) hx hb hts in_X11_anew_11 hown hK hP 0 rfl rfl 23 (by decide) (hts _ lk_X11_anew_51) (fun _ h9 => h9) rfl dX11_anew_36 ?_
              refine lv_iload_n hx hb dX11_anew_39 rfl (lv_at hl 0 rfl) ?_
              refine lv_iconst (v := 0) hx hb dX11_anew_40 (by decide) ?_
              refine k_iast hx hb hK hP hD hS 3 0 rfl rfl hv.1 dX11_anew_41 (fun a11_often_7 H locs h_a11_often_7 hP hD hS => ?_)
              have hv := hv.2 a11_often_7 h_a11_often_7
              have hP : va_P D vwCl [oX11 ad s11_d s11_stepMany s11_kind s11_many s11_partMany s11_rule s11_ticks s11_hand s11_g s11_beganElsewhere s11_dBefore s11_fBefore s11_fFirst s11_weightMany s11_tailTold, aJ cy (ad 47) 4 a11_sums_2, aI cy (ad 50) 16 a11_on_6, aI cy (ad 51) 16 a11_often_7] H := hP
              have hD : va_D A [oX11 ad s11_d s11_stepMany s11_kind s11_many s11_partMany s11_rule s11_ticks s11_hand s11_g s11_beganElsewhere s11_dBefore s11_fBefore s11_fFirst s11_weightMany s11_tailTold, aJ cy (ad 47) 4 a11_sums_2, aI cy (ad 50) 16 a11_on_6, aI cy (ad 51) 16 a11_often_7] := hD
              obtain ⟨i8, h_i8⟩ : ∃ y : Int32, y = l1_3 + 1 := ⟨_, rfl⟩
              refine lv_iinc (v := i8) (lv' := [(1, .int i8), (0, .ref (ad 11))]) hx hb dX11_anew_42 hl (k := 0) rfl (by rw [h_i8]; rfl) (by decide) rfl (fun ls hl => ?_)
              have hv := hv i8 h_i8
              refine lv_goto (tgt := 22) hx hb dX11_anew_45 (by decide) ?_
              exact ih22 i8 a11_on_6 a11_often_7 H locs ls hv (lv_sub hl [0, 1] rfl) hP hD hS
        obtain ⟨nn, hv⟩ := hv
        exact lp22 nn (0 : Int32) a11_on a11_often H locs ls hv (lv_sub hl [0, 1] rfl) hP hD hS
      · have hv := hv.2 c_4
        refine lv_aload_n hx hb dX11_anew_7 rfl (lv_at hl 1 rfl) ?_
        refine va_get (D := D) (ci := 11) (v := .ref (ad 47)) (C := RX11) (T := TX11) (N := 35) hx hb hts in_X11_anew_11 hown hK hP 0 rfl rfl 15 (by decide) (hts _ lk_X11_anew_38) (fun _ h9 => h9) rfl dX11_anew_8 ?_
        refine lv_iload_n hx hb dX11_anew_11 rfl (lv_at hl 0 rfl) ?_
        refine lv_lconst (v := 0) hx hb dX11_anew_12 (by decide) ?_
        refine k_last hx hb hK hP hD hS 1 1 rfl rfl hv.1 dX11_anew_13 (fun a11_sums_9 H locs h_a11_sums_9 hP hD hS => ?_)
        have hv := hv.2 a11_sums_9 h_a11_sums_9
        have hP : va_P D vwCl [oX11 ad s11_d s11_stepMany s11_kind s11_many s11_partMany s11_rule s11_ticks s11_hand s11_g s11_beganElsewhere s11_dBefore s11_fBefore s11_fFirst s11_weightMany s11_tailTold, aJ cy (ad 47) 4 a11_sums_9, aI cy (ad 50) 16 a11_on, aI cy (ad 51) 16 a11_often] H := hP
        have hD : va_D A [oX11 ad s11_d s11_stepMany s11_kind s11_many s11_partMany s11_rule s11_ticks s11_hand s11_g s11_beganElsewhere s11_dBefore s11_fBefore s11_fFirst s11_weightMany s11_tailTold, aJ cy (ad 47) 4 a11_sums_9, aI cy (ad 50) 16 a11_on, aI cy (ad 51) 16 a11_often] := hD
        obtain ⟨i10, h_i10⟩ : ∃ y : Int32, y = l1_1 + 1 := ⟨_, rfl⟩
        refine lv_iinc (v := i10) (lv' := [(1, .int i10), (0, .ref (ad 11))]) hx hb dX11_anew_14 hl (k := 0) rfl (by rw [h_i10]; rfl) (by decide) rfl (fun ls hl => ?_)
        have hv := hv i10 h_i10
        refine lv_goto (tgt := 2) hx hb dX11_anew_17 (by decide) ?_
        exact ih2 i10 a11_sums_9 H locs ls hv (lv_sub hl [0, 1] rfl) hP hD hS
  obtain ⟨nn, hv⟩ := hv
  exact lp2 nn (0 : Int32) a11_sums H locs ls hv (lv_sub hl [0, 1] rfl) hP hD hS
theorem lk_X11_over_7 : Cond.fieldLink RX11 7 "CoarseStepsModel" "d" "I" ∈ wsX11_over := by decide +kernel
theorem in_X11_over_11 : ∀ w ∈ wsX110, w ∈ wsX11_over := by decide +kernel
abbrev rm_X11_over : Room := { frames := 1, cells := 0, slots := 0, locals := 21 }
set_option maxHeartbeats 4000000 in
set_option maxRecDepth 100000 in
theorem m_X11_over (l : Launch) (D : va_G) (cy : ClassId × ClassId × ClassId) (ad : Nat → Nat) (s11_d : Int32) (s11_stepMany : Int32) (s11_kind : Int32) (s11_many : Int32) (s11_partMany : Int32) (s11_rule : Int32) (s11_ticks : Int32) (s11_hand : Int32) (s11_g : Int32) (s11_beganElsewhere : Int32) (s11_dBefore : Int32) (s11_fBefore : Int32) (s11_fFirst : Int32) (s11_weightMany : Int32) (s11_tailTold : Int32) (a11_sums : Nat → Int64) (a11_on : Nat → Int32) (a11_often : Nat → Int32) (x1 : Int32) (sz : Nat) {K : Int32 → Int32 → Int32 → Int32 → Int32 → Int32 → Int32 → Int32 → (Nat → Int64) → (Nat → Int32) → (Nat → Int32) → Prop} (hv : v_X11_over s11_d s11_ticks s11_hand s11_beganElsewhere s11_dBefore s11_fBefore s11_fFirst a11_sums a11_on a11_often x1 K) : Met l yX11_over wsX11_over rm_X11_over (va_Pc [.ref (ad 11), .int x1] (wd D cy [oX11 ad s11_d s11_stepMany s11_kind s11_many s11_partMany s11_rule s11_ticks s11_hand s11_g s11_beganElsewhere s11_dBefore s11_fBefore s11_fFirst s11_weightMany s11_tailTold, aJ cy (ad 47) 4 a11_sums, aI cy (ad 50) 16 a11_on, aI cy (ad 51) 16 a11_often] sz)) (va_Qi (fun (r : Int32) (u : Int32 × Int32 × Int32 × Int32 × Int32 × Int32 × Int32 × (Nat → Int64) × (Nat → Int32) × (Nat → Int32)) => (r = 0 ∨ r = 1) ∧ K r u.1 u.2.1 u.2.2.1 u.2.2.2.1 u.2.2.2.2.1 u.2.2.2.2.2.1 u.2.2.2.2.2.2.1 u.2.2.2.2.2.2.2.1 u.2.2.2.2.2.2.2.2.1 u.2.2.2.2.2.2.2.2.2) (fun u t => we D ((fun u : Int32 × Int32 × Int32 × Int32 × Int32 × Int32 × Int32 × (Nat → Int64) × (Nat → Int32) × (Nat → Int32) => [oX11 ad u.1 s11_stepMany s11_kind s11_many s11_partMany s11_rule u.2.1 u.2.2.1 s11_g u.2.2.2.1 u.2.2.2.2.1 u.2.2.2.2.2.1 u.2.2.2.2.2.2.1 s11_weightMany s11_tailTold, aJ cy (ad 47) 4 u.2.2.2.2.2.2.2.1, aI cy (ad 50) 16 u.2.2.2.2.2.2.2.2.1, aI cy (ad 51) 16 u.2.2.2.2.2.2.2.2.2]) u) (va_A [oX11 ad s11_d s11_stepMany s11_kind s11_many s11_partMany s11_rule s11_ticks s11_hand s11_g s11_beganElsewhere s11_dBefore s11_fBefore s11_fFirst s11_weightMany s11_tailTold, aJ cy (ad 47) 4 a11_sums, aI cy (ad 50) 16 a11_on, aI cy (ad 51) 16 a11_often] sz) t) (va_A [oX11 ad s11_d s11_stepMany s11_kind s11_many s11_partMany s11_rule s11_ticks s11_hand s11_g s11_beganElsewhere s11_dBefore s11_fBefore s11_fFirst s11_weightMany s11_tailTold, aJ cy (ad 47) 4 a11_sums, aI cy (ad 50) 16 a11_on, aI cy (ad 51) 16 a11_often] sz)) 0 0 (va_A [oX11 ad s11_d s11_stepMany s11_kind s11_many s11_partMany s11_rule s11_ticks s11_hand s11_g s11_beganElsewhere s11_dBefore s11_fBefore s11_fFirst s11_weightMany s11_tailTold, aJ cy (ad 47) 4 a11_sums, aI cy (ad 50) 16 a11_on, aI cy (ad 51) 16 a11_often] sz) := by
  refine k_ofW (cc := cX11_over) (maxL := 2) (ret := (some .boolean)) (fun A => va_Qi (fun (r : Int32) (u : Int32 × Int32 × Int32 × Int32 × Int32 × Int32 × Int32 × (Nat → Int64) × (Nat → Int32) × (Nat → Int32)) => (r = 0 ∨ r = 1) ∧ K r u.1 u.2.1 u.2.2.1 u.2.2.2.1 u.2.2.2.2.1 u.2.2.2.2.2.1 u.2.2.2.2.2.2.1 u.2.2.2.2.2.2.2.1 u.2.2.2.2.2.2.2.2.1 u.2.2.2.2.2.2.2.2.2) (fun u t => we D ((fun u : Int32 × Int32 × Int32 × Int32 × Int32 × Int32 × Int32 × (Nat → Int64) × (Nat → Int32) × (Nat → Int32) => [oX11 ad u.1 s11_stepMany s11_kind s11_many s11_partMany s11_rule u.2.1 u.2.2.1 s11_g u.2.2.2.1 u.2.2.2.2.1 u.2.2.2.2.2.1 u.2.2.2.2.2.2.1 s11_weightMany s11_tailTold, aJ cy (ad 47) 4 u.2.2.2.2.2.2.2.1, aI cy (ad 50) 16 u.2.2.2.2.2.2.2.2.1, aI cy (ad 51) 16 u.2.2.2.2.2.2.2.2.2]) u) A t) A) (by decide) rfl (Nat.le_of_ble_eq_true rfl) ?_
  intro p e s m below meth c A ls H locs hx hb hml hr hts hown hlocks hname hK hN hA hP hD hS hl
  have hl : lv_has ls 2 [(0, .ref (ad 11)), (1, .int x1)] := hl
  generalize hQ : MQ below _ _ s _ _ A = Q
  unfold v_X11_over at hv
  refine lv_iload_n hx hb dX11_over_0 rfl (lv_at hl 1 rfl) ?_
  refine lv_iconst (v := 1) hx hb dX11_over_1 (by decide) ?_
  refine lv_icmp_lt (tgt := 12) hx hb dX11_over_2 (by decide) (fun c_2 => ?_) (fun c_2 => ?_)
  · have hv := hv.1 c_2
    refine lv_iconst (v := 0) hx hb dX11_over_12 (by decide) ?_
    rw [← hQ]
    exact k_zret hx hb hr hlocks hS (s11_d, s11_ticks, s11_hand, s11_beganElsewhere, s11_dBefore, s11_fBefore, s11_fFirst, a11_sums, a11_on, a11_often) hP hD (by decide) hv dX11_over_13
  · have hv := hv.2 c_2
    refine lv_iload_n hx hb dX11_over_5 rfl (lv_at hl 1 rfl) ?_
    refine lv_sipush (v := 10000) hx hb dX11_over_6 (by decide) ?_
    refine lv_icmp_le (tgt := 14) hx hb dX11_over_9 (by decide) (fun c_9 => ?_) (fun c_9 => ?_)
    · have hv := hv.1 c_9
      refine lv_aload_n hx hb dX11_over_14 rfl (lv_at hl 0 rfl) ?_
      refine lv_iload_n hx hb dX11_over_15 rfl (lv_at hl 1 rfl) ?_
      refine va_put (D := D) (ci := 11) (v := .int x1) (ty := .int) (C := RX11) (T := TX11) (N := 35) hx hb hts in_X11_over_11 tyX11 tyX11_ok nmX11 hown hK hP hD hS 0 rfl rfl 0 (by decide) (hts _ lk_X11_over_7) (fun _ h9 => h9) rfl (by decide +kernel) rfl rfl (Nat.le_of_ble_eq_true rfl) dX11_over_16 (fun H locs hP hD hS => ?_)
      have hP : va_P D vwCl [oX11 ad x1 s11_stepMany s11_kind s11_many s11_partMany s11_rule s11_ticks s11_hand s11_g s11_beganElsewhere s11_dBefore s11_fBefore s11_fFirst s11_weightMany s11_tailTold, aJ cy (ad 47) 4 a11_sums, aI cy (ad 50) 16 a11_on, aI cy (ad 51) 16 a11_often] H := hP
      have hD : va_D A [oX11 ad x1 s11_stepMany s11_kind s11_many s11_partMany s11_rule s11_ticks s11_hand s11_g s11_beganElsewhere s11_dBefore s11_fBefore s11_fFirst s11_weightMany s11_tailTold, aJ cy (ad 47) 4 a11_sums, aI cy (ad 50) 16 a11_on, aI cy (ad 51) 16 a11_often] := hD
      refine lv_aload_n hx hb dX11_over_19 rfl (lv_at hl 0 rfl) ?_
      have hPc := hP.sub (ws' := [oX11 ad x1 s11_stepMany s11_kind s11_many s11_partMany s11_rule s11_ticks s11_hand s11_g s11_beganElsewhere s11_dBefore s11_fBefore s11_fFirst s11_weightMany s11_tailTold, aJ cy (ad 47) 4 a11_sums, aI cy (ad 50) 16 a11_on, aI cy (ad 51) 16 a11_often]) [0, 1, 2, 3] rfl
      have hDc := hD.sub (ws' := [oX11 ad x1 s11_stepMany s11_kind s11_many s11_partMany s11_rule s11_ticks s11_hand s11_g s11_beganElsewhere s11_dBefore s11_fBefore s11_fFirst s11_weightMany s11_tailTold, aJ cy (ad 47) 4 a11_sums, aI cy (ad 50) 16 a11_on, aI cy (ad 51) 16 a11_often]) [0, 1, 2, 3] (by decide) rfl
      refine k_calv (wc := [oX11 ad x1 s11_stepMany s11_kind s11_many s11_partMany s11_rule s11_ticks s11_hand s11_g s11_beganElsewhere s11_dBefore s11_fBefore s11_fFirst s11_weightMany s11_tailTold, aJ cy (ad 47) 4 a11_sums, aI cy (ad 50) 16 a11_on, aI cy (ad 51) 16 a11_often]) (wr := []) (va_runV (As := []) (rest := []) ⟨hx, hb, hml, hown, hts⟩ (m_X11_anew l D cy ad x1 s11_stepMany s11_kind s11_many s11_partMany s11_rule s11_ticks s11_hand s11_g s11_beganElsewhere s11_dBefore s11_fBefore s11_fFirst s11_weightMany s11_tailTold a11_sums a11_on a11_often H.size hv) (cwV 0 hts gX11_over_X11_anew rfl rfl rfl (by decide +kernel) ⟨Nat.le_of_ble_eq_true rfl, Nat.le_of_ble_eq_true rfl⟩) ⟨wd_blind, va_recv hK hPc (ci := 11) (q0 := 0) rfl rfl, wd_ok hPc hK hDc hN⟩ rfl rfl hl.1 rfl (lv_room (Nat.le_of_ble_eq_true rfl)) dX11_over_20 ⟨Nat.le_of_ble_eq_true rfl, Nat.le_of_ble_eq_true rfl⟩) hP hD hS hA [0, 1, 2, 3] [] rfl rfl (by decide) (by decide) (fun u H locs hv hP hD hS => ?_)
      obtain ⟨s11_ticks_1, s11_hand_2, s11_beganElsewhere_3, s11_dBefore_4, s11_fBefore_5, s11_fFirst_6, a11_sums_7, a11_on_8, a11_often_9⟩ := u
      have hP : va_P D vwCl [oX11 ad x1 s11_stepMany s11_kind s11_many s11_partMany s11_rule s11_ticks_1 s11_hand_2 s11_g s11_beganElsewhere_3 s11_dBefore_4 s11_fBefore_5 s11_fFirst_6 s11_weightMany s11_tailTold, aJ cy (ad 47) 4 a11_sums_7, aI cy (ad 50) 16 a11_on_8, aI cy (ad 51) 16 a11_often_9] H := hP.sub [0, 1, 2, 3] rfl
      have hD : va_D A [oX11 ad x1 s11_stepMany s11_kind s11_many s11_partMany s11_rule s11_ticks_1 s11_hand_2 s11_g s11_beganElsewhere_3 s11_dBefore_4 s11_fBefore_5 s11_fFirst_6 s11_weightMany s11_tailTold, aJ cy (ad 47) 4 a11_sums_7, aI cy (ad 50) 16 a11_on_8, aI cy (ad 51) 16 a11_often_9] := hD.sub [0, 1, 2, 3] (by decide) rfl
      refine lv_iconst (v := 1) hx hb dX11_over_23 (by decide) ?_
      rw [← hQ]
      exact k_zret hx hb hr hlocks hS (x1, s11_ticks_1, s11_hand_2, s11_beganElsewhere_3, s11_dBefore_4, s11_fBefore_5, s11_fFirst_6, a11_sums_7, a11_on_8, a11_often_9) hP hD (by decide) hv dX11_over_24
    · have hv := hv.2 c_9
      refine lv_iconst (v := 0) hx hb dX11_over_12 (by decide) ?_
      rw [← hQ]
      exact k_zret hx hb hr hlocks hS (s11_d, s11_ticks, s11_hand, s11_beganElsewhere, s11_dBefore, s11_fBefore, s11_fFirst, a11_sums, a11_on, a11_often) hP hD (by decide) hv dX11_over_13
theorem lk_X11_steps_23 : Cond.fieldLink RX11 23 "CoarseStepsModel" "stepsTold" "[I" ∈ wsX11_steps := by decide +kernel
theorem in_X11_steps_11 : ∀ w ∈ wsX110, w ∈ wsX11_steps := by decide +kernel
theorem lk_X11_steps_13 : Cond.fieldLink RX11 13 "CoarseStepsModel" "stepMany" "I" ∈ wsX11_steps := by decide +kernel
theorem lk_X11_steps_19 : Cond.fieldLink RX11 19 "CoarseStepsModel" "steps" "[I" ∈ wsX11_steps := by decide +kernel
abbrev rm_X11_steps : Room := { frames := 1, cells := 0, slots := 0, locals := 21 }
set_option maxHeartbeats 4000000 in
set_option maxRecDepth 100000 in
theorem m_X11_steps (l : Launch) (D : va_G) (cy : ClassId × ClassId × ClassId) (ad : Nat → Nat) (s11_d : Int32) (s11_stepMany : Int32) (s11_kind : Int32) (s11_many : Int32) (s11_partMany : Int32) (s11_rule : Int32) (s11_ticks : Int32) (s11_hand : Int32) (s11_g : Int32) (s11_beganElsewhere : Int32) (s11_dBefore : Int32) (s11_fBefore : Int32) (s11_fFirst : Int32) (s11_weightMany : Int32) (s11_tailTold : Int32) (a11_steps : Nat → Int32) (a11_stepsTold : Nat → Int32) (a11_sums : Nat → Int64) (a11_on : Nat → Int32) (a11_often : Nat → Int32) (x1 : Int32) (x2 : Int32) (x3 : Int32) (x4 : Int32) (x5 : Int32) (x6 : Int32) (x7 : Int32) (x8 : Int32) (x9 : Int32) (sz : Nat) {K : Int32 → Int32 → Int32 → Int32 → Int32 → Int32 → Int32 → Int32 → (Nat → Int32) → (Nat → Int32) → (Nat → Int64) → (Nat → Int32) → (Nat → Int32) → Prop} (hv : v_X11_steps s11_stepMany s11_ticks s11_hand s11_beganElsewhere s11_dBefore s11_fBefore s11_fFirst a11_steps a11_stepsTold a11_sums a11_on a11_often x1 x2 x3 x4 x5 x6 x7 x8 x9 K) : Met l yX11_steps wsX11_steps rm_X11_steps (va_Pc [.ref (ad 11), .int x1, .int x2, .int x3, .int x4, .int x5, .int x6, .int x7, .int x8, .int x9] (wd D cy [oX11 ad s11_d s11_stepMany s11_kind s11_many s11_partMany s11_rule s11_ticks s11_hand s11_g s11_beganElsewhere s11_dBefore s11_fBefore s11_fFirst s11_weightMany s11_tailTold, aI cy (ad 41) 8 a11_steps, aI cy (ad 42) 8 a11_stepsTold, aJ cy (ad 47) 4 a11_sums, aI cy (ad 50) 16 a11_on, aI cy (ad 51) 16 a11_often] sz)) (va_Qi (fun (r : Int32) (u : Int32 × Int32 × Int32 × Int32 × Int32 × Int32 × Int32 × (Nat → Int32) × (Nat → Int32) × (Nat → Int64) × (Nat → Int32) × (Nat → Int32)) => (r = 0 ∨ r = 1) ∧ K r u.1 u.2.1 u.2.2.1 u.2.2.2.1 u.2.2.2.2.1 u.2.2.2.2.2.1 u.2.2.2.2.2.2.1 u.2.2.2.2.2.2.2.1 u.2.2.2.2.2.2.2.2.1 u.2.2.2.2.2.2.2.2.2.1 u.2.2.2.2.2.2.2.2.2.2.1 u.2.2.2.2.2.2.2.2.2.2.2) (fun u t => we D ((fun u : Int32 × Int32 × Int32 × Int32 × Int32 × Int32 × Int32 × (Nat → Int32) × (Nat → Int32) × (Nat → Int64) × (Nat → Int32) × (Nat → Int32) => [oX11 ad s11_d u.1 s11_kind s11_many s11_partMany s11_rule u.2.1 u.2.2.1 s11_g u.2.2.2.1 u.2.2.2.2.1 u.2.2.2.2.2.1 u.2.2.2.2.2.2.1 s11_weightMany s11_tailTold, aI cy (ad 41) 8 u.2.2.2.2.2.2.2.1, aI cy (ad 42) 8 u.2.2.2.2.2.2.2.2.1, aJ cy (ad 47) 4 u.2.2.2.2.2.2.2.2.2.1, aI cy (ad 50) 16 u.2.2.2.2.2.2.2.2.2.2.1, aI cy (ad 51) 16 u.2.2.2.2.2.2.2.2.2.2.2]) u) (va_A [oX11 ad s11_d s11_stepMany s11_kind s11_many s11_partMany s11_rule s11_ticks s11_hand s11_g s11_beganElsewhere s11_dBefore s11_fBefore s11_fFirst s11_weightMany s11_tailTold, aI cy (ad 41) 8 a11_steps, aI cy (ad 42) 8 a11_stepsTold, aJ cy (ad 47) 4 a11_sums, aI cy (ad 50) 16 a11_on, aI cy (ad 51) 16 a11_often] sz) t) (va_A [oX11 ad s11_d s11_stepMany s11_kind s11_many s11_partMany s11_rule s11_ticks s11_hand s11_g s11_beganElsewhere s11_dBefore s11_fBefore s11_fFirst s11_weightMany s11_tailTold, aI cy (ad 41) 8 a11_steps, aI cy (ad 42) 8 a11_stepsTold, aJ cy (ad 47) 4 a11_sums, aI cy (ad 50) 16 a11_on, aI cy (ad 51) 16 a11_often] sz)) 0 0 (va_A [oX11 ad s11_d s11_stepMany s11_kind s11_many s11_partMany s11_rule s11_ticks s11_hand s11_g s11_beganElsewhere s11_dBefore s11_fBefore s11_fFirst s11_weightMany s11_tailTold, aI cy (ad 41) 8 a11_steps, aI cy (ad 42) 8 a11_stepsTold, aJ cy (ad 47) 4 a11_sums, aI cy (ad 50) 16 a11_on, aI cy (ad 51) 16 a11_often] sz) := by
  refine k_ofW (cc := cX11_steps) (maxL := 13) (ret := (some .boolean)) (fun A => va_Qi (fun (r : Int32) (u : Int32 × Int32 × Int32 × Int32 × Int32 × Int32 × Int32 × (Nat → Int32) × (Nat → Int32) × (Nat → Int64) × (Nat → Int32) × (Nat → Int32)) => (r = 0 ∨ r = 1) ∧ K r u.1 u.2.1 u.2.2.1 u.2.2.2.1 u.2.2.2.2.1 u.2.2.2.2.2.1 u.2.2.2.2.2.2.1 u.2.2.2.2.2.2.2.1 u.2.2.2.2.2.2.2.2.1 u.2.2.2.2.2.2.2.2.2.1 u.2.2.2.2.2.2.2.2.2.2.1 u.2.2.2.2.2.2.2.2.2.2.2) (fun u t => we D ((fun u : Int32 × Int32 × Int32 × Int32 × Int32 × Int32 × Int32 × (Nat → Int32) × (Nat → Int32) × (Nat → Int64) × (Nat → Int32) × (Nat → Int32) => [oX11 ad s11_d u.1 s11_kind s11_many s11_partMany s11_rule u.2.1 u.2.2.1 s11_g u.2.2.2.1 u.2.2.2.2.1 u.2.2.2.2.2.1 u.2.2.2.2.2.2.1 s11_weightMany s11_tailTold, aI cy (ad 41) 8 u.2.2.2.2.2.2.2.1, aI cy (ad 42) 8 u.2.2.2.2.2.2.2.2.1, aJ cy (ad 47) 4 u.2.2.2.2.2.2.2.2.2.1, aI cy (ad 50) 16 u.2.2.2.2.2.2.2.2.2.2.1, aI cy (ad 51) 16 u.2.2.2.2.2.2.2.2.2.2.2]) u) A t) A) (by decide) rfl (Nat.le_of_ble_eq_true rfl) ?_
  intro p e s m below meth c A ls H locs hx hb hml hr hts hown hlocks hname hK hN hA hP hD hS hl
  have hl : lv_has ls 13 [(0, .ref (ad 11)), (1, .int x1), (2, .int x2), (3, .int x3), (4, .int x4), (5, .int x5), (6, .int x6), (7, .int x7), (8, .int x8), (9, .int x9)] := hl
  generalize hQ : MQ below _ _ s _ _ A = Q
  unfold v_X11_steps at hv
  refine lv_iload_n hx hb dX11_steps_0 rfl (lv_at hl 1 rfl) ?_
  refine lv_iconst (v := 2) hx hb dX11_steps_1 (by decide) ?_
  refine lv_icmp_lt (tgt := 11) hx hb dX11_steps_2 (by decide) (fun c_2 => ?_) (fun c_2 => ?_)
  · have hv := hv.1 c_2
    refine lv_iconst (v := 0) hx hb dX11_steps_11 (by decide) ?_
    rw [← hQ]
    exact k_zret hx hb hr hlocks hS (s11_stepMany, s11_ticks, s11_hand, s11_beganElsewhere, s11_dBefore, s11_fBefore, s11_fFirst, a11_steps, a11_stepsTold, a11_sums, a11_on, a11_often) hP hD (by decide) hv dX11_steps_12
  · have hv := hv.2 c_2
    refine lv_iload_n hx hb dX11_steps_5 rfl (lv_at hl 1 rfl) ?_
    refine lv_bipush (v := 8) hx hb dX11_steps_6 (by decide) ?_
    refine lv_icmp_le (tgt := 13) hx hb dX11_steps_8 (by decide) (fun c_8 => ?_) (fun c_8 => ?_)
    · have hv := hv.1 c_8
      refine lv_aload_n hx hb dX11_steps_13 rfl (lv_at hl 0 rfl) ?_
      refine va_get (D := D) (ci := 11) (v := .ref (ad 42)) (C := RX11) (T := TX11) (N := 35) hx hb hts in_X11_steps_11 hown hK hP 0 rfl rfl 9 (by decide) (hts _ lk_X11_steps_23) (fun _ h9 => h9) rfl dX11_steps_14 ?_
      refine lv_astore (lv' := [(10, .ref (ad 42)), (0, .ref (ad 11)), (1, .int x1), (2, .int x2), (3, .int x3), (4, .int x4), (5, .int x5), (6, .int x6), (7, .int x7), (8, .int x8), (9, .int x9)]) hx hb dX11_steps_17 hl (by decide) rfl (fun ls hl => ?_)
      refine lv_aload hx hb dX11_steps_19 (lv_at hl 0 rfl) ?_
      refine lv_iconst (v := 0) hx hb dX11_steps_21 (by decide) ?_
      refine lv_iload_n hx hb dX11_steps_22 rfl (lv_at hl 3 rfl) ?_
      refine k_iast hx hb hK hP hD hS 2 0 rfl rfl hv.1 dX11_steps_23 (fun a11_stepsTold_1 H locs h_a11_stepsTold_1 hP hD hS => ?_)
      have hv := hv.2 a11_stepsTold_1 h_a11_stepsTold_1
      have hP : va_P D vwCl [oX11 ad s11_d s11_stepMany s11_kind s11_many s11_partMany s11_rule s11_ticks s11_hand s11_g s11_beganElsewhere s11_dBefore s11_fBefore s11_fFirst s11_weightMany s11_tailTold, aI cy (ad 41) 8 a11_steps, aI cy (ad 42) 8 a11_stepsTold_1, aJ cy (ad 47) 4 a11_sums, aI cy (ad 50) 16 a11_on, aI cy (ad 51) 16 a11_often] H := hP
      have hD : va_D A [oX11 ad s11_d s11_stepMany s11_kind s11_many s11_partMany s11_rule s11_ticks s11_hand s11_g s11_beganElsewhere s11_dBefore s11_fBefore s11_fFirst s11_weightMany s11_tailTold, aI cy (ad 41) 8 a11_steps, aI cy (ad 42) 8 a11_stepsTold_1, aJ cy (ad 47) 4 a11_sums, aI cy (ad 50) 16 a11_on, aI cy (ad 51) 16 a11_often] := hD
      refine lv_aload hx hb dX11_steps_24 (lv_at hl 0 rfl) ?_
      refine lv_iconst (v := 1) hx hb dX11_steps_26 (by decide) ?_
      refine lv_iload_n hx hb dX11_steps_27 rfl (lv_at hl 4 rfl) ?_
      refine k_iast hx hb hK hP hD hS 2 0 rfl rfl hv.1 dX11_steps_28 (fun a11_stepsTold_2 H locs h_a11_stepsTold_2 hP hD hS => ?_)
      have hv := hv.2 a11_stepsTold_2 h_a11_stepsTold_2
      have hP : va_P D vwCl [oX11 ad s11_d s11_stepMany s11_kind s11_many s11_partMany s11_rule s11_ticks s11_hand s11_g s11_beganElsewhere s11_dBefore s11_fBefore s11_fFirst s11_weightMany s11_tailTold, aI cy (ad 41) 8 a11_steps, aI cy (ad 42) 8 a11_stepsTold_2, aJ cy (ad 47) 4 a11_sums, aI cy (ad 50) 16 a11_on, aI cy (ad 51) 16 a11_often] H := hP
      have hD : va_D A [oX11 ad s11_d s11_stepMany s11_kind s11_many s11_partMany s11_rule s11_ticks s11_hand s11_g s11_beganElsewhere s11_dBefore s11_fBefore s11_fFirst s11_weightMany s11_tailTold, aI cy (ad 41) 8 a11_steps, aI cy (ad 42) 8 a11_stepsTold_2, aJ cy (ad 47) 4 a11_sums, aI cy (ad 50) 16 a11_on, aI cy (ad 51) 16 a11_often] := hD
      refine lv_aload hx hb dX11_steps_29 (lv_at hl 0 rfl) ?_
      refine lv_iconst (v := 2) hx hb dX11_steps_31 (by decide) ?_
      refine lv_iload hx hb dX11_steps_32 (lv_at hl 5 rfl) ?_
      refine k_iast hx hb hK hP hD hS 2 0 rfl rfl hv.1 dX11_steps_34 (fun a11_stepsTold_3 H locs h_a11_stepsTold_3 hP hD hS => ?_)
      have hv := hv.2 a11_stepsTold_3 h_a11_stepsTold_3
      have hP : va_P D vwCl [oX11 ad s11_d s11_stepMany s11_kind s11_many s11_partMany s11_rule s11_ticks s11_hand s11_g s11_beganElsewhere s11_dBefore s11_fBefore s11_fFirst s11_weightMany s11_tailTold, aI cy (ad 41) 8 a11_steps, aI cy (ad 42) 8 a11_stepsTold_3, aJ cy (ad 47) 4 a11_sums, aI cy (ad 50) 16 a11_on, aI cy (ad 51) 16 a11_often] H := hP
      have hD : va_D A [oX11 ad s11_d s11_stepMany s11_kind s11_many s11_partMany s11_rule s11_ticks s11_hand s11_g s11_beganElsewhere s11_dBefore s11_fBefore s11_fFirst s11_weightMany s11_tailTold, aI cy (ad 41) 8 a11_steps, aI cy (ad 42) 8 a11_stepsTold_3, aJ cy (ad 47) 4 a11_sums, aI cy (ad 50) 16 a11_on, aI cy (ad 51) 16 a11_often] := hD
      refine lv_aload hx hb dX11_steps_35 (lv_at hl 0 rfl) ?_
      refine lv_iconst (v := 3) hx hb dX11_steps_37 (by decide) ?_
      refine lv_iload hx hb dX11_steps_38 (lv_at hl 6 rfl) ?_
      refine k_iast hx hb hK hP hD hS 2 0 rfl rfl hv.1 dX11_steps_40 (fun a11_stepsTold_4 H locs h_a11_stepsTold_4 hP hD hS => ?_)
      have hv := hv.2 a11_stepsTold_4 h_a11_stepsTold_4
      have hP : va_P D vwCl [oX11 ad s11_d s11_stepMany s11_kind s11_many s11_partMany s11_rule s11_ticks s11_hand s11_g s11_beganElsewhere s11_dBefore s11_fBefore s11_fFirst s11_weightMany s11_tailTold, aI cy (ad 41) 8 a11_steps, aI cy (ad 42) 8 a11_stepsTold_4, aJ cy (ad 47) 4 a11_sums, aI cy (ad 50) 16 a11_on, aI cy (ad 51) 16 a11_often] H := hP
      have hD : va_D A [oX11 ad s11_d s11_stepMany s11_kind s11_many s11_partMany s11_rule s11_ticks s11_hand s11_g s11_beganElsewhere s11_dBefore s11_fBefore s11_fFirst s11_weightMany s11_tailTold, aI cy (ad 41) 8 a11_steps, aI cy (ad 42) 8 a11_stepsTold_4, aJ cy (ad 47) 4 a11_sums, aI cy (ad 50) 16 a11_on, aI cy (ad 51) 16 a11_often] := hD
      refine lv_aload hx hb dX11_steps_41 (lv_at hl 0 rfl) ?_
      refine lv_iconst (v := 4) hx hb dX11_steps_43 (by decide) ?_
      refine lv_iload hx hb dX11_steps_44 (lv_at hl 7 rfl) ?_
      refine k_iast hx hb hK hP hD hS 2 0 rfl rfl hv.1 dX11_steps_46 (fun a11_stepsTold_5 H locs h_a11_stepsTold_5 hP hD hS => ?_)
      have hv := hv.2 a11_stepsTold_5 h_a11_stepsTold_5
      have hP : va_P D vwCl [oX11 ad s11_d s11_stepMany s11_kind s11_many s11_partMany s11_rule s11_ticks s11_hand s11_g s11_beganElsewhere s11_dBefore s11_fBefore s11_fFirst s11_weightMany s11_tailTold, aI cy (ad 41) 8 a11_steps, aI cy (ad 42) 8 a11_stepsTold_5, aJ cy (ad 47) 4 a11_sums, aI cy (ad 50) 16 a11_on, aI cy (ad 51) 16 a11_often] H := hP
      have hD : va_D A [oX11 ad s11_d s11_stepMany s11_kind s11_many s11_partMany s11_rule s11_ticks s11_hand s11_g s11_beganElsewhere s11_dBefore s11_fBefore s11_fFirst s11_weightMany s11_tailTold, aI cy (ad 41) 8 a11_steps, aI cy (ad 42) 8 a11_stepsTold_5, aJ cy (ad 47) 4 a11_sums, aI cy (ad 50) 16 a11_on, aI cy (ad 51) 16 a11_often] := hD
      refine lv_aload hx hb dX11_steps_47 (lv_at hl 0 rfl) ?_
      refine lv_iconst (v := 5) hx hb dX11_steps_49 (by decide) ?_
      refine lv_iload hx hb dX11_steps_50 (lv_at hl 8 rfl) ?_
      refine k_iast hx hb hK hP hD hS 2 0 rfl rfl hv.1 dX11_steps_52 (fun a11_stepsTold_6 H locs h_a11_stepsTold_6 hP hD hS => ?_)
      have hv := hv.2 a11_stepsTold_6 h_a11_stepsTold_6
      have hP : va_P D vwCl [oX11 ad s11_d s11_stepMany s11_kind s11_many s11_partMany s11_rule s11_ticks s11_hand s11_g s11_beganElsewhere s11_dBefore s11_fBefore s11_fFirst s11_weightMany s11_tailTold, aI cy (ad 41) 8 a11_steps, aI cy (ad 42) 8 a11_stepsTold_6, aJ cy (ad 47) 4 a11_sums, aI cy (ad 50) 16 a11_on, aI cy (ad 51) 16 a11_often] H := hP
      have hD : va_D A [oX11 ad s11_d s11_stepMany s11_kind s11_many s11_partMany s11_rule s11_ticks s11_hand s11_g s11_beganElsewhere s11_dBefore s11_fBefore s11_fFirst s11_weightMany s11_tailTold, aI cy (ad 41) 8 a11_steps, aI cy (ad 42) 8 a11_stepsTold_6, aJ cy (ad 47) 4 a11_sums, aI cy (ad 50) 16 a11_on, aI cy (ad 51) 16 a11_often] := hD
      refine lv_aload hx hb dX11_steps_53 (lv_at hl 0 rfl) ?_
      refine lv_bipush (v := 6) hx hb dX11_steps_55 (by decide) ?_
      refine lv_iload hx hb dX11_steps_57 (lv_at hl 9 rfl) ?_
      refine k_iast hx hb hK hP hD hS 2 0 rfl rfl hv.1 dX11_steps_59 (fun a11_stepsTold_7 H locs h_a11_stepsTold_7 hP hD hS => ?_)
      have hv := hv.2 a11_stepsTold_7 h_a11_stepsTold_7
      have hP : va_P D vwCl [oX11 ad s11_d s11_stepMany s11_kind s11_many s11_partMany s11_rule s11_ticks s11_hand s11_g s11_beganElsewhere s11_dBefore s11_fBefore s11_fFirst s11_weightMany s11_tailTold, aI cy (ad 41) 8 a11_steps, aI cy (ad 42) 8 a11_stepsTold_7, aJ cy (ad 47) 4 a11_sums, aI cy (ad 50) 16 a11_on, aI cy (ad 51) 16 a11_often] H := hP
      have hD : va_D A [oX11 ad s11_d s11_stepMany s11_kind s11_many s11_partMany s11_rule s11_ticks s11_hand s11_g s11_beganElsewhere s11_dBefore s11_fBefore s11_fFirst s11_weightMany s11_tailTold, aI cy (ad 41) 8 a11_steps, aI cy (ad 42) 8 a11_stepsTold_7, aJ cy (ad 47) 4 a11_sums, aI cy (ad 50) 16 a11_on, aI cy (ad 51) 16 a11_often] := hD
      refine lv_aload hx hb dX11_steps_60 (lv_at hl 0 rfl) ?_
      refine lv_bipush (v := 7) hx hb dX11_steps_62 (by decide) ?_
      refine lv_iload hx hb dX11_steps_64 (lv_at hl 10 rfl) ?_
      refine k_iast hx hb hK hP hD hS 2 0 rfl rfl hv.1 dX11_steps_66 (fun a11_stepsTold_8 H locs h_a11_stepsTold_8 hP hD hS => ?_)
      have hv := hv.2 a11_stepsTold_8 h_a11_stepsTold_8
      have hP : va_P D vwCl [oX11 ad s11_d s11_stepMany s11_kind s11_many s11_partMany s11_rule s11_ticks s11_hand s11_g s11_beganElsewhere s11_dBefore s11_fBefore s11_fFirst s11_weightMany s11_tailTold, aI cy (ad 41) 8 a11_steps, aI cy (ad 42) 8 a11_stepsTold_8, aJ cy (ad 47) 4 a11_sums, aI cy (ad 50) 16 a11_on, aI cy (ad 51) 16 a11_often] H := hP
      have hD : va_D A [oX11 ad s11_d s11_stepMany s11_kind s11_many s11_partMany s11_rule s11_ticks s11_hand s11_g s11_beganElsewhere s11_dBefore s11_fBefore s11_fFirst s11_weightMany s11_tailTold, aI cy (ad 41) 8 a11_steps, aI cy (ad 42) 8 a11_stepsTold_8, aJ cy (ad 47) 4 a11_sums, aI cy (ad 50) 16 a11_on, aI cy (ad 51) 16 a11_often] := hD
      refine lv_iconst (v := 1) hx hb dX11_steps_67 (by decide) ?_
      refine lv_istore (lv' := [(11, .int (1 : Int32)), (10, .ref (ad 42)), (0, .ref (ad 11)), (1, .int x1), (2, .int x2), (3, .int x3), (4, .int x4), (5, .int x5), (6, .int x6), (7, .int x7), (8, .int x8), (9, .int x9)]) hx hb dX11_steps_68 hl (by decide) rfl (fun ls hl => ?_)
      refine lv_iconst (v := 0) hx hb dX11_steps_70 (by decide) ?_
      refine lv_istore (lv' := [(12, .int (0 : Int32)), (11, .int (1 : Int32)), (10, .ref (ad 42)), (0, .ref (ad 11)), (1, .int x1), (2, .int x2), (3, .int x3), (4, .int x4), (5, .int x5), (6, .int x6), (7, .int x7), (8, .int x8), (9, .int x9)]) hx hb dX11_steps_71 hl (by decide) rfl (fun ls hl => ?_)
      have lp73 : ∀ (n73 : Nat) (l12_9 : Int32) (l11_10 : Int32) (H : Heap) (locs : List Loc) (ls : Array Slot), vfix (vF_X11_steps_73 s11_stepMany s11_ticks s11_hand s11_beganElsewhere s11_dBefore s11_fBefore s11_fFirst a11_steps a11_sums a11_on a11_often x1 K a11_stepsTold_8) n73 (l12_9, l11_10) → lv_has ls 13 [(12, .int l12_9), (11, .int l11_10), (10, .ref (ad 42)), (0, .ref (ad 11)), (1, .int x1)] → va_P D vwCl [oX11 ad s11_d s11_stepMany s11_kind s11_many s11_partMany s11_rule s11_ticks s11_hand s11_g s11_beganElsewhere s11_dBefore s11_fBefore s11_fFirst s11_weightMany s11_tailTold, aI cy (ad 41) 8 a11_steps, aI cy (ad 42) 8 a11_stepsTold_8, aJ cy (ad 47) 4 a11_sums, aI cy (ad 50) 16 a11_on, aI cy (ad 51) 16 a11_often] H → va_D A [oX11 ad s11_d s11_stepMany s11_kind s11_many s11_partMany s11_rule s11_ticks s11_hand s11_g s11_beganElsewhere s11_dBefore s11_fBefore s11_fFirst s11_weightMany s11_tailTold, aI cy (ad 41) 8 a11_steps, aI cy (ad 42) 8 a11_stepsTold_8, aJ cy (ad 47) 4 a11_sums, aI cy (ad 50) 16 a11_on, aI cy (ad 51) 16 a11_often] → va_S A s.heap H locs → W p l e rm_X11_steps s m ([.ref (ad 11), .int x1, .int x2, .int x3, .int x4, .int x5, .int x6, .int x7, .int x8, .int x9] : List Value).toArray below meth c H locs 0 0 Q (F0 m 73 ls []) := by
        intro n73
        induction n73 with
        | zero => intro l12_9 l11_10 H locs ls hv; exact hv.elim
        | succ n73 ih73 =>
          intro l12_9 l11_10 H locs ls hv hl hP hD hS
          have hv : vB_X11_steps_73 s11_stepMany s11_ticks s11_hand s11_beganElsewhere s11_dBefore s11_fBefore s11_fFirst a11_steps a11_sums a11_on a11_often x1 K a11_stepsTold_8 (fun z0 z1 => vfix (vF_X11_steps_73 s11_stepMany s11_ticks s11_hand s11_beganElsewhere s11_dBefore s11_fBefore s11_fFirst a11_steps a11_sums a11_on a11_often x1 K a11_stepsTold_8) n73 (z0, z1)) l12_9 l11_10 := hv
          unfold vB_X11_steps_73 at hv
          refine lv_iload hx hb dX11_steps_73 (lv_at hl 0 rfl) ?_
          refine lv_iload_n hx hb dX11_steps_75 rfl (lv_at hl 4 rfl) ?_
          have jn137 : ∀ (H : Heap) (locs : List Loc) (ls : Array Slot), vJ_X11_steps_137 s11_stepMany s11_ticks s11_hand s11_beganElsewhere s11_dBefore s11_fBefore s11_fFirst a11_steps a11_sums a11_on a11_often x1 K a11_stepsTold_8 l11_10 → lv_has ls 13 [(11, .int l11_10), (10, .ref (ad 42)), (0, .ref (ad 11)), (1, .int x1)] → va_P D vwCl [oX11 ad s11_d s11_stepMany s11_kind s11_many s11_partMany s11_rule s11_ticks s11_hand s11_g s11_beganElsewhere s11_dBefore s11_fBefore s11_fFirst s11_weightMany s11_tailTold, aI cy (ad 41) 8 a11_steps, aI cy (ad 42) 8 a11_stepsTold_8, aJ cy (ad 47) 4 a11_sums, aI cy (ad 50) 16 a11_on, aI cy (ad 51) 16 a11_often] H → va_D A [oX11 ad s11_d s11_stepMany s11_kind s11_many s11_partMany s11_rule s11_ticks s11_hand s11_g s11_beganElsewhere s11_dBefore s11_fBefore s11_fFirst s11_weightMany s11_tailTold, aI cy (ad 41) 8 a11_steps, aI cy (ad 42) 8 a11_stepsTold_8, aJ cy (ad 47) 4 a11_sums, aI cy (ad 50) 16 a11_on, aI cy (ad 51) 16 a11_often] → va_S A s.heap H locs → W p l e rm_X11_steps s m ([.ref (ad 11), .int x1, .int x2, .int x3, .int x4, .int x5, .int x6, .int x7, .int x8, .int x9] : List Value).toArray below meth c H locs 0 0 Q (F0 m 137 ls []) := by
            intro H locs ls hv hl hP hD hS
            unfold vJ_X11_steps_137 at hv
            refine lv_iload hx hb dX11_steps_137 (lv_at hl 0 rfl) ?_
            refine lv_if_ne (tgt := 144) hx hb dX11_steps_139 (by decide) (fun c_139 => ?_) (fun c_139 => ?_)
            · have hv := hv.1 c_139
              refine lv_iconst (v := 0) hx hb dX11_steps_144 (by decide) ?_
              refine lv_istore (lv' := [(12, .int (0 : Int32)), (11, .int l11_10), (10, .ref (ad 42)), (0, .ref (ad 11)), (1, .int x1)]) hx hb dX11_steps_145 hl (by decide) rfl (fun ls hl => ?_)
              have lp147 : ∀ (n147 : Nat) (l12_11 : Int32) (a11_steps_12 : Nat → Int32) (H : Heap) (locs : List Loc) (ls : Array Slot), vfix (vF_X11_steps_147 a11_sums a11_on a11_often x1 K a11_stepsTold_8) n147 (l12_11, a11_steps_12) → lv_has ls 13 [(12, .int l12_11), (10, .ref (ad 42)), (0, .ref (ad 11)), (1, .int x1)] → va_P D vwCl [oX11 ad s11_d s11_stepMany s11_kind s11_many s11_partMany s11_rule s11_ticks s11_hand s11_g s11_beganElsewhere s11_dBefore s11_fBefore s11_fFirst s11_weightMany s11_tailTold, aI cy (ad 41) 8 a11_steps_12, aI cy (ad 42) 8 a11_stepsTold_8, aJ cy (ad 47) 4 a11_sums, aI cy (ad 50) 16 a11_on, aI cy (ad 51) 16 a11_often] H → va_D A [oX11 ad s11_d s11_stepMany s11_kind s11_many s11_partMany s11_rule s11_ticks s11_hand s11_g s11_beganElsewhere s11_dBefore s11_fBefore s11_fFirst s11_weightMany s11_tailTold, aI cy (ad 41) 8 a11_steps_12, aI cy (ad 42) 8 a11_stepsTold_8, aJ cy (ad 47) 4 a11_sums, aI cy (ad 50) 16 a11_on, aI cy (ad 51) 16 a11_often] → va_S A s.heap H locs → W p l e rm_X11_steps s m ([.ref (ad 11), .int x1, .int x2, .int x3, .int x4, .int x5, .int x6, .int x7, .int x8, .int x9] : List Value).toArray below meth c H locs 0 0 Q (F0 m 147 ls []) := by
                intro n147
                induction n147 with
                | zero => intro l12_11 a11_steps_12 H locs ls hv; exact hv.elim
                | succ n147 ih147 =>
                  intro l12_11 a11_steps_12 H locs ls hv hl hP hD hS
                  have hv : vB_X11_steps_147 a11_sums a11_on a11_often x1 K a11_stepsTold_8 (fun z0 z1 => vfix (vF_X11_steps_147 a11_sums a11_on a11_often x1 K a11_stepsTold_8) n147 (z0, z1)) l12_11 a11_steps_12 := hv
                  unfold vB_X11_steps_147 at hv
                  refine lv_iload hx hb dX11_steps_147 (lv_at hl 0 rfl) ?_
                  refine lv_iload_n hx hb dX11_steps_149 rfl (lv_at hl 3 rfl) ?_
                  refine lv_icmp_ge (tgt := 171) hx hb dX11_steps_150 (by decide) (fun c_150 => ?_) (fun c_150 => ?_)
                  · have hv := hv.1 c_150
                    refine lv_aload_n hx hb dX11_steps_171 rfl (lv_at hl 2 rfl) ?_
                    refine lv_iload_n hx hb dX11_steps_172 rfl (lv_at hl 3 rfl) ?_
                    refine va_put (D := D) (ci := 11) (v := .int x1) (ty := .int) (C := RX11) (T := TX11) (N := 35) hx hb hts in_X11_steps_11 tyX11 tyX11_ok nmX11 hown hK hP hD hS 0 rfl rfl 1 (by decide) (hts _ lk_X11_steps_13) (fun _ h9 => h9) rfl (by decide +kernel) rfl rfl (Nat.le_of_ble_eq_true rfl) dX11_steps_173 (fun H locs hP hD hS => ?_)
                    have hP : va_P D vwCl [oX11 ad s11_d x1 s11_kind s11_many s11_partMany s11_rule s11_ticks s11_hand s11_g s11_beganElsewhere s11_dBefore s11_fBefore s11_fFirst s11_weightMany s11_tailTold, aI cy (ad 41) 8 a11_steps_12, aI cy (ad 42) 8 a11_stepsTold_8, aJ cy (ad 47) 4 a11_sums, aI cy (ad 50) 16 a11_on, aI cy (ad 51) 16 a11_often] H := hP
                    have hD : va_D A [oX11 ad s11_d x1 s11_kind s11_many s11_partMany s11_rule s11_ticks s11_hand s11_g s11_beganElsewhere s11_dBefore s11_fBefore s11_fFirst s11_weightMany s11_tailTold, aI cy (ad 41) 8 a11_steps_12, aI cy (ad 42) 8 a11_stepsTold_8, aJ cy (ad 47) 4 a11_sums, aI cy (ad 50) 16 a11_on, aI cy (ad 51) 16 a11_often] := hD
                    refine lv_aload_n hx hb dX11_steps_176 rfl (lv_at hl 2 rfl) ?_
                    have hPc := hP.sub (ws' := [oX11 ad s11_d x1 s11_kind s11_many s11_partMany s11_rule s11_ticks s11_hand s11_g s11_beganElsewhere s11_dBefore s11_fBefore s11_fFirst s11_weightMany s11_tailTold, aJ cy (ad 47) 4 a11_sums, aI cy (ad 50) 16 a11_on, aI cy (ad 51) 16 a11_often]) [0, 3, 4, 5] rfl
                    have hDc := hD.sub (ws' := [oX11 ad s11_d x1 s11_kind s11_many s11_partMany s11_rule s11_ticks s11_hand s11_g s11_beganElsewhere s11_dBefore s11_fBefore s11_fFirst s11_weightMany s11_tailTold, aJ cy (ad 47) 4 a11_sums, aI cy (ad 50) 16 a11_on, aI cy (ad 51) 16 a11_often]) [0, 3, 4, 5] (by decide) rfl
                    refine k_calv (wc := [oX11 ad s11_d x1 s11_kind s11_many s11_partMany s11_rule s11_ticks s11_hand s11_g s11_beganElsewhere s11_dBefore s11_fBefore s11_fFirst s11_weightMany s11_tailTold, aJ cy (ad 47) 4 a11_sums, aI cy (ad 50) 16 a11_on, aI cy (ad 51) 16 a11_often]) (wr := [aI cy (ad 41) 8 a11_steps_12, aI cy (ad 42) 8 a11_stepsTold_8]) (va_runV (As := []) (rest := []) ⟨hx, hb, hml, hown, hts⟩ (m_X11_anew l D cy ad s11_d x1 s11_kind s11_many s11_partMany s11_rule s11_ticks s11_hand s11_g s11_beganElsewhere s11_dBefore s11_fBefore s11_fFirst s11_weightMany s11_tailTold a11_sums a11_on a11_often H.size hv) (cwV 0 hts gX11_steps_X11_anew rfl rfl rfl (by decide +kernel) ⟨Nat.le_of_ble_eq_true rfl, Nat.le_of_ble_eq_true rfl⟩) ⟨wd_blind, va_recv hK hPc (ci := 11) (q0 := 0) rfl rfl, wd_ok hPc hK hDc hN⟩ rfl rfl hl.1 rfl (lv_room (Nat.le_of_ble_eq_true rfl)) dX11_steps_177 ⟨Nat.le_of_ble_eq_true rfl, Nat.le_of_ble_eq_true rfl⟩) hP hD hS hA [0, 3, 4, 5] [1, 2] rfl rfl (by decide) (by decide) (fun u H locs hv hP hD hS => ?_)
                    obtain ⟨s11_ticks_13, s11_hand_14, s11_beganElsewhere_15, s11_dBefore_16, s11_fBefore_17, s11_fFirst_18, a11_sums_19, a11_on_20, a11_often_21⟩ := u
                    have hP : va_P D vwCl [oX11 ad s11_d x1 s11_kind s11_many s11_partMany s11_rule s11_ticks_13 s11_hand_14 s11_g s11_beganElsewhere_15 s11_dBefore_16 s11_fBefore_17 s11_fFirst_18 s11_weightMany s11_tailTold, aI cy (ad 41) 8 a11_steps_12, aI cy (ad 42) 8 a11_stepsTold_8, aJ cy (ad 47) 4 a11_sums_19, aI cy (ad 50) 16 a11_on_20, aI cy (ad 51) 16 a11_often_21] H := hP.sub [2, 0, 1, 3, 4, 5] rfl
                    have hD : va_D A [oX11 ad s11_d x1 s11_kind s11_many s11_partMany s11_rule s11_ticks_13 s11_hand_14 s11_g s11_beganElsewhere_15 s11_dBefore_16 s11_fBefore_17 s11_fFirst_18 s11_weightMany s11_tailTold, aI cy (ad 41) 8 a11_steps_12, aI cy (ad 42) 8 a11_stepsTold_8, aJ cy (ad 47) 4 a11_sums_19, aI cy (ad 50) 16 a11_on_20, aI cy (ad 51) 16 a11_often_21] := hD.sub [2, 0, 1, 3, 4, 5] (by decide) rfl
                    refine lv_iconst (v := 1) hx hb dX11_steps_180 (by decide) ?_
                    rw [← hQ]
                    exact k_zret hx hb hr hlocks hS (x1, s11_ticks_13, s11_hand_14, s11_beganElsewhere_15, s11_dBefore_16, s11_fBefore_17, s11_fFirst_18, a11_steps_12, a11_stepsTold_8, a11_sums_19, a11_on_20, a11_often_21) hP hD (by decide) hv dX11_steps_181
                  · have hv := hv.2 c_150
                    refine lv_aload_n hx hb dX11_steps_153 rfl (lv_at hl 2 rfl) ?_
                    refine va_get (D := D) (ci := 11) (v := .ref (ad 41)) (C := RX11) (T := TX11) (N := 35) hx hb hts in_X11_steps_11 hown hK hP 0 rfl rfl 8 (by decide) (hts _ lk_X11_steps_19) (fun _ h9 => h9) rfl dX11_steps_154 ?_
                    refine lv_iload hx hb dX11_steps_157 (lv_at hl 0 rfl) ?_
                    refine lv_aload hx hb dX11_steps_159 (lv_at hl 1 rfl) ?_
                    refine lv_iload hx hb dX11_steps_161 (lv_at hl 0 rfl) ?_
                    refine va_iald hx hb hK hP 2 0 rfl rfl hv.1 dX11_steps_163 ?_
                    refine lv_topi (fun g22 h_g22 => ?_)
                    have hv := hv.2 g22 h_g22
                    refine k_iast hx hb hK hP hD hS 1 0 rfl rfl hv.1 dX11_steps_164 (fun a11_steps_23 H locs h_a11_steps_23 hP hD hS => ?_)
                    have hv := hv.2 a11_steps_23 h_a11_steps_23
                    have hP : va_P D vwCl [oX11 ad s11_d s11_stepMany s11_kind s11_many s11_partMany s11_rule s11_ticks s11_hand s11_g s11_beganElsewhere s11_dBefore s11_fBefore s11_fFirst s11_weightMany s11_tailTold, aI cy (ad 41) 8 a11_steps_23, aI cy (ad 42) 8 a11_stepsTold_8, aJ cy (ad 47) 4 a11_sums, aI cy (ad 50) 16 a11_on, aI cy (ad 51) 16 a11_often] H := hP
                    have hD : va_D A [oX11 ad s11_d s11_stepMany s11_kind s11_many s11_partMany s11_rule s11_ticks s11_hand s11_g s11_beganElsewhere s11_dBefore s11_fBefore s11_fFirst s11_weightMany s11_tailTold, aI cy (ad 41) 8 a11_steps_23, aI cy (ad 42) 8 a11_stepsTold_8, aJ cy (ad 47) 4 a11_sums, aI cy (ad 50) 16 a11_on, aI cy (ad 51) 16 a11_often] := hD
                    obtain ⟨i24, h_i24⟩ : ∃ y : Int32, y = l12_11 + 1 := ⟨_, rfl⟩
                    refine lv_iinc (v := i24) (lv' := [(12, .int i24), (10, .ref (ad 42)), (0, .ref (ad 11)), (1, .int x1)]) hx hb dX11_steps_165 hl (k := 0) rfl (by rw [h_i24]; rfl) (by decide) rfl (fun ls hl => ?_)
                    have hv := hv i24 h_i24
                    refine lv_goto (tgt := 147) hx hb dX11_steps_168 (by decide) ?_
                    exact ih147 i24 a11_steps_23 H locs ls hv (lv_sub hl [0, 1, 2, 3] rfl) hP hD hS
              obtain ⟨nn, hv⟩ := hv
              exact lp147 nn (0 : Int32) a11_steps H locs ls hv (lv_sub hl [0, 2, 3, 4] rfl) hP hD hS
            · have hv := hv.2 c_139
              refine lv_iconst (v := 0) hx hb dX11_steps_142 (by decide) ?_
              rw [← hQ]
              exact k_zret hx hb hr hlocks hS (s11_stepMany, s11_ticks, s11_hand, s11_beganElsewhere, s11_dBefore, s11_fBefore, s11_fFirst, a11_steps, a11_stepsTold_8, a11_sums, a11_on, a11_often) hP hD (by decide) hv dX11_steps_143
          refine lv_icmp_ge (tgt := 137) hx hb dX11_steps_76 (by decide) (fun c_76 => ?_) (fun c_76 => ?_)
          · have hv := hv.1 c_76
            exact jn137  H locs ls hv (lv_sub hl [1, 2, 3, 4] rfl) hP hD hS
          · have hv := hv.2 c_76
            refine lv_iload hx hb dX11_steps_79 (lv_at hl 1 rfl) ?_
            refine lv_if_eq (tgt := 137) hx hb dX11_steps_81 (by decide) (fun c_81 => ?_) (fun c_81 => ?_)
            · have hv := hv.1 c_81
              exact jn137  H locs ls hv (lv_sub hl [1, 2, 3, 4] rfl) hP hD hS
            · have hv := hv.2 c_81
              refine lv_aload hx hb dX11_steps_84 (lv_at hl 2 rfl) ?_
              refine lv_iload hx hb dX11_steps_86 (lv_at hl 0 rfl) ?_
              refine va_iald hx hb hK hP 2 0 rfl rfl hv.1 dX11_steps_88 ?_
              refine lv_topi (fun g25 h_g25 => ?_)
              have hv := hv.2 g25 h_g25
              refine lv_bipush (v := -100) hx hb dX11_steps_89 (by decide) ?_
              have jn129 : ∀ (t26 : Int32) (H : Heap) (locs : List Loc) (ls : Array Slot), vJ_X11_steps_129 l12_9 (fun z0 z1 => vfix (vF_X11_steps_73 s11_stepMany s11_ticks s11_hand s11_beganElsewhere s11_dBefore s11_fBefore s11_fFirst a11_steps a11_sums a11_on a11_often x1 K a11_stepsTold_8) n73 (z0, z1)) t26 → lv_has ls 13 [(12, .int l12_9), (10, .ref (ad 42)), (0, .ref (ad 11)), (1, .int x1)] → va_P D vwCl [oX11 ad s11_d s11_stepMany s11_kind s11_many s11_partMany s11_rule s11_ticks s11_hand s11_g s11_beganElsewhere s11_dBefore s11_fBefore s11_fFirst s11_weightMany s11_tailTold, aI cy (ad 41) 8 a11_steps, aI cy (ad 42) 8 a11_stepsTold_8, aJ cy (ad 47) 4 a11_sums, aI cy (ad 50) 16 a11_on, aI cy (ad 51) 16 a11_often] H → va_D A [oX11 ad s11_d s11_stepMany s11_kind s11_many s11_partMany s11_rule s11_ticks s11_hand s11_g s11_beganElsewhere s11_dBefore s11_fBefore s11_fFirst s11_weightMany s11_tailTold, aI cy (ad 41) 8 a11_steps, aI cy (ad 42) 8 a11_stepsTold_8, aJ cy (ad 47) 4 a11_sums, aI cy (ad 50) 16 a11_on, aI cy (ad 51) 16 a11_often] → va_S A s.heap H locs → W p l e rm_X11_steps s m ([.ref (ad 11), .int x1, .int x2, .int x3, .int x4, .int x5, .int x6, .int x7, .int x8, .int x9] : List Value).toArray below meth c H locs 0 0 Q (F0 m 129 ls [.int t26]) := by
                intro t26 H locs ls hv hl hP hD hS
                unfold vJ_X11_steps_129 at hv
                refine lv_istore (lv' := [(11, .int t26), (12, .int l12_9), (10, .ref (ad 42)), (0, .ref (ad 11)), (1, .int x1)]) hx hb dX11_steps_129 hl (by decide) rfl (fun ls hl => ?_)
                obtain ⟨i27, h_i27⟩ : ∃ y : Int32, y = l12_9 + 1 := ⟨_, rfl⟩
                refine lv_iinc (v := i27) (lv' := [(12, .int i27), (11, .int t26), (10, .ref (ad 42)), (0, .ref (ad 11)), (1, .int x1)]) hx hb dX11_steps_131 hl (k := 1) rfl (by rw [h_i27]; rfl) (by decide) rfl (fun ls hl => ?_)
                have hv := hv i27 h_i27
                refine lv_goto (tgt := 73) hx hb dX11_steps_134 (by decide) ?_
                exact ih73 i27 t26 H locs ls hv (lv_sub hl [0, 1, 2, 3, 4] rfl) hP hD hS
              have jn128 : ∀ (H : Heap) (locs : List Loc) (ls : Array Slot), vJ_X11_steps_128 l12_9 (fun z0 z1 => vfix (vF_X11_steps_73 s11_stepMany s11_ticks s11_hand s11_beganElsewhere s11_dBefore s11_fBefore s11_fFirst a11_steps a11_sums a11_on a11_often x1 K a11_stepsTold_8) n73 (z0, z1)) → lv_has ls 13 [(12, .int l12_9), (10, .ref (ad 42)), (0, .ref (ad 11)), (1, .int x1)] → va_P D vwCl [oX11 ad s11_d s11_stepMany s11_kind s11_many s11_partMany s11_rule s11_ticks s11_hand s11_g s11_beganElsewhere s11_dBefore s11_fBefore s11_fFirst s11_weightMany s11_tailTold, aI cy (ad 41) 8 a11_steps, aI cy (ad 42) 8 a11_stepsTold_8, aJ cy (ad 47) 4 a11_sums, aI cy (ad 50) 16 a11_on, aI cy (ad 51) 16 a11_often] H → va_D A [oX11 ad s11_d s11_stepMany s11_kind s11_many s11_partMany s11_rule s11_ticks s11_hand s11_g s11_beganElsewhere s11_dBefore s11_fBefore s11_fFirst s11_weightMany s11_tailTold, aI cy (ad 41) 8 a11_steps, aI cy (ad 42) 8 a11_stepsTold_8, aJ cy (ad 47) 4 a11_sums, aI cy (ad 50) 16 a11_on, aI cy (ad 51) 16 a11_often] → va_S A s.heap H locs → W p l e rm_X11_steps s m ([.ref (ad 11), .int x1, .int x2, .int x3, .int x4, .int x5, .int x6, .int x7, .int x8, .int x9] : List Value).toArray below meth c H locs 0 0 Q (F0 m 128 ls []) := by
                intro H locs ls hv hl hP hD hS
                unfold vJ_X11_steps_128 at hv
                refine lv_iconst (v := 0) hx hb dX11_steps_128 (by decide) ?_
                exact jn129 (0 : Int32) H locs ls hv (lv_sub hl [0, 1, 2, 3] rfl) hP hD hS
              refine lv_icmp_lt (tgt := 128) hx hb dX11_steps_91 (by decide) (fun c_91 => ?_) (fun c_91 => ?_)
              · have hv := hv.1 c_91
                exact jn128  H locs ls hv (lv_sub hl [0, 2, 3, 4] rfl) hP hD hS
              · have hv := hv.2 c_91
                refine lv_aload hx hb dX11_steps_94 (lv_at hl 2 rfl) ?_
                refine lv_iload hx hb dX11_steps_96 (lv_at hl 0 rfl) ?_
                refine va_iald hx hb hK hP 2 0 rfl rfl hv.1 dX11_steps_98 ?_
                refine lv_topi (fun g28 h_g28 => ?_)
                have hv := hv.2 g28 h_g28
                refine lv_bipush (v := 100) hx hb dX11_steps_99 (by decide) ?_
                refine lv_icmp_gt (tgt := 128) hx hb dX11_steps_101 (by decide) (fun c_101 => ?_) (fun c_101 => ?_)
                · have hv := hv.1 c_101
                  exact jn128  H locs ls hv (lv_sub hl [0, 2, 3, 4] rfl) hP hD hS
                · have hv := hv.2 c_101
                  refine lv_iload hx hb dX11_steps_104 (lv_at hl 0 rfl) ?_
                  have jn124 : ∀ (H : Heap) (locs : List Loc) (ls : Array Slot), vJ_X11_steps_124 l12_9 (fun z0 z1 => vfix (vF_X11_steps_73 s11_stepMany s11_ticks s11_hand s11_beganElsewhere s11_dBefore s11_fBefore s11_fFirst a11_steps a11_sums a11_on a11_often x1 K a11_stepsTold_8) n73 (z0, z1)) → lv_has ls 13 [(12, .int l12_9), (10, .ref (ad 42)), (0, .ref (ad 11)), (1, .int x1)] → va_P D vwCl [oX11 ad s11_d s11_stepMany s11_kind s11_many s11_partMany s11_rule s11_ticks s11_hand s11_g s11_beganElsewhere s11_dBefore s11_fBefore s11_fFirst s11_weightMany s11_tailTold, aI cy (ad 41) 8 a11_steps, aI cy (ad 42) 8 a11_stepsTold_8, aJ cy (ad 47) 4 a11_sums, aI cy (ad 50) 16 a11_on, aI cy (ad 51) 16 a11_often] H → va_D A [oX11 ad s11_d s11_stepMany s11_kind s11_many s11_partMany s11_rule s11_ticks s11_hand s11_g s11_beganElsewhere s11_dBefore s11_fBefore s11_fFirst s11_weightMany s11_tailTold, aI cy (ad 41) 8 a11_steps, aI cy (ad 42) 8 a11_stepsTold_8, aJ cy (ad 47) 4 a11_sums, aI cy (ad 50) 16 a11_on, aI cy (ad 51) 16 a11_often] → va_S A s.heap H locs → W p l e rm_X11_steps s m ([.ref (ad 11), .int x1, .int x2, .int x3, .int x4, .int x5, .int x6, .int x7, .int x8, .int x9] : List Value).toArray below meth c H locs 0 0 Q (F0 m 124 ls []) := by
                    intro H locs ls hv hl hP hD hS
                    unfold vJ_X11_steps_124 at hv
                    refine lv_iconst (v := 1) hx hb dX11_steps_124 (by decide) ?_
                    refine lv_goto (tgt := 129) hx hb dX11_steps_125 (by decide) ?_
                    exact jn129 (1 : Int32) H locs ls hv (lv_sub hl [0, 1, 2, 3] rfl) hP hD hS
                  refine lv_if_eq (tgt := 124) hx hb dX11_steps_106 (by decide) (fun c_106 => ?_) (fun c_106 => ?_)
                  · have hv := hv.1 c_106
                    exact jn124  H locs ls hv (lv_sub hl [0, 2, 3, 4] rfl) hP hD hS
                  · have hv := hv.2 c_106
                    refine lv_aload hx hb dX11_steps_109 (lv_at hl 2 rfl) ?_
                    refine lv_iload hx hb dX11_steps_111 (lv_at hl 0 rfl) ?_
                    refine lv_iconst (v := 1) hx hb dX11_steps_113 (by decide) ?_
                    refine lv_isub hx hb dX11_steps_114 ?_
                    refine lv_topi (fun e29 h_e29 => ?_)
                    have hv := hv e29 h_e29
                    refine va_iald hx hb hK hP 2 0 rfl rfl hv.1 dX11_steps_115 ?_
                    refine lv_topi (fun g30 h_g30 => ?_)
                    have hv := hv.2 g30 h_g30
                    refine lv_aload hx hb dX11_steps_116 (lv_at hl 2 rfl) ?_
                    refine lv_iload hx hb dX11_steps_118 (lv_at hl 0 rfl) ?_
                    refine va_iald hx hb hK hP 2 0 rfl rfl hv.1 dX11_steps_120 ?_
                    refine lv_topi (fun g31 h_g31 => ?_)
                    have hv := hv.2 g31 h_g31
                    refine lv_icmp_ge (tgt := 128) hx hb dX11_steps_121 (by decide) (fun c_121 => ?_) (fun c_121 => ?_)
                    · have hv := hv.1 c_121
                      exact jn128  H locs ls hv (lv_sub hl [0, 2, 3, 4] rfl) hP hD hS
                    · have hv := hv.2 c_121
                      exact jn124  H locs ls hv (lv_sub hl [0, 2, 3, 4] rfl) hP hD hS
      obtain ⟨nn, hv⟩ := hv
      exact lp73 nn (0 : Int32) (1 : Int32) H locs ls hv (lv_sub hl [0, 1, 2, 3, 4] rfl) hP hD hS
    · have hv := hv.2 c_8
      refine lv_iconst (v := 0) hx hb dX11_steps_11 (by decide) ?_
      rw [← hQ]
      exact k_zret hx hb hr hlocks hS (s11_stepMany, s11_ticks, s11_hand, s11_beganElsewhere, s11_dBefore, s11_fBefore, s11_fFirst, a11_steps, a11_stepsTold, a11_sums, a11_on, a11_often) hP hD (by decide) hv dX11_steps_12
