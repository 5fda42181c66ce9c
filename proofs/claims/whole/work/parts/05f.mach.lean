theorem lk_X10_run_21 : Cond.fieldLink RX10 21 "CoarseSteps" "loop" "LCoarseSteps$Loop;" ∈ wsX10_run := by decide +kernel
theorem in_X10_run_10 : ∀ w ∈ wsX100, w ∈ wsX10_run := by decide +kernel
theorem lk_X10_run_128 : Cond.constant RX10 128 (-2147483648) ∈ wsX10_run := by decide +kernel
abbrev rm_X10_run : Room := { frames := 5, cells := 0, slots := 0, locals := 118 }
set_option maxHeartbeats 4000000 in
set_option maxRecDepth 100000 in
theorem m_X10_run (l : Launch) (D : va_G) (cy : ClassId × ClassId × ClassId) (ad : Nat → Nat) (s3_next : Int32) (s3_kept : Int32) (s4_ticks : Int32) (s4_firstBeganWith : Int64) (s4_secondBefore : Int32) (s4_thirdBefore : Int32) (s4_thirdTwoBefore : Int32) (s5_kind : Int32) (s5_sums : Int32) (s7_over : Int32) (s7_count : Int32) (s8_sums : Int32) (s8_g : Int32) (s9_parts : Int32) (s9_rule : Int32) (s9_hand : Int32) (a3_wishes : Nat → Int32) (a3_givens : Nat → Int32) (a3_sums : Nat → Int64) (a4_sums : Nat → Int64) (a5_coming : Nat → Int64) (a5_picked : Nat → Int32) (a7_values : Nat → Int32) (a8_a : Nat → Int32) (a8_b : Nat → Int32) (a8_e : Nat → Int32) (a8_h : Nat → Int32) (a9_isOn : Nat → Int32) (a9_timesOn : Nat → Int32) (x1 : Int32) (x2 : Int32) (sz : Nat) {K : Int32 → Int32 → Int32 → Int32 → Int32 → Int32 → Int32 → Int32 → (Nat → Int32) → (Nat → Int32) → (Nat → Int64) → (Nat → Int64) → (Nat → Int64) → (Nat → Int32) → (Nat → Int32) → (Nat → Int32) → Prop} (hv : v_X10_run s3_next s3_kept s4_ticks s4_secondBefore s4_thirdBefore s4_thirdTwoBefore s5_kind s5_sums s7_over s7_count s8_sums s8_g s9_parts s9_rule s9_hand a3_wishes a3_givens a3_sums a4_sums a5_coming a5_picked a7_values a8_a a8_b a8_e a8_h a9_isOn a9_timesOn x1 x2 K) : Met l yX10_run wsX10_run rm_X10_run (va_Pc [.ref (ad 10), .int x1, .int x2] (wd D cy [oX3 ad s3_next s3_kept, oX4 ad s4_ticks s4_firstBeganWith s4_secondBefore s4_thirdBefore s4_thirdTwoBefore, oX5 ad s5_kind s5_sums, oX7 ad s7_over s7_count, oX8 ad s8_sums s8_g, oX9 ad s9_parts s9_rule s9_hand, oX10 ad , aI cy (ad 25) 256 a3_wishes, aI cy (ad 26) 256 a3_givens, aJ cy (ad 27) 256 a3_sums, aJ cy (ad 29) 4 a4_sums, aJ cy (ad 30) 4 a5_coming, aI cy (ad 31) 3 a5_picked, aI cy (ad 34) 8 a7_values, aI cy (ad 35) 16 a8_a, aI cy (ad 36) 4 a8_b, aI cy (ad 37) 4 a8_e, aI cy (ad 38) 4 a8_h, aZ cy (ad 39) 16 a9_isOn, aI cy (ad 40) 16 a9_timesOn] sz)) (va_Qi (fun (r : Int32) (u : Int32 × Int32 × Int32 × Int32 × Int32 × Int32 × Int32 × (Nat → Int32) × (Nat → Int32) × (Nat → Int64) × (Nat → Int64) × (Nat → Int64) × (Nat → Int32) × (Nat → Int32) × (Nat → Int32)) => K r u.1 u.2.1 u.2.2.1 u.2.2.2.1 u.2.2.2.2.1 u.2.2.2.2.2.1 u.2.2.2.2.2.2.1 u.2.2.2.2.2.2.2.1 u.2.2.2.2.2.2.2.2.1 u.2.2.2.2.2.2.2.2.2.1 u.2.2.2.2.2.2.2.2.2.2.1 u.2.2.2.2.2.2.2.2.2.2.2.1 u.2.2.2.2.2.2.2.2.2.2.2.2.1 u.2.2.2.2.2.2.2.2.2.2.2.2.2.1 u.2.2.2.2.2.2.2.2.2.2.2.2.2.2) (fun u t => we D ((fun u : Int32 × Int32 × Int32 × Int32 × Int32 × Int32 × Int32 × (Nat → Int32) × (Nat → Int32) × (Nat → Int64) × (Nat → Int64) × (Nat → Int64) × (Nat → Int32) × (Nat → Int32) × (Nat → Int32) => [oX3 ad u.1 u.2.1, oX4 ad u.2.2.1 s4_firstBeganWith u.2.2.2.1 u.2.2.2.2.1 u.2.2.2.2.2.1, oX5 ad s5_kind s5_sums, oX7 ad s7_over s7_count, oX8 ad s8_sums s8_g, oX9 ad s9_parts s9_rule u.2.2.2.2.2.2.1, oX10 ad , aI cy (ad 25) 256 u.2.2.2.2.2.2.2.1, aI cy (ad 26) 256 u.2.2.2.2.2.2.2.2.1, aJ cy (ad 27) 256 u.2.2.2.2.2.2.2.2.2.1, aJ cy (ad 29) 4 u.2.2.2.2.2.2.2.2.2.2.1, aJ cy (ad 30) 4 u.2.2.2.2.2.2.2.2.2.2.2.1, aI cy (ad 31) 3 u.2.2.2.2.2.2.2.2.2.2.2.2.1, aI cy (ad 34) 8 a7_values, aI cy (ad 35) 16 a8_a, aI cy (ad 36) 4 a8_b, aI cy (ad 37) 4 a8_e, aI cy (ad 38) 4 a8_h, aZ cy (ad 39) 16 u.2.2.2.2.2.2.2.2.2.2.2.2.2.1, aI cy (ad 40) 16 u.2.2.2.2.2.2.2.2.2.2.2.2.2.2]) u) (va_A [oX3 ad s3_next s3_kept, oX4 ad s4_ticks s4_firstBeganWith s4_secondBefore s4_thirdBefore s4_thirdTwoBefore, oX5 ad s5_kind s5_sums, oX7 ad s7_over s7_count, oX8 ad s8_sums s8_g, oX9 ad s9_parts s9_rule s9_hand, oX10 ad , aI cy (ad 25) 256 a3_wishes, aI cy (ad 26) 256 a3_givens, aJ cy (ad 27) 256 a3_sums, aJ cy (ad 29) 4 a4_sums, aJ cy (ad 30) 4 a5_coming, aI cy (ad 31) 3 a5_picked, aI cy (ad 34) 8 a7_values, aI cy (ad 35) 16 a8_a, aI cy (ad 36) 4 a8_b, aI cy (ad 37) 4 a8_e, aI cy (ad 38) 4 a8_h, aZ cy (ad 39) 16 a9_isOn, aI cy (ad 40) 16 a9_timesOn] sz) t) (va_A [oX3 ad s3_next s3_kept, oX4 ad s4_ticks s4_firstBeganWith s4_secondBefore s4_thirdBefore s4_thirdTwoBefore, oX5 ad s5_kind s5_sums, oX7 ad s7_over s7_count, oX8 ad s8_sums s8_g, oX9 ad s9_parts s9_rule s9_hand, oX10 ad , aI cy (ad 25) 256 a3_wishes, aI cy (ad 26) 256 a3_givens, aJ cy (ad 27) 256 a3_sums, aJ cy (ad 29) 4 a4_sums, aJ cy (ad 30) 4 a5_coming, aI cy (ad 31) 3 a5_picked, aI cy (ad 34) 8 a7_values, aI cy (ad 35) 16 a8_a, aI cy (ad 36) 4 a8_b, aI cy (ad 37) 4 a8_e, aI cy (ad 38) 4 a8_h, aZ cy (ad 39) 16 a9_isOn, aI cy (ad 40) 16 a9_timesOn] sz)) 0 0 (va_A [oX3 ad s3_next s3_kept, oX4 ad s4_ticks s4_firstBeganWith s4_secondBefore s4_thirdBefore s4_thirdTwoBefore, oX5 ad s5_kind s5_sums, oX7 ad s7_over s7_count, oX8 ad s8_sums s8_g, oX9 ad s9_parts s9_rule s9_hand, oX10 ad , aI cy (ad 25) 256 a3_wishes, aI cy (ad 26) 256 a3_givens, aJ cy (ad 27) 256 a3_sums, aJ cy (ad 29) 4 a4_sums, aJ cy (ad 30) 4 a5_coming, aI cy (ad 31) 3 a5_picked, aI cy (ad 34) 8 a7_values, aI cy (ad 35) 16 a8_a, aI cy (ad 36) 4 a8_b, aI cy (ad 37) 4 a8_e, aI cy (ad 38) 4 a8_h, aZ cy (ad 39) 16 a9_isOn, aI cy (ad 40) 16 a9_timesOn] sz) := by
  refine k_ofW (cc := cX10_run) (maxL := 4) (ret := (some .int)) (fun A => va_Qi (fun (r : Int32) (u : Int32 × Int32 × Int32 × Int32 × Int32 × Int32 × Int32 × (Nat → Int32) × (Nat → Int32) × (Nat → Int64) × (Nat → Int64) × (Nat → Int64) × (Nat → Int32) × (Nat → Int32) × (Nat → Int32)) => K r u.1 u.2.1 u.2.2.1 u.2.2.2.1 u.2.2.2.2.1 u.2.2.2.2.2.1 u.2.2.2.2.2.2.1 u.2.2.2.2.2.2.2.1 u.2.2.2.2.2.2.2.2.1 u.2.2.2.2.2.2.2.2.2.1 u.2.2.2.2.2.2.2.2.2.2.1 u.2.2.2.2.2.2.2.2.2.2.2.1 u.2.2.2.2.2.2.2.2.2.2.2.2.1 u.2.2.2.2.2.2.2.2.2.2.2.2.2.1 u.2.2.2.2.2.2.2.2.2.2.2.2.2.2) (fun u t => we D ((fun u : Int32 × Int32 × Int32 × Int32 × Int32 × Int32 × Int32 × (Nat → Int32) × (Nat → Int32) × (Nat → Int64) × (Nat → Int64) × (Nat → Int64) × (Nat → Int32) × (Nat → Int32) × (Nat → Int32) => [oX3 ad u.1 u.2.1, oX4 ad u.2.2.1 s4_firstBeganWith u.2.2.2.1 u.2.2.2.2.1 u.2.2.2.2.2.1, oX5 ad s5_kind s5_sums, oX7 ad s7_over s7_count, oX8 ad s8_sums s8_g, oX9 ad s9_parts s9_rule u.2.2.2.2.2.2.1, oX10 ad , aI cy (ad 25) 256 u.2.2.2.2.2.2.2.1, aI cy (ad 26) 256 u.2.2.2.2.2.2.2.2.1, aJ cy (ad 27) 256 u.2.2.2.2.2.2.2.2.2.1, aJ cy (ad 29) 4 u.2.2.2.2.2.2.2.2.2.2.1, aJ cy (ad 30) 4 u.2.2.2.2.2.2.2.2.2.2.2.1, aI cy (ad 31) 3 u.2.2.2.2.2.2.2.2.2.2.2.2.1, aI cy (ad 34) 8 a7_values, aI cy (ad 35) 16 a8_a, aI cy (ad 36) 4 a8_b, aI cy (ad 37) 4 a8_e, aI cy (ad 38) 4 a8_h, aZ cy (ad 39) 16 u.2.2.2.2.2.2.2.2.2.2.2.2.2.1, aI cy (ad 40) 16 u.2.2.2.2.2.2.2.2.2.2.2.2.2.2]) u) A t) A) (by decide) rfl (Nat.le_of_ble_eq_true rfl) ?_
  intro p e s m below meth c A ls H locs hx hb hml hr hts hown hlocks hname hK hN hA hP hD hS hl
  have hl : lv_has ls 4 [(0, .ref (ad 10)), (1, .int x1), (2, .int x2)] := hl
  generalize hQ : MQ below _ _ s _ _ A = Q
  unfold v_X10_run at hv
  refine lv_iload_n hx hb dX10_run_0 rfl (lv_at hl 1 rfl) ?_
  refine lv_if_lt (tgt := 18) hx hb dX10_run_1 (by decide) (fun c_1 => ?_) (fun c_1 => ?_)
  · have hv := hv.1 c_1
    refine lv_iconst (v := -1) hx hb dX10_run_18 (by decide) ?_
    rw [← hQ]
    exact k_iret hx hb hr hlocks hS (s3_next, s3_kept, s4_ticks, s4_secondBefore, s4_thirdBefore, s4_thirdTwoBefore, s9_hand, a3_wishes, a3_givens, a3_sums, a4_sums, a5_coming, a5_picked, a9_isOn, a9_timesOn) hP hD hv dX10_run_19
  · have hv := hv.2 c_1
    refine lv_iload_n hx hb dX10_run_4 rfl (lv_at hl 1 rfl) ?_
    refine lv_sipush (v := 10000) hx hb dX10_run_5 (by decide) ?_
    refine lv_icmp_gt (tgt := 18) hx hb dX10_run_8 (by decide) (fun c_8 => ?_) (fun c_8 => ?_)
    · have hv := hv.1 c_8
      refine lv_iconst (v := -1) hx hb dX10_run_18 (by decide) ?_
      rw [← hQ]
      exact k_iret hx hb hr hlocks hS (s3_next, s3_kept, s4_ticks, s4_secondBefore, s4_thirdBefore, s4_thirdTwoBefore, s9_hand, a3_wishes, a3_givens, a3_sums, a4_sums, a5_coming, a5_picked, a9_isOn, a9_timesOn) hP hD hv dX10_run_19
    · have hv := hv.2 c_8
      refine lv_iload_n hx hb dX10_run_11 rfl (lv_at hl 2 rfl) ?_
      have hPc := hP.sub (ws' := []) [] rfl
      have hDc := hD.sub (ws' := []) [] (by decide) rfl
      refine k_cali (wc := []) (wr := [oX3 ad s3_next s3_kept, oX4 ad s4_ticks s4_firstBeganWith s4_secondBefore s4_thirdBefore s4_thirdTwoBefore, oX5 ad s5_kind s5_sums, oX7 ad s7_over s7_count, oX8 ad s8_sums s8_g, oX9 ad s9_parts s9_rule s9_hand, oX10 ad , aI cy (ad 25) 256 a3_wishes, aI cy (ad 26) 256 a3_givens, aJ cy (ad 27) 256 a3_sums, aJ cy (ad 29) 4 a4_sums, aJ cy (ad 30) 4 a5_coming, aI cy (ad 31) 3 a5_picked, aI cy (ad 34) 8 a7_values, aI cy (ad 35) 16 a8_a, aI cy (ad 36) 4 a8_b, aI cy (ad 37) 4 a8_e, aI cy (ad 38) 4 a8_h, aZ cy (ad 39) 16 a9_isOn, aI cy (ad 40) 16 a9_timesOn]) (va_runS (As := [.int x2]) (rest := []) ⟨hx, hb, hml, hown, hts⟩ (m_X10_isWish l D cy ad x2 H.size hv) (va_cwS 1 hts gX10_run_X10_isWish rfl rfl rfl (by decide +kernel) ⟨Nat.le_of_ble_eq_true rfl, Nat.le_of_ble_eq_true rfl⟩) ⟨wd_blind, wd_ok hPc hK hDc hN⟩ rfl rfl hl.1 rfl (lv_room (Nat.le_of_ble_eq_true rfl)) dX10_run_12 ⟨Nat.le_of_ble_eq_true rfl, Nat.le_of_ble_eq_true rfl⟩) hP hD hS hA [] [0, 1, 2, 3, 4, 5, 6, 7, 8, 9, 10, 11, 12, 13, 14, 15, 16, 17, 18, 19] rfl rfl (by decide) (by decide) (fun r1 u H locs hv hP hD hS => ?_)
      obtain ⟨hz_r1, hv⟩ := hv
      have hP : va_P D vwCl [oX3 ad s3_next s3_kept, oX4 ad s4_ticks s4_firstBeganWith s4_secondBefore s4_thirdBefore s4_thirdTwoBefore, oX5 ad s5_kind s5_sums, oX7 ad s7_over s7_count, oX8 ad s8_sums s8_g, oX9 ad s9_parts s9_rule s9_hand, oX10 ad , aI cy (ad 25) 256 a3_wishes, aI cy (ad 26) 256 a3_givens, aJ cy (ad 27) 256 a3_sums, aJ cy (ad 29) 4 a4_sums, aJ cy (ad 30) 4 a5_coming, aI cy (ad 31) 3 a5_picked, aI cy (ad 34) 8 a7_values, aI cy (ad 35) 16 a8_a, aI cy (ad 36) 4 a8_b, aI cy (ad 37) 4 a8_e, aI cy (ad 38) 4 a8_h, aZ cy (ad 39) 16 a9_isOn, aI cy (ad 40) 16 a9_timesOn] H := hP.sub [0, 1, 2, 3, 4, 5, 6, 7, 8, 9, 10, 11, 12, 13, 14, 15, 16, 17, 18, 19] rfl
      have hD : va_D A [oX3 ad s3_next s3_kept, oX4 ad s4_ticks s4_firstBeganWith s4_secondBefore s4_thirdBefore s4_thirdTwoBefore, oX5 ad s5_kind s5_sums, oX7 ad s7_over s7_count, oX8 ad s8_sums s8_g, oX9 ad s9_parts s9_rule s9_hand, oX10 ad , aI cy (ad 25) 256 a3_wishes, aI cy (ad 26) 256 a3_givens, aJ cy (ad 27) 256 a3_sums, aJ cy (ad 29) 4 a4_sums, aJ cy (ad 30) 4 a5_coming, aI cy (ad 31) 3 a5_picked, aI cy (ad 34) 8 a7_values, aI cy (ad 35) 16 a8_a, aI cy (ad 36) 4 a8_b, aI cy (ad 37) 4 a8_e, aI cy (ad 38) 4 a8_h, aZ cy (ad 39) 16 a9_isOn, aI cy (ad 40) 16 a9_timesOn] := hD.sub [0, 1, 2, 3, 4, 5, 6, 7, 8, 9, 10, 11, 12, 13, 14, 15, 16, 17, 18, 19] (by decide) rfl
      refine lv_if_ne (tgt := 20) hx hb dX10_run_15 (by decide) (fun c_15 => ?_) (fun c_15 => ?_)
      · have hv := hv.1 c_15
        refine lv_iconst (v := 0) hx hb dX10_run_20 (by decide) ?_
        refine lv_istore_n (lv' := [(3, .int (0 : Int32)), (0, .ref (ad 10)), (1, .int x1), (2, .int x2)]) hx hb dX10_run_21 rfl hl (by decide) rfl (fun ls hl => ?_)
        have lp22 : ∀ (n22 : Nat) (l3_2 : Int32) (s3_next_3 : Int32) (s3_kept_4 : Int32) (s4_ticks_5 : Int32) (s4_secondBefore_6 : Int32) (s4_thirdBefore_7 : Int32) (s4_thirdTwoBefore_8 : Int32) (s9_hand_9 : Int32) (a3_wishes_10 : Nat → Int32) (a3_givens_11 : Nat → Int32) (a3_sums_12 : Nat → Int64) (a4_sums_13 : Nat → Int64) (a5_coming_14 : Nat → Int64) (a5_picked_15 : Nat → Int32) (a9_isOn_16 : Nat → Int32) (a9_timesOn_17 : Nat → Int32) (H : Heap) (locs : List Loc) (ls : Array Slot), vfix (vF_X10_run_22 s5_kind s5_sums s7_over s7_count s8_sums s8_g s9_parts s9_rule a7_values a8_a a8_b a8_e a8_h x1 x2 K) n22 (l3_2, s3_next_3, s3_kept_4, s4_ticks_5, s4_secondBefore_6, s4_thirdBefore_7, s4_thirdTwoBefore_8, s9_hand_9, a3_wishes_10, a3_givens_11, a3_sums_12, a4_sums_13, a5_coming_14, a5_picked_15, a9_isOn_16, a9_timesOn_17) → lv_has ls 4 [(3, .int l3_2), (0, .ref (ad 10)), (1, .int x1), (2, .int x2)] → va_P D vwCl [oX3 ad s3_next_3 s3_kept_4, oX4 ad s4_ticks_5 s4_firstBeganWith s4_secondBefore_6 s4_thirdBefore_7 s4_thirdTwoBefore_8, oX5 ad s5_kind s5_sums, oX7 ad s7_over s7_count, oX8 ad s8_sums s8_g, oX9 ad s9_parts s9_rule s9_hand_9, oX10 ad , aI cy (ad 25) 256 a3_wishes_10, aI cy (ad 26) 256 a3_givens_11, aJ cy (ad 27) 256 a3_sums_12, aJ cy (ad 29) 4 a4_sums_13, aJ cy (ad 30) 4 a5_coming_14, aI cy (ad 31) 3 a5_picked_15, aI cy (ad 34) 8 a7_values, aI cy (ad 35) 16 a8_a, aI cy (ad 36) 4 a8_b, aI cy (ad 37) 4 a8_e, aI cy (ad 38) 4 a8_h, aZ cy (ad 39) 16 a9_isOn_16, aI cy (ad 40) 16 a9_timesOn_17] H → va_D A [oX3 ad s3_next_3 s3_kept_4, oX4 ad s4_ticks_5 s4_firstBeganWith s4_secondBefore_6 s4_thirdBefore_7 s4_thirdTwoBefore_8, oX5 ad s5_kind s5_sums, oX7 ad s7_over s7_count, oX8 ad s8_sums s8_g, oX9 ad s9_parts s9_rule s9_hand_9, oX10 ad , aI cy (ad 25) 256 a3_wishes_10, aI cy (ad 26) 256 a3_givens_11, aJ cy (ad 27) 256 a3_sums_12, aJ cy (ad 29) 4 a4_sums_13, aJ cy (ad 30) 4 a5_coming_14, aI cy (ad 31) 3 a5_picked_15, aI cy (ad 34) 8 a7_values, aI cy (ad 35) 16 a8_a, aI cy (ad 36) 4 a8_b, aI cy (ad 37) 4 a8_e, aI cy (ad 38) 4 a8_h, aZ cy (ad 39) 16 a9_isOn_16, aI cy (ad 40) 16 a9_timesOn_17] → va_S A s.heap H locs → W p l e rm_X10_run s m ([.ref (ad 10), .int x1, .int x2] : List Value).toArray below meth c H locs 0 0 Q (F0 m 22 ls []) := by
          intro n22
          induction n22 with
          | zero => intro l3_2 s3_next_3 s3_kept_4 s4_ticks_5 s4_secondBefore_6 s4_thirdBefore_7 s4_thirdTwoBefore_8 s9_hand_9 a3_wishes_10 a3_givens_11 a3_sums_12 a4_sums_13 a5_coming_14 a5_picked_15 a9_isOn_16 a9_timesOn_17 H locs ls hv; exact hv.elim
          | succ n22 ih22 =>
            intro l3_2 s3_next_3 s3_kept_4 s4_ticks_5 s4_secondBefore_6 s4_thirdBefore_7 s4_thirdTwoBefore_8 s9_hand_9 a3_wishes_10 a3_givens_11 a3_sums_12 a4_sums_13 a5_coming_14 a5_picked_15 a9_isOn_16 a9_timesOn_17 H locs ls hv hl hP hD hS
            have hv : vB_X10_run_22 s5_kind s5_sums s7_over s7_count s8_sums s8_g s9_parts s9_rule a7_values a8_a a8_b a8_e a8_h x1 x2 K (fun z0 z1 z2 z3 z4 z5 z6 z7 z8 z9 z10 z11 z12 z13 z14 z15 => vfix (vF_X10_run_22 s5_kind s5_sums s7_over s7_count s8_sums s8_g s9_parts s9_rule a7_values a8_a a8_b a8_e a8_h x1 x2 K) n22 (z0, z1, z2, z3, z4, z5, z6, z7, z8, z9, z10, z11, z12, z13, z14, z15)) l3_2 s3_next_3 s3_kept_4 s4_ticks_5 s4_secondBefore_6 s4_thirdBefore_7 s4_thirdTwoBefore_8 s9_hand_9 a3_wishes_10 a3_givens_11 a3_sums_12 a4_sums_13 a5_coming_14 a5_picked_15 a9_isOn_16 a9_timesOn_17 := hv
            unfold vB_X10_run_22 at hv
            refine lv_iload_n hx hb dX10_run_22 rfl (lv_at hl 0 rfl) ?_
            refine lv_iload_n hx hb dX10_run_23 rfl (lv_at hl 2 rfl) ?_
            refine lv_icmp_ge (tgt := 48) hx hb dX10_run_24 (by decide) (fun c_24 => ?_) (fun c_24 => ?_)
            · have hv := hv.1 c_24
              refine lv_iload_n hx hb dX10_run_48 rfl (lv_at hl 2 rfl) ?_
              rw [← hQ]
              exact k_iret hx hb hr hlocks hS (s3_next_3, s3_kept_4, s4_ticks_5, s4_secondBefore_6, s4_thirdBefore_7, s4_thirdTwoBefore_8, s9_hand_9, a3_wishes_10, a3_givens_11, a3_sums_12, a4_sums_13, a5_coming_14, a5_picked_15, a9_isOn_16, a9_timesOn_17) hP hD hv dX10_run_49
            · have hv := hv.2 c_24
              refine lv_aload_n hx hb dX10_run_27 rfl (lv_at hl 1 rfl) ?_
              refine va_get (D := D) (ci := 10) (v := .ref (ad 4)) (C := RX10) (T := TX10) (N := 6) hx hb hts in_X10_run_10 hown hK hP 6 rfl rfl 1 (by decide) (hts _ lk_X10_run_21) (fun _ h9 => h9) rfl dX10_run_28 ?_
              refine lv_iload_n hx hb dX10_run_31 rfl (lv_at hl 3 rfl) ?_
              have hPc := hP.sub (ws' := [oX3 ad s3_next_3 s3_kept_4, oX4 ad s4_ticks_5 s4_firstBeganWith s4_secondBefore_6 s4_thirdBefore_7 s4_thirdTwoBefore_8, oX5 ad s5_kind s5_sums, oX7 ad s7_over s7_count, oX8 ad s8_sums s8_g, oX9 ad s9_parts s9_rule s9_hand_9, aI cy (ad 25) 256 a3_wishes_10, aI cy (ad 26) 256 a3_givens_11, aJ cy (ad 27) 256 a3_sums_12, aJ cy (ad 29) 4 a4_sums_13, aJ cy (ad 30) 4 a5_coming_14, aI cy (ad 31) 3 a5_picked_15, aI cy (ad 34) 8 a7_values, aI cy (ad 35) 16 a8_a, aI cy (ad 36) 4 a8_b, aI cy (ad 37) 4 a8_e, aI cy (ad 38) 4 a8_h, aZ cy (ad 39) 16 a9_isOn_16, aI cy (ad 40) 16 a9_timesOn_17]) [0, 1, 2, 3, 4, 5, 7, 8, 9, 10, 11, 12, 13, 14, 15, 16, 17, 18, 19] rfl
              have hDc := hD.sub (ws' := [oX3 ad s3_next_3 s3_kept_4, oX4 ad s4_ticks_5 s4_firstBeganWith s4_secondBefore_6 s4_thirdBefore_7 s4_thirdTwoBefore_8, oX5 ad s5_kind s5_sums, oX7 ad s7_over s7_count, oX8 ad s8_sums s8_g, oX9 ad s9_parts s9_rule s9_hand_9, aI cy (ad 25) 256 a3_wishes_10, aI cy (ad 26) 256 a3_givens_11, aJ cy (ad 27) 256 a3_sums_12, aJ cy (ad 29) 4 a4_sums_13, aJ cy (ad 30) 4 a5_coming_14, aI cy (ad 31) 3 a5_picked_15, aI cy (ad 34) 8 a7_values, aI cy (ad 35) 16 a8_a, aI cy (ad 36) 4 a8_b, aI cy (ad 37) 4 a8_e, aI cy (ad 38) 4 a8_h, aZ cy (ad 39) 16 a9_isOn_16, aI cy (ad 40) 16 a9_timesOn_17]) [0, 1, 2, 3, 4, 5, 7, 8, 9, 10, 11, 12, 13, 14, 15, 16, 17, 18, 19] (by decide) rfl
              refine k_cali (wc := [oX3 ad s3_next_3 s3_kept_4, oX4 ad s4_ticks_5 s4_firstBeganWith s4_secondBefore_6 s4_thirdBefore_7 s4_thirdTwoBefore_8, oX5 ad s5_kind s5_sums, oX7 ad s7_over s7_count, oX8 ad s8_sums s8_g, oX9 ad s9_parts s9_rule s9_hand_9, aI cy (ad 25) 256 a3_wishes_10, aI cy (ad 26) 256 a3_givens_11, aJ cy (ad 27) 256 a3_sums_12, aJ cy (ad 29) 4 a4_sums_13, aJ cy (ad 30) 4 a5_coming_14, aI cy (ad 31) 3 a5_picked_15, aI cy (ad 34) 8 a7_values, aI cy (ad 35) 16 a8_a, aI cy (ad 36) 4 a8_b, aI cy (ad 37) 4 a8_e, aI cy (ad 38) 4 a8_h, aZ cy (ad 39) 16 a9_isOn_16, aI cy (ad 40) 16 a9_timesOn_17]) (wr := [oX10 ad ]) (va_runV (As := [.int x2]) (rest := []) ⟨hx, hb, hml, hown, hts⟩ (m_X4_turn l D cy ad s3_next_3 s3_kept_4 s4_ticks_5 s4_firstBeganWith s4_secondBefore_6 s4_thirdBefore_7 s4_thirdTwoBefore_8 s5_kind s5_sums s7_over s7_count s8_sums s8_g s9_parts s9_rule s9_hand_9 a3_wishes_10 a3_givens_11 a3_sums_12 a4_sums_13 a5_coming_14 a5_picked_15 a7_values a8_a a8_b a8_e a8_h a9_isOn_16 a9_timesOn_17 x2 H.size hv) (cwV 1 hts gX10_run_X4_turn rfl rfl rfl (by decide +kernel) ⟨Nat.le_of_ble_eq_true rfl, Nat.le_of_ble_eq_true rfl⟩) ⟨wd_blind, va_recv hK hPc (ci := 4) (q0 := 1) rfl rfl, wd_ok hPc hK hDc hN⟩ rfl rfl hl.1 rfl (lv_room (Nat.le_of_ble_eq_true rfl)) dX10_run_32 ⟨Nat.le_of_ble_eq_true rfl, Nat.le_of_ble_eq_true rfl⟩) hP hD hS hA [0, 1, 2, 3, 4, 5, 7, 8, 9, 10, 11, 12, 13, 14, 15, 16, 17, 18, 19] [6] rfl rfl (by decide) (by decide) (fun r18 u H locs hv hP hD hS => ?_)
              obtain ⟨s3_next_19, s3_kept_20, s4_ticks_21, s4_secondBefore_22, s4_thirdBefore_23, s4_thirdTwoBefore_24, s9_hand_25, a3_wishes_26, a3_givens_27, a3_sums_28, a4_sums_29, a5_coming_30, a5_picked_31, a9_isOn_32, a9_timesOn_33⟩ := u
              have hP : va_P D vwCl [oX3 ad s3_next_19 s3_kept_20, oX4 ad s4_ticks_21 s4_firstBeganWith s4_secondBefore_22 s4_thirdBefore_23 s4_thirdTwoBefore_24, oX5 ad s5_kind s5_sums, oX7 ad s7_over s7_count, oX8 ad s8_sums s8_g, oX9 ad s9_parts s9_rule s9_hand_25, oX10 ad , aI cy (ad 25) 256 a3_wishes_26, aI cy (ad 26) 256 a3_givens_27, aJ cy (ad 27) 256 a3_sums_28, aJ cy (ad 29) 4 a4_sums_29, aJ cy (ad 30) 4 a5_coming_30, aI cy (ad 31) 3 a5_picked_31, aI cy (ad 34) 8 a7_values, aI cy (ad 35) 16 a8_a, aI cy (ad 36) 4 a8_b, aI cy (ad 37) 4 a8_e, aI cy (ad 38) 4 a8_h, aZ cy (ad 39) 16 a9_isOn_32, aI cy (ad 40) 16 a9_timesOn_33] H := hP.sub [1, 2, 3, 4, 5, 6, 0, 7, 8, 9, 10, 11, 12, 13, 14, 15, 16, 17, 18, 19] rfl
              have hD : va_D A [oX3 ad s3_next_19 s3_kept_20, oX4 ad s4_ticks_21 s4_firstBeganWith s4_secondBefore_22 s4_thirdBefore_23 s4_thirdTwoBefore_24, oX5 ad s5_kind s5_sums, oX7 ad s7_over s7_count, oX8 ad s8_sums s8_g, oX9 ad s9_parts s9_rule s9_hand_25, oX10 ad , aI cy (ad 25) 256 a3_wishes_26, aI cy (ad 26) 256 a3_givens_27, aJ cy (ad 27) 256 a3_sums_28, aJ cy (ad 29) 4 a4_sums_29, aJ cy (ad 30) 4 a5_coming_30, aI cy (ad 31) 3 a5_picked_31, aI cy (ad 34) 8 a7_values, aI cy (ad 35) 16 a8_a, aI cy (ad 36) 4 a8_b, aI cy (ad 37) 4 a8_e, aI cy (ad 38) 4 a8_h, aZ cy (ad 39) 16 a9_isOn_32, aI cy (ad 40) 16 a9_timesOn_33] := hD.sub [1, 2, 3, 4, 5, 6, 0, 7, 8, 9, 10, 11, 12, 13, 14, 15, 16, 17, 18, 19] (by decide) rfl
              refine lv_ldc hx hb hown (hts _ lk_X10_run_128) dX10_run_35 ?_
              refine lv_icmp_ne (tgt := 42) hx hb dX10_run_37 (by decide) (fun c_37 => ?_) (fun c_37 => ?_)
              · have hv := hv.1 c_37
                obtain ⟨i34, h_i34⟩ : ∃ y : Int32, y = l3_2 + 1 := ⟨_, rfl⟩
                refine lv_iinc (v := i34) (lv' := [(3, .int i34), (0, .ref (ad 10)), (1, .int x1), (2, .int x2)]) hx hb dX10_run_42 hl (k := 0) rfl (by rw [h_i34]; rfl) (by decide) rfl (fun ls hl => ?_)
                have hv := hv i34 h_i34
                refine lv_goto (tgt := 22) hx hb dX10_run_45 (by decide) ?_
                exact ih22 i34 s3_next_19 s3_kept_20 s4_ticks_21 s4_secondBefore_22 s4_thirdBefore_23 s4_thirdTwoBefore_24 s9_hand_25 a3_wishes_26 a3_givens_27 a3_sums_28 a4_sums_29 a5_coming_30 a5_picked_31 a9_isOn_32 a9_timesOn_33 H locs ls hv (lv_sub hl [0, 1, 2, 3] rfl) hP hD hS
              · have hv := hv.2 c_37
                refine lv_iload_n hx hb dX10_run_40 rfl (lv_at hl 0 rfl) ?_
                rw [← hQ]
                exact k_iret hx hb hr hlocks hS (s3_next_19, s3_kept_20, s4_ticks_21, s4_secondBefore_22, s4_thirdBefore_23, s4_thirdTwoBefore_24, s9_hand_25, a3_wishes_26, a3_givens_27, a3_sums_28, a4_sums_29, a5_coming_30, a5_picked_31, a9_isOn_32, a9_timesOn_33) hP hD hv dX10_run_41
        obtain ⟨nn, hv⟩ := hv
        exact lp22 nn (0 : Int32) s3_next s3_kept s4_ticks s4_secondBefore s4_thirdBefore s4_thirdTwoBefore s9_hand a3_wishes a3_givens a3_sums a4_sums a5_coming a5_picked a9_isOn a9_timesOn H locs ls hv (lv_sub hl [0, 1, 2, 3] rfl) hP hD hS
      · have hv := hv.2 c_15
        refine lv_iconst (v := -1) hx hb dX10_run_18 (by decide) ?_
        rw [← hQ]
        exact k_iret hx hb hr hlocks hS (s3_next, s3_kept, s4_ticks, s4_secondBefore, s4_thirdBefore, s4_thirdTwoBefore, s9_hand, a3_wishes, a3_givens, a3_sums, a4_sums, a5_coming, a5_picked, a9_isOn, a9_timesOn) hP hD hv dX10_run_19
theorem lk_X10_sum_21 : Cond.fieldLink RX10 21 "CoarseSteps" "loop" "LCoarseSteps$Loop;" ∈ wsX10_sum := by decide +kernel
theorem in_X10_sum_10 : ∀ w ∈ wsX100, w ∈ wsX10_sum := by decide +kernel
theorem in_X10_sum_4 : ∀ w ∈ wsX40, w ∈ wsX10_sum := by decide +kernel
abbrev rm_X10_sum : Room := { frames := 1, cells := 0, slots := 0, locals := 21 }
set_option maxHeartbeats 4000000 in
set_option maxRecDepth 100000 in
theorem m_X10_sum (l : Launch) (D : va_G) (cy : ClassId × ClassId × ClassId) (ad : Nat → Nat) (s4_ticks : Int32) (s4_firstBeganWith : Int64) (s4_secondBefore : Int32) (s4_thirdBefore : Int32) (s4_thirdTwoBefore : Int32) (s5_kind : Int32) (s5_sums : Int32) (a4_sums : Nat → Int64) (x1 : Int32) (sz : Nat) {K : Int64 → Prop} (hv : v_X10_sum s5_sums a4_sums x1 K) : Met l yX10_sum wsX10_sum rm_X10_sum (va_Pc [.ref (ad 10), .int x1] (wd D cy [oX4 ad s4_ticks s4_firstBeganWith s4_secondBefore s4_thirdBefore s4_thirdTwoBefore, oX5 ad s5_kind s5_sums, oX10 ad , aJ cy (ad 29) 4 a4_sums] sz)) (va_Ql (fun (r : Int64) (u : Unit) => K r) (fun u t => we D ((fun u : Unit => [oX4 ad s4_ticks s4_firstBeganWith s4_secondBefore s4_thirdBefore s4_thirdTwoBefore, oX5 ad s5_kind s5_sums, oX10 ad , aJ cy (ad 29) 4 a4_sums]) u) (va_A [oX4 ad s4_ticks s4_firstBeganWith s4_secondBefore s4_thirdBefore s4_thirdTwoBefore, oX5 ad s5_kind s5_sums, oX10 ad , aJ cy (ad 29) 4 a4_sums] sz) t) (va_A [oX4 ad s4_ticks s4_firstBeganWith s4_secondBefore s4_thirdBefore s4_thirdTwoBefore, oX5 ad s5_kind s5_sums, oX10 ad , aJ cy (ad 29) 4 a4_sums] sz)) 0 0 (va_A [oX4 ad s4_ticks s4_firstBeganWith s4_secondBefore s4_thirdBefore s4_thirdTwoBefore, oX5 ad s5_kind s5_sums, oX10 ad , aJ cy (ad 29) 4 a4_sums] sz) := by
  refine k_ofW (cc := cX10_sum) (maxL := 2) (ret := (some .long)) (fun A => va_Ql (fun (r : Int64) (u : Unit) => K r) (fun u t => we D ((fun u : Unit => [oX4 ad s4_ticks s4_firstBeganWith s4_secondBefore s4_thirdBefore s4_thirdTwoBefore, oX5 ad s5_kind s5_sums, oX10 ad , aJ cy (ad 29) 4 a4_sums]) u) A t) A) (by decide) rfl (Nat.le_of_ble_eq_true rfl) ?_
  intro p e s m below meth c A ls H locs hx hb hml hr hts hown hlocks hname hK hN hA hP hD hS hl
  have hl : lv_has ls 2 [(0, .ref (ad 10)), (1, .int x1)] := hl
  generalize hQ : MQ below _ _ s _ _ A = Q
  unfold v_X10_sum at hv
  refine lv_aload_n hx hb dX10_sum_0 rfl (lv_at hl 0 rfl) ?_
  refine va_get (D := D) (ci := 10) (v := .ref (ad 4)) (C := RX10) (T := TX10) (N := 6) hx hb hts in_X10_sum_10 hown hK hP 2 rfl rfl 1 (by decide) (hts _ lk_X10_sum_21) (fun _ h9 => h9) rfl dX10_sum_1 ?_
  refine va_getN (D := D) (ci := 4) (v := .ref (ad 5)) (C := RX4) (T := TX4) (N := 9) hx hb hts in_X10_sum_4 hown hK hP 0 rfl rfl 0 (by decide) (nz_use hN nzf_X10_74) (fun _ h9 => h9) rfl dX10_sum_4 ?_
  refine lv_iload_n hx hb dX10_sum_7 rfl (lv_at hl 1 rfl) ?_
  have hPc := hP.sub (ws' := [oX5 ad s5_kind s5_sums]) [1] rfl
  have hDc := hD.sub (ws' := [oX5 ad s5_kind s5_sums]) [1] (by decide) rfl
  refine k_cali (wc := [oX5 ad s5_kind s5_sums]) (wr := [oX4 ad s4_ticks s4_firstBeganWith s4_secondBefore s4_thirdBefore s4_thirdTwoBefore, oX10 ad , aJ cy (ad 29) 4 a4_sums]) (va_runV (As := [.int x1]) (rest := []) ⟨hx, hb, hml, hown, hts⟩ (m_X5_hasSum l D cy ad s5_kind s5_sums x1 H.size hv) (cwV 1 hts gX10_sum_X5_hasSum rfl rfl rfl (by decide +kernel) ⟨Nat.le_of_ble_eq_true rfl, Nat.le_of_ble_eq_true rfl⟩) ⟨wd_blind, va_recv hK hPc (ci := 5) (q0 := 0) rfl rfl, wd_ok hPc hK hDc hN⟩ rfl rfl hl.1 rfl (lv_room (Nat.le_of_ble_eq_true rfl)) dX10_sum_8 ⟨Nat.le_of_ble_eq_true rfl, Nat.le_of_ble_eq_true rfl⟩) hP hD hS hA [1] [0, 2, 3] rfl rfl (by decide) (by decide) (fun r1 u H locs hv hP hD hS => ?_)
  obtain ⟨hz_r1, hv⟩ := hv
  have hP : va_P D vwCl [oX4 ad s4_ticks s4_firstBeganWith s4_secondBefore s4_thirdBefore s4_thirdTwoBefore, oX5 ad s5_kind s5_sums, oX10 ad , aJ cy (ad 29) 4 a4_sums] H := hP.sub [0, 3, 1, 2] rfl
  have hD : va_D A [oX4 ad s4_ticks s4_firstBeganWith s4_secondBefore s4_thirdBefore s4_thirdTwoBefore, oX5 ad s5_kind s5_sums, oX10 ad , aJ cy (ad 29) 4 a4_sums] := hD.sub [0, 3, 1, 2] (by decide) rfl
  refine lv_if_eq (tgt := 26) hx hb dX10_sum_11 (by decide) (fun c_11 => ?_) (fun c_11 => ?_)
  · have hv := hv.1 c_11
    refine lv_lconst (v := 0) hx hb dX10_sum_26 (by decide) ?_
    rw [← hQ]
    exact k_lret hx hb hr hlocks hS () hP hD hv dX10_sum_27
  · have hv := hv.2 c_11
    refine lv_aload_n hx hb dX10_sum_14 rfl (lv_at hl 0 rfl) ?_
    refine va_get (D := D) (ci := 10) (v := .ref (ad 4)) (C := RX10) (T := TX10) (N := 6) hx hb hts in_X10_sum_10 hown hK hP 2 rfl rfl 1 (by decide) (hts _ lk_X10_sum_21) (fun _ h9 => h9) rfl dX10_sum_15 ?_
    refine va_getN (D := D) (ci := 4) (v := .ref (ad 29)) (C := RX4) (T := TX4) (N := 9) hx hb hts in_X10_sum_4 hown hK hP 0 rfl rfl 3 (by decide) (nz_use hN nzf_X10_129) (fun _ h9 => h9) rfl dX10_sum_18 ?_
    refine lv_iload_n hx hb dX10_sum_21 rfl (lv_at hl 1 rfl) ?_
    refine va_lald hx hb hK hP 3 1 rfl rfl hv.1 dX10_sum_22 ?_
    refine lv_topl (fun g2 h_g2 => ?_)
    have hv := hv.2 g2 h_g2
    refine lv_goto (tgt := 27) hx hb dX10_sum_23 (by decide) ?_
    rw [← hQ]
    exact k_lret hx hb hr hlocks hS () hP hD hv dX10_sum_27
theorem lk_X10_was_21 : Cond.fieldLink RX10 21 "CoarseSteps" "loop" "LCoarseSteps$Loop;" ∈ wsX10_was := by decide +kernel
theorem in_X10_was_10 : ∀ w ∈ wsX100, w ∈ wsX10_was := by decide +kernel
theorem in_X10_was_4 : ∀ w ∈ wsX40, w ∈ wsX10_was := by decide +kernel
theorem lk_X10_was_128 : Cond.constant RX10 128 (-2147483648) ∈ wsX10_was := by decide +kernel
abbrev rm_X10_was : Room := { frames := 1, cells := 0, slots := 0, locals := 21 }
set_option maxHeartbeats 4000000 in
set_option maxRecDepth 100000 in
theorem m_X10_was (l : Launch) (D : va_G) (cy : ClassId × ClassId × ClassId) (ad : Nat → Nat) (s3_next : Int32) (s3_kept : Int32) (s4_ticks : Int32) (s4_firstBeganWith : Int64) (s4_secondBefore : Int32) (s4_thirdBefore : Int32) (s4_thirdTwoBefore : Int32) (a3_wishes : Nat → Int32) (a3_givens : Nat → Int32) (x1 : Int32) (x2 : Int32) (sz : Nat) {K : Int32 → Prop} (hv : v_X10_was s3_next s3_kept a3_wishes a3_givens x1 x2 K) : Met l yX10_was wsX10_was rm_X10_was (va_Pc [.ref (ad 10), .int x1, .int x2] (wd D cy [oX3 ad s3_next s3_kept, oX4 ad s4_ticks s4_firstBeganWith s4_secondBefore s4_thirdBefore s4_thirdTwoBefore, oX10 ad , aI cy (ad 25) 256 a3_wishes, aI cy (ad 26) 256 a3_givens] sz)) (va_Qi (fun (r : Int32) (u : Unit) => K r) (fun u t => we D ((fun u : Unit => [oX3 ad s3_next s3_kept, oX4 ad s4_ticks s4_firstBeganWith s4_secondBefore s4_thirdBefore s4_thirdTwoBefore, oX10 ad , aI cy (ad 25) 256 a3_wishes, aI cy (ad 26) 256 a3_givens]) u) (va_A [oX3 ad s3_next s3_kept, oX4 ad s4_ticks s4_firstBeganWith s4_secondBefore s4_thirdBefore s4_thirdTwoBefore, oX10 ad , aI cy (ad 25) 256 a3_wishes, aI cy (ad 26) 256 a3_givens] sz) t) (va_A [oX3 ad s3_next s3_kept, oX4 ad s4_ticks s4_firstBeganWith s4_secondBefore s4_thirdBefore s4_thirdTwoBefore, oX10 ad , aI cy (ad 25) 256 a3_wishes, aI cy (ad 26) 256 a3_givens] sz)) 0 0 (va_A [oX3 ad s3_next s3_kept, oX4 ad s4_ticks s4_firstBeganWith s4_secondBefore s4_thirdBefore s4_thirdTwoBefore, oX10 ad , aI cy (ad 25) 256 a3_wishes, aI cy (ad 26) 256 a3_givens] sz) := by
  refine k_ofW (cc := cX10_was) (maxL := 3) (ret := (some .int)) (fun A => va_Qi (fun (r : Int32) (u : Unit) => K r) (fun u t => we D ((fun u : Unit => [oX3 ad s3_next s3_kept, oX4 ad s4_ticks s4_firstBeganWith s4_secondBefore s4_thirdBefore s4_thirdTwoBefore, oX10 ad , aI cy (ad 25) 256 a3_wishes, aI cy (ad 26) 256 a3_givens]) u) A t) A) (by decide) rfl (Nat.le_of_ble_eq_true rfl) ?_
  intro p e s m below meth c A ls H locs hx hb hml hr hts hown hlocks hname hK hN hA hP hD hS hl
  have hl : lv_has ls 3 [(0, .ref (ad 10)), (1, .int x1), (2, .int x2)] := hl
  generalize hQ : MQ below _ _ s _ _ A = Q
  unfold v_X10_was at hv
  refine lv_aload_n hx hb dX10_was_0 rfl (lv_at hl 0 rfl) ?_
  refine va_get (D := D) (ci := 10) (v := .ref (ad 4)) (C := RX10) (T := TX10) (N := 6) hx hb hts in_X10_was_10 hown hK hP 2 rfl rfl 1 (by decide) (hts _ lk_X10_was_21) (fun _ h9 => h9) rfl dX10_was_1 ?_
  refine va_getN (D := D) (ci := 4) (v := .ref (ad 3)) (C := RX4) (T := TX4) (N := 9) hx hb hts in_X10_was_4 hown hK hP 1 rfl rfl 2 (by decide) (nz_use hN nzf_X10_132) (fun _ h9 => h9) rfl dX10_was_4 ?_
  refine lv_iload_n hx hb dX10_was_7 rfl (lv_at hl 1 rfl) ?_
  have hPc := hP.sub (ws' := [oX3 ad s3_next s3_kept]) [0] rfl
  have hDc := hD.sub (ws' := [oX3 ad s3_next s3_kept]) [0] (by decide) rfl
  refine k_cali (wc := [oX3 ad s3_next s3_kept]) (wr := [oX4 ad s4_ticks s4_firstBeganWith s4_secondBefore s4_thirdBefore s4_thirdTwoBefore, oX10 ad , aI cy (ad 25) 256 a3_wishes, aI cy (ad 26) 256 a3_givens]) (va_runV (As := [.int x1]) (rest := []) ⟨hx, hb, hml, hown, hts⟩ (m_X3_holds l D cy ad s3_next s3_kept x1 H.size hv) (cwV 1 hts gX10_was_X3_holds rfl rfl rfl (by decide +kernel) ⟨Nat.le_of_ble_eq_true rfl, Nat.le_of_ble_eq_true rfl⟩) ⟨wd_blind, va_recv hK hPc (ci := 3) (q0 := 0) rfl rfl, wd_ok hPc hK hDc hN⟩ rfl rfl hl.1 rfl (lv_room (Nat.le_of_ble_eq_true rfl)) dX10_was_8 ⟨Nat.le_of_ble_eq_true rfl, Nat.le_of_ble_eq_true rfl⟩) hP hD hS hA [0] [1, 2, 3, 4] rfl rfl (by decide) (by decide) (fun r1 u H locs hv hP hD hS => ?_)
  obtain ⟨hz_r1, hv⟩ := hv
  have hP : va_P D vwCl [oX3 ad s3_next s3_kept, oX4 ad s4_ticks s4_firstBeganWith s4_secondBefore s4_thirdBefore s4_thirdTwoBefore, oX10 ad , aI cy (ad 25) 256 a3_wishes, aI cy (ad 26) 256 a3_givens] H := hP.sub [4, 0, 1, 2, 3] rfl
  have hD : va_D A [oX3 ad s3_next s3_kept, oX4 ad s4_ticks s4_firstBeganWith s4_secondBefore s4_thirdBefore s4_thirdTwoBefore, oX10 ad , aI cy (ad 25) 256 a3_wishes, aI cy (ad 26) 256 a3_givens] := hD.sub [4, 0, 1, 2, 3] (by decide) rfl
  refine lv_if_ne (tgt := 17) hx hb dX10_was_11 (by decide) (fun c_11 => ?_) (fun c_11 => ?_)
  · have hv := hv.1 c_11
    refine lv_iload_n hx hb dX10_was_17 rfl (lv_at hl 2 rfl) ?_
    by_cases c_18_0 : x2 = 0
    · refine lv_lookup (tgt := 44) (off := 26) hx hb dX10_was_18 (by decide) (by rw [c_18_0] <;> rfl) (by decide) ?_
      have hv := hv.1 c_18_0
      refine lv_aload_n hx hb dX10_was_44 rfl (lv_at hl 0 rfl) ?_
      refine va_get (D := D) (ci := 10) (v := .ref (ad 4)) (C := RX10) (T := TX10) (N := 6) hx hb hts in_X10_was_10 hown hK hP 2 rfl rfl 1 (by decide) (hts _ lk_X10_was_21) (fun _ h9 => h9) rfl dX10_was_45 ?_
      refine va_getN (D := D) (ci := 4) (v := .ref (ad 3)) (C := RX4) (T := TX4) (N := 9) hx hb hts in_X10_was_4 hown hK hP 1 rfl rfl 2 (by decide) (nz_use hN nzf_X10_132) (fun _ h9 => h9) rfl dX10_was_48 ?_
      refine lv_iload_n hx hb dX10_was_51 rfl (lv_at hl 1 rfl) ?_
      have hPc := hP.sub (ws' := [oX3 ad s3_next s3_kept, aI cy (ad 26) 256 a3_givens]) [0, 4] rfl
      have hDc := hD.sub (ws' := [oX3 ad s3_next s3_kept, aI cy (ad 26) 256 a3_givens]) [0, 4] (by decide) rfl
      refine k_cali (wc := [oX3 ad s3_next s3_kept, aI cy (ad 26) 256 a3_givens]) (wr := [oX4 ad s4_ticks s4_firstBeganWith s4_secondBefore s4_thirdBefore s4_thirdTwoBefore, oX10 ad , aI cy (ad 25) 256 a3_wishes]) (va_runV (As := [.int x1]) (rest := []) ⟨hx, hb, hml, hown, hts⟩ (m_X3_givenAt l D cy ad s3_next s3_kept a3_givens x1 H.size hv) (cwV 1 hts gX10_was_X3_givenAt rfl rfl rfl (by decide +kernel) ⟨Nat.le_of_ble_eq_true rfl, Nat.le_of_ble_eq_true rfl⟩) ⟨wd_blind, va_recv hK hPc (ci := 3) (q0 := 0) rfl rfl, wd_ok hPc hK hDc hN⟩ rfl rfl hl.1 rfl (lv_room (Nat.le_of_ble_eq_true rfl)) dX10_was_52 ⟨Nat.le_of_ble_eq_true rfl, Nat.le_of_ble_eq_true rfl⟩) hP hD hS hA [0, 4] [1, 2, 3] rfl rfl (by decide) (by decide) (fun r2 u H locs hv hP hD hS => ?_)
      have hP : va_P D vwCl [oX3 ad s3_next s3_kept, oX4 ad s4_ticks s4_firstBeganWith s4_secondBefore s4_thirdBefore s4_thirdTwoBefore, oX10 ad , aI cy (ad 25) 256 a3_wishes, aI cy (ad 26) 256 a3_givens] H := hP.sub [3, 0, 1, 2, 4] rfl
      have hD : va_D A [oX3 ad s3_next s3_kept, oX4 ad s4_ticks s4_firstBeganWith s4_secondBefore s4_thirdBefore s4_thirdTwoBefore, oX10 ad , aI cy (ad 25) 256 a3_wishes, aI cy (ad 26) 256 a3_givens] := hD.sub [3, 0, 1, 2, 4] (by decide) rfl
      rw [← hQ]
      exact k_iret hx hb hr hlocks hS () hP hD hv dX10_was_55
    have hv := hv.2
    by_cases c_18_1 : x2 = 1
    · refine lv_lookup (tgt := 56) (off := 38) hx hb dX10_was_18 (by decide) (by rw [c_18_1] <;> rfl) (by decide) ?_
      have hv := hv.1 c_18_1
      refine lv_aload_n hx hb dX10_was_56 rfl (lv_at hl 0 rfl) ?_
      refine va_get (D := D) (ci := 10) (v := .ref (ad 4)) (C := RX10) (T := TX10) (N := 6) hx hb hts in_X10_was_10 hown hK hP 2 rfl rfl 1 (by decide) (hts _ lk_X10_was_21) (fun _ h9 => h9) rfl dX10_was_57 ?_
      refine va_getN (D := D) (ci := 4) (v := .ref (ad 3)) (C := RX4) (T := TX4) (N := 9) hx hb hts in_X10_was_4 hown hK hP 1 rfl rfl 2 (by decide) (nz_use hN nzf_X10_132) (fun _ h9 => h9) rfl dX10_was_60 ?_
      refine lv_iload_n hx hb dX10_was_63 rfl (lv_at hl 1 rfl) ?_
      have hPc := hP.sub (ws' := [oX3 ad s3_next s3_kept, aI cy (ad 25) 256 a3_wishes]) [0, 3] rfl
      have hDc := hD.sub (ws' := [oX3 ad s3_next s3_kept, aI cy (ad 25) 256 a3_wishes]) [0, 3] (by decide) rfl
      refine k_cali (wc := [oX3 ad s3_next s3_kept, aI cy (ad 25) 256 a3_wishes]) (wr := [oX4 ad s4_ticks s4_firstBeganWith s4_secondBefore s4_thirdBefore s4_thirdTwoBefore, oX10 ad , aI cy (ad 26) 256 a3_givens]) (va_runV (As := [.int x1]) (rest := []) ⟨hx, hb, hml, hown, hts⟩ (m_X3_wishAt l D cy ad s3_next s3_kept a3_wishes x1 H.size hv) (cwV 1 hts gX10_was_X3_wishAt rfl rfl rfl (by decide +kernel) ⟨Nat.le_of_ble_eq_true rfl, Nat.le_of_ble_eq_true rfl⟩) ⟨wd_blind, va_recv hK hPc (ci := 3) (q0 := 0) rfl rfl, wd_ok hPc hK hDc hN⟩ rfl rfl hl.1 rfl (lv_room (Nat.le_of_ble_eq_true rfl)) dX10_was_64 ⟨Nat.le_of_ble_eq_true rfl, Nat.le_of_ble_eq_true rfl⟩) hP hD hS hA [0, 3] [1, 2, 4] rfl rfl (by decide) (by decide) (fun r3 u H locs hv hP hD hS => ?_)
      have hP : va_P D vwCl [oX3 ad s3_next s3_kept, oX4 ad s4_ticks s4_firstBeganWith s4_secondBefore s4_thirdBefore s4_thirdTwoBefore, oX10 ad , aI cy (ad 25) 256 a3_wishes, aI cy (ad 26) 256 a3_givens] H := hP.sub [3, 0, 1, 4, 2] rfl
      have hD : va_D A [oX3 ad s3_next s3_kept, oX4 ad s4_ticks s4_firstBeganWith s4_secondBefore s4_thirdBefore s4_thirdTwoBefore, oX10 ad , aI cy (ad 25) 256 a3_wishes, aI cy (ad 26) 256 a3_givens] := hD.sub [3, 0, 1, 4, 2] (by decide) rfl
      rw [← hQ]
      exact k_iret hx hb hr hlocks hS () hP hD hv dX10_was_67
    have hv := hv.2
    refine lv_lookup (tgt := 68) (off := 50) hx hb dX10_was_18 (by decide) ((lv_osw c_18_0 (by decide)).trans ((lv_osw c_18_1 (by decide)).trans rfl)) (by decide) ?_
    have hv := hv c_18_0 c_18_1
    refine lv_ldc hx hb hown (hts _ lk_X10_was_128) dX10_was_68 ?_
    rw [← hQ]
    exact k_iret hx hb hr hlocks hS () hP hD hv dX10_was_70
  · have hv := hv.2 c_11
    refine lv_ldc hx hb hown (hts _ lk_X10_was_128) dX10_was_14 ?_
    rw [← hQ]
    exact k_iret hx hb hr hlocks hS () hP hD hv dX10_was_16
theorem lk_X10_behind_21 : Cond.fieldLink RX10 21 "CoarseSteps" "loop" "LCoarseSteps$Loop;" ∈ wsX10_behind := by decide +kernel
theorem in_X10_behind_10 : ∀ w ∈ wsX100, w ∈ wsX10_behind := by decide +kernel
theorem in_X10_behind_4 : ∀ w ∈ wsX40, w ∈ wsX10_behind := by decide +kernel
abbrev rm_X10_behind : Room := { frames := 1, cells := 0, slots := 0, locals := 21 }
set_option maxHeartbeats 4000000 in
set_option maxRecDepth 100000 in
theorem m_X10_behind (l : Launch) (D : va_G) (cy : ClassId × ClassId × ClassId) (ad : Nat → Nat) (s3_next : Int32) (s3_kept : Int32) (s4_ticks : Int32) (s4_firstBeganWith : Int64) (s4_secondBefore : Int32) (s4_thirdBefore : Int32) (s4_thirdTwoBefore : Int32) (a3_sums : Nat → Int64) (x1 : Int32) (sz : Nat) {K : Int64 → Prop} (hv : v_X10_behind s3_next s3_kept a3_sums x1 K) : Met l yX10_behind wsX10_behind rm_X10_behind (va_Pc [.ref (ad 10), .int x1] (wd D cy [oX3 ad s3_next s3_kept, oX4 ad s4_ticks s4_firstBeganWith s4_secondBefore s4_thirdBefore s4_thirdTwoBefore, oX10 ad , aJ cy (ad 27) 256 a3_sums] sz)) (va_Ql (fun (r : Int64) (u : Unit) => K r) (fun u t => we D ((fun u : Unit => [oX3 ad s3_next s3_kept, oX4 ad s4_ticks s4_firstBeganWith s4_secondBefore s4_thirdBefore s4_thirdTwoBefore, oX10 ad , aJ cy (ad 27) 256 a3_sums]) u) (va_A [oX3 ad s3_next s3_kept, oX4 ad s4_ticks s4_firstBeganWith s4_secondBefore s4_thirdBefore s4_thirdTwoBefore, oX10 ad , aJ cy (ad 27) 256 a3_sums] sz) t) (va_A [oX3 ad s3_next s3_kept, oX4 ad s4_ticks s4_firstBeganWith s4_secondBefore s4_thirdBefore s4_thirdTwoBefore, oX10 ad , aJ cy (ad 27) 256 a3_sums] sz)) 0 0 (va_A [oX3 ad s3_next s3_kept, oX4 ad s4_ticks s4_firstBeganWith s4_secondBefore s4_thirdBefore s4_thirdTwoBefore, oX10 ad , aJ cy (ad 27) 256 a3_sums] sz) := by
  refine k_ofW (cc := cX10_behind) (maxL := 2) (ret := (some .long)) (fun A => va_Ql (fun (r : Int64) (u : Unit) => K r) (fun u t => we D ((fun u : Unit => [oX3 ad s3_next s3_kept, oX4 ad s4_ticks s4_firstBeganWith s4_secondBefore s4_thirdBefore s4_thirdTwoBefore, oX10 ad , aJ cy (ad 27) 256 a3_sums]) u) A t) A) (by decide) rfl (Nat.le_of_ble_eq_true rfl) ?_
  intro p e s m below meth c A ls H locs hx hb hml hr hts hown hlocks hname hK hN hA hP hD hS hl
  have hl : lv_has ls 2 [(0, .ref (ad 10)), (1, .int x1)] := hl
  generalize hQ : MQ below _ _ s _ _ A = Q
  unfold v_X10_behind at hv
  refine lv_aload_n hx hb dX10_behind_0 rfl (lv_at hl 0 rfl) ?_
  refine va_get (D := D) (ci := 10) (v := .ref (ad 4)) (C := RX10) (T := TX10) (N := 6) hx hb hts in_X10_behind_10 hown hK hP 2 rfl rfl 1 (by decide) (hts _ lk_X10_behind_21) (fun _ h9 => h9) rfl dX10_behind_1 ?_
  refine va_getN (D := D) (ci := 4) (v := .ref (ad 3)) (C := RX4) (T := TX4) (N := 9) hx hb hts in_X10_behind_4 hown hK hP 1 rfl rfl 2 (by decide) (nz_use hN nzf_X10_132) (fun _ h9 => h9) rfl dX10_behind_4 ?_
  refine lv_iload_n hx hb dX10_behind_7 rfl (lv_at hl 1 rfl) ?_
  have hPc := hP.sub (ws' := [oX3 ad s3_next s3_kept]) [0] rfl
  have hDc := hD.sub (ws' := [oX3 ad s3_next s3_kept]) [0] (by decide) rfl
  refine k_cali (wc := [oX3 ad s3_next s3_kept]) (wr := [oX4 ad s4_ticks s4_firstBeganWith s4_secondBefore s4_thirdBefore s4_thirdTwoBefore, oX10 ad , aJ cy (ad 27) 256 a3_sums]) (va_runV (As := [.int x1]) (rest := []) ⟨hx, hb, hml, hown, hts⟩ (m_X3_holds l D cy ad s3_next s3_kept x1 H.size hv) (cwV 1 hts gX10_behind_X3_holds rfl rfl rfl (by decide +kernel) ⟨Nat.le_of_ble_eq_true rfl, Nat.le_of_ble_eq_true rfl⟩) ⟨wd_blind, va_recv hK hPc (ci := 3) (q0 := 0) rfl rfl, wd_ok hPc hK hDc hN⟩ rfl rfl hl.1 rfl (lv_room (Nat.le_of_ble_eq_true rfl)) dX10_behind_8 ⟨Nat.le_of_ble_eq_true rfl, Nat.le_of_ble_eq_true rfl⟩) hP hD hS hA [0] [1, 2, 3] rfl rfl (by decide) (by decide) (fun r1 u H locs hv hP hD hS => ?_)
  obtain ⟨hz_r1, hv⟩ := hv
  have hP : va_P D vwCl [oX3 ad s3_next s3_kept, oX4 ad s4_ticks s4_firstBeganWith s4_secondBefore s4_thirdBefore s4_thirdTwoBefore, oX10 ad , aJ cy (ad 27) 256 a3_sums] H := hP.sub [3, 0, 1, 2] rfl
  have hD : va_D A [oX3 ad s3_next s3_kept, oX4 ad s4_ticks s4_firstBeganWith s4_secondBefore s4_thirdBefore s4_thirdTwoBefore, oX10 ad , aJ cy (ad 27) 256 a3_sums] := hD.sub [3, 0, 1, 2] (by decide) rfl
  refine lv_if_eq (tgt := 28) hx hb dX10_behind_11 (by decide) (fun c_11 => ?_) (fun c_11 => ?_)
  · have hv := hv.1 c_11
    refine lv_lconst (v := 0) hx hb dX10_behind_28 (by decide) ?_
    rw [← hQ]
    exact k_lret hx hb hr hlocks hS () hP hD hv dX10_behind_29
  · have hv := hv.2 c_11
    refine lv_aload_n hx hb dX10_behind_14 rfl (lv_at hl 0 rfl) ?_
    refine va_get (D := D) (ci := 10) (v := .ref (ad 4)) (C := RX10) (T := TX10) (N := 6) hx hb hts in_X10_behind_10 hown hK hP 2 rfl rfl 1 (by decide) (hts _ lk_X10_behind_21) (fun _ h9 => h9) rfl dX10_behind_15 ?_
    refine va_getN (D := D) (ci := 4) (v := .ref (ad 3)) (C := RX4) (T := TX4) (N := 9) hx hb hts in_X10_behind_4 hown hK hP 1 rfl rfl 2 (by decide) (nz_use hN nzf_X10_132) (fun _ h9 => h9) rfl dX10_behind_18 ?_
    refine lv_iload_n hx hb dX10_behind_21 rfl (lv_at hl 1 rfl) ?_
    have hPc := hP.sub (ws' := [oX3 ad s3_next s3_kept, aJ cy (ad 27) 256 a3_sums]) [0, 3] rfl
    have hDc := hD.sub (ws' := [oX3 ad s3_next s3_kept, aJ cy (ad 27) 256 a3_sums]) [0, 3] (by decide) rfl
    refine k_call (wc := [oX3 ad s3_next s3_kept, aJ cy (ad 27) 256 a3_sums]) (wr := [oX4 ad s4_ticks s4_firstBeganWith s4_secondBefore s4_thirdBefore s4_thirdTwoBefore, oX10 ad ]) (va_runV (As := [.int x1]) (rest := []) ⟨hx, hb, hml, hown, hts⟩ (m_X3_sumAt l D cy ad s3_next s3_kept a3_sums x1 H.size hv) (cwV 1 hts gX10_behind_X3_sumAt rfl rfl rfl (by decide +kernel) ⟨Nat.le_of_ble_eq_true rfl, Nat.le_of_ble_eq_true rfl⟩) ⟨wd_blind, va_recv hK hPc (ci := 3) (q0 := 0) rfl rfl, wd_ok hPc hK hDc hN⟩ rfl rfl hl.1 rfl (lv_room (Nat.le_of_ble_eq_true rfl)) dX10_behind_22 ⟨Nat.le_of_ble_eq_true rfl, Nat.le_of_ble_eq_true rfl⟩) hP hD hS hA [0, 3] [1, 2] rfl rfl (by decide) (by decide) (fun r2 u H locs hv hP hD hS => ?_)
    have hP : va_P D vwCl [oX3 ad s3_next s3_kept, oX4 ad s4_ticks s4_firstBeganWith s4_secondBefore s4_thirdBefore s4_thirdTwoBefore, oX10 ad , aJ cy (ad 27) 256 a3_sums] H := hP.sub [2, 0, 1, 3] rfl
    have hD : va_D A [oX3 ad s3_next s3_kept, oX4 ad s4_ticks s4_firstBeganWith s4_secondBefore s4_thirdBefore s4_thirdTwoBefore, oX10 ad , aJ cy (ad 27) 256 a3_sums] := hD.sub [2, 0, 1, 3] (by decide) rfl
    refine lv_goto (tgt := 29) hx hb dX10_behind_25 (by decide) ?_
    rw [← hQ]
    exact k_lret hx hb hr hlocks hS () hP hD hv dX10_behind_29
theorem lk_X10_missed_21 : Cond.fieldLink RX10 21 "CoarseSteps" "loop" "LCoarseSteps$Loop;" ∈ wsX10_missed := by decide +kernel
theorem in_X10_missed_10 : ∀ w ∈ wsX100, w ∈ wsX10_missed := by decide +kernel
theorem in_X10_missed_4 : ∀ w ∈ wsX40, w ∈ wsX10_missed := by decide +kernel
theorem lk_X10_missed_10 : Cond.fieldLink RX10 10 "CoarseSteps" "scale" "LCoarseSteps$Scale;" ∈ wsX10_missed := by decide +kernel
theorem in_X10_missed_7 : ∀ w ∈ wsX70, w ∈ wsX10_missed := by decide +kernel
abbrev rm_X10_missed : Room := { frames := 2, cells := 0, slots := 0, locals := 46 }
set_option maxHeartbeats 4000000 in
set_option maxRecDepth 100000 in
theorem m_X10_missed (l : Launch) (D : va_G) (cy : ClassId × ClassId × ClassId) (ad : Nat → Nat) (s3_next : Int32) (s3_kept : Int32) (s4_ticks : Int32) (s4_firstBeganWith : Int64) (s4_secondBefore : Int32) (s4_thirdBefore : Int32) (s4_thirdTwoBefore : Int32) (s7_over : Int32) (s7_count : Int32) (a3_wishes : Nat → Int32) (a3_givens : Nat → Int32) (x1 : Int32) (sz : Nat) {K : Int64 → Prop} (hv : v_X10_missed s3_next s3_kept s7_over a3_wishes a3_givens x1 K) : Met l yX10_missed wsX10_missed rm_X10_missed (va_Pc [.ref (ad 10), .int x1] (wd D cy [oX3 ad s3_next s3_kept, oX4 ad s4_ticks s4_firstBeganWith s4_secondBefore s4_thirdBefore s4_thirdTwoBefore, oX7 ad s7_over s7_count, oX10 ad , aI cy (ad 25) 256 a3_wishes, aI cy (ad 26) 256 a3_givens] sz)) (va_Ql (fun (r : Int64) (u : Unit) => K r) (fun u t => we D ((fun u : Unit => [oX3 ad s3_next s3_kept, oX4 ad s4_ticks s4_firstBeganWith s4_secondBefore s4_thirdBefore s4_thirdTwoBefore, oX7 ad s7_over s7_count, oX10 ad , aI cy (ad 25) 256 a3_wishes, aI cy (ad 26) 256 a3_givens]) u) (va_A [oX3 ad s3_next s3_kept, oX4 ad s4_ticks s4_firstBeganWith s4_secondBefore s4_thirdBefore s4_thirdTwoBefore, oX7 ad s7_over s7_count, oX10 ad , aI cy (ad 25) 256 a3_wishes, aI cy (ad 26) 256 a3_givens] sz) t) (va_A [oX3 ad s3_next s3_kept, oX4 ad s4_ticks s4_firstBeganWith s4_secondBefore s4_thirdBefore s4_thirdTwoBefore, oX7 ad s7_over s7_count, oX10 ad , aI cy (ad 25) 256 a3_wishes, aI cy (ad 26) 256 a3_givens] sz)) 0 0 (va_A [oX3 ad s3_next s3_kept, oX4 ad s4_ticks s4_firstBeganWith s4_secondBefore s4_thirdBefore s4_thirdTwoBefore, oX7 ad s7_over s7_count, oX10 ad , aI cy (ad 25) 256 a3_wishes, aI cy (ad 26) 256 a3_givens] sz) := by
  refine k_ofW (cc := cX10_missed) (maxL := 2) (ret := (some .long)) (fun A => va_Ql (fun (r : Int64) (u : Unit) => K r) (fun u t => we D ((fun u : Unit => [oX3 ad s3_next s3_kept, oX4 ad s4_ticks s4_firstBeganWith s4_secondBefore s4_thirdBefore s4_thirdTwoBefore, oX7 ad s7_over s7_count, oX10 ad , aI cy (ad 25) 256 a3_wishes, aI cy (ad 26) 256 a3_givens]) u) A t) A) (by decide) rfl (Nat.le_of_ble_eq_true rfl) ?_
  intro p e s m below meth c A ls H locs hx hb hml hr hts hown hlocks hname hK hN hA hP hD hS hl
  have hl : lv_has ls 2 [(0, .ref (ad 10)), (1, .int x1)] := hl
  generalize hQ : MQ below _ _ s _ _ A = Q
  unfold v_X10_missed at hv
  refine lv_aload_n hx hb dX10_missed_0 rfl (lv_at hl 0 rfl) ?_
  refine va_get (D := D) (ci := 10) (v := .ref (ad 4)) (C := RX10) (T := TX10) (N := 6) hx hb hts in_X10_missed_10 hown hK hP 3 rfl rfl 1 (by decide) (hts _ lk_X10_missed_21) (fun _ h9 => h9) rfl dX10_missed_1 ?_
  refine va_getN (D := D) (ci := 4) (v := .ref (ad 3)) (C := RX4) (T := TX4) (N := 9) hx hb hts in_X10_missed_4 hown hK hP 1 rfl rfl 2 (by decide) (nz_use hN nzf_X10_132) (fun _ h9 => h9) rfl dX10_missed_4 ?_
  refine lv_iload_n hx hb dX10_missed_7 rfl (lv_at hl 1 rfl) ?_
  have hPc := hP.sub (ws' := [oX3 ad s3_next s3_kept]) [0] rfl
  have hDc := hD.sub (ws' := [oX3 ad s3_next s3_kept]) [0] (by decide) rfl
  refine k_cali (wc := [oX3 ad s3_next s3_kept]) (wr := [oX4 ad s4_ticks s4_firstBeganWith s4_secondBefore s4_thirdBefore s4_thirdTwoBefore, oX7 ad s7_over s7_count, oX10 ad , aI cy (ad 25) 256 a3_wishes, aI cy (ad 26) 256 a3_givens]) (va_runV (As := [.int x1]) (rest := []) ⟨hx, hb, hml, hown, hts⟩ (m_X3_holdsLast l D cy ad s3_next s3_kept x1 H.size hv) (cwV 1 hts gX10_missed_X3_holdsLast rfl rfl rfl (by decide +kernel) ⟨Nat.le_of_ble_eq_true rfl, Nat.le_of_ble_eq_true rfl⟩) ⟨wd_blind, va_recv hK hPc (ci := 3) (q0 := 0) rfl rfl, wd_ok hPc hK hDc hN⟩ rfl rfl hl.1 rfl (lv_room (Nat.le_of_ble_eq_true rfl)) dX10_missed_8 ⟨Nat.le_of_ble_eq_true rfl, Nat.le_of_ble_eq_true rfl⟩) hP hD hS hA [0] [1, 2, 3, 4, 5] rfl rfl (by decide) (by decide) (fun r1 u H locs hv hP hD hS => ?_)
  obtain ⟨hz_r1, hv⟩ := hv
  have hP : va_P D vwCl [oX3 ad s3_next s3_kept, oX4 ad s4_ticks s4_firstBeganWith s4_secondBefore s4_thirdBefore s4_thirdTwoBefore, oX7 ad s7_over s7_count, oX10 ad , aI cy (ad 25) 256 a3_wishes, aI cy (ad 26) 256 a3_givens] H := hP.sub [5, 0, 1, 2, 3, 4] rfl
  have hD : va_D A [oX3 ad s3_next s3_kept, oX4 ad s4_ticks s4_firstBeganWith s4_secondBefore s4_thirdBefore s4_thirdTwoBefore, oX7 ad s7_over s7_count, oX10 ad , aI cy (ad 25) 256 a3_wishes, aI cy (ad 26) 256 a3_givens] := hD.sub [5, 0, 1, 2, 3, 4] (by decide) rfl
  refine lv_if_eq (tgt := 35) hx hb dX10_missed_11 (by decide) (fun c_11 => ?_) (fun c_11 => ?_)
  · have hv := hv.1 c_11
    refine lv_lconst (v := 0) hx hb dX10_missed_35 (by decide) ?_
    rw [← hQ]
    exact k_lret hx hb hr hlocks hS () hP hD hv dX10_missed_36
  · have hv := hv.2 c_11
    refine lv_aload_n hx hb dX10_missed_14 rfl (lv_at hl 0 rfl) ?_
    refine va_get (D := D) (ci := 10) (v := .ref (ad 4)) (C := RX10) (T := TX10) (N := 6) hx hb hts in_X10_missed_10 hown hK hP 3 rfl rfl 1 (by decide) (hts _ lk_X10_missed_21) (fun _ h9 => h9) rfl dX10_missed_15 ?_
    refine va_getN (D := D) (ci := 4) (v := .ref (ad 3)) (C := RX4) (T := TX4) (N := 9) hx hb hts in_X10_missed_4 hown hK hP 1 rfl rfl 2 (by decide) (nz_use hN nzf_X10_132) (fun _ h9 => h9) rfl dX10_missed_18 ?_
    refine lv_iload_n hx hb dX10_missed_21 rfl (lv_at hl 1 rfl) ?_
    refine lv_aload_n hx hb dX10_missed_22 rfl (lv_at hl 0 rfl) ?_
    refine va_get (D := D) (ci := 10) (v := .ref (ad 7)) (C := RX10) (T := TX10) (N := 6) hx hb hts in_X10_missed_10 hown hK hP 3 rfl rfl 0 (by decide) (hts _ lk_X10_missed_10) (fun _ h9 => h9) rfl dX10_missed_23 ?_
    refine va_getN (D := D) (ci := 7) (v := .int s7_over) (C := RX7) (T := TX7) (N := 3) hx hb hts in_X10_missed_7 hown hK hP 2 rfl rfl 0 (by decide) (nz_use hN nzf_X10_55) (fun _ h9 => h9) rfl dX10_missed_26 ?_
    have hPc := hP.sub (ws' := [oX3 ad s3_next s3_kept, aI cy (ad 25) 256 a3_wishes, aI cy (ad 26) 256 a3_givens]) [0, 4, 5] rfl
    have hDc := hD.sub (ws' := [oX3 ad s3_next s3_kept, aI cy (ad 25) 256 a3_wishes, aI cy (ad 26) 256 a3_givens]) [0, 4, 5] (by decide) rfl
    refine k_call (wc := [oX3 ad s3_next s3_kept, aI cy (ad 25) 256 a3_wishes, aI cy (ad 26) 256 a3_givens]) (wr := [oX4 ad s4_ticks s4_firstBeganWith s4_secondBefore s4_thirdBefore s4_thirdTwoBefore, oX7 ad s7_over s7_count, oX10 ad ]) (va_runV (As := [.int x1, .int s7_over]) (rest := []) ⟨hx, hb, hml, hown, hts⟩ (m_X3_missedIn l D cy ad s3_next s3_kept a3_wishes a3_givens x1 s7_over H.size hv) (cwV 2 hts gX10_missed_X3_missedIn rfl rfl rfl (by decide +kernel) ⟨Nat.le_of_ble_eq_true rfl, Nat.le_of_ble_eq_true rfl⟩) ⟨wd_blind, va_recv hK hPc (ci := 3) (q0 := 0) rfl rfl, wd_ok hPc hK hDc hN⟩ rfl rfl hl.1 rfl (lv_room (Nat.le_of_ble_eq_true rfl)) dX10_missed_29 ⟨Nat.le_of_ble_eq_true rfl, Nat.le_of_ble_eq_true rfl⟩) hP hD hS hA [0, 4, 5] [1, 2, 3] rfl rfl (by decide) (by decide) (fun r2 u H locs hv hP hD hS => ?_)
    have hP : va_P D vwCl [oX3 ad s3_next s3_kept, oX4 ad s4_ticks s4_firstBeganWith s4_secondBefore s4_thirdBefore s4_thirdTwoBefore, oX7 ad s7_over s7_count, oX10 ad , aI cy (ad 25) 256 a3_wishes, aI cy (ad 26) 256 a3_givens] H := hP.sub [3, 0, 1, 2, 4, 5] rfl
    have hD : va_D A [oX3 ad s3_next s3_kept, oX4 ad s4_ticks s4_firstBeganWith s4_secondBefore s4_thirdBefore s4_thirdTwoBefore, oX7 ad s7_over s7_count, oX10 ad , aI cy (ad 25) 256 a3_wishes, aI cy (ad 26) 256 a3_givens] := hD.sub [3, 0, 1, 2, 4, 5] (by decide) rfl
    refine lv_goto (tgt := 36) hx hb dX10_missed_32 (by decide) ?_
    rw [← hQ]
    exact k_lret hx hb hr hlocks hS () hP hD hv dX10_missed_36
theorem lk_X10_ring_30 : Cond.fieldLink RX10 30 "CoarseSteps" "outlook" "LCoarseSteps$Outlook;" ∈ wsX10_ring := by decide +kernel
theorem in_X10_ring_10 : ∀ w ∈ wsX100, w ∈ wsX10_ring := by decide +kernel
abbrev rm_X10_ring : Room := { frames := 6, cells := 0, slots := 0, locals := 143 }
set_option maxHeartbeats 4000000 in
set_option maxRecDepth 100000 in
theorem m_X10_ring (l : Launch) (D : va_G) (cy : ClassId × ClassId × ClassId) (ad : Nat → Nat) (s4_ticks : Int32) (s4_firstBeganWith : Int64) (s4_secondBefore : Int32) (s4_thirdBefore : Int32) (s4_thirdTwoBefore : Int32) (s5_kind : Int32) (s5_sums : Int32) (s6_toldTail : Int32) (s7_over : Int32) (s7_count : Int32) (s8_sums : Int32) (s8_g : Int32) (a4_sums : Nat → Int64) (a5_coming : Nat → Int64) (a5_picked : Nat → Int32) (a6_at : Nat → Int64) (a6_mark : Nat → Int64) (a7_values : Nat → Int32) (a8_a : Nat → Int32) (a8_b : Nat → Int32) (a8_e : Nat → Int32) (a8_h : Nat → Int32) (x1 : Int32) (sz : Nat) {K : Int32 → Int32 → (Nat → Int64) → (Nat → Int32) → (Nat → Int64) → (Nat → Int64) → Prop} (hv : v_X10_ring s5_kind s5_sums s6_toldTail s7_over s7_count s8_sums s8_g a4_sums a5_coming a5_picked a6_at a6_mark a7_values a8_a a8_b a8_e a8_h x1 K) : Met l yX10_ring wsX10_ring rm_X10_ring (va_Pc [.ref (ad 10), .int x1] (wd D cy [oX4 ad s4_ticks s4_firstBeganWith s4_secondBefore s4_thirdBefore s4_thirdTwoBefore, oX5 ad s5_kind s5_sums, oX6 ad s6_toldTail, oX7 ad s7_over s7_count, oX8 ad s8_sums s8_g, oX10 ad , aJ cy (ad 29) 4 a4_sums, aJ cy (ad 30) 4 a5_coming, aI cy (ad 31) 3 a5_picked, aJ cy (ad 32) 4 a6_at, aJ cy (ad 33) 4 a6_mark, aI cy (ad 34) 8 a7_values, aI cy (ad 35) 16 a8_a, aI cy (ad 36) 4 a8_b, aI cy (ad 37) 4 a8_e, aI cy (ad 38) 4 a8_h] sz)) (va_Qi (fun (r : Int32) (u : Int32 × (Nat → Int64) × (Nat → Int32) × (Nat → Int64) × (Nat → Int64)) => K r u.1 u.2.1 u.2.2.1 u.2.2.2.1 u.2.2.2.2) (fun u t => we D ((fun u : Int32 × (Nat → Int64) × (Nat → Int32) × (Nat → Int64) × (Nat → Int64) => [oX4 ad s4_ticks s4_firstBeganWith s4_secondBefore s4_thirdBefore s4_thirdTwoBefore, oX5 ad s5_kind s5_sums, oX6 ad u.1, oX7 ad s7_over s7_count, oX8 ad s8_sums s8_g, oX10 ad , aJ cy (ad 29) 4 a4_sums, aJ cy (ad 30) 4 u.2.1, aI cy (ad 31) 3 u.2.2.1, aJ cy (ad 32) 4 u.2.2.2.1, aJ cy (ad 33) 4 u.2.2.2.2, aI cy (ad 34) 8 a7_values, aI cy (ad 35) 16 a8_a, aI cy (ad 36) 4 a8_b, aI cy (ad 37) 4 a8_e, aI cy (ad 38) 4 a8_h]) u) (va_A [oX4 ad s4_ticks s4_firstBeganWith s4_secondBefore s4_thirdBefore s4_thirdTwoBefore, oX5 ad s5_kind s5_sums, oX6 ad s6_toldTail, oX7 ad s7_over s7_count, oX8 ad s8_sums s8_g, oX10 ad , aJ cy (ad 29) 4 a4_sums, aJ cy (ad 30) 4 a5_coming, aI cy (ad 31) 3 a5_picked, aJ cy (ad 32) 4 a6_at, aJ cy (ad 33) 4 a6_mark, aI cy (ad 34) 8 a7_values, aI cy (ad 35) 16 a8_a, aI cy (ad 36) 4 a8_b, aI cy (ad 37) 4 a8_e, aI cy (ad 38) 4 a8_h] sz) t) (va_A [oX4 ad s4_ticks s4_firstBeganWith s4_secondBefore s4_thirdBefore s4_thirdTwoBefore, oX5 ad s5_kind s5_sums, oX6 ad s6_toldTail, oX7 ad s7_over s7_count, oX8 ad s8_sums s8_g, oX10 ad , aJ cy (ad 29) 4 a4_sums, aJ cy (ad 30) 4 a5_coming, aI cy (ad 31) 3 a5_picked, aJ cy (ad 32) 4 a6_at, aJ cy (ad 33) 4 a6_mark, aI cy (ad 34) 8 a7_values, aI cy (ad 35) 16 a8_a, aI cy (ad 36) 4 a8_b, aI cy (ad 37) 4 a8_e, aI cy (ad 38) 4 a8_h] sz)) 0 0 (va_A [oX4 ad s4_ticks s4_firstBeganWith s4_secondBefore s4_thirdBefore s4_thirdTwoBefore, oX5 ad s5_kind s5_sums, oX6 ad s6_toldTail, oX7 ad s7_over s7_count, oX8 ad s8_sums s8_g, oX10 ad , aJ cy (ad 29) 4 a4_sums, aJ cy (ad 30) 4 a5_coming, aI cy (ad 31) 3 a5_picked, aJ cy (ad 32) 4 a6_at, aJ cy (ad 33) 4 a6_mark, aI cy (ad 34) 8 a7_values, aI cy (ad 35) 16 a8_a, aI cy (ad 36) 4 a8_b, aI cy (ad 37) 4 a8_e, aI cy (ad 38) 4 a8_h] sz) := by
  refine k_ofW (cc := cX10_ring) (maxL := 2) (ret := (some .int)) (fun A => va_Qi (fun (r : Int32) (u : Int32 × (Nat → Int64) × (Nat → Int32) × (Nat → Int64) × (Nat → Int64)) => K r u.1 u.2.1 u.2.2.1 u.2.2.2.1 u.2.2.2.2) (fun u t => we D ((fun u : Int32 × (Nat → Int64) × (Nat → Int32) × (Nat → Int64) × (Nat → Int64) => [oX4 ad s4_ticks s4_firstBeganWith s4_secondBefore s4_thirdBefore s4_thirdTwoBefore, oX5 ad s5_kind s5_sums, oX6 ad u.1, oX7 ad s7_over s7_count, oX8 ad s8_sums s8_g, oX10 ad , aJ cy (ad 29) 4 a4_sums, aJ cy (ad 30) 4 u.2.1, aI cy (ad 31) 3 u.2.2.1, aJ cy (ad 32) 4 u.2.2.2.1, aJ cy (ad 33) 4 u.2.2.2.2, aI cy (ad 34) 8 a7_values, aI cy (ad 35) 16 a8_a, aI cy (ad 36) 4 a8_b, aI cy (ad 37) 4 a8_e, aI cy (ad 38) 4 a8_h]) u) A t) A) (by decide) rfl (Nat.le_of_ble_eq_true rfl) ?_
  intro p e s m below meth c A ls H locs hx hb hml hr hts hown hlocks hname hK hN hA hP hD hS hl
  have hl : lv_has ls 2 [(0, .ref (ad 10)), (1, .int x1)] := hl
  generalize hQ : MQ below _ _ s _ _ A = Q
  unfold v_X10_ring at hv
  refine lv_iload_n hx hb dX10_ring_0 rfl (lv_at hl 1 rfl) ?_
  have hPc := hP.sub (ws' := []) [] rfl
  have hDc := hD.sub (ws' := []) [] (by decide) rfl
  refine k_cali (wc := []) (wr := [oX4 ad s4_ticks s4_firstBeganWith s4_secondBefore s4_thirdBefore s4_thirdTwoBefore, oX5 ad s5_kind s5_sums, oX6 ad s6_toldTail, oX7 ad s7_over s7_count, oX8 ad s8_sums s8_g, oX10 ad , aJ cy (ad 29) 4 a4_sums, aJ cy (ad 30) 4 a5_coming, aI cy (ad 31) 3 a5_picked, aJ cy (ad 32) 4 a6_at, aJ cy (ad 33) 4 a6_mark, aI cy (ad 34) 8 a7_values, aI cy (ad 35) 16 a8_a, aI cy (ad 36) 4 a8_b, aI cy (ad 37) 4 a8_e, aI cy (ad 38) 4 a8_h]) (va_runS (As := [.int x1]) (rest := []) ⟨hx, hb, hml, hown, hts⟩ (m_X10_isWish l D cy ad x1 H.size hv) (va_cwS 1 hts gX10_ring_X10_isWish rfl rfl rfl (by decide +kernel) ⟨Nat.le_of_ble_eq_true rfl, Nat.le_of_ble_eq_true rfl⟩) ⟨wd_blind, wd_ok hPc hK hDc hN⟩ rfl rfl hl.1 rfl (lv_room (Nat.le_of_ble_eq_true rfl)) dX10_ring_1 ⟨Nat.le_of_ble_eq_true rfl, Nat.le_of_ble_eq_true rfl⟩) hP hD hS hA [] [0, 1, 2, 3, 4, 5, 6, 7, 8, 9, 10, 11, 12, 13, 14, 15] rfl rfl (by decide) (by decide) (fun r1 u H locs hv hP hD hS => ?_)
  obtain ⟨hz_r1, hv⟩ := hv
  have hP : va_P D vwCl [oX4 ad s4_ticks s4_firstBeganWith s4_secondBefore s4_thirdBefore s4_thirdTwoBefore, oX5 ad s5_kind s5_sums, oX6 ad s6_toldTail, oX7 ad s7_over s7_count, oX8 ad s8_sums s8_g, oX10 ad , aJ cy (ad 29) 4 a4_sums, aJ cy (ad 30) 4 a5_coming, aI cy (ad 31) 3 a5_picked, aJ cy (ad 32) 4 a6_at, aJ cy (ad 33) 4 a6_mark, aI cy (ad 34) 8 a7_values, aI cy (ad 35) 16 a8_a, aI cy (ad 36) 4 a8_b, aI cy (ad 37) 4 a8_e, aI cy (ad 38) 4 a8_h] H := hP.sub [0, 1, 2, 3, 4, 5, 6, 7, 8, 9, 10, 11, 12, 13, 14, 15] rfl
  have hD : va_D A [oX4 ad s4_ticks s4_firstBeganWith s4_secondBefore s4_thirdBefore s4_thirdTwoBefore, oX5 ad s5_kind s5_sums, oX6 ad s6_toldTail, oX7 ad s7_over s7_count, oX8 ad s8_sums s8_g, oX10 ad , aJ cy (ad 29) 4 a4_sums, aJ cy (ad 30) 4 a5_coming, aI cy (ad 31) 3 a5_picked, aJ cy (ad 32) 4 a6_at, aJ cy (ad 33) 4 a6_mark, aI cy (ad 34) 8 a7_values, aI cy (ad 35) 16 a8_a, aI cy (ad 36) 4 a8_b, aI cy (ad 37) 4 a8_e, aI cy (ad 38) 4 a8_h] := hD.sub [0, 1, 2, 3, 4, 5, 6, 7, 8, 9, 10, 11, 12, 13, 14, 15] (by decide) rfl
  refine lv_if_eq (tgt := 18) hx hb dX10_ring_4 (by decide) (fun c_4 => ?_) (fun c_4 => ?_)
  · have hv := hv.1 c_4
    refine lv_iconst (v := -1) hx hb dX10_ring_18 (by decide) ?_
    rw [← hQ]
    exact k_iret hx hb hr hlocks hS (s6_toldTail, a5_coming, a5_picked, a6_at, a6_mark) hP hD hv dX10_ring_19
  · have hv := hv.2 c_4
    refine lv_aload_n hx hb dX10_ring_7 rfl (lv_at hl 0 rfl) ?_
    refine va_get (D := D) (ci := 10) (v := .ref (ad 6)) (C := RX10) (T := TX10) (N := 6) hx hb hts in_X10_ring_10 hown hK hP 5 rfl rfl 2 (by decide) (hts _ lk_X10_ring_30) (fun _ h9 => h9) rfl dX10_ring_8 ?_
    refine lv_iload_n hx hb dX10_ring_11 rfl (lv_at hl 1 rfl) ?_
    have hPc := hP.sub (ws' := [oX4 ad s4_ticks s4_firstBeganWith s4_secondBefore s4_thirdBefore s4_thirdTwoBefore, oX5 ad s5_kind s5_sums, oX6 ad s6_toldTail, oX7 ad s7_over s7_count, oX8 ad s8_sums s8_g, aJ cy (ad 29) 4 a4_sums, aJ cy (ad 30) 4 a5_coming, aI cy (ad 31) 3 a5_picked, aJ cy (ad 32) 4 a6_at, aJ cy (ad 33) 4 a6_mark, aI cy (ad 34) 8 a7_values, aI cy (ad 35) 16 a8_a, aI cy (ad 36) 4 a8_b, aI cy (ad 37) 4 a8_e, aI cy (ad 38) 4 a8_h]) [0, 1, 2, 3, 4, 6, 7, 8, 9, 10, 11, 12, 13, 14, 15] rfl
    have hDc := hD.sub (ws' := [oX4 ad s4_ticks s4_firstBeganWith s4_secondBefore s4_thirdBefore s4_thirdTwoBefore, oX5 ad s5_kind s5_sums, oX6 ad s6_toldTail, oX7 ad s7_over s7_count, oX8 ad s8_sums s8_g, aJ cy (ad 29) 4 a4_sums, aJ cy (ad 30) 4 a5_coming, aI cy (ad 31) 3 a5_picked, aJ cy (ad 32) 4 a6_at, aJ cy (ad 33) 4 a6_mark, aI cy (ad 34) 8 a7_values, aI cy (ad 35) 16 a8_a, aI cy (ad 36) 4 a8_b, aI cy (ad 37) 4 a8_e, aI cy (ad 38) 4 a8_h]) [0, 1, 2, 3, 4, 6, 7, 8, 9, 10, 11, 12, 13, 14, 15] (by decide) rfl
    refine k_cali (wc := [oX4 ad s4_ticks s4_firstBeganWith s4_secondBefore s4_thirdBefore s4_thirdTwoBefore, oX5 ad s5_kind s5_sums, oX6 ad s6_toldTail, oX7 ad s7_over s7_count, oX8 ad s8_sums s8_g, aJ cy (ad 29) 4 a4_sums, aJ cy (ad 30) 4 a5_coming, aI cy (ad 31) 3 a5_picked, aJ cy (ad 32) 4 a6_at, aJ cy (ad 33) 4 a6_mark, aI cy (ad 34) 8 a7_values, aI cy (ad 35) 16 a8_a, aI cy (ad 36) 4 a8_b, aI cy (ad 37) 4 a8_e, aI cy (ad 38) 4 a8_h]) (wr := [oX10 ad ]) (va_runV (As := [.int x1]) (rest := []) ⟨hx, hb, hml, hown, hts⟩ (m_X6_findRing l D cy ad s4_ticks s4_firstBeganWith s4_secondBefore s4_thirdBefore s4_thirdTwoBefore s5_kind s5_sums s6_toldTail s7_over s7_count s8_sums s8_g a4_sums a5_coming a5_picked a6_at a6_mark a7_values a8_a a8_b a8_e a8_h x1 H.size hv) (cwV 1 hts gX10_ring_X6_findRing rfl rfl rfl (by decide +kernel) ⟨Nat.le_of_ble_eq_true rfl, Nat.le_of_ble_eq_true rfl⟩) ⟨wd_blind, va_recv hK hPc (ci := 6) (q0 := 2) rfl rfl, wd_ok hPc hK hDc hN⟩ rfl rfl hl.1 rfl (lv_room (Nat.le_of_ble_eq_true rfl)) dX10_ring_12 ⟨Nat.le_of_ble_eq_true rfl, Nat.le_of_ble_eq_true rfl⟩) hP hD hS hA [0, 1, 2, 3, 4, 6, 7, 8, 9, 10, 11, 12, 13, 14, 15] [5] rfl rfl (by decide) (by decide) (fun r2 u H locs hv hP hD hS => ?_)
    obtain ⟨s6_toldTail_3, a5_coming_4, a5_picked_5, a6_at_6, a6_mark_7⟩ := u
    have hP : va_P D vwCl [oX4 ad s4_ticks s4_firstBeganWith s4_secondBefore s4_thirdBefore s4_thirdTwoBefore, oX5 ad s5_kind s5_sums, oX6 ad s6_toldTail_3, oX7 ad s7_over s7_count, oX8 ad s8_sums s8_g, oX10 ad , aJ cy (ad 29) 4 a4_sums, aJ cy (ad 30) 4 a5_coming_4, aI cy (ad 31) 3 a5_picked_5, aJ cy (ad 32) 4 a6_at_6, aJ cy (ad 33) 4 a6_mark_7, aI cy (ad 34) 8 a7_values, aI cy (ad 35) 16 a8_a, aI cy (ad 36) 4 a8_b, aI cy (ad 37) 4 a8_e, aI cy (ad 38) 4 a8_h] H := hP.sub [1, 2, 3, 4, 5, 0, 6, 7, 8, 9, 10, 11, 12, 13, 14, 15] rfl
    have hD : va_D A [oX4 ad s4_ticks s4_firstBeganWith s4_secondBefore s4_thirdBefore s4_thirdTwoBefore, oX5 ad s5_kind s5_sums, oX6 ad s6_toldTail_3, oX7 ad s7_over s7_count, oX8 ad s8_sums s8_g, oX10 ad , aJ cy (ad 29) 4 a4_sums, aJ cy (ad 30) 4 a5_coming_4, aI cy (ad 31) 3 a5_picked_5, aJ cy (ad 32) 4 a6_at_6, aJ cy (ad 33) 4 a6_mark_7, aI cy (ad 34) 8 a7_values, aI cy (ad 35) 16 a8_a, aI cy (ad 36) 4 a8_b, aI cy (ad 37) 4 a8_e, aI cy (ad 38) 4 a8_h] := hD.sub [1, 2, 3, 4, 5, 0, 6, 7, 8, 9, 10, 11, 12, 13, 14, 15] (by decide) rfl
    refine lv_goto (tgt := 19) hx hb dX10_ring_15 (by decide) ?_
    rw [← hQ]
    exact k_iret hx hb hr hlocks hS (s6_toldTail_3, a5_coming_4, a5_picked_5, a6_at_6, a6_mark_7) hP hD hv dX10_ring_19
theorem lk_X10_tail_30 : Cond.fieldLink RX10 30 "CoarseSteps" "outlook" "LCoarseSteps$Outlook;" ∈ wsX10_tail := by decide +kernel
theorem in_X10_tail_10 : ∀ w ∈ wsX100, w ∈ wsX10_tail := by decide +kernel
theorem in_X10_tail_6 : ∀ w ∈ wsX60, w ∈ wsX10_tail := by decide +kernel
abbrev rm_X10_tail : Room := { frames := 0, cells := 0, slots := 0, locals := 0 }
set_option maxHeartbeats 4000000 in
set_option maxRecDepth 100000 in
theorem m_X10_tail (l : Launch) (D : va_G) (cy : ClassId × ClassId × ClassId) (ad : Nat → Nat) (s6_toldTail : Int32) (sz : Nat) {K : Int32 → Prop} (hv : v_X10_tail s6_toldTail K) : Met l yX10_tail wsX10_tail rm_X10_tail (va_Pc [.ref (ad 10)] (wd D cy [oX6 ad s6_toldTail, oX10 ad ] sz)) (va_Qi (fun (r : Int32) (u : Unit) => K r) (fun u t => we D ((fun u : Unit => [oX6 ad s6_toldTail, oX10 ad ]) u) (va_A [oX6 ad s6_toldTail, oX10 ad ] sz) t) (va_A [oX6 ad s6_toldTail, oX10 ad ] sz)) 0 0 (va_A [oX6 ad s6_toldTail, oX10 ad ] sz) := by
  refine k_ofW (cc := cX10_tail) (maxL := 1) (ret := (some .int)) (fun A => va_Qi (fun (r : Int32) (u : Unit) => K r) (fun u t => we D ((fun u : Unit => [oX6 ad s6_toldTail, oX10 ad ]) u) A t) A) (by decide) rfl (Nat.le_of_ble_eq_true rfl) ?_
  intro p e s m below meth c A ls H locs hx hb hml hr hts hown hlocks hname hK hN hA hP hD hS hl
  have hl : lv_has ls 1 [(0, .ref (ad 10))] := hl
  generalize hQ : MQ below _ _ s _ _ A = Q
  unfold v_X10_tail at hv
  refine lv_aload_n hx hb dX10_tail_0 rfl (lv_at hl 0 rfl) ?_
  refine va_get (D := D) (ci := 10) (v := .ref (ad 6)) (C := RX10) (T := TX10) (N := 6) hx hb hts in_X10_tail_10 hown hK hP 1 rfl rfl 2 (by decide) (hts _ lk_X10_tail_30) (fun _ h9 => h9) rfl dX10_tail_1 ?_
  refine va_getN (D := D) (ci := 6) (v := .int s6_toldTail) (C := RX6) (T := TX6) (N := 4) hx hb hts in_X10_tail_6 hown hK hP 0 rfl rfl 3 (by decide) (nz_use hN nzf_X10_161) (fun _ h9 => h9) rfl dX10_tail_4 ?_
  rw [← hQ]
  exact k_iret hx hb hr hlocks hS () hP hD hv dX10_tail_7
theorem lk_X10_leaves_30 : Cond.fieldLink RX10 30 "CoarseSteps" "outlook" "LCoarseSteps$Outlook;" ∈ wsX10_leaves := by decide +kernel
theorem in_X10_leaves_10 : ∀ w ∈ wsX100, w ∈ wsX10_leaves := by decide +kernel
abbrev rm_X10_leaves : Room := { frames := 5, cells := 0, slots := 0, locals := 120 }
set_option maxHeartbeats 4000000 in
set_option maxRecDepth 100000 in
theorem m_X10_leaves (l : Launch) (D : va_G) (cy : ClassId × ClassId × ClassId) (ad : Nat → Nat) (s4_ticks : Int32) (s4_firstBeganWith : Int64) (s4_secondBefore : Int32) (s4_thirdBefore : Int32) (s4_thirdTwoBefore : Int32) (s5_kind : Int32) (s5_sums : Int32) (s6_toldTail : Int32) (s7_over : Int32) (s7_count : Int32) (s8_sums : Int32) (s8_g : Int32) (a4_sums : Nat → Int64) (a5_coming : Nat → Int64) (a5_picked : Nat → Int32) (a6_at : Nat → Int64) (a7_values : Nat → Int32) (a8_a : Nat → Int32) (a8_b : Nat → Int32) (a8_e : Nat → Int32) (a8_h : Nat → Int32) (x1 : Int32) (x2 : Int64) (sz : Nat) {K : Int32 → (Nat → Int64) → (Nat → Int32) → (Nat → Int64) → Prop} (hv : v_X10_leaves s5_kind s5_sums s7_over s7_count s8_sums s8_g a4_sums a5_coming a5_picked a6_at a7_values a8_a a8_b a8_e a8_h x1 x2 K) : Met l yX10_leaves wsX10_leaves rm_X10_leaves (va_Pc [.ref (ad 10), .int x1, .long x2] (wd D cy [oX4 ad s4_ticks s4_firstBeganWith s4_secondBefore s4_thirdBefore s4_thirdTwoBefore, oX5 ad s5_kind s5_sums, oX6 ad s6_toldTail, oX7 ad s7_over s7_count, oX8 ad s8_sums s8_g, oX10 ad , aJ cy (ad 29) 4 a4_sums, aJ cy (ad 30) 4 a5_coming, aI cy (ad 31) 3 a5_picked, aJ cy (ad 32) 4 a6_at, aI cy (ad 34) 8 a7_values, aI cy (ad 35) 16 a8_a, aI cy (ad 36) 4 a8_b, aI cy (ad 37) 4 a8_e, aI cy (ad 38) 4 a8_h] sz)) (va_Qi (fun (r : Int32) (u : (Nat → Int64) × (Nat → Int32) × (Nat → Int64)) => K r u.1 u.2.1 u.2.2) (fun u t => we D ((fun u : (Nat → Int64) × (Nat → Int32) × (Nat → Int64) => [oX4 ad s4_ticks s4_firstBeganWith s4_secondBefore s4_thirdBefore s4_thirdTwoBefore, oX5 ad s5_kind s5_sums, oX6 ad s6_toldTail, oX7 ad s7_over s7_count, oX8 ad s8_sums s8_g, oX10 ad , aJ cy (ad 29) 4 a4_sums, aJ cy (ad 30) 4 u.1, aI cy (ad 31) 3 u.2.1, aJ cy (ad 32) 4 u.2.2, aI cy (ad 34) 8 a7_values, aI cy (ad 35) 16 a8_a, aI cy (ad 36) 4 a8_b, aI cy (ad 37) 4 a8_e, aI cy (ad 38) 4 a8_h]) u) (va_A [oX4 ad s4_ticks s4_firstBeganWith s4_secondBefore s4_thirdBefore s4_thirdTwoBefore, oX5 ad s5_kind s5_sums, oX6 ad s6_toldTail, oX7 ad s7_over s7_count, oX8 ad s8_sums s8_g, oX10 ad , aJ cy (ad 29) 4 a4_sums, aJ cy (ad 30) 4 a5_coming, aI cy (ad 31) 3 a5_picked, aJ cy (ad 32) 4 a6_at, aI cy (ad 34) 8 a7_values, aI cy (ad 35) 16 a8_a, aI cy (ad 36) 4 a8_b, aI cy (ad 37) 4 a8_e, aI cy (ad 38) 4 a8_h] sz) t) (va_A [oX4 ad s4_ticks s4_firstBeganWith s4_secondBefore s4_thirdBefore s4_thirdTwoBefore, oX5 ad s5_kind s5_sums, oX6 ad s6_toldTail, oX7 ad s7_over s7_count, oX8 ad s8_sums s8_g, oX10 ad , aJ cy (ad 29) 4 a4_sums, aJ cy (ad 30) 4 a5_coming, aI cy (ad 31) 3 a5_picked, aJ cy (ad 32) 4 a6_at, aI cy (ad 34) 8 a7_values, aI cy (ad 35) 16 a8_a, aI cy (ad 36) 4 a8_b, aI cy (ad 37) 4 a8_e, aI cy (ad 38) 4 a8_h] sz)) 0 0 (va_A [oX4 ad s4_ticks s4_firstBeganWith s4_secondBefore s4_thirdBefore s4_thirdTwoBefore, oX5 ad s5_kind s5_sums, oX6 ad s6_toldTail, oX7 ad s7_over s7_count, oX8 ad s8_sums s8_g, oX10 ad , aJ cy (ad 29) 4 a4_sums, aJ cy (ad 30) 4 a5_coming, aI cy (ad 31) 3 a5_picked, aJ cy (ad 32) 4 a6_at, aI cy (ad 34) 8 a7_values, aI cy (ad 35) 16 a8_a, aI cy (ad 36) 4 a8_b, aI cy (ad 37) 4 a8_e, aI cy (ad 38) 4 a8_h] sz) := by
  refine k_ofW (cc := cX10_leaves) (maxL := 4) (ret := (some .int)) (fun A => va_Qi (fun (r : Int32) (u : (Nat → Int64) × (Nat → Int32) × (Nat → Int64)) => K r u.1 u.2.1 u.2.2) (fun u t => we D ((fun u : (Nat → Int64) × (Nat → Int32) × (Nat → Int64) => [oX4 ad s4_ticks s4_firstBeganWith s4_secondBefore s4_thirdBefore s4_thirdTwoBefore, oX5 ad s5_kind s5_sums, oX6 ad s6_toldTail, oX7 ad s7_over s7_count, oX8 ad s8_sums s8_g, oX10 ad , aJ cy (ad 29) 4 a4_sums, aJ cy (ad 30) 4 u.1, aI cy (ad 31) 3 u.2.1, aJ cy (ad 32) 4 u.2.2, aI cy (ad 34) 8 a7_values, aI cy (ad 35) 16 a8_a, aI cy (ad 36) 4 a8_b, aI cy (ad 37) 4 a8_e, aI cy (ad 38) 4 a8_h]) u) A t) A) (by decide) rfl (Nat.le_of_ble_eq_true rfl) ?_
  intro p e s m below meth c A ls H locs hx hb hml hr hts hown hlocks hname hK hN hA hP hD hS hl
  have hl : lv_has ls 4 [(0, .ref (ad 10)), (1, .int x1), (2, .long x2)] := hl
  generalize hQ : MQ below _ _ s _ _ A = Q
  unfold v_X10_leaves at hv
  refine lv_iload_n hx hb dX10_leaves_0 rfl (lv_at hl 1 rfl) ?_
  have hPc := hP.sub (ws' := []) [] rfl
  have hDc := hD.sub (ws' := []) [] (by decide) rfl
  refine k_cali (wc := []) (wr := [oX4 ad s4_ticks s4_firstBeganWith s4_secondBefore s4_thirdBefore s4_thirdTwoBefore, oX5 ad s5_kind s5_sums, oX6 ad s6_toldTail, oX7 ad s7_over s7_count, oX8 ad s8_sums s8_g, oX10 ad , aJ cy (ad 29) 4 a4_sums, aJ cy (ad 30) 4 a5_coming, aI cy (ad 31) 3 a5_picked, aJ cy (ad 32) 4 a6_at, aI cy (ad 34) 8 a7_values, aI cy (ad 35) 16 a8_a, aI cy (ad 36) 4 a8_b, aI cy (ad 37) 4 a8_e, aI cy (ad 38) 4 a8_h]) (va_runS (As := [.int x1]) (rest := []) ⟨hx, hb, hml, hown, hts⟩ (m_X10_isWish l D cy ad x1 H.size hv) (va_cwS 1 hts gX10_leaves_X10_isWish rfl rfl rfl (by decide +kernel) ⟨Nat.le_of_ble_eq_true rfl, Nat.le_of_ble_eq_true rfl⟩) ⟨wd_blind, wd_ok hPc hK hDc hN⟩ rfl rfl hl.1 rfl (lv_room (Nat.le_of_ble_eq_true rfl)) dX10_leaves_1 ⟨Nat.le_of_ble_eq_true rfl, Nat.le_of_ble_eq_true rfl⟩) hP hD hS hA [] [0, 1, 2, 3, 4, 5, 6, 7, 8, 9, 10, 11, 12, 13, 14] rfl rfl (by decide) (by decide) (fun r1 u H locs hv hP hD hS => ?_)
  obtain ⟨hz_r1, hv⟩ := hv
  have hP : va_P D vwCl [oX4 ad s4_ticks s4_firstBeganWith s4_secondBefore s4_thirdBefore s4_thirdTwoBefore, oX5 ad s5_kind s5_sums, oX6 ad s6_toldTail, oX7 ad s7_over s7_count, oX8 ad s8_sums s8_g, oX10 ad , aJ cy (ad 29) 4 a4_sums, aJ cy (ad 30) 4 a5_coming, aI cy (ad 31) 3 a5_picked, aJ cy (ad 32) 4 a6_at, aI cy (ad 34) 8 a7_values, aI cy (ad 35) 16 a8_a, aI cy (ad 36) 4 a8_b, aI cy (ad 37) 4 a8_e, aI cy (ad 38) 4 a8_h] H := hP.sub [0, 1, 2, 3, 4, 5, 6, 7, 8, 9, 10, 11, 12, 13, 14] rfl
  have hD : va_D A [oX4 ad s4_ticks s4_firstBeganWith s4_secondBefore s4_thirdBefore s4_thirdTwoBefore, oX5 ad s5_kind s5_sums, oX6 ad s6_toldTail, oX7 ad s7_over s7_count, oX8 ad s8_sums s8_g, oX10 ad , aJ cy (ad 29) 4 a4_sums, aJ cy (ad 30) 4 a5_coming, aI cy (ad 31) 3 a5_picked, aJ cy (ad 32) 4 a6_at, aI cy (ad 34) 8 a7_values, aI cy (ad 35) 16 a8_a, aI cy (ad 36) 4 a8_b, aI cy (ad 37) 4 a8_e, aI cy (ad 38) 4 a8_h] := hD.sub [0, 1, 2, 3, 4, 5, 6, 7, 8, 9, 10, 11, 12, 13, 14] (by decide) rfl
  refine lv_if_eq (tgt := 25) hx hb dX10_leaves_4 (by decide) (fun c_4 => ?_) (fun c_4 => ?_)
  · have hv := hv.1 c_4
    refine lv_iconst (v := -1) hx hb dX10_leaves_25 (by decide) ?_
    rw [← hQ]
    exact k_iret hx hb hr hlocks hS (a5_coming, a5_picked, a6_at) hP hD hv dX10_leaves_26
  · have hv := hv.2 c_4
    refine lv_lload_n hx hb dX10_leaves_7 rfl (lv_at hl 2 rfl) ?_
    refine lv_lconst (v := 0) hx hb dX10_leaves_8 (by decide) ?_
    refine k_lc_lt (tgt := 25) hx hb dX10_leaves_9 dX10_leaves_10 (by decide) (fun c_9 => ?_) (fun c_9 => ?_)
    · have hv := hv.1 c_9
      refine lv_iconst (v := -1) hx hb dX10_leaves_25 (by decide) ?_
      rw [← hQ]
      exact k_iret hx hb hr hlocks hS (a5_coming, a5_picked, a6_at) hP hD hv dX10_leaves_26
    · have hv := hv.2 c_9
      refine lv_aload_n hx hb dX10_leaves_13 rfl (lv_at hl 0 rfl) ?_
      refine va_get (D := D) (ci := 10) (v := .ref (ad 6)) (C := RX10) (T := TX10) (N := 6) hx hb hts in_X10_leaves_10 hown hK hP 5 rfl rfl 2 (by decide) (hts _ lk_X10_leaves_30) (fun _ h9 => h9) rfl dX10_leaves_14 ?_
      refine lv_iload_n hx hb dX10_leaves_17 rfl (lv_at hl 1 rfl) ?_
      refine lv_lload_n hx hb dX10_leaves_18 rfl (lv_at hl 2 rfl) ?_
      have hPc := hP.sub (ws' := [oX4 ad s4_ticks s4_firstBeganWith s4_secondBefore s4_thirdBefore s4_thirdTwoBefore, oX5 ad s5_kind s5_sums, oX6 ad s6_toldTail, oX7 ad s7_over s7_count, oX8 ad s8_sums s8_g, aJ cy (ad 29) 4 a4_sums, aJ cy (ad 30) 4 a5_coming, aI cy (ad 31) 3 a5_picked, aJ cy (ad 32) 4 a6_at, aI cy (ad 34) 8 a7_values, aI cy (ad 35) 16 a8_a, aI cy (ad 36) 4 a8_b, aI cy (ad 37) 4 a8_e, aI cy (ad 38) 4 a8_h]) [0, 1, 2, 3, 4, 6, 7, 8, 9, 10, 11, 12, 13, 14] rfl
      have hDc := hD.sub (ws' := [oX4 ad s4_ticks s4_firstBeganWith s4_secondBefore s4_thirdBefore s4_thirdTwoBefore, oX5 ad s5_kind s5_sums, oX6 ad s6_toldTail, oX7 ad s7_over s7_count, oX8 ad s8_sums s8_g, aJ cy (ad 29) 4 a4_sums, aJ cy (ad 30) 4 a5_coming, aI cy (ad 31) 3 a5_picked, aJ cy (ad 32) 4 a6_at, aI cy (ad 34) 8 a7_values, aI cy (ad 35) 16 a8_a, aI cy (ad 36) 4 a8_b, aI cy (ad 37) 4 a8_e, aI cy (ad 38) 4 a8_h]) [0, 1, 2, 3, 4, 6, 7, 8, 9, 10, 11, 12, 13, 14] (by decide) rfl
      refine k_cali (wc := [oX4 ad s4_ticks s4_firstBeganWith s4_secondBefore s4_thirdBefore s4_thirdTwoBefore, oX5 ad s5_kind s5_sums, oX6 ad s6_toldTail, oX7 ad s7_over s7_count, oX8 ad s8_sums s8_g, aJ cy (ad 29) 4 a4_sums, aJ cy (ad 30) 4 a5_coming, aI cy (ad 31) 3 a5_picked, aJ cy (ad 32) 4 a6_at, aI cy (ad 34) 8 a7_values, aI cy (ad 35) 16 a8_a, aI cy (ad 36) 4 a8_b, aI cy (ad 37) 4 a8_e, aI cy (ad 38) 4 a8_h]) (wr := [oX10 ad ]) (va_runV (As := [.int x1, .long x2]) (rest := []) ⟨hx, hb, hml, hown, hts⟩ (m_X6_ticksUntilBeyond l D cy ad s4_ticks s4_firstBeganWith s4_secondBefore s4_thirdBefore s4_thirdTwoBefore s5_kind s5_sums s6_toldTail s7_over s7_count s8_sums s8_g a4_sums a5_coming a5_picked a6_at a7_values a8_a a8_b a8_e a8_h x1 x2 H.size hv) (cwV 2 hts gX10_leaves_X6_ticksUntilBeyond rfl rfl rfl (by decide +kernel) ⟨Nat.le_of_ble_eq_true rfl, Nat.le_of_ble_eq_true rfl⟩) ⟨wd_blind, va_recv hK hPc (ci := 6) (q0 := 2) rfl rfl, wd_ok hPc hK hDc hN⟩ rfl rfl hl.1 rfl (lv_room (Nat.le_of_ble_eq_true rfl)) dX10_leaves_19 ⟨Nat.le_of_ble_eq_true rfl, Nat.le_of_ble_eq_true rfl⟩) hP hD hS hA [0, 1, 2, 3, 4, 6, 7, 8, 9, 10, 11, 12, 13, 14] [5] rfl rfl (by decide) (by decide) (fun r2 u H locs hv hP hD hS => ?_)
      obtain ⟨a5_coming_3, a5_picked_4, a6_at_5⟩ := u
      have hP : va_P D vwCl [oX4 ad s4_ticks s4_firstBeganWith s4_secondBefore s4_thirdBefore s4_thirdTwoBefore, oX5 ad s5_kind s5_sums, oX6 ad s6_toldTail, oX7 ad s7_over s7_count, oX8 ad s8_sums s8_g, oX10 ad , aJ cy (ad 29) 4 a4_sums, aJ cy (ad 30) 4 a5_coming_3, aI cy (ad 31) 3 a5_picked_4, aJ cy (ad 32) 4 a6_at_5, aI cy (ad 34) 8 a7_values, aI cy (ad 35) 16 a8_a, aI cy (ad 36) 4 a8_b, aI cy (ad 37) 4 a8_e, aI cy (ad 38) 4 a8_h] H := hP.sub [1, 2, 3, 4, 5, 0, 6, 7, 8, 9, 10, 11, 12, 13, 14] rfl
      have hD : va_D A [oX4 ad s4_ticks s4_firstBeganWith s4_secondBefore s4_thirdBefore s4_thirdTwoBefore, oX5 ad s5_kind s5_sums, oX6 ad s6_toldTail, oX7 ad s7_over s7_count, oX8 ad s8_sums s8_g, oX10 ad , aJ cy (ad 29) 4 a4_sums, aJ cy (ad 30) 4 a5_coming_3, aI cy (ad 31) 3 a5_picked_4, aJ cy (ad 32) 4 a6_at_5, aI cy (ad 34) 8 a7_values, aI cy (ad 35) 16 a8_a, aI cy (ad 36) 4 a8_b, aI cy (ad 37) 4 a8_e, aI cy (ad 38) 4 a8_h] := hD.sub [1, 2, 3, 4, 5, 0, 6, 7, 8, 9, 10, 11, 12, 13, 14] (by decide) rfl
      refine lv_goto (tgt := 26) hx hb dX10_leaves_22 (by decide) ?_
      rw [← hQ]
      exact k_iret hx hb hr hlocks hS (a5_coming_3, a5_picked_4, a6_at_5) hP hD hv dX10_leaves_26
theorem lk_X10_box_21 : Cond.fieldLink RX10 21 "CoarseSteps" "loop" "LCoarseSteps$Loop;" ∈ wsX10_box := by decide +kernel
theorem in_X10_box_10 : ∀ w ∈ wsX100, w ∈ wsX10_box := by decide +kernel
theorem in_X10_box_4 : ∀ w ∈ wsX40, w ∈ wsX10_box := by decide +kernel
theorem lk_X10_box_37 : Cond.fieldLink RX10 37 "CoarseSteps" "inside" "LCoarseSteps$Box;" ∈ wsX10_box := by decide +kernel
abbrev rm_X10_box : Room := { frames := 1, cells := 0, slots := 0, locals := 25 }
set_option maxHeartbeats 4000000 in
set_option maxRecDepth 100000 in
theorem m_X10_box (l : Launch) (D : va_G) (cy : ClassId × ClassId × ClassId) (ad : Nat → Nat) (s4_ticks : Int32) (s4_firstBeganWith : Int64) (s4_secondBefore : Int32) (s4_thirdBefore : Int32) (s4_thirdTwoBefore : Int32) (s5_kind : Int32) (s5_sums : Int32) (a0_least : Nat → Int64) (a0_most : Nat → Int64) (x1 : Int32) (x2 : Int64) (x4 : Int64) (sz : Nat) {K : Int32 → (Nat → Int64) → (Nat → Int64) → Prop} (hv : v_X10_box s5_sums a0_least a0_most x1 x2 x4 K) : Met l yX10_box wsX10_box rm_X10_box (va_Pc [.ref (ad 10), .int x1, .long x2, .long x4] (wd D cy [oX0 ad , oX4 ad s4_ticks s4_firstBeganWith s4_secondBefore s4_thirdBefore s4_thirdTwoBefore, oX5 ad s5_kind s5_sums, oX10 ad , aJ cy (ad 20) 4 a0_least, aJ cy (ad 21) 4 a0_most] sz)) (va_Qi (fun (r : Int32) (u : (Nat → Int64) × (Nat → Int64)) => (r = 0 ∨ r = 1) ∧ K r u.1 u.2) (fun u t => we D ((fun u : (Nat → Int64) × (Nat → Int64) => [oX0 ad , oX4 ad s4_ticks s4_firstBeganWith s4_secondBefore s4_thirdBefore s4_thirdTwoBefore, oX5 ad s5_kind s5_sums, oX10 ad , aJ cy (ad 20) 4 u.1, aJ cy (ad 21) 4 u.2]) u) (va_A [oX0 ad , oX4 ad s4_ticks s4_firstBeganWith s4_secondBefore s4_thirdBefore s4_thirdTwoBefore, oX5 ad s5_kind s5_sums, oX10 ad , aJ cy (ad 20) 4 a0_least, aJ cy (ad 21) 4 a0_most] sz) t) (va_A [oX0 ad , oX4 ad s4_ticks s4_firstBeganWith s4_secondBefore s4_thirdBefore s4_thirdTwoBefore, oX5 ad s5_kind s5_sums, oX10 ad , aJ cy (ad 20) 4 a0_least, aJ cy (ad 21) 4 a0_most] sz)) 0 0 (va_A [oX0 ad , oX4 ad s4_ticks s4_firstBeganWith s4_secondBefore s4_thirdBefore s4_thirdTwoBefore, oX5 ad s5_kind s5_sums, oX10 ad , aJ cy (ad 20) 4 a0_least, aJ cy (ad 21) 4 a0_most] sz) := by
  refine k_ofW (cc := cX10_box) (maxL := 6) (ret := (some .boolean)) (fun A => va_Qi (fun (r : Int32) (u : (Nat → Int64) × (Nat → Int64)) => (r = 0 ∨ r = 1) ∧ K r u.1 u.2) (fun u t => we D ((fun u : (Nat → Int64) × (Nat → Int64) => [oX0 ad , oX4 ad s4_ticks s4_firstBeganWith s4_secondBefore s4_thirdBefore s4_thirdTwoBefore, oX5 ad s5_kind s5_sums, oX10 ad , aJ cy (ad 20) 4 u.1, aJ cy (ad 21) 4 u.2]) u) A t) A) (by decide) rfl (Nat.le_of_ble_eq_true rfl) ?_
  intro p e s m below meth c A ls H locs hx hb hml hr hts hown hlocks hname hK hN hA hP hD hS hl
  have hl : lv_has ls 6 [(0, .ref (ad 10)), (1, .int x1), (2, .long x2), (4, .long x4)] := hl
  generalize hQ : MQ below _ _ s _ _ A = Q
  unfold v_X10_box at hv
  refine lv_aload_n hx hb dX10_box_0 rfl (lv_at hl 0 rfl) ?_
  refine va_get (D := D) (ci := 10) (v := .ref (ad 4)) (C := RX10) (T := TX10) (N := 6) hx hb hts in_X10_box_10 hown hK hP 3 rfl rfl 1 (by decide) (hts _ lk_X10_box_21) (fun _ h9 => h9) rfl dX10_box_1 ?_
  refine va_getN (D := D) (ci := 4) (v := .ref (ad 5)) (C := RX4) (T := TX4) (N := 9) hx hb hts in_X10_box_4 hown hK hP 1 rfl rfl 0 (by decide) (nz_use hN nzf_X10_74) (fun _ h9 => h9) rfl dX10_box_4 ?_
  refine lv_iload_n hx hb dX10_box_7 rfl (lv_at hl 1 rfl) ?_
  have hPc := hP.sub (ws' := [oX5 ad s5_kind s5_sums]) [2] rfl
  have hDc := hD.sub (ws' := [oX5 ad s5_kind s5_sums]) [2] (by decide) rfl
  refine k_cali (wc := [oX5 ad s5_kind s5_sums]) (wr := [oX0 ad , oX4 ad s4_ticks s4_firstBeganWith s4_secondBefore s4_thirdBefore s4_thirdTwoBefore, oX10 ad , aJ cy (ad 20) 4 a0_least, aJ cy (ad 21) 4 a0_most]) (va_runV (As := [.int x1]) (rest := []) ⟨hx, hb, hml, hown, hts⟩ (m_X5_hasSum l D cy ad s5_kind s5_sums x1 H.size hv) (cwV 1 hts gX10_box_X5_hasSum rfl rfl rfl (by decide +kernel) ⟨Nat.le_of_ble_eq_true rfl, Nat.le_of_ble_eq_true rfl⟩) ⟨wd_blind, va_recv hK hPc (ci := 5) (q0 := 0) rfl rfl, wd_ok hPc hK hDc hN⟩ rfl rfl hl.1 rfl (lv_room (Nat.le_of_ble_eq_true rfl)) dX10_box_8 ⟨Nat.le_of_ble_eq_true rfl, Nat.le_of_ble_eq_true rfl⟩) hP hD hS hA [2] [0, 1, 3, 4, 5] rfl rfl (by decide) (by decide) (fun r1 u H locs hv hP hD hS => ?_)
  obtain ⟨hz_r1, hv⟩ := hv
  have hP : va_P D vwCl [oX0 ad , oX4 ad s4_ticks s4_firstBeganWith s4_secondBefore s4_thirdBefore s4_thirdTwoBefore, oX5 ad s5_kind s5_sums, oX10 ad , aJ cy (ad 20) 4 a0_least, aJ cy (ad 21) 4 a0_most] H := hP.sub [0, 1, 5, 2, 3, 4] rfl
  have hD : va_D A [oX0 ad , oX4 ad s4_ticks s4_firstBeganWith s4_secondBefore s4_thirdBefore s4_thirdTwoBefore, oX5 ad s5_kind s5_sums, oX10 ad , aJ cy (ad 20) 4 a0_least, aJ cy (ad 21) 4 a0_most] := hD.sub [0, 1, 5, 2, 3, 4] (by decide) rfl
  refine lv_if_eq (tgt := 36) hx hb dX10_box_11 (by decide) (fun c_11 => ?_) (fun c_11 => ?_)
  · have hv := hv.1 c_11
    refine lv_iconst (v := 0) hx hb dX10_box_36 (by decide) ?_
    rw [← hQ]
    exact k_zret hx hb hr hlocks hS (a0_least, a0_most) hP hD (by decide) hv dX10_box_37
  · have hv := hv.2 c_11
    refine lv_lload_n hx hb dX10_box_14 rfl (lv_at hl 2 rfl) ?_
    refine lv_lload hx hb dX10_box_15 (lv_at hl 3 rfl) ?_
    refine k_lc_gt (tgt := 36) hx hb dX10_box_17 dX10_box_18 (by decide) (fun c_17 => ?_) (fun c_17 => ?_)
    · have hv := hv.1 c_17
      refine lv_iconst (v := 0) hx hb dX10_box_36 (by decide) ?_
      rw [← hQ]
      exact k_zret hx hb hr hlocks hS (a0_least, a0_most) hP hD (by decide) hv dX10_box_37
    · have hv := hv.2 c_17
      refine lv_lload_n hx hb dX10_box_21 rfl (lv_at hl 2 rfl) ?_
      have hPc := hP.sub (ws' := []) [] rfl
      have hDc := hD.sub (ws' := []) [] (by decide) rfl
      refine k_cali (wc := []) (wr := [oX0 ad , oX4 ad s4_ticks s4_firstBeganWith s4_secondBefore s4_thirdBefore s4_thirdTwoBefore, oX5 ad s5_kind s5_sums, oX10 ad , aJ cy (ad 20) 4 a0_least, aJ cy (ad 21) 4 a0_most]) (va_runS (As := [.long x2]) (rest := []) ⟨hx, hb, hml, hown, hts⟩ (m_X10_isSum l D cy ad x2 H.size hv) (va_cwS 1 hts gX10_box_X10_isSum rfl rfl rfl (by decide +kernel) ⟨Nat.le_of_ble_eq_true rfl, Nat.le_of_ble_eq_true rfl⟩) ⟨wd_blind, wd_ok hPc hK hDc hN⟩ rfl rfl hl.1 rfl (lv_room (Nat.le_of_ble_eq_true rfl)) dX10_box_22 ⟨Nat.le_of_ble_eq_true rfl, Nat.le_of_ble_eq_true rfl⟩) hP hD hS hA [] [0, 1, 2, 3, 4, 5] rfl rfl (by decide) (by decide) (fun r2 u H locs hv hP hD hS => ?_)
      obtain ⟨hz_r2, hv⟩ := hv
      have hP : va_P D vwCl [oX0 ad , oX4 ad s4_ticks s4_firstBeganWith s4_secondBefore s4_thirdBefore s4_thirdTwoBefore, oX5 ad s5_kind s5_sums, oX10 ad , aJ cy (ad 20) 4 a0_least, aJ cy (ad 21) 4 a0_most] H := hP.sub [0, 1, 2, 3, 4, 5] rfl
      have hD : va_D A [oX0 ad , oX4 ad s4_ticks s4_firstBeganWith s4_secondBefore s4_thirdBefore s4_thirdTwoBefore, oX5 ad s5_kind s5_sums, oX10 ad , aJ cy (ad 20) 4 a0_least, aJ cy (ad 21) 4 a0_most] := hD.sub [0, 1, 2, 3, 4, 5] (by decide) rfl
      refine lv_if_eq (tgt := 36) hx hb dX10_box_25 (by decide) (fun c_25 => ?_) (fun c_25 => ?_)
      · have hv := hv.1 c_25
        refine lv_iconst (v := 0) hx hb dX10_box_36 (by decide) ?_
        rw [← hQ]
        exact k_zret hx hb hr hlocks hS (a0_least, a0_most) hP hD (by decide) hv dX10_box_37
      · have hv := hv.2 c_25
        refine lv_lload hx hb dX10_box_28 (lv_at hl 3 rfl) ?_
        have hPc := hP.sub (ws' := []) [] rfl
        have hDc := hD.sub (ws' := []) [] (by decide) rfl
        refine k_cali (wc := []) (wr := [oX0 ad , oX4 ad s4_ticks s4_firstBeganWith s4_secondBefore s4_thirdBefore s4_thirdTwoBefore, oX5 ad s5_kind s5_sums, oX10 ad , aJ cy (ad 20) 4 a0_least, aJ cy (ad 21) 4 a0_most]) (va_runS (As := [.long x4]) (rest := []) ⟨hx, hb, hml, hown, hts⟩ (m_X10_isSum l D cy ad x4 H.size hv) (va_cwS 1 hts gX10_box_X10_isSum rfl rfl rfl (by decide +kernel) ⟨Nat.le_of_ble_eq_true rfl, Nat.le_of_ble_eq_true rfl⟩) ⟨wd_blind, wd_ok hPc hK hDc hN⟩ rfl rfl hl.1 rfl (lv_room (Nat.le_of_ble_eq_true rfl)) dX10_box_30 ⟨Nat.le_of_ble_eq_true rfl, Nat.le_of_ble_eq_true rfl⟩) hP hD hS hA [] [0, 1, 2, 3, 4, 5] rfl rfl (by decide) (by decide) (fun r3 u H locs hv hP hD hS => ?_)
        obtain ⟨hz_r3, hv⟩ := hv
        have hP : va_P D vwCl [oX0 ad , oX4 ad s4_ticks s4_firstBeganWith s4_secondBefore s4_thirdBefore s4_thirdTwoBefore, oX5 ad s5_kind s5_sums, oX10 ad , aJ cy (ad 20) 4 a0_least, aJ cy (ad 21) 4 a0_most] H := hP.sub [0, 1, 2, 3, 4, 5] rfl
        have hD : va_D A [oX0 ad , oX4 ad s4_ticks s4_firstBeganWith s4_secondBefore s4_thirdBefore s4_thirdTwoBefore, oX5 ad s5_kind s5_sums, oX10 ad , aJ cy (ad 20) 4 a0_least, aJ cy (ad 21) 4 a0_most] := hD.sub [0, 1, 2, 3, 4, 5] (by decide) rfl
        refine lv_if_ne (tgt := 38) hx hb dX10_box_33 (by decide) (fun c_33 => ?_) (fun c_33 => ?_)
        · have hv := hv.1 c_33
          refine lv_aload_n hx hb dX10_box_38 rfl (lv_at hl 0 rfl) ?_
          refine va_get (D := D) (ci := 10) (v := .ref (ad 0)) (C := RX10) (T := TX10) (N := 6) hx hb hts in_X10_box_10 hown hK hP 3 rfl rfl 3 (by decide) (hts _ lk_X10_box_37) (fun _ h9 => h9) rfl dX10_box_39 ?_
          refine lv_iload_n hx hb dX10_box_42 rfl (lv_at hl 1 rfl) ?_
          refine lv_lload_n hx hb dX10_box_43 rfl (lv_at hl 2 rfl) ?_
          refine lv_lload hx hb dX10_box_44 (lv_at hl 3 rfl) ?_
          have hPc := hP.sub (ws' := [oX0 ad , aJ cy (ad 20) 4 a0_least, aJ cy (ad 21) 4 a0_most]) [0, 4, 5] rfl
          have hDc := hD.sub (ws' := [oX0 ad , aJ cy (ad 20) 4 a0_least, aJ cy (ad 21) 4 a0_most]) [0, 4, 5] (by decide) rfl
          refine k_calv (wc := [oX0 ad , aJ cy (ad 20) 4 a0_least, aJ cy (ad 21) 4 a0_most]) (wr := [oX4 ad s4_ticks s4_firstBeganWith s4_secondBefore s4_thirdBefore s4_thirdTwoBefore, oX5 ad s5_kind s5_sums, oX10 ad ]) (va_runV (As := [.int x1, .long x2, .long x4]) (rest := []) ⟨hx, hb, hml, hown, hts⟩ (m_X0_setEnds l D cy ad a0_least a0_most x1 x2 x4 H.size hv) (cwV 3 hts gX10_box_X0_setEnds rfl rfl rfl (by decide +kernel) ⟨Nat.le_of_ble_eq_true rfl, Nat.le_of_ble_eq_true rfl⟩) ⟨wd_blind, va_recv hK hPc (ci := 0) (q0 := 0) rfl rfl, wd_ok hPc hK hDc hN⟩ rfl rfl hl.1 rfl (lv_room (Nat.le_of_ble_eq_true rfl)) dX10_box_46 ⟨Nat.le_of_ble_eq_true rfl, Nat.le_of_ble_eq_true rfl⟩) hP hD hS hA [0, 4, 5] [1, 2, 3] rfl rfl (by decide) (by decide) (fun u H locs hv hP hD hS => ?_)
          obtain ⟨a0_least_4, a0_most_5⟩ := u
          have hP : va_P D vwCl [oX0 ad , oX4 ad s4_ticks s4_firstBeganWith s4_secondBefore s4_thirdBefore s4_thirdTwoBefore, oX5 ad s5_kind s5_sums, oX10 ad , aJ cy (ad 20) 4 a0_least_4, aJ cy (ad 21) 4 a0_most_5] H := hP.sub [3, 0, 1, 2, 4, 5] rfl
          have hD : va_D A [oX0 ad , oX4 ad s4_ticks s4_firstBeganWith s4_secondBefore s4_thirdBefore s4_thirdTwoBefore, oX5 ad s5_kind s5_sums, oX10 ad , aJ cy (ad 20) 4 a0_least_4, aJ cy (ad 21) 4 a0_most_5] := hD.sub [3, 0, 1, 2, 4, 5] (by decide) rfl
          refine lv_iconst (v := 1) hx hb dX10_box_49 (by decide) ?_
          rw [← hQ]
          exact k_zret hx hb hr hlocks hS (a0_least_4, a0_most_5) hP hD (by decide) hv dX10_box_50
        · have hv := hv.2 c_33
          refine lv_iconst (v := 0) hx hb dX10_box_36 (by decide) ?_
          rw [← hQ]
          exact k_zret hx hb hr hlocks hS (a0_least, a0_most) hP hD (by decide) hv dX10_box_37
theorem lk_X10_kept_37 : Cond.fieldLink RX10 37 "CoarseSteps" "inside" "LCoarseSteps$Box;" ∈ wsX10_kept := by decide +kernel
theorem in_X10_kept_10 : ∀ w ∈ wsX100, w ∈ wsX10_kept := by decide +kernel
theorem lk_X10_kept_21 : Cond.fieldLink RX10 21 "CoarseSteps" "loop" "LCoarseSteps$Loop;" ∈ wsX10_kept := by decide +kernel
theorem in_X10_kept_4 : ∀ w ∈ wsX40, w ∈ wsX10_kept := by decide +kernel
abbrev rm_X10_kept : Room := { frames := 6, cells := 0, slots := 0, locals := 147 }
set_option maxHeartbeats 4000000 in
set_option maxRecDepth 100000 in
theorem m_X10_kept (l : Launch) (D : va_G) (cy : ClassId × ClassId × ClassId) (ad : Nat → Nat) (s4_ticks : Int32) (s4_firstBeganWith : Int64) (s4_secondBefore : Int32) (s4_thirdBefore : Int32) (s4_thirdTwoBefore : Int32) (s5_kind : Int32) (s5_sums : Int32) (s7_over : Int32) (s7_count : Int32) (s8_sums : Int32) (s8_g : Int32) (a0_least : Nat → Int64) (a0_most : Nat → Int64) (a0_place : Nat → Int64) (a0_at : Nat → Int64) (a5_coming : Nat → Int64) (a5_picked : Nat → Int32) (a7_values : Nat → Int32) (a8_a : Nat → Int32) (a8_b : Nat → Int32) (a8_e : Nat → Int32) (a8_h : Nat → Int32) (x1 : Int32) (x2 : Int32) (sz : Nat) {K : Int32 → (Nat → Int64) → (Nat → Int64) → (Nat → Int64) → (Nat → Int32) → Prop} (hv : v_X10_kept s5_kind s5_sums s7_over s7_count s8_sums s8_g a0_least a0_most a0_place a0_at a5_coming a5_picked a7_values a8_a a8_b a8_e a8_h x1 x2 K) : Met l yX10_kept wsX10_kept rm_X10_kept (va_Pc [.ref (ad 10), .int x1, .int x2] (wd D cy [oX0 ad , oX4 ad s4_ticks s4_firstBeganWith s4_secondBefore s4_thirdBefore s4_thirdTwoBefore, oX5 ad s5_kind s5_sums, oX7 ad s7_over s7_count, oX8 ad s8_sums s8_g, oX10 ad , aJ cy (ad 20) 4 a0_least, aJ cy (ad 21) 4 a0_most, aJ cy (ad 22) 4 a0_place, aJ cy (ad 23) 4 a0_at, aJ cy (ad 30) 4 a5_coming, aI cy (ad 31) 3 a5_picked, aI cy (ad 34) 8 a7_values, aI cy (ad 35) 16 a8_a, aI cy (ad 36) 4 a8_b, aI cy (ad 37) 4 a8_e, aI cy (ad 38) 4 a8_h] sz)) (va_Qi (fun (r : Int32) (u : (Nat → Int64) × (Nat → Int64) × (Nat → Int64) × (Nat → Int32)) => K r u.1 u.2.1 u.2.2.1 u.2.2.2) (fun u t => we D ((fun u : (Nat → Int64) × (Nat → Int64) × (Nat → Int64) × (Nat → Int32) => [oX0 ad , oX4 ad s4_ticks s4_firstBeganWith s4_secondBefore s4_thirdBefore s4_thirdTwoBefore, oX5 ad s5_kind s5_sums, oX7 ad s7_over s7_count, oX8 ad s8_sums s8_g, oX10 ad , aJ cy (ad 20) 4 a0_least, aJ cy (ad 21) 4 a0_most, aJ cy (ad 22) 4 u.1, aJ cy (ad 23) 4 u.2.1, aJ cy (ad 30) 4 u.2.2.1, aI cy (ad 31) 3 u.2.2.2, aI cy (ad 34) 8 a7_values, aI cy (ad 35) 16 a8_a, aI cy (ad 36) 4 a8_b, aI cy (ad 37) 4 a8_e, aI cy (ad 38) 4 a8_h]) u) (va_A [oX0 ad , oX4 ad s4_ticks s4_firstBeganWith s4_secondBefore s4_thirdBefore s4_thirdTwoBefore, oX5 ad s5_kind s5_sums, oX7 ad s7_over s7_count, oX8 ad s8_sums s8_g, oX10 ad , aJ cy (ad 20) 4 a0_least, aJ cy (ad 21) 4 a0_most, aJ cy (ad 22) 4 a0_place, aJ cy (ad 23) 4 a0_at, aJ cy (ad 30) 4 a5_coming, aI cy (ad 31) 3 a5_picked, aI cy (ad 34) 8 a7_values, aI cy (ad 35) 16 a8_a, aI cy (ad 36) 4 a8_b, aI cy (ad 37) 4 a8_e, aI cy (ad 38) 4 a8_h] sz) t) (va_A [oX0 ad , oX4 ad s4_ticks s4_firstBeganWith s4_secondBefore s4_thirdBefore s4_thirdTwoBefore, oX5 ad s5_kind s5_sums, oX7 ad s7_over s7_count, oX8 ad s8_sums s8_g, oX10 ad , aJ cy (ad 20) 4 a0_least, aJ cy (ad 21) 4 a0_most, aJ cy (ad 22) 4 a0_place, aJ cy (ad 23) 4 a0_at, aJ cy (ad 30) 4 a5_coming, aI cy (ad 31) 3 a5_picked, aI cy (ad 34) 8 a7_values, aI cy (ad 35) 16 a8_a, aI cy (ad 36) 4 a8_b, aI cy (ad 37) 4 a8_e, aI cy (ad 38) 4 a8_h] sz)) 0 0 (va_A [oX0 ad , oX4 ad s4_ticks s4_firstBeganWith s4_secondBefore s4_thirdBefore s4_thirdTwoBefore, oX5 ad s5_kind s5_sums, oX7 ad s7_over s7_count, oX8 ad s8_sums s8_g, oX10 ad , aJ cy (ad 20) 4 a0_least, aJ cy (ad 21) 4 a0_most, aJ cy (ad 22) 4 a0_place, aJ cy (ad 23) 4 a0_at, aJ cy (ad 30) 4 a5_coming, aI cy (ad 31) 3 a5_picked, aI cy (ad 34) 8 a7_values, aI cy (ad 35) 16 a8_a, aI cy (ad 36) 4 a8_b, aI cy (ad 37) 4 a8_e, aI cy (ad 38) 4 a8_h] sz) := by
  refine k_ofW (cc := cX10_kept) (maxL := 3) (ret := (some .int)) (fun A => va_Qi (fun (r : Int32) (u : (Nat → Int64) × (Nat → Int64) × (Nat → Int64) × (Nat → Int32)) => K r u.1 u.2.1 u.2.2.1 u.2.2.2) (fun u t => we D ((fun u : (Nat → Int64) × (Nat → Int64) × (Nat → Int64) × (Nat → Int32) => [oX0 ad , oX4 ad s4_ticks s4_firstBeganWith s4_secondBefore s4_thirdBefore s4_thirdTwoBefore, oX5 ad s5_kind s5_sums, oX7 ad s7_over s7_count, oX8 ad s8_sums s8_g, oX10 ad , aJ cy (ad 20) 4 a0_least, aJ cy (ad 21) 4 a0_most, aJ cy (ad 22) 4 u.1, aJ cy (ad 23) 4 u.2.1, aJ cy (ad 30) 4 u.2.2.1, aI cy (ad 31) 3 u.2.2.2, aI cy (ad 34) 8 a7_values, aI cy (ad 35) 16 a8_a, aI cy (ad 36) 4 a8_b, aI cy (ad 37) 4 a8_e, aI cy (ad 38) 4 a8_h]) u) A t) A) (by decide) rfl (Nat.le_of_ble_eq_true rfl) ?_
  intro p e s m below meth c A ls H locs hx hb hml hr hts hown hlocks hname hK hN hA hP hD hS hl
  have hl : lv_has ls 3 [(0, .ref (ad 10)), (1, .int x1), (2, .int x2)] := hl
  generalize hQ : MQ below _ _ s _ _ A = Q
  unfold v_X10_kept at hv
  refine lv_iload_n hx hb dX10_kept_0 rfl (lv_at hl 1 rfl) ?_
  have hPc := hP.sub (ws' := []) [] rfl
  have hDc := hD.sub (ws' := []) [] (by decide) rfl
  refine k_cali (wc := []) (wr := [oX0 ad , oX4 ad s4_ticks s4_firstBeganWith s4_secondBefore s4_thirdBefore s4_thirdTwoBefore, oX5 ad s5_kind s5_sums, oX7 ad s7_over s7_count, oX8 ad s8_sums s8_g, oX10 ad , aJ cy (ad 20) 4 a0_least, aJ cy (ad 21) 4 a0_most, aJ cy (ad 22) 4 a0_place, aJ cy (ad 23) 4 a0_at, aJ cy (ad 30) 4 a5_coming, aI cy (ad 31) 3 a5_picked, aI cy (ad 34) 8 a7_values, aI cy (ad 35) 16 a8_a, aI cy (ad 36) 4 a8_b, aI cy (ad 37) 4 a8_e, aI cy (ad 38) 4 a8_h]) (va_runS (As := [.int x1]) (rest := []) ⟨hx, hb, hml, hown, hts⟩ (m_X10_isWish l D cy ad x1 H.size hv) (va_cwS 1 hts gX10_kept_X10_isWish rfl rfl rfl (by decide +kernel) ⟨Nat.le_of_ble_eq_true rfl, Nat.le_of_ble_eq_true rfl⟩) ⟨wd_blind, wd_ok hPc hK hDc hN⟩ rfl rfl hl.1 rfl (lv_room (Nat.le_of_ble_eq_true rfl)) dX10_kept_1 ⟨Nat.le_of_ble_eq_true rfl, Nat.le_of_ble_eq_true rfl⟩) hP hD hS hA [] [0, 1, 2, 3, 4, 5, 6, 7, 8, 9, 10, 11, 12, 13, 14, 15, 16] rfl rfl (by decide) (by decide) (fun r1 u H locs hv hP hD hS => ?_)
  obtain ⟨hz_r1, hv⟩ := hv
  have hP : va_P D vwCl [oX0 ad , oX4 ad s4_ticks s4_firstBeganWith s4_secondBefore s4_thirdBefore s4_thirdTwoBefore, oX5 ad s5_kind s5_sums, oX7 ad s7_over s7_count, oX8 ad s8_sums s8_g, oX10 ad , aJ cy (ad 20) 4 a0_least, aJ cy (ad 21) 4 a0_most, aJ cy (ad 22) 4 a0_place, aJ cy (ad 23) 4 a0_at, aJ cy (ad 30) 4 a5_coming, aI cy (ad 31) 3 a5_picked, aI cy (ad 34) 8 a7_values, aI cy (ad 35) 16 a8_a, aI cy (ad 36) 4 a8_b, aI cy (ad 37) 4 a8_e, aI cy (ad 38) 4 a8_h] H := hP.sub [0, 1, 2, 3, 4, 5, 6, 7, 8, 9, 10, 11, 12, 13, 14, 15, 16] rfl
  have hD : va_D A [oX0 ad , oX4 ad s4_ticks s4_firstBeganWith s4_secondBefore s4_thirdBefore s4_thirdTwoBefore, oX5 ad s5_kind s5_sums, oX7 ad s7_over s7_count, oX8 ad s8_sums s8_g, oX10 ad , aJ cy (ad 20) 4 a0_least, aJ cy (ad 21) 4 a0_most, aJ cy (ad 22) 4 a0_place, aJ cy (ad 23) 4 a0_at, aJ cy (ad 30) 4 a5_coming, aI cy (ad 31) 3 a5_picked, aI cy (ad 34) 8 a7_values, aI cy (ad 35) 16 a8_a, aI cy (ad 36) 4 a8_b, aI cy (ad 37) 4 a8_e, aI cy (ad 38) 4 a8_h] := hD.sub [0, 1, 2, 3, 4, 5, 6, 7, 8, 9, 10, 11, 12, 13, 14, 15, 16] (by decide) rfl
  refine lv_if_eq (tgt := 19) hx hb dX10_kept_4 (by decide) (fun c_4 => ?_) (fun c_4 => ?_)
  · have hv := hv.1 c_4
    refine lv_iconst (v := -1) hx hb dX10_kept_19 (by decide) ?_
    rw [← hQ]
    exact k_iret hx hb hr hlocks hS (a0_place, a0_at, a5_coming, a5_picked) hP hD hv dX10_kept_20
  · have hv := hv.2 c_4
    refine lv_iload_n hx hb dX10_kept_7 rfl (lv_at hl 2 rfl) ?_
    have hPc := hP.sub (ws' := []) [] rfl
    have hDc := hD.sub (ws' := []) [] (by decide) rfl
    refine k_cali (wc := []) (wr := [oX0 ad , oX4 ad s4_ticks s4_firstBeganWith s4_secondBefore s4_thirdBefore s4_thirdTwoBefore, oX5 ad s5_kind s5_sums, oX7 ad s7_over s7_count, oX8 ad s8_sums s8_g, oX10 ad , aJ cy (ad 20) 4 a0_least, aJ cy (ad 21) 4 a0_most, aJ cy (ad 22) 4 a0_place, aJ cy (ad 23) 4 a0_at, aJ cy (ad 30) 4 a5_coming, aI cy (ad 31) 3 a5_picked, aI cy (ad 34) 8 a7_values, aI cy (ad 35) 16 a8_a, aI cy (ad 36) 4 a8_b, aI cy (ad 37) 4 a8_e, aI cy (ad 38) 4 a8_h]) (va_runS (As := [.int x2]) (rest := []) ⟨hx, hb, hml, hown, hts⟩ (m_X10_isWish l D cy ad x2 H.size hv) (va_cwS 1 hts gX10_kept_X10_isWish rfl rfl rfl (by decide +kernel) ⟨Nat.le_of_ble_eq_true rfl, Nat.le_of_ble_eq_true rfl⟩) ⟨wd_blind, wd_ok hPc hK hDc hN⟩ rfl rfl hl.1 rfl (lv_room (Nat.le_of_ble_eq_true rfl)) dX10_kept_8 ⟨Nat.le_of_ble_eq_true rfl, Nat.le_of_ble_eq_true rfl⟩) hP hD hS hA [] [0, 1, 2, 3, 4, 5, 6, 7, 8, 9, 10, 11, 12, 13, 14, 15, 16] rfl rfl (by decide) (by decide) (fun r2 u H locs hv hP hD hS => ?_)
    obtain ⟨hz_r2, hv⟩ := hv
    have hP : va_P D vwCl [oX0 ad , oX4 ad s4_ticks s4_firstBeganWith s4_secondBefore s4_thirdBefore s4_thirdTwoBefore, oX5 ad s5_kind s5_sums, oX7 ad s7_over s7_count, oX8 ad s8_sums s8_g, oX10 ad , aJ cy (ad 20) 4 a0_least, aJ cy (ad 21) 4 a0_most, aJ cy (ad 22) 4 a0_place, aJ cy (ad 23) 4 a0_at, aJ cy (ad 30) 4 a5_coming, aI cy (ad 31) 3 a5_picked, aI cy (ad 34) 8 a7_values, aI cy (ad 35) 16 a8_a, aI cy (ad 36) 4 a8_b, aI cy (ad 37) 4 a8_e, aI cy (ad 38) 4 a8_h] H := hP.sub [0, 1, 2, 3, 4, 5, 6, 7, 8, 9, 10, 11, 12, 13, 14, 15, 16] rfl
    have hD : va_D A [oX0 ad , oX4 ad s4_ticks s4_firstBeganWith s4_secondBefore s4_thirdBefore s4_thirdTwoBefore, oX5 ad s5_kind s5_sums, oX7 ad s7_over s7_count, oX8 ad s8_sums s8_g, oX10 ad , aJ cy (ad 20) 4 a0_least, aJ cy (ad 21) 4 a0_most, aJ cy (ad 22) 4 a0_place, aJ cy (ad 23) 4 a0_at, aJ cy (ad 30) 4 a5_coming, aI cy (ad 31) 3 a5_picked, aI cy (ad 34) 8 a7_values, aI cy (ad 35) 16 a8_a, aI cy (ad 36) 4 a8_b, aI cy (ad 37) 4 a8_e, aI cy (ad 38) 4 a8_h] := hD.sub [0, 1, 2, 3, 4, 5, 6, 7, 8, 9, 10, 11, 12, 13, 14, 15, 16] (by decide) rfl
    refine lv_if_eq (tgt := 19) hx hb dX10_kept_11 (by decide) (fun c_11 => ?_) (fun c_11 => ?_)
    · have hv := hv.1 c_11
      refine lv_iconst (v := -1) hx hb dX10_kept_19 (by decide) ?_
      rw [← hQ]
      exact k_iret hx hb hr hlocks hS (a0_place, a0_at, a5_coming, a5_picked) hP hD hv dX10_kept_20
    · have hv := hv.2 c_11
      refine lv_iload_n hx hb dX10_kept_14 rfl (lv_at hl 1 rfl) ?_
      refine lv_iload_n hx hb dX10_kept_15 rfl (lv_at hl 2 rfl) ?_
      refine lv_icmp_le (tgt := 21) hx hb dX10_kept_16 (by decide) (fun c_16 => ?_) (fun c_16 => ?_)
      · have hv := hv.1 c_16
        refine lv_aload_n hx hb dX10_kept_21 rfl (lv_at hl 0 rfl) ?_
        refine va_get (D := D) (ci := 10) (v := .ref (ad 0)) (C := RX10) (T := TX10) (N := 6) hx hb hts in_X10_kept_10 hown hK hP 5 rfl rfl 3 (by decide) (hts _ lk_X10_kept_37) (fun _ h9 => h9) rfl dX10_kept_22 ?_
        refine lv_aload_n hx hb dX10_kept_25 rfl (lv_at hl 0 rfl) ?_
        refine va_get (D := D) (ci := 10) (v := .ref (ad 4)) (C := RX10) (T := TX10) (N := 6) hx hb hts in_X10_kept_10 hown hK hP 5 rfl rfl 1 (by decide) (hts _ lk_X10_kept_21) (fun _ h9 => h9) rfl dX10_kept_26 ?_
        refine va_getN (D := D) (ci := 4) (v := .ref (ad 5)) (C := RX4) (T := TX4) (N := 9) hx hb hts in_X10_kept_4 hown hK hP 1 rfl rfl 0 (by decide) (nz_use hN nzf_X10_74) (fun _ h9 => h9) rfl dX10_kept_29 ?_
        refine lv_iload_n hx hb dX10_kept_32 rfl (lv_at hl 1 rfl) ?_
        refine lv_iload_n hx hb dX10_kept_33 rfl (lv_at hl 2 rfl) ?_
        have hPc := hP.sub (ws' := [oX0 ad , oX5 ad s5_kind s5_sums, oX7 ad s7_over s7_count, oX8 ad s8_sums s8_g, aJ cy (ad 20) 4 a0_least, aJ cy (ad 21) 4 a0_most, aJ cy (ad 22) 4 a0_place, aJ cy (ad 23) 4 a0_at, aJ cy (ad 30) 4 a5_coming, aI cy (ad 31) 3 a5_picked, aI cy (ad 34) 8 a7_values, aI cy (ad 35) 16 a8_a, aI cy (ad 36) 4 a8_b, aI cy (ad 37) 4 a8_e, aI cy (ad 38) 4 a8_h]) [0, 2, 3, 4, 6, 7, 8, 9, 10, 11, 12, 13, 14, 15, 16] rfl
        have hDc := hD.sub (ws' := [oX0 ad , oX5 ad s5_kind s5_sums, oX7 ad s7_over s7_count, oX8 ad s8_sums s8_g, aJ cy (ad 20) 4 a0_least, aJ cy (ad 21) 4 a0_most, aJ cy (ad 22) 4 a0_place, aJ cy (ad 23) 4 a0_at, aJ cy (ad 30) 4 a5_coming, aI cy (ad 31) 3 a5_picked, aI cy (ad 34) 8 a7_values, aI cy (ad 35) 16 a8_a, aI cy (ad 36) 4 a8_b, aI cy (ad 37) 4 a8_e, aI cy (ad 38) 4 a8_h]) [0, 2, 3, 4, 6, 7, 8, 9, 10, 11, 12, 13, 14, 15, 16] (by decide) rfl
        refine k_cali (wc := [oX0 ad , oX5 ad s5_kind s5_sums, oX7 ad s7_over s7_count, oX8 ad s8_sums s8_g, aJ cy (ad 20) 4 a0_least, aJ cy (ad 21) 4 a0_most, aJ cy (ad 22) 4 a0_place, aJ cy (ad 23) 4 a0_at, aJ cy (ad 30) 4 a5_coming, aI cy (ad 31) 3 a5_picked, aI cy (ad 34) 8 a7_values, aI cy (ad 35) 16 a8_a, aI cy (ad 36) 4 a8_b, aI cy (ad 37) 4 a8_e, aI cy (ad 38) 4 a8_h]) (wr := [oX4 ad s4_ticks s4_firstBeganWith s4_secondBefore s4_thirdBefore s4_thirdTwoBefore, oX10 ad ]) (va_runV (As := [.ref (ad 5), .int x1, .int x2]) (rest := []) ⟨hx, hb, hml, hown, hts⟩ (m_X0_tellKept l D cy ad s5_kind s5_sums s7_over s7_count s8_sums s8_g a0_least a0_most a0_place a0_at a5_coming a5_picked a7_values a8_a a8_b a8_e a8_h x1 x2 H.size hv) (cwV 3 hts gX10_kept_X0_tellKept rfl rfl rfl (by decide +kernel) ⟨Nat.le_of_ble_eq_true rfl, Nat.le_of_ble_eq_true rfl⟩) ⟨wd_blind, va_recv hK hPc (ci := 0) (q0 := 0) rfl rfl, wd_ok hPc hK hDc hN⟩ rfl rfl hl.1 rfl (lv_room (Nat.le_of_ble_eq_true rfl)) dX10_kept_34 ⟨Nat.le_of_ble_eq_true rfl, Nat.le_of_ble_eq_true rfl⟩) hP hD hS hA [0, 2, 3, 4, 6, 7, 8, 9, 10, 11, 12, 13, 14, 15, 16] [1, 5] rfl rfl (by decide) (by decide) (fun r3 u H locs hv hP hD hS => ?_)
        obtain ⟨a0_place_4, a0_at_5, a5_coming_6, a5_picked_7⟩ := u
        have hP : va_P D vwCl [oX0 ad , oX4 ad s4_ticks s4_firstBeganWith s4_secondBefore s4_thirdBefore s4_thirdTwoBefore, oX5 ad s5_kind s5_sums, oX7 ad s7_over s7_count, oX8 ad s8_sums s8_g, oX10 ad , aJ cy (ad 20) 4 a0_least, aJ cy (ad 21) 4 a0_most, aJ cy (ad 22) 4 a0_place_4, aJ cy (ad 23) 4 a0_at_5, aJ cy (ad 30) 4 a5_coming_6, aI cy (ad 31) 3 a5_picked_7, aI cy (ad 34) 8 a7_values, aI cy (ad 35) 16 a8_a, aI cy (ad 36) 4 a8_b, aI cy (ad 37) 4 a8_e, aI cy (ad 38) 4 a8_h] H := hP.sub [2, 0, 3, 4, 5, 1, 6, 7, 8, 9, 10, 11, 12, 13, 14, 15, 16] rfl
        have hD : va_D A [oX0 ad , oX4 ad s4_ticks s4_firstBeganWith s4_secondBefore s4_thirdBefore s4_thirdTwoBefore, oX5 ad s5_kind s5_sums, oX7 ad s7_over s7_count, oX8 ad s8_sums s8_g, oX10 ad , aJ cy (ad 20) 4 a0_least, aJ cy (ad 21) 4 a0_most, aJ cy (ad 22) 4 a0_place_4, aJ cy (ad 23) 4 a0_at_5, aJ cy (ad 30) 4 a5_coming_6, aI cy (ad 31) 3 a5_picked_7, aI cy (ad 34) 8 a7_values, aI cy (ad 35) 16 a8_a, aI cy (ad 36) 4 a8_b, aI cy (ad 37) 4 a8_e, aI cy (ad 38) 4 a8_h] := hD.sub [2, 0, 3, 4, 5, 1, 6, 7, 8, 9, 10, 11, 12, 13, 14, 15, 16] (by decide) rfl
        rw [← hQ]
        exact k_iret hx hb hr hlocks hS (a0_place_4, a0_at_5, a5_coming_6, a5_picked_7) hP hD hv dX10_kept_37
      · have hv := hv.2 c_16
        refine lv_iconst (v := -1) hx hb dX10_kept_19 (by decide) ?_
        rw [← hQ]
        exact k_iret hx hb hr hlocks hS (a0_place, a0_at, a5_coming, a5_picked) hP hD hv dX10_kept_20
theorem lk_X10_word_10 : Cond.fieldLink RX10 10 "CoarseSteps" "scale" "LCoarseSteps$Scale;" ∈ wsX10_word := by decide +kernel
theorem in_X10_word_10 : ∀ w ∈ wsX100, w ∈ wsX10_word := by decide +kernel
theorem in_X10_word_7 : ∀ w ∈ wsX70, w ∈ wsX10_word := by decide +kernel
theorem lk_X10_word_176 : Cond.constant RX10 176 (1000000) ∈ wsX10_word := by decide +kernel
abbrev rm_X10_word : Room := { frames := 1, cells := 0, slots := 0, locals := 25 }
set_option maxHeartbeats 4000000 in
set_option maxRecDepth 100000 in
theorem m_X10_word (l : Launch) (D : va_G) (cy : ClassId × ClassId × ClassId) (ad : Nat → Nat) (s7_over : Int32) (s7_count : Int32) (x1 : Int32) (x2 : Int32) (sz : Nat) {K : Int32 → Prop} (hv : v_X10_word s7_over x1 x2 K) : Met l yX10_word wsX10_word rm_X10_word (va_Pc [.ref (ad 10), .int x1, .int x2] (wd D cy [oX7 ad s7_over s7_count, oX10 ad ] sz)) (va_Qi (fun (r : Int32) (u : Unit) => K r) (fun u t => we D ((fun u : Unit => [oX7 ad s7_over s7_count, oX10 ad ]) u) (va_A [oX7 ad s7_over s7_count, oX10 ad ] sz) t) (va_A [oX7 ad s7_over s7_count, oX10 ad ] sz)) 0 0 (va_A [oX7 ad s7_over s7_count, oX10 ad ] sz) := by
  refine k_ofW (cc := cX10_word) (maxL := 7) (ret := (some .int)) (fun A => va_Qi (fun (r : Int32) (u : Unit) => K r) (fun u t => we D ((fun u : Unit => [oX7 ad s7_over s7_count, oX10 ad ]) u) A t) A) (by decide) rfl (Nat.le_of_ble_eq_true rfl) ?_
  intro p e s m below meth c A ls H locs hx hb hml hr hts hown hlocks hname hK hN hA hP hD hS hl
  have hl : lv_has ls 7 [(0, .ref (ad 10)), (1, .int x1), (2, .int x2)] := hl
  generalize hQ : MQ below _ _ s _ _ A = Q
  unfold v_X10_word at hv
  refine lv_iload_n hx hb dX10_word_0 rfl (lv_at hl 1 rfl) ?_
  refine lv_if_lt (tgt := 25) hx hb dX10_word_1 (by decide) (fun c_1 => ?_) (fun c_1 => ?_)
  · have hv := hv.1 c_1
    refine lv_iconst (v := -1) hx hb dX10_word_25 (by decide) ?_
    rw [← hQ]
    exact k_iret hx hb hr hlocks hS () hP hD hv dX10_word_26
  · have hv := hv.2 c_1
    refine lv_iload_n hx hb dX10_word_4 rfl (lv_at hl 1 rfl) ?_
    refine lv_aload_n hx hb dX10_word_5 rfl (lv_at hl 0 rfl) ?_
    refine va_get (D := D) (ci := 10) (v := .ref (ad 7)) (C := RX10) (T := TX10) (N := 6) hx hb hts in_X10_word_10 hown hK hP 1 rfl rfl 0 (by decide) (hts _ lk_X10_word_10) (fun _ h9 => h9) rfl dX10_word_6 ?_
    refine va_getN (D := D) (ci := 7) (v := .int s7_over) (C := RX7) (T := TX7) (N := 3) hx hb hts in_X10_word_7 hown hK hP 0 rfl rfl 0 (by decide) (nz_use hN nzf_X10_55) (fun _ h9 => h9) rfl dX10_word_9 ?_
    refine lv_icmp_ge (tgt := 25) hx hb dX10_word_12 (by decide) (fun c_12 => ?_) (fun c_12 => ?_)
    · have hv := hv.1 c_12
      refine lv_iconst (v := -1) hx hb dX10_word_25 (by decide) ?_
      rw [← hQ]
      exact k_iret hx hb hr hlocks hS () hP hD hv dX10_word_26
    · have hv := hv.2 c_12
      refine lv_iload_n hx hb dX10_word_15 rfl (lv_at hl 2 rfl) ?_
      refine lv_if_lt (tgt := 25) hx hb dX10_word_16 (by decide) (fun c_16 => ?_) (fun c_16 => ?_)
      · have hv := hv.1 c_16
        refine lv_iconst (v := -1) hx hb dX10_word_25 (by decide) ?_
        rw [← hQ]
        exact k_iret hx hb hr hlocks hS () hP hD hv dX10_word_26
      · have hv := hv.2 c_16
        refine lv_iload_n hx hb dX10_word_19 rfl (lv_at hl 2 rfl) ?_
        refine lv_ldc hx hb hown (hts _ lk_X10_word_176) dX10_word_20 ?_
        refine lv_icmp_le (tgt := 27) hx hb dX10_word_22 (by decide) (fun c_22 => ?_) (fun c_22 => ?_)
        · have hv := hv.1 c_22
          refine lv_iload_n hx hb dX10_word_27 rfl (lv_at hl 2 rfl) ?_
          refine lv_i2l hx hb dX10_word_28 rfl ?_
          refine lv_lconst (v := 1) hx hb dX10_word_29 (by decide) ?_
          refine lv_ladd hx hb dX10_word_30 ?_
          refine lv_topl (fun e1 h_e1 => ?_)
          have hv := hv e1 h_e1
          refine lv_iload_n hx hb dX10_word_31 rfl (lv_at hl 1 rfl) ?_
          refine lv_i2l hx hb dX10_word_32 rfl ?_
          refine lv_lmul hx hb dX10_word_33 ?_
          refine lv_topl (fun e2 h_e2 => ?_)
          have hv := hv e2 h_e2
          refine lv_aload_n hx hb dX10_word_34 rfl (lv_at hl 0 rfl) ?_
          refine va_get (D := D) (ci := 10) (v := .ref (ad 7)) (C := RX10) (T := TX10) (N := 6) hx hb hts in_X10_word_10 hown hK hP 1 rfl rfl 0 (by decide) (hts _ lk_X10_word_10) (fun _ h9 => h9) rfl dX10_word_35 ?_
          refine va_getN (D := D) (ci := 7) (v := .int s7_over) (C := RX7) (T := TX7) (N := 3) hx hb hts in_X10_word_7 hown hK hP 0 rfl rfl 0 (by decide) (nz_use hN nzf_X10_55) (fun _ h9 => h9) rfl dX10_word_38 ?_
          refine lv_i2l hx hb dX10_word_41 rfl ?_
          have hPc := hP.sub (ws' := []) [] rfl
          have hDc := hD.sub (ws' := []) [] (by decide) rfl
          refine k_call (wc := []) (wr := [oX7 ad s7_over s7_count, oX10 ad ]) (va_runS (As := [.long e2, .long s7_over.toInt64]) (rest := []) ⟨hx, hb, hml, hown, hts⟩ (m_J9_floorDiv_f86c9 l D cy ad e2 (s7_over.toInt64) H.size hv) (va_cwS 2 hts gX10_word_J9_floorDiv_f86c9 rfl rfl rfl (by decide +kernel) ⟨Nat.le_of_ble_eq_true rfl, Nat.le_of_ble_eq_true rfl⟩) ⟨wd_blind, wd_ok hPc hK hDc hN⟩ rfl rfl hl.1 rfl (lv_room (Nat.le_of_ble_eq_true rfl)) dX10_word_42 ⟨Nat.le_of_ble_eq_true rfl, Nat.le_of_ble_eq_true rfl⟩) hP hD hS hA [] [0, 1] rfl rfl (by decide) (by decide) (fun r3 u H locs hv hP hD hS => ?_)
          have hP : va_P D vwCl [oX7 ad s7_over s7_count, oX10 ad ] H := hP.sub [0, 1] rfl
          have hD : va_D A [oX7 ad s7_over s7_count, oX10 ad ] := hD.sub [0, 1] (by decide) rfl
          refine lv_lstore_n (lv' := [(3, .long r3), (0, .ref (ad 10)), (1, .int x1), (2, .int x2)]) hx hb dX10_word_45 rfl hl (by decide) rfl (fun ls hl => ?_)
          refine lv_iload_n hx hb dX10_word_46 rfl (lv_at hl 3 rfl) ?_
          refine lv_i2l hx hb dX10_word_47 rfl ?_
          refine lv_iload_n hx hb dX10_word_48 rfl (lv_at hl 2 rfl) ?_
          refine lv_i2l hx hb dX10_word_49 rfl ?_
          refine lv_lmul hx hb dX10_word_50 ?_
          refine lv_topl (fun e4 h_e4 => ?_)
          have hv := hv e4 h_e4
          refine lv_aload_n hx hb dX10_word_51 rfl (lv_at hl 1 rfl) ?_
          refine va_get (D := D) (ci := 10) (v := .ref (ad 7)) (C := RX10) (T := TX10) (N := 6) hx hb hts in_X10_word_10 hown hK hP 1 rfl rfl 0 (by decide) (hts _ lk_X10_word_10) (fun _ h9 => h9) rfl dX10_word_52 ?_
          refine va_getN (D := D) (ci := 7) (v := .int s7_over) (C := RX7) (T := TX7) (N := 3) hx hb hts in_X10_word_7 hown hK hP 0 rfl rfl 0 (by decide) (nz_use hN nzf_X10_55) (fun _ h9 => h9) rfl dX10_word_55 ?_
          refine lv_i2l hx hb dX10_word_58 rfl ?_
          have hPc := hP.sub (ws' := []) [] rfl
          have hDc := hD.sub (ws' := []) [] (by decide) rfl
          refine k_call (wc := []) (wr := [oX7 ad s7_over s7_count, oX10 ad ]) (va_runS (As := [.long e4, .long s7_over.toInt64]) (rest := []) ⟨hx, hb, hml, hown, hts⟩ (m_J9_floorDiv_f86c9 l D cy ad e4 (s7_over.toInt64) H.size hv) (va_cwS 2 hts gX10_word_J9_floorDiv_f86c9 rfl rfl rfl (by decide +kernel) ⟨Nat.le_of_ble_eq_true rfl, Nat.le_of_ble_eq_true rfl⟩) ⟨wd_blind, wd_ok hPc hK hDc hN⟩ rfl rfl hl.1 rfl (lv_room (Nat.le_of_ble_eq_true rfl)) dX10_word_59 ⟨Nat.le_of_ble_eq_true rfl, Nat.le_of_ble_eq_true rfl⟩) hP hD hS hA [] [0, 1] rfl rfl (by decide) (by decide) (fun r5 u H locs hv hP hD hS => ?_)
          have hP : va_P D vwCl [oX7 ad s7_over s7_count, oX10 ad ] H := hP.sub [0, 1] rfl
          have hD : va_D A [oX7 ad s7_over s7_count, oX10 ad ] := hD.sub [0, 1] (by decide) rfl
          refine lv_lstore (lv' := [(5, .long r5), (3, .long r3), (0, .ref (ad 10)), (1, .int x1), (2, .int x2)]) hx hb dX10_word_62 hl (by decide) rfl (fun ls hl => ?_)
          refine lv_lload_n hx hb dX10_word_64 rfl (lv_at hl 1 rfl) ?_
          refine lv_lload hx hb dX10_word_65 (lv_at hl 0 rfl) ?_
          refine lv_lsub hx hb dX10_word_67 ?_
          refine lv_topl (fun e6 h_e6 => ?_)
          have hv := hv e6 h_e6
          refine lv_l2i hx hb dX10_word_68 rfl ?_
          rw [← hQ]
          exact k_iret hx hb hr hlocks hS () hP hD hv dX10_word_69
        · have hv := hv.2 c_22
          refine lv_iconst (v := -1) hx hb dX10_word_25 (by decide) ?_
          rw [← hQ]
          exact k_iret hx hb hr hlocks hS () hP hD hv dX10_word_26
theorem lk_X10_even_21 : Cond.fieldLink RX10 21 "CoarseSteps" "loop" "LCoarseSteps$Loop;" ∈ wsX10_even := by decide +kernel
theorem in_X10_even_10 : ∀ w ∈ wsX100, w ∈ wsX10_even := by decide +kernel
theorem in_X10_even_4 : ∀ w ∈ wsX40, w ∈ wsX10_even := by decide +kernel
abbrev rm_X10_even : Room := { frames := 3, cells := 0, slots := 0, locals := 69 }
set_option maxHeartbeats 4000000 in
set_option maxRecDepth 100000 in
theorem m_X10_even (l : Launch) (D : va_G) (cy : ClassId × ClassId × ClassId) (ad : Nat → Nat) (s3_next : Int32) (s3_kept : Int32) (s4_ticks : Int32) (s4_firstBeganWith : Int64) (s4_secondBefore : Int32) (s4_thirdBefore : Int32) (s4_thirdTwoBefore : Int32) (a3_givens : Nat → Int32) (a3_totals : Nat → Int32) (x1 : Int32) (sz : Nat) {K : Int32 → (Nat → Int32) → Prop} (hv : v_X10_even s3_next s3_kept a3_givens a3_totals x1 K) : Met l yX10_even wsX10_even rm_X10_even (va_Pc [.ref (ad 10), .int x1] (wd D cy [oX3 ad s3_next s3_kept, oX4 ad s4_ticks s4_firstBeganWith s4_secondBefore s4_thirdBefore s4_thirdTwoBefore, oX10 ad , aI cy (ad 26) 256 a3_givens, aI cy (ad 28) 257 a3_totals] sz)) (va_Qi (fun (r : Int32) (u : (Nat → Int32)) => K r u) (fun u t => we D ((fun u : (Nat → Int32) => [oX3 ad s3_next s3_kept, oX4 ad s4_ticks s4_firstBeganWith s4_secondBefore s4_thirdBefore s4_thirdTwoBefore, oX10 ad , aI cy (ad 26) 256 a3_givens, aI cy (ad 28) 257 u]) u) (va_A [oX3 ad s3_next s3_kept, oX4 ad s4_ticks s4_firstBeganWith s4_secondBefore s4_thirdBefore s4_thirdTwoBefore, oX10 ad , aI cy (ad 26) 256 a3_givens, aI cy (ad 28) 257 a3_totals] sz) t) (va_A [oX3 ad s3_next s3_kept, oX4 ad s4_ticks s4_firstBeganWith s4_secondBefore s4_thirdBefore s4_thirdTwoBefore, oX10 ad , aI cy (ad 26) 256 a3_givens, aI cy (ad 28) 257 a3_totals] sz)) 0 0 (va_A [oX3 ad s3_next s3_kept, oX4 ad s4_ticks s4_firstBeganWith s4_secondBefore s4_thirdBefore s4_thirdTwoBefore, oX10 ad , aI cy (ad 26) 256 a3_givens, aI cy (ad 28) 257 a3_totals] sz) := by
  refine k_ofW (cc := cX10_even) (maxL := 2) (ret := (some .int)) (fun A => va_Qi (fun (r : Int32) (u : (Nat → Int32)) => K r u) (fun u t => we D ((fun u : (Nat → Int32) => [oX3 ad s3_next s3_kept, oX4 ad s4_ticks s4_firstBeganWith s4_secondBefore s4_thirdBefore s4_thirdTwoBefore, oX10 ad , aI cy (ad 26) 256 a3_givens, aI cy (ad 28) 257 u]) u) A t) A) (by decide) rfl (Nat.le_of_ble_eq_true rfl) ?_
  intro p e s m below meth c A ls H locs hx hb hml hr hts hown hlocks hname hK hN hA hP hD hS hl
  have hl : lv_has ls 2 [(0, .ref (ad 10)), (1, .int x1)] := hl
  generalize hQ : MQ below _ _ s _ _ A = Q
  unfold v_X10_even at hv
  refine lv_aload_n hx hb dX10_even_0 rfl (lv_at hl 0 rfl) ?_
  refine va_get (D := D) (ci := 10) (v := .ref (ad 4)) (C := RX10) (T := TX10) (N := 6) hx hb hts in_X10_even_10 hown hK hP 2 rfl rfl 1 (by decide) (hts _ lk_X10_even_21) (fun _ h9 => h9) rfl dX10_even_1 ?_
  refine va_getN (D := D) (ci := 4) (v := .ref (ad 3)) (C := RX4) (T := TX4) (N := 9) hx hb hts in_X10_even_4 hown hK hP 1 rfl rfl 2 (by decide) (nz_use hN nzf_X10_132) (fun _ h9 => h9) rfl dX10_even_4 ?_
  refine lv_iload_n hx hb dX10_even_7 rfl (lv_at hl 1 rfl) ?_
  have hPc := hP.sub (ws' := [oX3 ad s3_next s3_kept]) [0] rfl
  have hDc := hD.sub (ws' := [oX3 ad s3_next s3_kept]) [0] (by decide) rfl
  refine k_cali (wc := [oX3 ad s3_next s3_kept]) (wr := [oX4 ad s4_ticks s4_firstBeganWith s4_secondBefore s4_thirdBefore s4_thirdTwoBefore, oX10 ad , aI cy (ad 26) 256 a3_givens, aI cy (ad 28) 257 a3_totals]) (va_runV (As := [.int x1]) (rest := []) ⟨hx, hb, hml, hown, hts⟩ (m_X3_holdsLast l D cy ad s3_next s3_kept x1 H.size hv) (cwV 1 hts gX10_even_X3_holdsLast rfl rfl rfl (by decide +kernel) ⟨Nat.le_of_ble_eq_true rfl, Nat.le_of_ble_eq_true rfl⟩) ⟨wd_blind, va_recv hK hPc (ci := 3) (q0 := 0) rfl rfl, wd_ok hPc hK hDc hN⟩ rfl rfl hl.1 rfl (lv_room (Nat.le_of_ble_eq_true rfl)) dX10_even_8 ⟨Nat.le_of_ble_eq_true rfl, Nat.le_of_ble_eq_true rfl⟩) hP hD hS hA [0] [1, 2, 3, 4] rfl rfl (by decide) (by decide) (fun r1 u H locs hv hP hD hS => ?_)
  obtain ⟨hz_r1, hv⟩ := hv
  have hP : va_P D vwCl [oX3 ad s3_next s3_kept, oX4 ad s4_ticks s4_firstBeganWith s4_secondBefore s4_thirdBefore s4_thirdTwoBefore, oX10 ad , aI cy (ad 26) 256 a3_givens, aI cy (ad 28) 257 a3_totals] H := hP.sub [4, 0, 1, 2, 3] rfl
  have hD : va_D A [oX3 ad s3_next s3_kept, oX4 ad s4_ticks s4_firstBeganWith s4_secondBefore s4_thirdBefore s4_thirdTwoBefore, oX10 ad , aI cy (ad 26) 256 a3_givens, aI cy (ad 28) 257 a3_totals] := hD.sub [4, 0, 1, 2, 3] (by decide) rfl
  refine lv_if_ne (tgt := 16) hx hb dX10_even_11 (by decide) (fun c_11 => ?_) (fun c_11 => ?_)
  · have hv := hv.1 c_11
    refine lv_aload_n hx hb dX10_even_16 rfl (lv_at hl 0 rfl) ?_
    refine va_get (D := D) (ci := 10) (v := .ref (ad 4)) (C := RX10) (T := TX10) (N := 6) hx hb hts in_X10_even_10 hown hK hP 2 rfl rfl 1 (by decide) (hts _ lk_X10_even_21) (fun _ h9 => h9) rfl dX10_even_17 ?_
    refine va_getN (D := D) (ci := 4) (v := .ref (ad 3)) (C := RX4) (T := TX4) (N := 9) hx hb hts in_X10_even_4 hown hK hP 1 rfl rfl 2 (by decide) (nz_use hN nzf_X10_132) (fun _ h9 => h9) rfl dX10_even_20 ?_
    refine lv_iload_n hx hb dX10_even_23 rfl (lv_at hl 1 rfl) ?_
    have hPc := hP.sub (ws' := [oX3 ad s3_next s3_kept, aI cy (ad 26) 256 a3_givens, aI cy (ad 28) 257 a3_totals]) [0, 3, 4] rfl
    have hDc := hD.sub (ws' := [oX3 ad s3_next s3_kept, aI cy (ad 26) 256 a3_givens, aI cy (ad 28) 257 a3_totals]) [0, 3, 4] (by decide) rfl
    refine k_cali (wc := [oX3 ad s3_next s3_kept, aI cy (ad 26) 256 a3_givens, aI cy (ad 28) 257 a3_totals]) (wr := [oX4 ad s4_ticks s4_firstBeganWith s4_secondBefore s4_thirdBefore s4_thirdTwoBefore, oX10 ad ]) (va_runV (As := [.int x1]) (rest := []) ⟨hx, hb, hml, hown, hts⟩ (m_X3_isEven l D cy ad s3_next s3_kept a3_givens a3_totals x1 H.size hv) (cwV 1 hts gX10_even_X3_isEven rfl rfl rfl (by decide +kernel) ⟨Nat.le_of_ble_eq_true rfl, Nat.le_of_ble_eq_true rfl⟩) ⟨wd_blind, va_recv hK hPc (ci := 3) (q0 := 0) rfl rfl, wd_ok hPc hK hDc hN⟩ rfl rfl hl.1 rfl (lv_room (Nat.le_of_ble_eq_true rfl)) dX10_even_24 ⟨Nat.le_of_ble_eq_true rfl, Nat.le_of_ble_eq_true rfl⟩) hP hD hS hA [0, 3, 4] [1, 2] rfl rfl (by decide) (by decide) (fun r2 a3_totals_3 H locs hv hP hD hS => ?_)
    obtain ⟨hz_r2, hv⟩ := hv
    have hP : va_P D vwCl [oX3 ad s3_next s3_kept, oX4 ad s4_ticks s4_firstBeganWith s4_secondBefore s4_thirdBefore s4_thirdTwoBefore, oX10 ad , aI cy (ad 26) 256 a3_givens, aI cy (ad 28) 257 a3_totals_3] H := hP.sub [2, 0, 1, 3, 4] rfl
    have hD : va_D A [oX3 ad s3_next s3_kept, oX4 ad s4_ticks s4_firstBeganWith s4_secondBefore s4_thirdBefore s4_thirdTwoBefore, oX10 ad , aI cy (ad 26) 256 a3_givens, aI cy (ad 28) 257 a3_totals_3] := hD.sub [2, 0, 1, 3, 4] (by decide) rfl
    refine lv_if_eq (tgt := 34) hx hb dX10_even_27 (by decide) (fun c_27 => ?_) (fun c_27 => ?_)
    · have hv := hv.1 c_27
      refine lv_iconst (v := 0) hx hb dX10_even_34 (by decide) ?_
      rw [← hQ]
      exact k_iret hx hb hr hlocks hS (a3_totals_3) hP hD hv dX10_even_35
    · have hv := hv.2 c_27
      refine lv_iconst (v := 1) hx hb dX10_even_30 (by decide) ?_
      refine lv_goto (tgt := 35) hx hb dX10_even_31 (by decide) ?_
      rw [← hQ]
      exact k_iret hx hb hr hlocks hS (a3_totals_3) hP hD hv dX10_even_35
  · have hv := hv.2 c_11
    refine lv_iconst (v := -1) hx hb dX10_even_14 (by decide) ?_
    rw [← hQ]
    exact k_iret hx hb hr hlocks hS (a3_totals) hP hD hv dX10_even_15
theorem lk_X10_weight_44 : Cond.fieldLink RX10 44 "CoarseSteps" "filter" "LCoarseSteps$Filter;" ∈ wsX10_weight := by decide +kernel
theorem in_X10_weight_10 : ∀ w ∈ wsX100, w ∈ wsX10_weight := by decide +kernel
abbrev rm_X10_weight : Room := { frames := 1, cells := 0, slots := 0, locals := 21 }
set_option maxHeartbeats 4000000 in
set_option maxRecDepth 100000 in
theorem m_X10_weight (l : Launch) (D : va_G) (cy : ClassId × ClassId × ClassId) (ad : Nat → Nat) (s2_count : Int32) (a2_weights : Nat → Int32) (x1 : Int32) (sz : Nat) {K : Int32 → Int32 → (Nat → Int32) → Prop} (hv : v_X10_weight s2_count a2_weights x1 K) : Met l yX10_weight wsX10_weight rm_X10_weight (va_Pc [.ref (ad 10), .int x1] (wd D cy [oX2 ad s2_count, oX10 ad , aI cy (ad 24) 64 a2_weights] sz)) (va_Qi (fun (r : Int32) (u : Int32 × (Nat → Int32)) => K r u.1 u.2) (fun u t => we D ((fun u : Int32 × (Nat → Int32) => [oX2 ad u.1, oX10 ad , aI cy (ad 24) 64 u.2]) u) (va_A [oX2 ad s2_count, oX10 ad , aI cy (ad 24) 64 a2_weights] sz) t) (va_A [oX2 ad s2_count, oX10 ad , aI cy (ad 24) 64 a2_weights] sz)) 0 0 (va_A [oX2 ad s2_count, oX10 ad , aI cy (ad 24) 64 a2_weights] sz) := by
  refine k_ofW (cc := cX10_weight) (maxL := 2) (ret := (some .int)) (fun A => va_Qi (fun (r : Int32) (u : Int32 × (Nat → Int32)) => K r u.1 u.2) (fun u t => we D ((fun u : Int32 × (Nat → Int32) => [oX2 ad u.1, oX10 ad , aI cy (ad 24) 64 u.2]) u) A t) A) (by decide) rfl (Nat.le_of_ble_eq_true rfl) ?_
  intro p e s m below meth c A ls H locs hx hb hml hr hts hown hlocks hname hK hN hA hP hD hS hl
  have hl : lv_has ls 2 [(0, .ref (ad 10)), (1, .int x1)] := hl
  generalize hQ : MQ below _ _ s _ _ A = Q
  unfold v_X10_weight at hv
  refine lv_iload_n hx hb dX10_weight_0 rfl (lv_at hl 1 rfl) ?_
  refine lv_sipush (v := 1000) hx hb dX10_weight_1 (by decide) ?_
  have hPc := hP.sub (ws' := []) [] rfl
  have hDc := hD.sub (ws' := []) [] (by decide) rfl
  refine k_cali (wc := []) (wr := [oX2 ad s2_count, oX10 ad , aI cy (ad 24) 64 a2_weights]) (va_runS (As := [.int x1, .int (1000 : Int32)]) (rest := []) ⟨hx, hb, hml, hown, hts⟩ (m_X10_isWithin l D cy ad x1 (1000 : Int32) H.size hv) (va_cwS 2 hts gX10_weight_X10_isWithin rfl rfl rfl (by decide +kernel) ⟨Nat.le_of_ble_eq_true rfl, Nat.le_of_ble_eq_true rfl⟩) ⟨wd_blind, wd_ok hPc hK hDc hN⟩ rfl rfl hl.1 rfl (lv_room (Nat.le_of_ble_eq_true rfl)) dX10_weight_4 ⟨Nat.le_of_ble_eq_true rfl, Nat.le_of_ble_eq_true rfl⟩) hP hD hS hA [] [0, 1, 2] rfl rfl (by decide) (by decide) (fun r1 u H locs hv hP hD hS => ?_)
  obtain ⟨hz_r1, hv⟩ := hv
  have hP : va_P D vwCl [oX2 ad s2_count, oX10 ad , aI cy (ad 24) 64 a2_weights] H := hP.sub [0, 1, 2] rfl
  have hD : va_D A [oX2 ad s2_count, oX10 ad , aI cy (ad 24) 64 a2_weights] := hD.sub [0, 1, 2] (by decide) rfl
  refine lv_if_eq (tgt := 21) hx hb dX10_weight_7 (by decide) (fun c_7 => ?_) (fun c_7 => ?_)
  · have hv := hv.1 c_7
    refine lv_iconst (v := -1) hx hb dX10_weight_21 (by decide) ?_
    rw [← hQ]
    exact k_iret hx hb hr hlocks hS (s2_count, a2_weights) hP hD hv dX10_weight_22
  · have hv := hv.2 c_7
    refine lv_aload_n hx hb dX10_weight_10 rfl (lv_at hl 0 rfl) ?_
    refine va_get (D := D) (ci := 10) (v := .ref (ad 2)) (C := RX10) (T := TX10) (N := 6) hx hb hts in_X10_weight_10 hown hK hP 1 rfl rfl 4 (by decide) (hts _ lk_X10_weight_44) (fun _ h9 => h9) rfl dX10_weight_11 ?_
    refine lv_iload_n hx hb dX10_weight_14 rfl (lv_at hl 1 rfl) ?_
    have hPc := hP.sub (ws' := [oX2 ad s2_count, aI cy (ad 24) 64 a2_weights]) [0, 2] rfl
    have hDc := hD.sub (ws' := [oX2 ad s2_count, aI cy (ad 24) 64 a2_weights]) [0, 2] (by decide) rfl
    refine k_cali (wc := [oX2 ad s2_count, aI cy (ad 24) 64 a2_weights]) (wr := [oX10 ad ]) (va_runV (As := [.int x1]) (rest := []) ⟨hx, hb, hml, hown, hts⟩ (m_X2_append l D cy ad s2_count a2_weights x1 H.size hv) (cwV 1 hts gX10_weight_X2_append rfl rfl rfl (by decide +kernel) ⟨Nat.le_of_ble_eq_true rfl, Nat.le_of_ble_eq_true rfl⟩) ⟨wd_blind, va_recv hK hPc (ci := 2) (q0 := 0) rfl rfl, wd_ok hPc hK hDc hN⟩ rfl rfl hl.1 rfl (lv_room (Nat.le_of_ble_eq_true rfl)) dX10_weight_15 ⟨Nat.le_of_ble_eq_true rfl, Nat.le_of_ble_eq_true rfl⟩) hP hD hS hA [0, 2] [1] rfl rfl (by decide) (by decide) (fun r2 u H locs hv hP hD hS => ?_)
    obtain ⟨s2_count_3, a2_weights_4⟩ := u
    have hP : va_P D vwCl [oX2 ad s2_count_3, oX10 ad , aI cy (ad 24) 64 a2_weights_4] H := hP.sub [1, 0, 2] rfl
    have hD : va_D A [oX2 ad s2_count_3, oX10 ad , aI cy (ad 24) 64 a2_weights_4] := hD.sub [1, 0, 2] (by decide) rfl
    refine lv_goto (tgt := 22) hx hb dX10_weight_18 (by decide) ?_
    rw [← hQ]
    exact k_iret hx hb hr hlocks hS (s2_count_3, a2_weights_4) hP hD hv dX10_weight_22
theorem lk_X10_clear_44 : Cond.fieldLink RX10 44 "CoarseSteps" "filter" "LCoarseSteps$Filter;" ∈ wsX10_clear := by decide +kernel
theorem in_X10_clear_10 : ∀ w ∈ wsX100, w ∈ wsX10_clear := by decide +kernel
abbrev rm_X10_clear : Room := { frames := 1, cells := 0, slots := 0, locals := 21 }
set_option maxHeartbeats 4000000 in
set_option maxRecDepth 100000 in
theorem m_X10_clear (l : Launch) (D : va_G) (cy : ClassId × ClassId × ClassId) (ad : Nat → Nat) (s2_count : Int32) (sz : Nat) {K : Int32 → Int32 → Prop} (hv : v_X10_clear s2_count K) : Met l yX10_clear wsX10_clear rm_X10_clear (va_Pc [.ref (ad 10)] (wd D cy [oX2 ad s2_count, oX10 ad ] sz)) (va_Qi (fun (r : Int32) (u : Int32) => K r u) (fun u t => we D ((fun u : Int32 => [oX2 ad u, oX10 ad ]) u) (va_A [oX2 ad s2_count, oX10 ad ] sz) t) (va_A [oX2 ad s2_count, oX10 ad ] sz)) 0 0 (va_A [oX2 ad s2_count, oX10 ad ] sz) := by
  refine k_ofW (cc := cX10_clear) (maxL := 1) (ret := (some .int)) (fun A => va_Qi (fun (r : Int32) (u : Int32) => K r u) (fun u t => we D ((fun u : Int32 => [oX2 ad u, oX10 ad ]) u) A t) A) (by decide) rfl (Nat.le_of_ble_eq_true rfl) ?_
  intro p e s m below meth c A ls H locs hx hb hml hr hts hown hlocks hname hK hN hA hP hD hS hl
  have hl : lv_has ls 1 [(0, .ref (ad 10))] := hl
  generalize hQ : MQ below _ _ s _ _ A = Q
  unfold v_X10_clear at hv
  refine lv_aload_n hx hb dX10_clear_0 rfl (lv_at hl 0 rfl) ?_
  refine va_get (D := D) (ci := 10) (v := .ref (ad 2)) (C := RX10) (T := TX10) (N := 6) hx hb hts in_X10_clear_10 hown hK hP 1 rfl rfl 4 (by decide) (hts _ lk_X10_clear_44) (fun _ h9 => h9) rfl dX10_clear_1 ?_
  have hPc := hP.sub (ws' := [oX2 ad s2_count]) [0] rfl
  have hDc := hD.sub (ws' := [oX2 ad s2_count]) [0] (by decide) rfl
  refine k_cali (wc := [oX2 ad s2_count]) (wr := [oX10 ad ]) (va_runV (As := []) (rest := []) ⟨hx, hb, hml, hown, hts⟩ (m_X2_empty l D cy ad s2_count H.size hv) (cwV 0 hts gX10_clear_X2_empty rfl rfl rfl (by decide +kernel) ⟨Nat.le_of_ble_eq_true rfl, Nat.le_of_ble_eq_true rfl⟩) ⟨wd_blind, va_recv hK hPc (ci := 2) (q0 := 0) rfl rfl, wd_ok hPc hK hDc hN⟩ rfl rfl hl.1 rfl (lv_room (Nat.le_of_ble_eq_true rfl)) dX10_clear_4 ⟨Nat.le_of_ble_eq_true rfl, Nat.le_of_ble_eq_true rfl⟩) hP hD hS hA [0] [1] rfl rfl (by decide) (by decide) (fun r1 s2_count_2 H locs hv hP hD hS => ?_)
  have hP : va_P D vwCl [oX2 ad s2_count_2, oX10 ad ] H := hP.sub [1, 0] rfl
  have hD : va_D A [oX2 ad s2_count_2, oX10 ad ] := hD.sub [1, 0] (by decide) rfl
  rw [← hQ]
  exact k_iret hx hb hr hlocks hS (s2_count_2) hP hD hv dX10_clear_7
theorem lk_X10_read_44 : Cond.fieldLink RX10 44 "CoarseSteps" "filter" "LCoarseSteps$Filter;" ∈ wsX10_read := by decide +kernel
theorem in_X10_read_10 : ∀ w ∈ wsX100, w ∈ wsX10_read := by decide +kernel
theorem lk_X10_read_21 : Cond.fieldLink RX10 21 "CoarseSteps" "loop" "LCoarseSteps$Loop;" ∈ wsX10_read := by decide +kernel
theorem in_X10_read_4 : ∀ w ∈ wsX40, w ∈ wsX10_read := by decide +kernel
abbrev rm_X10_read : Room := { frames := 2, cells := 0, slots := 0, locals := 45 }
set_option maxHeartbeats 4000000 in
set_option maxRecDepth 100000 in
theorem m_X10_read (l : Launch) (D : va_G) (cy : ClassId × ClassId × ClassId) (ad : Nat → Nat) (s2_count : Int32) (s3_next : Int32) (s3_kept : Int32) (s4_ticks : Int32) (s4_firstBeganWith : Int64) (s4_secondBefore : Int32) (s4_thirdBefore : Int32) (s4_thirdTwoBefore : Int32) (a2_weights : Nat → Int32) (a3_givens : Nat → Int32) (sz : Nat) {K : Int64 → Prop} (hv : v_X10_read s2_count s3_next s3_kept a2_weights a3_givens K) : Met l yX10_read wsX10_read rm_X10_read (va_Pc [.ref (ad 10)] (wd D cy [oX2 ad s2_count, oX3 ad s3_next s3_kept, oX4 ad s4_ticks s4_firstBeganWith s4_secondBefore s4_thirdBefore s4_thirdTwoBefore, oX10 ad , aI cy (ad 24) 64 a2_weights, aI cy (ad 26) 256 a3_givens] sz)) (va_Ql (fun (r : Int64) (u : Unit) => K r) (fun u t => we D ((fun u : Unit => [oX2 ad s2_count, oX3 ad s3_next s3_kept, oX4 ad s4_ticks s4_firstBeganWith s4_secondBefore s4_thirdBefore s4_thirdTwoBefore, oX10 ad , aI cy (ad 24) 64 a2_weights, aI cy (ad 26) 256 a3_givens]) u) (va_A [oX2 ad s2_count, oX3 ad s3_next s3_kept, oX4 ad s4_ticks s4_firstBeganWith s4_secondBefore s4_thirdBefore s4_thirdTwoBefore, oX10 ad , aI cy (ad 24) 64 a2_weights, aI cy (ad 26) 256 a3_givens] sz) t) (va_A [oX2 ad s2_count, oX3 ad s3_next s3_kept, oX4 ad s4_ticks s4_firstBeganWith s4_secondBefore s4_thirdBefore s4_thirdTwoBefore, oX10 ad , aI cy (ad 24) 64 a2_weights, aI cy (ad 26) 256 a3_givens] sz)) 0 0 (va_A [oX2 ad s2_count, oX3 ad s3_next s3_kept, oX4 ad s4_ticks s4_firstBeganWith s4_secondBefore s4_thirdBefore s4_thirdTwoBefore, oX10 ad , aI cy (ad 24) 64 a2_weights, aI cy (ad 26) 256 a3_givens] sz) := by
  refine k_ofW (cc := cX10_read) (maxL := 1) (ret := (some .long)) (fun A => va_Ql (fun (r : Int64) (u : Unit) => K r) (fun u t => we D ((fun u : Unit => [oX2 ad s2_count, oX3 ad s3_next s3_kept, oX4 ad s4_ticks s4_firstBeganWith s4_secondBefore s4_thirdBefore s4_thirdTwoBefore, oX10 ad , aI cy (ad 24) 64 a2_weights, aI cy (ad 26) 256 a3_givens]) u) A t) A) (by decide) rfl (Nat.le_of_ble_eq_true rfl) ?_
  intro p e s m below meth c A ls H locs hx hb hml hr hts hown hlocks hname hK hN hA hP hD hS hl
  have hl : lv_has ls 1 [(0, .ref (ad 10))] := hl
  generalize hQ : MQ below _ _ s _ _ A = Q
  unfold v_X10_read at hv
  refine lv_aload_n hx hb dX10_read_0 rfl (lv_at hl 0 rfl) ?_
  refine va_get (D := D) (ci := 10) (v := .ref (ad 2)) (C := RX10) (T := TX10) (N := 6) hx hb hts in_X10_read_10 hown hK hP 3 rfl rfl 4 (by decide) (hts _ lk_X10_read_44) (fun _ h9 => h9) rfl dX10_read_1 ?_
  refine lv_aload_n hx hb dX10_read_4 rfl (lv_at hl 0 rfl) ?_
  refine va_get (D := D) (ci := 10) (v := .ref (ad 4)) (C := RX10) (T := TX10) (N := 6) hx hb hts in_X10_read_10 hown hK hP 3 rfl rfl 1 (by decide) (hts _ lk_X10_read_21) (fun _ h9 => h9) rfl dX10_read_5 ?_
  refine va_getN (D := D) (ci := 4) (v := .ref (ad 3)) (C := RX4) (T := TX4) (N := 9) hx hb hts in_X10_read_4 hown hK hP 2 rfl rfl 2 (by decide) (nz_use hN nzf_X10_132) (fun _ h9 => h9) rfl dX10_read_8 ?_
  have hPc := hP.sub (ws' := [oX2 ad s2_count, oX3 ad s3_next s3_kept, aI cy (ad 24) 64 a2_weights, aI cy (ad 26) 256 a3_givens]) [0, 1, 4, 5] rfl
  have hDc := hD.sub (ws' := [oX2 ad s2_count, oX3 ad s3_next s3_kept, aI cy (ad 24) 64 a2_weights, aI cy (ad 26) 256 a3_givens]) [0, 1, 4, 5] (by decide) rfl
  refine k_call (wc := [oX2 ad s2_count, oX3 ad s3_next s3_kept, aI cy (ad 24) 64 a2_weights, aI cy (ad 26) 256 a3_givens]) (wr := [oX4 ad s4_ticks s4_firstBeganWith s4_secondBefore s4_thirdBefore s4_thirdTwoBefore, oX10 ad ]) (va_runV (As := [.ref (ad 3)]) (rest := []) ⟨hx, hb, hml, hown, hts⟩ (m_X2_readFrom l D cy ad s2_count s3_next s3_kept a2_weights a3_givens H.size hv) (cwV 1 hts gX10_read_X2_readFrom rfl rfl rfl (by decide +kernel) ⟨Nat.le_of_ble_eq_true rfl, Nat.le_of_ble_eq_true rfl⟩) ⟨wd_blind, va_recv hK hPc (ci := 2) (q0 := 0) rfl rfl, wd_ok hPc hK hDc hN⟩ rfl rfl hl.1 rfl (lv_room (Nat.le_of_ble_eq_true rfl)) dX10_read_11 ⟨Nat.le_of_ble_eq_true rfl, Nat.le_of_ble_eq_true rfl⟩) hP hD hS hA [0, 1, 4, 5] [2, 3] rfl rfl (by decide) (by decide) (fun r1 u H locs hv hP hD hS => ?_)
  have hP : va_P D vwCl [oX2 ad s2_count, oX3 ad s3_next s3_kept, oX4 ad s4_ticks s4_firstBeganWith s4_secondBefore s4_thirdBefore s4_thirdTwoBefore, oX10 ad , aI cy (ad 24) 64 a2_weights, aI cy (ad 26) 256 a3_givens] H := hP.sub [2, 3, 0, 1, 4, 5] rfl
  have hD : va_D A [oX2 ad s2_count, oX3 ad s3_next s3_kept, oX4 ad s4_ticks s4_firstBeganWith s4_secondBefore s4_thirdBefore s4_thirdTwoBefore, oX10 ad , aI cy (ad 24) 64 a2_weights, aI cy (ad 26) 256 a3_givens] := hD.sub [2, 3, 0, 1, 4, 5] (by decide) rfl
  rw [← hQ]
  exact k_lret hx hb hr hlocks hS () hP hD hv dX10_read_14
theorem lk_X10_back_128 : Cond.constant RX10 128 (-2147483648) ∈ wsX10_back := by decide +kernel
theorem lk_X10_back_21 : Cond.fieldLink RX10 21 "CoarseSteps" "loop" "LCoarseSteps$Loop;" ∈ wsX10_back := by decide +kernel
theorem in_X10_back_10 : ∀ w ∈ wsX100, w ∈ wsX10_back := by decide +kernel
theorem lk_X10_back_51 : Cond.fieldLink RX10 51 "CoarseSteps" "claim" "LCoarseSteps$Claim;" ∈ wsX10_back := by decide +kernel
theorem in_X10_back_4 : ∀ w ∈ wsX40, w ∈ wsX10_back := by decide +kernel
theorem in_X10_back_1 : ∀ w ∈ wsX10, w ∈ wsX10_back := by decide +kernel
abbrev rm_X10_back : Room := { frames := 2, cells := 0, slots := 0, locals := 53 }
set_option maxHeartbeats 4000000 in
set_option maxRecDepth 100000 in
theorem m_X10_back (l : Launch) (D : va_G) (cy : ClassId × ClassId × ClassId) (ad : Nat → Nat) (s1_low : Int64) (s1_high : Int64) (s3_next : Int32) (s3_kept : Int32) (s4_ticks : Int32) (s4_firstBeganWith : Int64) (s4_secondBefore : Int32) (s4_thirdBefore : Int32) (s4_thirdTwoBefore : Int32) (s5_kind : Int32) (s5_sums : Int32) (s7_over : Int32) (s7_count : Int32) (a3_givens : Nat → Int32) (a7_values : Nat → Int32) (x1 : Int32) (x2 : Int32) (sz : Nat) {K : Int32 → Int64 → Int64 → Prop} (hv : v_X10_back s1_low s1_high s3_next s3_kept s4_ticks s4_firstBeganWith s5_kind s7_over s7_count a3_givens a7_values x1 x2 K) : Met l yX10_back wsX10_back rm_X10_back (va_Pc [.ref (ad 10), .int x1, .int x2] (wd D cy [oX1 ad s1_low s1_high, oX3 ad s3_next s3_kept, oX4 ad s4_ticks s4_firstBeganWith s4_secondBefore s4_thirdBefore s4_thirdTwoBefore, oX5 ad s5_kind s5_sums, oX7 ad s7_over s7_count, oX10 ad , aI cy (ad 26) 256 a3_givens, aI cy (ad 34) 8 a7_values] sz)) (va_Qi (fun (r : Int32) (u : Int64 × Int64) => K r u.1 u.2) (fun u t => we D ((fun u : Int64 × Int64 => [oX1 ad u.1 u.2, oX3 ad s3_next s3_kept, oX4 ad s4_ticks s4_firstBeganWith s4_secondBefore s4_thirdBefore s4_thirdTwoBefore, oX5 ad s5_kind s5_sums, oX7 ad s7_over s7_count, oX10 ad , aI cy (ad 26) 256 a3_givens, aI cy (ad 34) 8 a7_values]) u) (va_A [oX1 ad s1_low s1_high, oX3 ad s3_next s3_kept, oX4 ad s4_ticks s4_firstBeganWith s4_secondBefore s4_thirdBefore s4_thirdTwoBefore, oX5 ad s5_kind s5_sums, oX7 ad s7_over s7_count, oX10 ad , aI cy (ad 26) 256 a3_givens, aI cy (ad 34) 8 a7_values] sz) t) (va_A [oX1 ad s1_low s1_high, oX3 ad s3_next s3_kept, oX4 ad s4_ticks s4_firstBeganWith s4_secondBefore s4_thirdBefore s4_thirdTwoBefore, oX5 ad s5_kind s5_sums, oX7 ad s7_over s7_count, oX10 ad , aI cy (ad 26) 256 a3_givens, aI cy (ad 34) 8 a7_values] sz)) 0 0 (va_A [oX1 ad s1_low s1_high, oX3 ad s3_next s3_kept, oX4 ad s4_ticks s4_firstBeganWith s4_secondBefore s4_thirdBefore s4_thirdTwoBefore, oX5 ad s5_kind s5_sums, oX7 ad s7_over s7_count, oX10 ad , aI cy (ad 26) 256 a3_givens, aI cy (ad 34) 8 a7_values] sz) := by
  refine k_ofW (cc := cX10_back) (maxL := 3) (ret := (some .int)) (fun A => va_Qi (fun (r : Int32) (u : Int64 × Int64) => K r u.1 u.2) (fun u t => we D ((fun u : Int64 × Int64 => [oX1 ad u.1 u.2, oX3 ad s3_next s3_kept, oX4 ad s4_ticks s4_firstBeganWith s4_secondBefore s4_thirdBefore s4_thirdTwoBefore, oX5 ad s5_kind s5_sums, oX7 ad s7_over s7_count, oX10 ad , aI cy (ad 26) 256 a3_givens, aI cy (ad 34) 8 a7_values]) u) A t) A) (by decide) rfl (Nat.le_of_ble_eq_true rfl) ?_
  intro p e s m below meth c A ls H locs hx hb hml hr hts hown hlocks hname hK hN hA hP hD hS hl
  have hl : lv_has ls 3 [(0, .ref (ad 10)), (1, .int x1), (2, .int x2)] := hl
  generalize hQ : MQ below _ _ s _ _ A = Q
  unfold v_X10_back at hv
  refine lv_iload_n hx hb dX10_back_0 rfl (lv_at hl 2 rfl) ?_
  refine lv_if_lt (tgt := 20) hx hb dX10_back_1 (by decide) (fun c_1 => ?_) (fun c_1 => ?_)
  · have hv := hv.1 c_1
    refine lv_ldc hx hb hown (hts _ lk_X10_back_128) dX10_back_20 ?_
    rw [← hQ]
    exact k_iret hx hb hr hlocks hS (s1_low, s1_high) hP hD hv dX10_back_22
  · have hv := hv.2 c_1
    refine lv_iload_n hx hb dX10_back_4 rfl (lv_at hl 2 rfl) ?_
    refine lv_iconst (v := 1) hx hb dX10_back_5 (by decide) ?_
    refine lv_icmp_gt (tgt := 20) hx hb dX10_back_6 (by decide) (fun c_6 => ?_) (fun c_6 => ?_)
    · have hv := hv.1 c_6
      refine lv_ldc hx hb hown (hts _ lk_X10_back_128) dX10_back_20 ?_
      rw [← hQ]
      exact k_iret hx hb hr hlocks hS (s1_low, s1_high) hP hD hv dX10_back_22
    · have hv := hv.2 c_6
      refine lv_aload_n hx hb dX10_back_9 rfl (lv_at hl 0 rfl) ?_
      refine va_get (D := D) (ci := 10) (v := .ref (ad 4)) (C := RX10) (T := TX10) (N := 6) hx hb hts in_X10_back_10 hown hK hP 5 rfl rfl 1 (by decide) (hts _ lk_X10_back_21) (fun _ h9 => h9) rfl dX10_back_10 ?_
      refine lv_iload_n hx hb dX10_back_13 rfl (lv_at hl 1 rfl) ?_
      have hPc := hP.sub (ws' := [oX3 ad s3_next s3_kept, oX4 ad s4_ticks s4_firstBeganWith s4_secondBefore s4_thirdBefore s4_thirdTwoBefore, oX5 ad s5_kind s5_sums]) [1, 2, 3] rfl
      have hDc := hD.sub (ws' := [oX3 ad s3_next s3_kept, oX4 ad s4_ticks s4_firstBeganWith s4_secondBefore s4_thirdBefore s4_thirdTwoBefore, oX5 ad s5_kind s5_sums]) [1, 2, 3] (by decide) rfl
      refine k_cali (wc := [oX3 ad s3_next s3_kept, oX4 ad s4_ticks s4_firstBeganWith s4_secondBefore s4_thirdBefore s4_thirdTwoBefore, oX5 ad s5_kind s5_sums]) (wr := [oX1 ad s1_low s1_high, oX7 ad s7_over s7_count, oX10 ad , aI cy (ad 26) 256 a3_givens, aI cy (ad 34) 8 a7_values]) (va_runV (As := [.int x1]) (rest := []) ⟨hx, hb, hml, hown, hts⟩ (m_X4_canClaim l D cy ad s3_next s3_kept s4_ticks s4_firstBeganWith s4_secondBefore s4_thirdBefore s4_thirdTwoBefore s5_kind s5_sums x1 H.size hv) (cwV 1 hts gX10_back_X4_canClaim rfl rfl rfl (by decide +kernel) ⟨Nat.le_of_ble_eq_true rfl, Nat.le_of_ble_eq_true rfl⟩) ⟨wd_blind, va_recv hK hPc (ci := 4) (q0 := 1) rfl rfl, wd_ok hPc hK hDc hN⟩ rfl rfl hl.1 rfl (lv_room (Nat.le_of_ble_eq_true rfl)) dX10_back_14 ⟨Nat.le_of_ble_eq_true rfl, Nat.le_of_ble_eq_true rfl⟩) hP hD hS hA [1, 2, 3] [0, 4, 5, 6, 7] rfl rfl (by decide) (by decide) (fun r1 u H locs hv hP hD hS => ?_)
      obtain ⟨hz_r1, hv⟩ := hv
      have hP : va_P D vwCl [oX1 ad s1_low s1_high, oX3 ad s3_next s3_kept, oX4 ad s4_ticks s4_firstBeganWith s4_secondBefore s4_thirdBefore s4_thirdTwoBefore, oX5 ad s5_kind s5_sums, oX7 ad s7_over s7_count, oX10 ad , aI cy (ad 26) 256 a3_givens, aI cy (ad 34) 8 a7_values] H := hP.sub [0, 5, 6, 7, 1, 2, 3, 4] rfl
      have hD : va_D A [oX1 ad s1_low s1_high, oX3 ad s3_next s3_kept, oX4 ad s4_ticks s4_firstBeganWith s4_secondBefore s4_thirdBefore s4_thirdTwoBefore, oX5 ad s5_kind s5_sums, oX7 ad s7_over s7_count, oX10 ad , aI cy (ad 26) 256 a3_givens, aI cy (ad 34) 8 a7_values] := hD.sub [0, 5, 6, 7, 1, 2, 3, 4] (by decide) rfl
      refine lv_if_ne (tgt := 23) hx hb dX10_back_17 (by decide) (fun c_17 => ?_) (fun c_17 => ?_)
      · have hv := hv.1 c_17
        refine lv_aload_n hx hb dX10_back_23 rfl (lv_at hl 0 rfl) ?_
        refine va_get (D := D) (ci := 10) (v := .ref (ad 1)) (C := RX10) (T := TX10) (N := 6) hx hb hts in_X10_back_10 hown hK hP 5 rfl rfl 5 (by decide) (hts _ lk_X10_back_51) (fun _ h9 => h9) rfl dX10_back_24 ?_
        refine lv_aload_n hx hb dX10_back_27 rfl (lv_at hl 0 rfl) ?_
        refine va_get (D := D) (ci := 10) (v := .ref (ad 4)) (C := RX10) (T := TX10) (N := 6) hx hb hts in_X10_back_10 hown hK hP 5 rfl rfl 1 (by decide) (hts _ lk_X10_back_21) (fun _ h9 => h9) rfl dX10_back_28 ?_
        refine va_getN (D := D) (ci := 4) (v := .ref (ad 3)) (C := RX4) (T := TX4) (N := 9) hx hb hts in_X10_back_4 hown hK hP 2 rfl rfl 2 (by decide) (nz_use hN nzf_X10_132) (fun _ h9 => h9) rfl dX10_back_31 ?_
        refine lv_iload_n hx hb dX10_back_34 rfl (lv_at hl 1 rfl) ?_
        have hPc := hP.sub (ws' := [oX1 ad s1_low s1_high, oX3 ad s3_next s3_kept, oX7 ad s7_over s7_count, aI cy (ad 26) 256 a3_givens, aI cy (ad 34) 8 a7_values]) [0, 1, 4, 6, 7] rfl
        have hDc := hD.sub (ws' := [oX1 ad s1_low s1_high, oX3 ad s3_next s3_kept, oX7 ad s7_over s7_count, aI cy (ad 26) 256 a3_givens, aI cy (ad 34) 8 a7_values]) [0, 1, 4, 6, 7] (by decide) rfl
        refine k_calv (wc := [oX1 ad s1_low s1_high, oX3 ad s3_next s3_kept, oX7 ad s7_over s7_count, aI cy (ad 26) 256 a3_givens, aI cy (ad 34) 8 a7_values]) (wr := [oX4 ad s4_ticks s4_firstBeganWith s4_secondBefore s4_thirdBefore s4_thirdTwoBefore, oX5 ad s5_kind s5_sums, oX10 ad ]) (va_runV (As := [.ref (ad 3), .int x1]) (rest := []) ⟨hx, hb, hml, hown, hts⟩ (m_X1_narrow l D cy ad s1_low s1_high s3_next s3_kept s7_over s7_count a3_givens a7_values x1 H.size hv) (cwV 2 hts gX10_back_X1_narrow rfl rfl rfl (by decide +kernel) ⟨Nat.le_of_ble_eq_true rfl, Nat.le_of_ble_eq_true rfl⟩) ⟨wd_blind, va_recv hK hPc (ci := 1) (q0 := 0) rfl rfl, wd_ok hPc hK hDc hN⟩ rfl rfl hl.1 rfl (lv_room (Nat.le_of_ble_eq_true rfl)) dX10_back_35 ⟨Nat.le_of_ble_eq_true rfl, Nat.le_of_ble_eq_true rfl⟩) hP hD hS hA [0, 1, 4, 6, 7] [2, 3, 5] rfl rfl (by decide) (by decide) (fun u H locs hv hP hD hS => ?_)
        obtain ⟨s1_low_2, s1_high_3⟩ := u
        have hP : va_P D vwCl [oX1 ad s1_low_2 s1_high_3, oX3 ad s3_next s3_kept, oX4 ad s4_ticks s4_firstBeganWith s4_secondBefore s4_thirdBefore s4_thirdTwoBefore, oX5 ad s5_kind s5_sums, oX7 ad s7_over s7_count, oX10 ad , aI cy (ad 26) 256 a3_givens, aI cy (ad 34) 8 a7_values] H := hP.sub [3, 4, 0, 1, 5, 2, 6, 7] rfl
        have hD : va_D A [oX1 ad s1_low_2 s1_high_3, oX3 ad s3_next s3_kept, oX4 ad s4_ticks s4_firstBeganWith s4_secondBefore s4_thirdBefore s4_thirdTwoBefore, oX5 ad s5_kind s5_sums, oX7 ad s7_over s7_count, oX10 ad , aI cy (ad 26) 256 a3_givens, aI cy (ad 34) 8 a7_values] := hD.sub [3, 4, 0, 1, 5, 2, 6, 7] (by decide) rfl
        refine lv_aload_n hx hb dX10_back_38 rfl (lv_at hl 0 rfl) ?_
        refine va_get (D := D) (ci := 10) (v := .ref (ad 1)) (C := RX10) (T := TX10) (N := 6) hx hb hts in_X10_back_10 hown hK hP 5 rfl rfl 5 (by decide) (hts _ lk_X10_back_51) (fun _ h9 => h9) rfl dX10_back_39 ?_
        refine va_getN (D := D) (ci := 1) (v := .long s1_low_2) (C := RX1) (T := TX1) (N := 3) hx hb hts in_X10_back_1 hown hK hP 0 rfl rfl 1 (by decide) (nz_use hN nzf_X10_203) (fun _ h9 => h9) rfl dX10_back_42 ?_
        refine lv_aload_n hx hb dX10_back_45 rfl (lv_at hl 0 rfl) ?_
        refine va_get (D := D) (ci := 10) (v := .ref (ad 1)) (C := RX10) (T := TX10) (N := 6) hx hb hts in_X10_back_10 hown hK hP 5 rfl rfl 5 (by decide) (hts _ lk_X10_back_51) (fun _ h9 => h9) rfl dX10_back_46 ?_
        refine va_getN (D := D) (ci := 1) (v := .long s1_high_3) (C := RX1) (T := TX1) (N := 3) hx hb hts in_X10_back_1 hown hK hP 0 rfl rfl 2 (by decide) (nz_use hN nzf_X10_207) (fun _ h9 => h9) rfl dX10_back_49 ?_
        refine k_lc_le (tgt := 59) hx hb dX10_back_52 dX10_back_53 (by decide) (fun c_52 => ?_) (fun c_52 => ?_)
        · have hv := hv.1 c_52
          refine lv_iload_n hx hb dX10_back_59 rfl (lv_at hl 2 rfl) ?_
          refine lv_if_ne (tgt := 73) hx hb dX10_back_60 (by decide) (fun c_60 => ?_) (fun c_60 => ?_)
          · have hv := hv.1 c_60
            refine lv_aload_n hx hb dX10_back_73 rfl (lv_at hl 0 rfl) ?_
            refine va_get (D := D) (ci := 10) (v := .ref (ad 1)) (C := RX10) (T := TX10) (N := 6) hx hb hts in_X10_back_10 hown hK hP 5 rfl rfl 5 (by decide) (hts _ lk_X10_back_51) (fun _ h9 => h9) rfl dX10_back_74 ?_
            refine va_getN (D := D) (ci := 1) (v := .long s1_high_3) (C := RX1) (T := TX1) (N := 3) hx hb hts in_X10_back_1 hown hK hP 0 rfl rfl 2 (by decide) (nz_use hN nzf_X10_207) (fun _ h9 => h9) rfl dX10_back_77 ?_
            refine lv_l2i hx hb dX10_back_80 rfl ?_
            rw [← hQ]
            exact k_iret hx hb hr hlocks hS (s1_low_2, s1_high_3) hP hD hv dX10_back_81
          · have hv := hv.2 c_60
            refine lv_aload_n hx hb dX10_back_63 rfl (lv_at hl 0 rfl) ?_
            refine va_get (D := D) (ci := 10) (v := .ref (ad 1)) (C := RX10) (T := TX10) (N := 6) hx hb hts in_X10_back_10 hown hK hP 5 rfl rfl 5 (by decide) (hts _ lk_X10_back_51) (fun _ h9 => h9) rfl dX10_back_64 ?_
            refine va_getN (D := D) (ci := 1) (v := .long s1_low_2) (C := RX1) (T := TX1) (N := 3) hx hb hts in_X10_back_1 hown hK hP 0 rfl rfl 1 (by decide) (nz_use hN nzf_X10_203) (fun _ h9 => h9) rfl dX10_back_67 ?_
            refine lv_goto (tgt := 80) hx hb dX10_back_70 (by decide) ?_
            refine lv_l2i hx hb dX10_back_80 rfl ?_
            rw [← hQ]
            exact k_iret hx hb hr hlocks hS (s1_low_2, s1_high_3) hP hD hv dX10_back_81
        · have hv := hv.2 c_52
          refine lv_ldc hx hb hown (hts _ lk_X10_back_128) dX10_back_56 ?_
          rw [← hQ]
          exact k_iret hx hb hr hlocks hS (s1_low_2, s1_high_3) hP hD hv dX10_back_58
      · have hv := hv.2 c_17
        refine lv_ldc hx hb hown (hts _ lk_X10_back_128) dX10_back_20 ?_
        rw [← hQ]
        exact k_iret hx hb hr hlocks hS (s1_low, s1_high) hP hD hv dX10_back_22
