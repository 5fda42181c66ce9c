theorem t32_10 : (10 : Int32).toInt = 10 := by decide
theorem Sys_mono {D : va_G} {cy : ClassId × ClassId × ClassId} {ad : Nat → Nat} {A : Nat → Prop} {T T' : Nat} {H : Heap} (h : SysP D cy ad A T H) (hT : T ≤ T') : SysP D cy ad A T' H := by
  refine Sys_el h (fun s1_low s1_high s2_count s3_next s3_kept s4_ticks s4_firstBeganWith s4_secondBefore s4_thirdBefore s4_thirdTwoBefore s5_kind s5_sums s6_toldTail s7_over s7_count s8_sums s8_g s9_parts s9_rule s9_hand s11_d s11_stepMany s11_kind s11_many s11_partMany s11_rule s11_ticks s11_hand s11_g s11_beganElsewhere s11_dBefore s11_fBefore s11_fFirst s11_weightMany s11_tailTold a0_least a0_most a0_place a0_at a2_weights a3_wishes a3_givens a3_sums a3_totals a4_sums a5_coming a5_picked a6_at a6_mark a7_values a8_a a8_b a8_e a8_h a9_isOn a9_timesOn a11_steps a11_stepsTold a11_a a11_b a11_e a11_h a11_sums a11_least a11_most a11_on a11_often a11_given a11_wished a11_firstSum a11_weights a11_now a11_to a11_made a11_path a11_rowNow hQS hQK hQW hQL hQB hQF hQO hP hD => ?_)
  exact Sys_mk hQS hQK hQW (QL_mono hQL hT) hQB hQF hQO hP hD
set_option maxHeartbeats 4000000 in
set_option maxRecDepth 100000 in
theorem law_walk0 {p : Program} {l : Launch} {e : Env} {s : State} {m : MethodId} {below : List Frame} {meth : Method} {c : Code} {D : va_G} {cy : ClassId × ClassId × ClassId} {ad : Nat → Nat} {b L : Nat} {xs : Nat → Int32} (hL : L ≤ 5120) (hx : p.tables.exec = Jvm.exec) (hb : c.code = cL_law) (hr : meth.sig.returnType = ret) (hml : c.maxLocals = 4) (hown : s.vm.findClass RL = some m.cls) (hts : ∀ w ∈ wsL_law, w.before #[Value.ref b] s = true) (hX : va_X b L xs s s.heap) (hbl : b < s.heap.size) (hlocks : meth.locks = false) (hK : va_K D vwCl (tyL cy) s) (hN : nz s) :
    ∀ (n k : Nat) (H : Heap) (locs : List Loc) (ls : Array Slot), 10 * k ≤ L → L + 10 < 10 * (k + n) → SysP D cy ad (fun q : Nat => s.heap.size ≤ q) (10000 * k) H → va_S (fun q : Nat => s.heap.size ≤ q) s.heap H locs → lv_has ls 4 [(0, .ref b), (1, .ref (ad 10)), (2, .ref (ad 11)), (3, .int (nI (10 * k)))] → W p l e room_1 s m #[Value.ref b] below meth c H locs (53 + k) (18664 + 8 * k) (lw_Z below #[Value.ref b] s) (F0 m 18 ls []) := by
  have hbA : ¬ (fun q : Nat => s.heap.size ≤ q) b := Nat.not_le.mpr hbl
  intro n
  induction n with
  | zero => intro k H locs ls h1 h2; exact absurd h2 (by omega)
  | succ n ih =>
    intro k H locs ls hk hn hSys hS hl
    refine lv_iload_n hx hb dL_law_18 rfl (lv_at hl 3 rfl) ?_
    refine lv_aload_n hx hb dL_law_19 rfl (lv_at hl 0 rfl) ?_
    refine va_slen hx hb hX hbl hbA hS dL_law_20 ?_
    refine lv_bipush (v := 10) hx hb dL_law_21 (by decide) ?_
    refine lv_isub hx hb dL_law_23 ?_
    refine lv_icmp_gt (tgt := 1115) hx hb dL_law_24 (by decide) (fun _ => ?_) (fun c_ => ?_)
    · refine lv_iconst (v := 1) hx hb dL_law_1115 (by decide) ?_
      refine va_forget (fun q hq => hS.2.2 q hq) ?_
      refine W.widen (k := 600000) (n := 7302250) (by omega) (by omega) ?_
      exact lw_ret hx hb hr hlocks dL_law_1116
    · have hi : 10 * k + 10 ≤ L := by
        have c2 : ¬ (nI L - 10 < nI (10 * k)) := c_
        have e1 : (nI L).toInt = L := nI_toInt (by omega)
        have e2 : (nI (10 * k)).toInt = ((10 * k : Nat) : Int) := nI_toInt (by omega)
        have e3 : (nI L - 10).toInt = (L : Int) - 10 := by rw [i32_sub (by rw [e1, t32_10]; omega) (by rw [e1, t32_10]; omega), e1, t32_10]
        rw [Int32.lt_iff_toInt_lt, e3, e2] at c2
        omega
      have next : ∀ (dc ds : Nat), dc ≤ 1 → ds ≤ 8 → ∀ (H : Heap) (locs : List Loc), SysP D cy ad (fun q : Nat => s.heap.size ≤ q) (10000 * k + 10000) H → va_S (fun q : Nat => s.heap.size ≤ q) s.heap H locs → W p l e room_1 s m #[Value.ref b] below meth c H locs (53 + k + dc) (18664 + 8 * k + ds) (lw_Z below #[Value.ref b] s) (F0 m 1109 ls []) := by
        intro dc ds h1 h2 H locs hSys hS
        refine W.widen (k := 53 + (k + 1)) (n := 18664 + 8 * (k + 1)) (by omega) (by omega) ?_
        refine lv_iinc (v := nI (10 * (k + 1))) (lv' := [(3, .int (nI (10 * (k + 1)))), (0, .ref b), (1, .ref (ad 10)), (2, .ref (ad 11))]) hx hb dL_law_1109 hl (k := 3) rfl (nI_add (10 * k) 10) (by decide) rfl (fun ls hl => ?_)
        refine lv_goto (tgt := 18) hx hb dL_law_1112 (by decide) ?_
        have eT : 10000 * (k + 1) = 10000 * k + 10000 := by omega
        exact ih (k + 1) H locs ls (by omega) (by omega) (by rw [eT]; exact hSys) hS (lv_sub hl [1, 2, 3, 0] rfl)
      have hT : 10000 * k + 10000 < 1073741824 := by omega
      refine lv_aload_n hx hb dL_law_27 rfl (lv_at hl 0 rfl) ?_
      refine lv_iload_n hx hb dL_law_28 rfl (lv_at hl 3 rfl) ?_
      refine va_sld hx hb hX hbl hbA hS (vp_in_nI (show 10 * k < L by omega) (by omega)) dL_law_29 ?_
      refine lv_bipush (v := 31) hx hb dL_law_30 (by decide) ?_
      refine lv_iand hx hb dL_law_32 ?_
      refine lv_topi (fun y _ => ?_)
      refine Sys_el hSys (fun s1_low s1_high s2_count s3_next s3_kept s4_ticks s4_firstBeganWith s4_secondBefore s4_thirdBefore s4_thirdTwoBefore s5_kind s5_sums s6_toldTail s7_over s7_count s8_sums s8_g s9_parts s9_rule s9_hand s11_d s11_stepMany s11_kind s11_many s11_partMany s11_rule s11_ticks s11_hand s11_g s11_beganElsewhere s11_dBefore s11_fBefore s11_fFirst s11_weightMany s11_tailTold a0_least a0_most a0_place a0_at a2_weights a3_wishes a3_givens a3_sums a3_totals a4_sums a5_coming a5_picked a6_at a6_mark a7_values a8_a a8_b a8_e a8_h a9_isOn a9_timesOn a11_steps a11_stepsTold a11_a a11_b a11_e a11_h a11_sums a11_least a11_most a11_on a11_often a11_given a11_wished a11_firstSum a11_weights a11_now a11_to a11_made a11_path a11_rowNow hQS hQK hQW hQL hQB hQF hQO hP hD => ?_)
      by_cases c_0 : y = 0
      · refine lv_tableIn (tgt := 156) (off := 123) hx hb dL_law_33 (by rw [c_0] <;> decide) (by rw [c_0] <;> decide) (by rw [c_0] <;> rfl) (by decide) ?_
        exact law_over hx hb hml hown hts hX hbl hK hN hL hi hT (by omega) (by omega) hS hl hQS hQK hQW hQL hQB hQF hQO hP hD (next 0 0 (by omega) (by omega))
      by_cases c_1 : y = 1
      · refine lv_tableIn (tgt := 179) (off := 146) hx hb dL_law_33 (by rw [c_1] <;> decide) (by rw [c_1] <;> decide) (by rw [c_1] <;> rfl) (by decide) ?_
        exact law_steps hx hb hml hown hts hX hbl hK hN hL hi hT (by omega) (by omega) hS hl hQS hQK hQW hQL hQB hQF hQO hP hD (next 1 8 (by omega) (by omega))
      by_cases c_2 : y = 2
      · refine lv_tableIn (tgt := 290) (off := 257) hx hb dL_law_33 (by rw [c_2] <;> decide) (by rw [c_2] <;> decide) (by rw [c_2] <;> rfl) (by decide) ?_
        exact law_loop hx hb hml hown hts hX hbl hK hN hL hi hT (by omega) (by omega) hS hl hQS hQK hQW hQL hQB hQF hQO hP hD (next 0 0 (by omega) (by omega))
      by_cases c_3 : y = 3
      · refine lv_tableIn (tgt := 333) (off := 300) hx hb dL_law_33 (by rw [c_3] <;> decide) (by rw [c_3] <;> decide) (by rw [c_3] <;> rfl) (by decide) ?_
        exact law_table hx hb hml hown hts hX hbl hK hN hL hi hT (by omega) (by omega) hS hl hQS hQK hQW hQL hQB hQF hQO hP hD (next 0 0 (by omega) (by omega))
      by_cases c_4 : y = 4
      · refine lv_tableIn (tgt := 376) (off := 343) hx hb dL_law_33 (by rw [c_4] <;> decide) (by rw [c_4] <;> decide) (by rw [c_4] <;> rfl) (by decide) ?_
        exact law_start hx hb hml hown hts hX hbl hK hN hL hi hT (by omega) (by omega) hS hl hQS hQK hQW hQL hQB hQF hQO hP hD (next 0 0 (by omega) (by omega))
      by_cases c_5 : y = 5
      · refine lv_tableIn (tgt := 439) (off := 406) hx hb dL_law_33 (by rw [c_5] <;> decide) (by rw [c_5] <;> decide) (by rw [c_5] <;> rfl) (by decide) ?_
        exact law_tick hx hb hml hown hts hX hbl hK hN hL hi hT (by omega) (by omega) hS hl hQS hQK hQW hQL hQB hQF hQO hP hD (next 0 0 (by omega) (by omega))
      by_cases c_6 : y = 6
      · refine lv_tableIn (tgt := 462) (off := 429) hx hb dL_law_33 (by rw [c_6] <;> decide) (by rw [c_6] <;> decide) (by rw [c_6] <;> rfl) (by decide) ?_
        exact law_run hx hb hml hown hts hX hbl hK hN hL hi hT (by omega) (by omega) hS hl hQS hQK hQW hQL hQB hQF hQO hP hD (next 0 0 (by omega) (by omega))
      by_cases c_7 : y = 7
      · refine lv_tableIn (tgt := 495) (off := 462) hx hb dL_law_33 (by rw [c_7] <;> decide) (by rw [c_7] <;> decide) (by rw [c_7] <;> rfl) (by decide) ?_
        exact law_sum hx hb hml hown hts hX hbl hK hN hL hi hT (by omega) (by omega) hS hl hQS hQK hQW hQL hQB hQF hQO hP hD (next 0 0 (by omega) (by omega))
      by_cases c_8 : y = 8
      · refine lv_tableIn (tgt := 519) (off := 486) hx hb dL_law_33 (by rw [c_8] <;> decide) (by rw [c_8] <;> decide) (by rw [c_8] <;> rfl) (by decide) ?_
        exact law_was hx hb hml hown hts hX hbl hK hN hL hi hT (by omega) (by omega) hS hl hQS hQK hQW hQL hQB hQF hQO hP hD (next 0 0 (by omega) (by omega))
      by_cases c_9 : y = 9
      · refine lv_tableIn (tgt := 552) (off := 519) hx hb dL_law_33 (by rw [c_9] <;> decide) (by rw [c_9] <;> decide) (by rw [c_9] <;> rfl) (by decide) ?_
        exact law_behind hx hb hml hown hts hX hbl hK hN hL hi hT (by omega) (by omega) hS hl hQS hQK hQW hQL hQB hQF hQO hP hD (next 0 0 (by omega) (by omega))
      by_cases c_10 : y = 10
      · refine lv_tableIn (tgt := 576) (off := 543) hx hb dL_law_33 (by rw [c_10] <;> decide) (by rw [c_10] <;> decide) (by rw [c_10] <;> rfl) (by decide) ?_
        exact law_missed hx hb hml hown hts hX hbl hK hN hL hi hT (by omega) (by omega) hS hl hQS hQK hQW hQL hQB hQF hQO hP hD (next 0 0 (by omega) (by omega))
      by_cases c_11 : y = 11
      · refine lv_tableIn (tgt := 600) (off := 567) hx hb dL_law_33 (by rw [c_11] <;> decide) (by rw [c_11] <;> decide) (by rw [c_11] <;> rfl) (by decide) ?_
        exact law_ring hx hb hml hown hts hX hbl hK hN hL hi hT (by omega) (by omega) hS hl hQS hQK hQW hQL hQB hQF hQO hP hD (next 0 0 (by omega) (by omega))
      by_cases c_12 : y = 12
      · refine lv_tableIn (tgt := 623) (off := 590) hx hb dL_law_33 (by rw [c_12] <;> decide) (by rw [c_12] <;> decide) (by rw [c_12] <;> rfl) (by decide) ?_
        exact law_tail hx hb hml hown hts hX hbl hK hN hL hi hT (by omega) (by omega) hS hl hQS hQK hQW hQL hQB hQF hQO hP hD (next 0 0 (by omega) (by omega))
      by_cases c_13 : y = 13
      · refine lv_tableIn (tgt := 636) (off := 603) hx hb dL_law_33 (by rw [c_13] <;> decide) (by rw [c_13] <;> decide) (by rw [c_13] <;> rfl) (by decide) ?_
        exact law_leaves hx hb hml hown hts hX hbl hK hN hL hi hT (by omega) (by omega) hS hl hQS hQK hQW hQL hQB hQF hQO hP hD (next 0 0 (by omega) (by omega))
      by_cases c_14 : y = 14
      · refine lv_tableIn (tgt := 699) (off := 666) hx hb dL_law_33 (by rw [c_14] <;> decide) (by rw [c_14] <;> decide) (by rw [c_14] <;> rfl) (by decide) ?_
        exact law_box hx hb hml hown hts hX hbl hK hN hL hi hT (by omega) (by omega) hS hl hQS hQK hQW hQL hQB hQF hQO hP hD (next 0 0 (by omega) (by omega))
      by_cases c_15 : y = 15
      · refine lv_tableIn (tgt := 802) (off := 769) hx hb dL_law_33 (by rw [c_15] <;> decide) (by rw [c_15] <;> decide) (by rw [c_15] <;> rfl) (by decide) ?_
        exact law_kept hx hb hml hown hts hX hbl hK hN hL hi hT (by omega) (by omega) hS hl hQS hQK hQW hQL hQB hQF hQO hP hD (next 0 0 (by omega) (by omega))
      by_cases c_16 : y = 16
      · refine lv_tableIn (tgt := 835) (off := 802) hx hb dL_law_33 (by rw [c_16] <;> decide) (by rw [c_16] <;> decide) (by rw [c_16] <;> rfl) (by decide) ?_
        exact law_word hx hb hml hown hts hX hbl hK hN hL hi hT (by omega) (by omega) hS hl hQS hQK hQW hQL hQB hQF hQO hP hD (next 0 0 (by omega) (by omega))
      by_cases c_17 : y = 17
      · refine lv_tableIn (tgt := 868) (off := 835) hx hb dL_law_33 (by rw [c_17] <;> decide) (by rw [c_17] <;> decide) (by rw [c_17] <;> rfl) (by decide) ?_
        exact law_even hx hb hml hown hts hX hbl hK hN hL hi hT (by omega) (by omega) hS hl hQS hQK hQW hQL hQB hQF hQO hP hD (next 0 0 (by omega) (by omega))
      by_cases c_18 : y = 18
      · refine lv_tableIn (tgt := 891) (off := 858) hx hb dL_law_33 (by rw [c_18] <;> decide) (by rw [c_18] <;> decide) (by rw [c_18] <;> rfl) (by decide) ?_
        exact law_weight hx hb hml hown hts hX hbl hK hN hL hi hT (by omega) (by omega) hS hl hQS hQK hQW hQL hQB hQF hQO hP hD (next 0 0 (by omega) (by omega))
      by_cases c_19 : y = 19
      · refine lv_tableIn (tgt := 914) (off := 881) hx hb dL_law_33 (by rw [c_19] <;> decide) (by rw [c_19] <;> decide) (by rw [c_19] <;> rfl) (by decide) ?_
        exact law_clear hx hb hml hown hts hX hbl hK hN hL hi hT (by omega) (by omega) hS hl hQS hQK hQW hQL hQB hQF hQO hP hD (next 0 0 (by omega) (by omega))
      by_cases c_20 : y = 20
      · refine lv_tableIn (tgt := 927) (off := 894) hx hb dL_law_33 (by rw [c_20] <;> decide) (by rw [c_20] <;> decide) (by rw [c_20] <;> rfl) (by decide) ?_
        exact law_read hx hb hml hown hts hX hbl hK hN hL hi hT (by omega) (by omega) hS hl hQS hQK hQW hQL hQB hQF hQO hP hD (next 0 0 (by omega) (by omega))
      by_cases c_21 : y = 21
      · refine lv_tableIn (tgt := 941) (off := 908) hx hb dL_law_33 (by rw [c_21] <;> decide) (by rw [c_21] <;> decide) (by rw [c_21] <;> rfl) (by decide) ?_
        exact law_back hx hb hml hown hts hX hbl hK hN hL hi hT (by omega) (by omega) hS hl hQS hQK hQW hQL hQB hQF hQO hP hD (next 0 0 (by omega) (by omega))
      by_cases c_22 : y = 22
      · refine lv_tableIn (tgt := 974) (off := 941) hx hb dL_law_33 (by rw [c_22] <;> decide) (by rw [c_22] <;> decide) (by rw [c_22] <;> rfl) (by decide) ?_
        exact law_range hx hb hml hown hts hX hbl hK hN hL hi hT (by omega) (by omega) hS hl hQS hQK hQW hQL hQB hQF hQO hP hD (next 0 0 (by omega) (by omega))
      by_cases c_23 : y = 23
      · refine lv_tableIn (tgt := 1017) (off := 984) hx hb dL_law_33 (by rw [c_23] <;> decide) (by rw [c_23] <;> decide) (by rw [c_23] <;> rfl) (by decide) ?_
        exact law_part hx hb hml hown hts hX hbl hK hN hL hi hT (by omega) (by omega) hS hl hQS hQK hQW hQL hQB hQF hQO hP hD (next 0 0 (by omega) (by omega))
      by_cases c_24 : y = 24
      · refine lv_tableIn (tgt := 1050) (off := 1017) hx hb dL_law_33 (by rw [c_24] <;> decide) (by rw [c_24] <;> decide) (by rw [c_24] <;> rfl) (by decide) ?_
        exact law_spread hx hb hml hown hts hX hbl hK hN hL hi hT (by omega) (by omega) hS hl hQS hQK hQW hQL hQB hQF hQO hP hD (next 0 0 (by omega) (by omega))
      by_cases c_25 : y = 25
      · refine lv_tableIn (tgt := 1063) (off := 1030) hx hb dL_law_33 (by rw [c_25] <;> decide) (by rw [c_25] <;> decide) (by rw [c_25] <;> rfl) (by decide) ?_
        exact law_about hx hb hml hown hts hX hbl hK hN hL hi hT (by omega) (by omega) hS hl hQS hQK hQW hQL hQB hQF hQO hP hD (next 0 0 (by omega) (by omega))
      by_cases c_26 : y = 26
      · refine lv_tableIn (tgt := 1086) (off := 1053) hx hb dL_law_33 (by rw [c_26] <;> decide) (by rw [c_26] <;> decide) (by rw [c_26] <;> rfl) (by decide) ?_
        exact law_step hx hb hml hown hts hX hbl hK hN hL hi hT (by omega) (by omega) hS hl hQS hQK hQW hQL hQB hQF hQO hP hD (next 0 0 (by omega) (by omega))
      refine lv_tableOut (tgt := 1109) hx hb dL_law_33 (by have q0 := lv_neT c_0 (a := 0) (by decide); have q1 := lv_neT c_1 (a := 1) (by decide); have q2 := lv_neT c_2 (a := 2) (by decide); have q3 := lv_neT c_3 (a := 3) (by decide); have q4 := lv_neT c_4 (a := 4) (by decide); have q5 := lv_neT c_5 (a := 5) (by decide); have q6 := lv_neT c_6 (a := 6) (by decide); have q7 := lv_neT c_7 (a := 7) (by decide); have q8 := lv_neT c_8 (a := 8) (by decide); have q9 := lv_neT c_9 (a := 9) (by decide); have q10 := lv_neT c_10 (a := 10) (by decide); have q11 := lv_neT c_11 (a := 11) (by decide); have q12 := lv_neT c_12 (a := 12) (by decide); have q13 := lv_neT c_13 (a := 13) (by decide); have q14 := lv_neT c_14 (a := 14) (by decide); have q15 := lv_neT c_15 (a := 15) (by decide); have q16 := lv_neT c_16 (a := 16) (by decide); have q17 := lv_neT c_17 (a := 17) (by decide); have q18 := lv_neT c_18 (a := 18) (by decide); have q19 := lv_neT c_19 (a := 19) (by decide); have q20 := lv_neT c_20 (a := 20) (by decide); have q21 := lv_neT c_21 (a := 21) (by decide); have q22 := lv_neT c_22 (a := 22) (by decide); have q23 := lv_neT c_23 (a := 23) (by decide); have q24 := lv_neT c_24 (a := 24) (by decide); have q25 := lv_neT c_25 (a := 25) (by decide); have q26 := lv_neT c_26 (a := 26) (by decide); omega) (by decide) ?_
      exact next 0 0 (by omega) (by omega) H locs (Sys_mono hSys (by omega)) hS
