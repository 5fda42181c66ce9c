theorem lk_X9_beginAnew_29 : Cond.fieldLink RX9 29 "CoarseSteps$Wheel" "hand" "I" ∈ wsX9_beginAnew := by decide +kernel
theorem in_X9_beginAnew_9 : ∀ w ∈ wsX90, w ∈ wsX9_beginAnew := by decide +kernel
theorem lk_X9_beginAnew_9 : Cond.fieldLink RX9 9 "CoarseSteps$Wheel" "isOn" "[Z" ∈ wsX9_beginAnew := by decide +kernel
theorem lk_X9_beginAnew_15 : Cond.fieldLink RX9 15 "CoarseSteps$Wheel" "timesOn" "[I" ∈ wsX9_beginAnew := by decide +kernel
abbrev rm_X9_beginAnew : Room := { frames := 0, cells := 0, slots := 0, locals := 0 }
set_option maxHeartbeats 4000000 in
set_option maxRecDepth 100000 in
theorem m_X9_beginAnew (l : Launch) (D : va_G) (cy : ClassId × ClassId × ClassId) (ad : Nat → Nat) (s9_parts : Int32) (s9_rule : Int32) (s9_hand : Int32) (a9_isOn : Nat → Int32) (a9_timesOn : Nat → Int32) (sz : Nat) {K : Int32 → (Nat → Int32) → (Nat → Int32) → Prop} (hv : v_X9_beginAnew a9_isOn a9_timesOn K) : Met l yX9_beginAnew wsX9_beginAnew rm_X9_beginAnew (va_Pc [.ref (ad 9)] (wd D cy [oX9 ad s9_parts s9_rule s9_hand, aZ cy (ad 39) 16 a9_isOn, aI cy (ad 40) 16 a9_timesOn] sz)) (va_Qv (fun u : Int32 × (Nat → Int32) × (Nat → Int32) => K u.1 u.2.1 u.2.2) (fun u t => we D ((fun u : Int32 × (Nat → Int32) × (Nat → Int32) => [oX9 ad s9_parts s9_rule u.1, aZ cy (ad 39) 16 u.2.1, aI cy (ad 40) 16 u.2.2]) u) (va_A [oX9 ad s9_parts s9_rule s9_hand, aZ cy (ad 39) 16 a9_isOn, aI cy (ad 40) 16 a9_timesOn] sz) t) (va_A [oX9 ad s9_parts s9_rule s9_hand, aZ cy (ad 39) 16 a9_isOn, aI cy (ad 40) 16 a9_timesOn] sz)) 0 0 (va_A [oX9 ad s9_parts s9_rule s9_hand, aZ cy (ad 39) 16 a9_isOn, aI cy (ad 40) 16 a9_timesOn] sz) := by
  refine k_ofW (cc := cX9_beginAnew) (maxL := 2) (ret := none) (fun A => va_Qv (fun u : Int32 × (Nat → Int32) × (Nat → Int32) => K u.1 u.2.1 u.2.2) (fun u t => we D ((fun u : Int32 × (Nat → Int32) × (Nat → Int32) => [oX9 ad s9_parts s9_rule u.1, aZ cy (ad 39) 16 u.2.1, aI cy (ad 40) 16 u.2.2]) u) A t) A) (by decide) rfl (Nat.le_of_ble_eq_true rfl) ?_
  intro p e s m below meth c A ls H locs hx hb hml hr hts hown hlocks hname hK hN hA hP hD hS hl
  have hl : lv_has ls 2 [(0, .ref (ad 9))] := hl
  generalize hQ : MQ below _ _ s _ _ A = Q
  unfold v_X9_beginAnew at hv
  refine lv_aload_n hx hb dX9_beginAnew_0 rfl (lv_at hl 0 rfl) ?_
  refine lv_iconst (v := 0) hx hb dX9_beginAnew_1 (by decide) ?_
  refine va_put (D := D) (ci := 9) (v := .int (0 : Int32)) (ty := .int) (C := RX9) (T := TX9) (N := 5) hx hb hts in_X9_beginAnew_9 tyX9 tyX9_ok nmX9 hown hK hP hD hS 0 rfl rfl 4 (by decide) (hts _ lk_X9_beginAnew_29) (fun _ h9 => h9) rfl (by decide +kernel) rfl rfl (Nat.le_of_ble_eq_true rfl) dX9_beginAnew_2 (fun H locs hP hD hS => ?_)
  have hP : va_P D vwCl [oX9 ad s9_parts s9_rule (0 : Int32), aZ cy (ad 39) 16 a9_isOn, aI cy (ad 40) 16 a9_timesOn] H := hP
  have hD : va_D A [oX9 ad s9_parts s9_rule (0 : Int32), aZ cy (ad 39) 16 a9_isOn, aI cy (ad 40) 16 a9_timesOn] := hD
  refine lv_iconst (v := 0) hx hb dX9_beginAnew_5 (by decide) ?_
  refine lv_istore_n (lv' := [(1, .int (0 : Int32)), (0, .ref (ad 9))]) hx hb dX9_beginAnew_6 rfl hl (by decide) rfl (fun ls hl => ?_)
  have lp7 : ∀ (n7 : Nat) (l1_1 : Int32) (a9_isOn_2 : Nat → Int32) (a9_timesOn_3 : Nat → Int32) (H : Heap) (locs : List Loc) (ls : Array Slot), vfix (vF_X9_beginAnew_7 K) n7 (l1_1, a9_isOn_2, a9_timesOn_3) → lv_has ls 2 [(1, .int l1_1), (0, .ref (ad 9))] → va_P D vwCl [oX9 ad s9_parts s9_rule (0 : Int32), aZ cy (ad 39) 16 a9_isOn_2, aI cy (ad 40) 16 a9_timesOn_3] H → va_D A [oX9 ad s9_parts s9_rule (0 : Int32), aZ cy (ad 39) 16 a9_isOn_2, aI cy (ad 40) 16 a9_timesOn_3] → va_S A s.heap H locs → W p l e rm_X9_beginAnew s m ([.ref (ad 9)] : List Value).toArray below meth c H locs 0 0 Q (F0 m 7 ls []) := by
    intro n7
    induction n7 with
    | zero => intro l1_1 a9_isOn_2 a9_timesOn_3 H locs ls hv; exact hv.elim
    | succ n7 ih7 =>
      intro l1_1 a9_isOn_2 a9_timesOn_3 H locs ls hv hl hP hD hS
      have hv : vB_X9_beginAnew_7 K (fun z0 z1 z2 => vfix (vF_X9_beginAnew_7 K) n7 (z0, z1, z2)) l1_1 a9_isOn_2 a9_timesOn_3 := hv
      unfold vB_X9_beginAnew_7 at hv
      refine lv_iload_n hx hb dX9_beginAnew_7 rfl (lv_at hl 0 rfl) ?_
      refine lv_bipush (v := 16) hx hb dX9_beginAnew_8 (by decide) ?_
      refine lv_icmp_ge (tgt := 33) hx hb dX9_beginAnew_10 (by decide) (fun c_10 => ?_) (fun c_10 => ?_)
      · have hv := hv.1 c_10
        rw [← hQ]
        exact k_vret hx hb hr hlocks hS ((0 : Int32), a9_isOn_2, a9_timesOn_3) hP hD hv dX9_beginAnew_33
      · have hv := hv.2 c_10
        refine lv_aload_n hx hb dX9_beginAnew_13 rfl (lv_at hl 1 rfl) ?_
        refine va_get (D := D) (ci := 9) (v := .ref (ad 39)) (C := RX9) (T := TX9) (N := 5) hx hb hts in_X9_beginAnew_9 hown hK hP 0 rfl rfl 0 (by decide) (hts _ lk_X9_beginAnew_9) (fun _ h9 => h9) rfl dX9_beginAnew_14 ?_
        refine lv_iload_n hx hb dX9_beginAnew_17 rfl (lv_at hl 0 rfl) ?_
        refine lv_iconst (v := 0) hx hb dX9_beginAnew_18 (by decide) ?_
        refine k_zast hx hb hK hP hD hS 1 2 rfl rfl hv.1 (by decide) dX9_beginAnew_19 (fun a9_isOn_4 H locs h_a9_isOn_4 hP hD hS => ?_)
        have hv := hv.2 a9_isOn_4 h_a9_isOn_4
        have hP : va_P D vwCl [oX9 ad s9_parts s9_rule (0 : Int32), aZ cy (ad 39) 16 a9_isOn_4, aI cy (ad 40) 16 a9_timesOn_3] H := hP
        have hD : va_D A [oX9 ad s9_parts s9_rule (0 : Int32), aZ cy (ad 39) 16 a9_isOn_4, aI cy (ad 40) 16 a9_timesOn_3] := hD
        refine lv_aload_n hx hb dX9_beginAnew_20 rfl (lv_at hl 1 rfl) ?_
        refine va_get (D := D) (ci := 9) (v := .ref (ad 40)) (C := RX9) (T := TX9) (N := 5) hx hb hts in_X9_beginAnew_9 hown hK hP 0 rfl rfl 1 (by decide) (hts _ lk_X9_beginAnew_15) (fun _ h9 => h9) rfl dX9_beginAnew_21 ?_
        refine lv_iload_n hx hb dX9_beginAnew_24 rfl (lv_at hl 0 rfl) ?_
        refine lv_iconst (v := 0) hx hb dX9_beginAnew_25 (by decide) ?_
        refine k_iast hx hb hK hP hD hS 2 0 rfl rfl hv.1 dX9_beginAnew_26 (fun a9_timesOn_5 H locs h_a9_timesOn_5 hP hD hS => ?_)
        have hv := hv.2 a9_timesOn_5 h_a9_timesOn_5
        have hP : va_P D vwCl [oX9 ad s9_parts s9_rule (0 : Int32), aZ cy (ad 39) 16 a9_isOn_4, aI cy (ad 40) 16 a9_timesOn_5] H := hP
        have hD : va_D A [oX9 ad s9_parts s9_rule (0 : Int32), aZ cy (ad 39) 16 a9_isOn_4, aI cy (ad 40) 16 a9_timesOn_5] := hD
        obtain ⟨i6, h_i6⟩ : ∃ y : Int32, y = l1_1 + 1 := ⟨_, rfl⟩
        refine lv_iinc (v := i6) (lv' := [(1, .int i6), (0, .ref (ad 9))]) hx hb dX9_beginAnew_27 hl (k := 0) rfl (by rw [h_i6]; rfl) (by decide) rfl (fun ls hl => ?_)
        have hv := hv i6 h_i6
        refine lv_goto (tgt := 7) hx hb dX9_beginAnew_30 (by decide) ?_
        exact ih7 i6 a9_isOn_4 a9_timesOn_5 H locs ls hv (lv_sub hl [0, 1] rfl) hP hD hS
  obtain ⟨nn, hv⟩ := hv
  exact lp7 nn (0 : Int32) a9_isOn a9_timesOn H locs ls hv (lv_sub hl [0, 1] rfl) hP hD hS
theorem lk_X4_beginAnew_46 : Cond.fieldLink RX4 46 "CoarseSteps$Loop" "ticks" "I" ∈ wsX4_beginAnew := by decide +kernel
theorem in_X4_beginAnew_4 : ∀ w ∈ wsX40, w ∈ wsX4_beginAnew := by decide +kernel
theorem lk_X4_beginAnew_50 : Cond.fieldLink RX4 50 "CoarseSteps$Loop" "firstBeganWith" "J" ∈ wsX4_beginAnew := by decide +kernel
theorem lk_X4_beginAnew_54 : Cond.fieldLink RX4 54 "CoarseSteps$Loop" "secondBefore" "I" ∈ wsX4_beginAnew := by decide +kernel
theorem lk_X4_beginAnew_57 : Cond.fieldLink RX4 57 "CoarseSteps$Loop" "thirdBefore" "I" ∈ wsX4_beginAnew := by decide +kernel
theorem lk_X4_beginAnew_60 : Cond.fieldLink RX4 60 "CoarseSteps$Loop" "thirdTwoBefore" "I" ∈ wsX4_beginAnew := by decide +kernel
theorem lk_X4_beginAnew_12 : Cond.fieldLink RX4 12 "CoarseSteps$Loop" "wheel" "LCoarseSteps$Wheel;" ∈ wsX4_beginAnew := by decide +kernel
theorem lk_X4_beginAnew_21 : Cond.fieldLink RX4 21 "CoarseSteps$Loop" "history" "LCoarseSteps$History;" ∈ wsX4_beginAnew := by decide +kernel
theorem lk_X4_beginAnew_25 : Cond.fieldLink RX4 25 "CoarseSteps$Loop" "sums" "[J" ∈ wsX4_beginAnew := by decide +kernel
abbrev rm_X4_beginAnew : Room := { frames := 1, cells := 0, slots := 0, locals := 21 }
set_option maxHeartbeats 4000000 in
set_option maxRecDepth 100000 in
theorem m_X4_beginAnew (l : Launch) (D : va_G) (cy : ClassId × ClassId × ClassId) (ad : Nat → Nat) (s3_next : Int32) (s3_kept : Int32) (s4_ticks : Int32) (s4_firstBeganWith : Int64) (s4_secondBefore : Int32) (s4_thirdBefore : Int32) (s4_thirdTwoBefore : Int32) (s9_parts : Int32) (s9_rule : Int32) (s9_hand : Int32) (a4_sums : Nat → Int64) (a9_isOn : Nat → Int32) (a9_timesOn : Nat → Int32) (sz : Nat) {K : Int32 → Int32 → Int32 → Int64 → Int32 → Int32 → Int32 → Int32 → (Nat → Int64) → (Nat → Int32) → (Nat → Int32) → Prop} (hv : v_X4_beginAnew a4_sums a9_isOn a9_timesOn K) : Met l yX4_beginAnew wsX4_beginAnew rm_X4_beginAnew (va_Pc [.ref (ad 4)] (wd D cy [oX3 ad s3_next s3_kept, oX4 ad s4_ticks s4_firstBeganWith s4_secondBefore s4_thirdBefore s4_thirdTwoBefore, oX9 ad s9_parts s9_rule s9_hand, aJ cy (ad 29) 4 a4_sums, aZ cy (ad 39) 16 a9_isOn, aI cy (ad 40) 16 a9_timesOn] sz)) (va_Qv (fun u : Int32 × Int32 × Int32 × Int64 × Int32 × Int32 × Int32 × Int32 × (Nat → Int64) × (Nat → Int32) × (Nat → Int32) => K u.1 u.2.1 u.2.2.1 u.2.2.2.1 u.2.2.2.2.1 u.2.2.2.2.2.1 u.2.2.2.2.2.2.1 u.2.2.2.2.2.2.2.1 u.2.2.2.2.2.2.2.2.1 u.2.2.2.2.2.2.2.2.2.1 u.2.2.2.2.2.2.2.2.2.2) (fun u t => we D ((fun u : Int32 × Int32 × Int32 × Int64 × Int32 × Int32 × Int32 × Int32 × (Nat → Int64) × (Nat → Int32) × (Nat → Int32) => [oX3 ad u.1 u.2.1, oX4 ad u.2.2.1 u.2.2.2.1 u.2.2.2.2.1 u.2.2.2.2.2.1 u.2.2.2.2.2.2.1, oX9 ad s9_parts s9_rule u.2.2.2.2.2.2.2.1, aJ cy (ad 29) 4 u.2.2.2.2.2.2.2.2.1, aZ cy (ad 39) 16 u.2.2.2.2.2.2.2.2.2.1, aI cy (ad 40) 16 u.2.2.2.2.2.2.2.2.2.2]) u) (va_A [oX3 ad s3_next s3_kept, oX4 ad s4_ticks s4_firstBeganWith s4_secondBefore s4_thirdBefore s4_thirdTwoBefore, oX9 ad s9_parts s9_rule s9_hand, aJ cy (ad 29) 4 a4_sums, aZ cy (ad 39) 16 a9_isOn, aI cy (ad 40) 16 a9_timesOn] sz) t) (va_A [oX3 ad s3_next s3_kept, oX4 ad s4_ticks s4_firstBeganWith s4_secondBefore s4_thirdBefore s4_thirdTwoBefore, oX9 ad s9_parts s9_rule s9_hand, aJ cy (ad 29) 4 a4_sums, aZ cy (ad 39) 16 a9_isOn, aI cy (ad 40) 16 a9_timesOn] sz)) 0 0 (va_A [oX3 ad s3_next s3_kept, oX4 ad s4_ticks s4_firstBeganWith s4_secondBefore s4_thirdBefore s4_thirdTwoBefore, oX9 ad s9_parts s9_rule s9_hand, aJ cy (ad 29) 4 a4_sums, aZ cy (ad 39) 16 a9_isOn, aI cy (ad 40) 16 a9_timesOn] sz) := by
  refine k_ofW (cc := cX4_beginAnew) (maxL := 2) (ret := none) (fun A => va_Qv (fun u : Int32 × Int32 × Int32 × Int64 × Int32 × Int32 × Int32 × Int32 × (Nat → Int64) × (Nat → Int32) × (Nat → Int32) => K u.1 u.2.1 u.2.2.1 u.2.2.2.1 u.2.2.2.2.1 u.2.2.2.2.2.1 u.2.2.2.2.2.2.1 u.2.2.2.2.2.2.2.1 u.2.2.2.2.2.2.2.2.1 u.2.2.2.2.2.2.2.2.2.1 u.2.2.2.2.2.2.2.2.2.2) (fun u t => we D ((fun u : Int32 × Int32 × Int32 × Int64 × Int32 × Int32 × Int32 × Int32 × (Nat → Int64) × (Nat → Int32) × (Nat → Int32) => [oX3 ad u.1 u.2.1, oX4 ad u.2.2.1 u.2.2.2.1 u.2.2.2.2.1 u.2.2.2.2.2.1 u.2.2.2.2.2.2.1, oX9 ad s9_parts s9_rule u.2.2.2.2.2.2.2.1, aJ cy (ad 29) 4 u.2.2.2.2.2.2.2.2.1, aZ cy (ad 39) 16 u.2.2.2.2.2.2.2.2.2.1, aI cy (ad 40) 16 u.2.2.2.2.2.2.2.2.2.2]) u) A t) A) (by decide) rfl (Nat.le_of_ble_eq_true rfl) ?_
  intro p e s m below meth c A ls H locs hx hb hml hr hts hown hlocks hname hK hN hA hP hD hS hl
  have hl : lv_has ls 2 [(0, .ref (ad 4))] := hl
  generalize hQ : MQ below _ _ s _ _ A = Q
  unfold v_X4_beginAnew at hv
  refine lv_iconst (v := 0) hx hb dX4_beginAnew_0 (by decide) ?_
  refine lv_istore_n (lv' := [(1, .int (0 : Int32)), (0, .ref (ad 4))]) hx hb dX4_beginAnew_1 rfl hl (by decide) rfl (fun ls hl => ?_)
  have lp2 : ∀ (n2 : Nat) (l1_1 : Int32) (a4_sums_2 : Nat → Int64) (H : Heap) (locs : List Loc) (ls : Array Slot), vfix (vF_X4_beginAnew_2 a9_isOn a9_timesOn K) n2 (l1_1, a4_sums_2) → lv_has ls 2 [(1, .int l1_1), (0, .ref (ad 4))] → va_P D vwCl [oX3 ad s3_next s3_kept, oX4 ad s4_ticks s4_firstBeganWith s4_secondBefore s4_thirdBefore s4_thirdTwoBefore, oX9 ad s9_parts s9_rule s9_hand, aJ cy (ad 29) 4 a4_sums_2, aZ cy (ad 39) 16 a9_isOn, aI cy (ad 40) 16 a9_timesOn] H → va_D A [oX3 ad s3_next s3_kept, oX4 ad s4_ticks s4_firstBeganWith s4_secondBefore s4_thirdBefore s4_thirdTwoBefore, oX9 ad s9_parts s9_rule s9_hand, aJ cy (ad 29) 4 a4_sums_2, aZ cy (ad 39) 16 a9_isOn, aI cy (ad 40) 16 a9_timesOn] → va_S A s.heap H locs → W p l e rm_X4_beginAnew s m ([.ref (ad 4)] : List Value).toArray below meth c H locs 0 0 Q (F0 m 2 ls []) := by
    intro n2
    induction n2 with
    | zero => intro l1_1 a4_sums_2 H locs ls hv; exact hv.elim
    | succ n2 ih2 =>
      intro l1_1 a4_sums_2 H locs ls hv hl hP hD hS
      have hv : vB_X4_beginAnew_2 a9_isOn a9_timesOn K (fun z0 z1 => vfix (vF_X4_beginAnew_2 a9_isOn a9_timesOn K) n2 (z0, z1)) l1_1 a4_sums_2 := hv
      unfold vB_X4_beginAnew_2 at hv
      refine lv_iload_n hx hb dX4_beginAnew_2 rfl (lv_at hl 0 rfl) ?_
      refine lv_iconst (v := 4) hx hb dX4_beginAnew_3 (by decide) ?_
      refine lv_icmp_ge (tgt := 20) hx hb dX4_beginAnew_4 (by decide) (fun c_4 => ?_) (fun c_4 => ?_)
      · have hv := hv.1 c_4
        refine lv_aload_n hx hb dX4_beginAnew_20 rfl (lv_at hl 1 rfl) ?_
        refine lv_iconst (v := 0) hx hb dX4_beginAnew_21 (by decide) ?_
        refine va_put (D := D) (ci := 4) (v := .int (0 : Int32)) (ty := .int) (C := RX4) (T := TX4) (N := 9) hx hb hts in_X4_beginAnew_4 tyX4 tyX4_ok nmX4 hown hK hP hD hS 1 rfl rfl 4 (by decide) (hts _ lk_X4_beginAnew_46) (fun _ h9 => h9) rfl (by decide +kernel) rfl rfl (Nat.le_of_ble_eq_true rfl) dX4_beginAnew_22 (fun H locs hP hD hS => ?_)
        have hP : va_P D vwCl [oX3 ad s3_next s3_kept, oX4 ad (0 : Int32) s4_firstBeganWith s4_secondBefore s4_thirdBefore s4_thirdTwoBefore, oX9 ad s9_parts s9_rule s9_hand, aJ cy (ad 29) 4 a4_sums_2, aZ cy (ad 39) 16 a9_isOn, aI cy (ad 40) 16 a9_timesOn] H := hP
        have hD : va_D A [oX3 ad s3_next s3_kept, oX4 ad (0 : Int32) s4_firstBeganWith s4_secondBefore s4_thirdBefore s4_thirdTwoBefore, oX9 ad s9_parts s9_rule s9_hand, aJ cy (ad 29) 4 a4_sums_2, aZ cy (ad 39) 16 a9_isOn, aI cy (ad 40) 16 a9_timesOn] := hD
        refine lv_aload_n hx hb dX4_beginAnew_25 rfl (lv_at hl 1 rfl) ?_
        refine lv_lconst (v := 0) hx hb dX4_beginAnew_26 (by decide) ?_
        refine va_put (D := D) (ci := 4) (v := .long (0 : Int64)) (ty := .long) (C := RX4) (T := TX4) (N := 9) hx hb hts in_X4_beginAnew_4 tyX4 tyX4_ok nmX4 hown hK hP hD hS 1 rfl rfl 5 (by decide) (hts _ lk_X4_beginAnew_50) (fun _ h9 => h9) rfl (by decide +kernel) rfl rfl (Nat.le_of_ble_eq_true rfl) dX4_beginAnew_27 (fun H locs hP hD hS => ?_)
        have hP : va_P D vwCl [oX3 ad s3_next s3_kept, oX4 ad (0 : Int32) (0 : Int64) s4_secondBefore s4_thirdBefore s4_thirdTwoBefore, oX9 ad s9_parts s9_rule s9_hand, aJ cy (ad 29) 4 a4_sums_2, aZ cy (ad 39) 16 a9_isOn, aI cy (ad 40) 16 a9_timesOn] H := hP
        have hD : va_D A [oX3 ad s3_next s3_kept, oX4 ad (0 : Int32) (0 : Int64) s4_secondBefore s4_thirdBefore s4_thirdTwoBefore, oX9 ad s9_parts s9_rule s9_hand, aJ cy (ad 29) 4 a4_sums_2, aZ cy (ad 39) 16 a9_isOn, aI cy (ad 40) 16 a9_timesOn] := hD
        refine lv_aload_n hx hb dX4_beginAnew_30 rfl (lv_at hl 1 rfl) ?_
        refine lv_iconst (v := 0) hx hb dX4_beginAnew_31 (by decide) ?_
        refine va_put (D := D) (ci := 4) (v := .int (0 : Int32)) (ty := .int) (C := RX4) (T := TX4) (N := 9) hx hb hts in_X4_beginAnew_4 tyX4 tyX4_ok nmX4 hown hK hP hD hS 1 rfl rfl 6 (by decide) (hts _ lk_X4_beginAnew_54) (fun _ h9 => h9) rfl (by decide +kernel) rfl rfl (Nat.le_of_ble_eq_true rfl) dX4_beginAnew_32 (fun H locs hP hD hS => ?_)
        have hP : va_P D vwCl [oX3 ad s3_next s3_kept, oX4 ad (0 : Int32) (0 : Int64) (0 : Int32) s4_thirdBefore s4_thirdTwoBefore, oX9 ad s9_parts s9_rule s9_hand, aJ cy (ad 29) 4 a4_sums_2, aZ cy (ad 39) 16 a9_isOn, aI cy (ad 40) 16 a9_timesOn] H := hP
        have hD : va_D A [oX3 ad s3_next s3_kept, oX4 ad (0 : Int32) (0 : Int64) (0 : Int32) s4_thirdBefore s4_thirdTwoBefore, oX9 ad s9_parts s9_rule s9_hand, aJ cy (ad 29) 4 a4_sums_2, aZ cy (ad 39) 16 a9_isOn, aI cy (ad 40) 16 a9_timesOn] := hD
        refine lv_aload_n hx hb dX4_beginAnew_35 rfl (lv_at hl 1 rfl) ?_
        refine lv_iconst (v := 0) hx hb dX4_beginAnew_36 (by decide) ?_
        refine va_put (D := D) (ci := 4) (v := .int (0 : Int32)) (ty := .int) (C := RX4) (T := TX4) (N := 9) hx hb hts in_X4_beginAnew_4 tyX4 tyX4_ok nmX4 hown hK hP hD hS 1 rfl rfl 7 (by decide) (hts _ lk_X4_beginAnew_57) (fun _ h9 => h9) rfl (by decide +kernel) rfl rfl (Nat.le_of_ble_eq_true rfl) dX4_beginAnew_37 (fun H locs hP hD hS => ?_)
        have hP : va_P D vwCl [oX3 ad s3_next s3_kept, oX4 ad (0 : Int32) (0 : Int64) (0 : Int32) (0 : Int32) s4_thirdTwoBefore, oX9 ad s9_parts s9_rule s9_hand, aJ cy (ad 29) 4 a4_sums_2, aZ cy (ad 39) 16 a9_isOn, aI cy (ad 40) 16 a9_timesOn] H := hP
        have hD : va_D A [oX3 ad s3_next s3_kept, oX4 ad (0 : Int32) (0 : Int64) (0 : Int32) (0 : Int32) s4_thirdTwoBefore, oX9 ad s9_parts s9_rule s9_hand, aJ cy (ad 29) 4 a4_sums_2, aZ cy (ad 39) 16 a9_isOn, aI cy (ad 40) 16 a9_timesOn] := hD
        refine lv_aload_n hx hb dX4_beginAnew_40 rfl (lv_at hl 1 rfl) ?_
        refine lv_iconst (v := 0) hx hb dX4_beginAnew_41 (by decide) ?_
        refine va_put (D := D) (ci := 4) (v := .int (0 : Int32)) (ty := .int) (C := RX4) (T := TX4) (N := 9) hx hb hts in_X4_beginAnew_4 tyX4 tyX4_ok nmX4 hown hK hP hD hS 1 rfl rfl 8 (by decide) (hts _ lk_X4_beginAnew_60) (fun _ h9 => h9) rfl (by decide +kernel) rfl rfl (Nat.le_of_ble_eq_true rfl) dX4_beginAnew_42 (fun H locs hP hD hS => ?_)
        have hP : va_P D vwCl [oX3 ad s3_next s3_kept, oX4 ad (0 : Int32) (0 : Int64) (0 : Int32) (0 : Int32) (0 : Int32), oX9 ad s9_parts s9_rule s9_hand, aJ cy (ad 29) 4 a4_sums_2, aZ cy (ad 39) 16 a9_isOn, aI cy (ad 40) 16 a9_timesOn] H := hP
        have hD : va_D A [oX3 ad s3_next s3_kept, oX4 ad (0 : Int32) (0 : Int64) (0 : Int32) (0 : Int32) (0 : Int32), oX9 ad s9_parts s9_rule s9_hand, aJ cy (ad 29) 4 a4_sums_2, aZ cy (ad 39) 16 a9_isOn, aI cy (ad 40) 16 a9_timesOn] := hD
        refine lv_aload_n hx hb dX4_beginAnew_45 rfl (lv_at hl 1 rfl) ?_
        refine va_get (D := D) (ci := 4) (v := .ref (ad 9)) (C := RX4) (T := TX4) (N := 9) hx hb hts in_X4_beginAnew_4 hown hK hP 1 rfl rfl 1 (by decide) (hts _ lk_X4_beginAnew_12) (fun _ h9 => h9) rfl dX4_beginAnew_46 ?_
        have hPc := hP.sub (ws' := [oX9 ad s9_parts s9_rule s9_hand, aZ cy (ad 39) 16 a9_isOn, aI cy (ad 40) 16 a9_timesOn]) [2, 4, 5] rfl
        have hDc := hD.sub (ws' := [oX9 ad s9_parts s9_rule s9_hand, aZ cy (ad 39) 16 a9_isOn, aI cy (ad 40) 16 a9_timesOn]) [2, 4, 5] (by decide) rfl
        refine k_calv (wc := [oX9 ad s9_parts s9_rule s9_hand, aZ cy (ad 39) 16 a9_isOn, aI cy (ad 40) 16 a9_timesOn]) (wr := [oX3 ad s3_next s3_kept, oX4 ad (0 : Int32) (0 : Int64) (0 : Int32) (0 : Int32) (0 : Int32), aJ cy (ad 29) 4 a4_sums_2]) (va_runV (As := []) (rest := []) ⟨hx, hb, hml, hown, hts⟩ (m_X9_beginAnew l D cy ad s9_parts s9_rule s9_hand a9_isOn a9_timesOn H.size hv) (cwV 0 hts gX4_beginAnew_X9_beginAnew rfl rfl rfl (by decide +kernel) ⟨Nat.le_of_ble_eq_true rfl, Nat.le_of_ble_eq_true rfl⟩) ⟨wd_blind, va_recv hK hPc (ci := 9) (q0 := 0) rfl rfl, wd_ok hPc hK hDc hN⟩ rfl rfl hl.1 rfl (lv_room (Nat.le_of_ble_eq_true rfl)) dX4_beginAnew_49 ⟨Nat.le_of_ble_eq_true rfl, Nat.le_of_ble_eq_true rfl⟩) hP hD hS hA [2, 4, 5] [0, 1, 3] rfl rfl (by decide) (by decide) (fun u H locs hv hP hD hS => ?_)
        obtain ⟨s9_hand_3, a9_isOn_4, a9_timesOn_5⟩ := u
        have hP : va_P D vwCl [oX3 ad s3_next s3_kept, oX4 ad (0 : Int32) (0 : Int64) (0 : Int32) (0 : Int32) (0 : Int32), oX9 ad s9_parts s9_rule s9_hand_3, aJ cy (ad 29) 4 a4_sums_2, aZ cy (ad 39) 16 a9_isOn_4, aI cy (ad 40) 16 a9_timesOn_5] H := hP.sub [0, 1, 3, 2, 4, 5] rfl
        have hD : va_D A [oX3 ad s3_next s3_kept, oX4 ad (0 : Int32) (0 : Int64) (0 : Int32) (0 : Int32) (0 : Int32), oX9 ad s9_parts s9_rule s9_hand_3, aJ cy (ad 29) 4 a4_sums_2, aZ cy (ad 39) 16 a9_isOn_4, aI cy (ad 40) 16 a9_timesOn_5] := hD.sub [0, 1, 3, 2, 4, 5] (by decide) rfl
        refine lv_aload_n hx hb dX4_beginAnew_52 rfl (lv_at hl 1 rfl) ?_
        refine va_get (D := D) (ci := 4) (v := .ref (ad 3)) (C := RX4) (T := TX4) (N := 9) hx hb hts in_X4_beginAnew_4 hown hK hP 1 rfl rfl 2 (by decide) (hts _ lk_X4_beginAnew_21) (fun _ h9 => h9) rfl dX4_beginAnew_53 ?_
        have hPc := hP.sub (ws' := [oX3 ad s3_next s3_kept]) [0] rfl
        have hDc := hD.sub (ws' := [oX3 ad s3_next s3_kept]) [0] (by decide) rfl
        refine k_calv (wc := [oX3 ad s3_next s3_kept]) (wr := [oX4 ad (0 : Int32) (0 : Int64) (0 : Int32) (0 : Int32) (0 : Int32), oX9 ad s9_parts s9_rule s9_hand_3, aJ cy (ad 29) 4 a4_sums_2, aZ cy (ad 39) 16 a9_isOn_4, aI cy (ad 40) 16 a9_timesOn_5]) (va_runV (As := []) (rest := []) ⟨hx, hb, hml, hown, hts⟩ (m_X3_forget l D cy ad s3_next s3_kept H.size hv) (cwV 0 hts gX4_beginAnew_X3_forget rfl rfl rfl (by decide +kernel) ⟨Nat.le_of_ble_eq_true rfl, Nat.le_of_ble_eq_true rfl⟩) ⟨wd_blind, va_recv hK hPc (ci := 3) (q0 := 0) rfl rfl, wd_ok hPc hK hDc hN⟩ rfl rfl hl.1 rfl (lv_room (Nat.le_of_ble_eq_true rfl)) dX4_beginAnew_56 ⟨Nat.le_of_ble_eq_true rfl, Nat.le_of_ble_eq_true rfl⟩) hP hD hS hA [0] [1, 2, 3, 4, 5] rfl rfl (by decide) (by decide) (fun u H locs hv hP hD hS => ?_)
        obtain ⟨s3_next_6, s3_kept_7⟩ := u
        have hP : va_P D vwCl [oX3 ad s3_next_6 s3_kept_7, oX4 ad (0 : Int32) (0 : Int64) (0 : Int32) (0 : Int32) (0 : Int32), oX9 ad s9_parts s9_rule s9_hand_3, aJ cy (ad 29) 4 a4_sums_2, aZ cy (ad 39) 16 a9_isOn_4, aI cy (ad 40) 16 a9_timesOn_5] H := hP.sub [5, 0, 1, 2, 3, 4] rfl
        have hD : va_D A [oX3 ad s3_next_6 s3_kept_7, oX4 ad (0 : Int32) (0 : Int64) (0 : Int32) (0 : Int32) (0 : Int32), oX9 ad s9_parts s9_rule s9_hand_3, aJ cy (ad 29) 4 a4_sums_2, aZ cy (ad 39) 16 a9_isOn_4, aI cy (ad 40) 16 a9_timesOn_5] := hD.sub [5, 0, 1, 2, 3, 4] (by decide) rfl
        rw [← hQ]
        exact k_vret hx hb hr hlocks hS (s3_next_6, s3_kept_7, (0 : Int32), (0 : Int64), (0 : Int32), (0 : Int32), (0 : Int32), s9_hand_3, a4_sums_2, a9_isOn_4, a9_timesOn_5) hP hD hv dX4_beginAnew_59
      · have hv := hv.2 c_4
        refine lv_aload_n hx hb dX4_beginAnew_7 rfl (lv_at hl 1 rfl) ?_
        refine va_get (D := D) (ci := 4) (v := .ref (ad 29)) (C := RX4) (T := TX4) (N := 9) hx hb hts in_X4_beginAnew_4 hown hK hP 1 rfl rfl 3 (by decide) (hts _ lk_X4_beginAnew_25) (fun _ h9 => h9) rfl dX4_beginAnew_8 ?_
        refine lv_iload_n hx hb dX4_beginAnew_11 rfl (lv_at hl 0 rfl) ?_
        refine lv_lconst (v := 0) hx hb dX4_beginAnew_12 (by decide) ?_
        refine k_last hx hb hK hP hD hS 3 1 rfl rfl hv.1 dX4_beginAnew_13 (fun a4_sums_8 H locs h_a4_sums_8 hP hD hS => ?_)
        have hv := hv.2 a4_sums_8 h_a4_sums_8
        have hP : va_P D vwCl [oX3 ad s3_next s3_kept, oX4 ad s4_ticks s4_firstBeganWith s4_secondBefore s4_thirdBefore s4_thirdTwoBefore, oX9 ad s9_parts s9_rule s9_hand, aJ cy (ad 29) 4 a4_sums_8, aZ cy (ad 39) 16 a9_isOn, aI cy (ad 40) 16 a9_timesOn] H := hP
        have hD : va_D A [oX3 ad s3_next s3_kept, oX4 ad s4_ticks s4_firstBeganWith s4_secondBefore s4_thirdBefore s4_thirdTwoBefore, oX9 ad s9_parts s9_rule s9_hand, aJ cy (ad 29) 4 a4_sums_8, aZ cy (ad 39) 16 a9_isOn, aI cy (ad 40) 16 a9_timesOn] := hD
        obtain ⟨i9, h_i9⟩ : ∃ y : Int32, y = l1_1 + 1 := ⟨_, rfl⟩
        refine lv_iinc (v := i9) (lv' := [(1, .int i9), (0, .ref (ad 4))]) hx hb dX4_beginAnew_14 hl (k := 0) rfl (by rw [h_i9]; rfl) (by decide) rfl (fun ls hl => ?_)
        have hv := hv i9 h_i9
        refine lv_goto (tgt := 2) hx hb dX4_beginAnew_17 (by decide) ?_
        exact ih2 i9 a4_sums_8 H locs ls hv (lv_sub hl [0, 1] rfl) hP hD hS
  obtain ⟨nn, hv⟩ := hv
  exact lp2 nn (0 : Int32) a4_sums H locs ls hv (lv_sub hl [0, 1] rfl) hP hD hS
theorem lk_X8_begin_9 : Cond.fieldLink RX8 9 "CoarseSteps$Tables" "sums" "I" ∈ wsX8_begin := by decide +kernel
theorem in_X8_begin_8 : ∀ w ∈ wsX80, w ∈ wsX8_begin := by decide +kernel
theorem lk_X8_begin_28 : Cond.fieldLink RX8 28 "CoarseSteps$Tables" "g" "I" ∈ wsX8_begin := by decide +kernel
theorem lk_X8_begin_15 : Cond.fieldLink RX8 15 "CoarseSteps$Tables" "a" "[I" ∈ wsX8_begin := by decide +kernel
theorem lk_X8_begin_19 : Cond.fieldLink RX8 19 "CoarseSteps$Tables" "b" "[I" ∈ wsX8_begin := by decide +kernel
theorem lk_X8_begin_22 : Cond.fieldLink RX8 22 "CoarseSteps$Tables" "e" "[I" ∈ wsX8_begin := by decide +kernel
theorem lk_X8_begin_25 : Cond.fieldLink RX8 25 "CoarseSteps$Tables" "h" "[I" ∈ wsX8_begin := by decide +kernel
abbrev rm_X8_begin : Room := { frames := 0, cells := 0, slots := 0, locals := 0 }
set_option maxHeartbeats 4000000 in
set_option maxRecDepth 100000 in
theorem m_X8_begin (l : Launch) (D : va_G) (cy : ClassId × ClassId × ClassId) (ad : Nat → Nat) (s8_sums : Int32) (s8_g : Int32) (a8_a : Nat → Int32) (a8_b : Nat → Int32) (a8_e : Nat → Int32) (a8_h : Nat → Int32) (x1 : Int32) (sz : Nat) {K : Int32 → Int32 → (Nat → Int32) → (Nat → Int32) → (Nat → Int32) → (Nat → Int32) → Prop} (hv : v_X8_begin a8_a a8_b a8_e a8_h x1 K) : Met l yX8_begin wsX8_begin rm_X8_begin (va_Pc [.ref (ad 8), .int x1] (wd D cy [oX8 ad s8_sums s8_g, aI cy (ad 35) 16 a8_a, aI cy (ad 36) 4 a8_b, aI cy (ad 37) 4 a8_e, aI cy (ad 38) 4 a8_h] sz)) (va_Qv (fun u : Int32 × Int32 × (Nat → Int32) × (Nat → Int32) × (Nat → Int32) × (Nat → Int32) => K u.1 u.2.1 u.2.2.1 u.2.2.2.1 u.2.2.2.2.1 u.2.2.2.2.2) (fun u t => we D ((fun u : Int32 × Int32 × (Nat → Int32) × (Nat → Int32) × (Nat → Int32) × (Nat → Int32) => [oX8 ad u.1 u.2.1, aI cy (ad 35) 16 u.2.2.1, aI cy (ad 36) 4 u.2.2.2.1, aI cy (ad 37) 4 u.2.2.2.2.1, aI cy (ad 38) 4 u.2.2.2.2.2]) u) (va_A [oX8 ad s8_sums s8_g, aI cy (ad 35) 16 a8_a, aI cy (ad 36) 4 a8_b, aI cy (ad 37) 4 a8_e, aI cy (ad 38) 4 a8_h] sz) t) (va_A [oX8 ad s8_sums s8_g, aI cy (ad 35) 16 a8_a, aI cy (ad 36) 4 a8_b, aI cy (ad 37) 4 a8_e, aI cy (ad 38) 4 a8_h] sz)) 0 0 (va_A [oX8 ad s8_sums s8_g, aI cy (ad 35) 16 a8_a, aI cy (ad 36) 4 a8_b, aI cy (ad 37) 4 a8_e, aI cy (ad 38) 4 a8_h] sz) := by
  refine k_ofW (cc := cX8_begin) (maxL := 3) (ret := none) (fun A => va_Qv (fun u : Int32 × Int32 × (Nat → Int32) × (Nat → Int32) × (Nat → Int32) × (Nat → Int32) => K u.1 u.2.1 u.2.2.1 u.2.2.2.1 u.2.2.2.2.1 u.2.2.2.2.2) (fun u t => we D ((fun u : Int32 × Int32 × (Nat → Int32) × (Nat → Int32) × (Nat → Int32) × (Nat → Int32) => [oX8 ad u.1 u.2.1, aI cy (ad 35) 16 u.2.2.1, aI cy (ad 36) 4 u.2.2.2.1, aI cy (ad 37) 4 u.2.2.2.2.1, aI cy (ad 38) 4 u.2.2.2.2.2]) u) A t) A) (by decide) rfl (Nat.le_of_ble_eq_true rfl) ?_
  intro p e s m below meth c A ls H locs hx hb hml hr hts hown hlocks hname hK hN hA hP hD hS hl
  have hl : lv_has ls 3 [(0, .ref (ad 8)), (1, .int x1)] := hl
  generalize hQ : MQ below _ _ s _ _ A = Q
  unfold v_X8_begin at hv
  refine lv_aload_n hx hb dX8_begin_0 rfl (lv_at hl 0 rfl) ?_
  refine lv_iload_n hx hb dX8_begin_1 rfl (lv_at hl 1 rfl) ?_
  refine va_put (D := D) (ci := 8) (v := .int x1) (ty := .int) (C := RX8) (T := TX8) (N := 6) hx hb hts in_X8_begin_8 tyX8 tyX8_ok nmX8 hown hK hP hD hS 0 rfl rfl 0 (by decide) (hts _ lk_X8_begin_9) (fun _ h9 => h9) rfl (by decide +kernel) rfl rfl (Nat.le_of_ble_eq_true rfl) dX8_begin_2 (fun H locs hP hD hS => ?_)
  have hP : va_P D vwCl [oX8 ad x1 s8_g, aI cy (ad 35) 16 a8_a, aI cy (ad 36) 4 a8_b, aI cy (ad 37) 4 a8_e, aI cy (ad 38) 4 a8_h] H := hP
  have hD : va_D A [oX8 ad x1 s8_g, aI cy (ad 35) 16 a8_a, aI cy (ad 36) 4 a8_b, aI cy (ad 37) 4 a8_e, aI cy (ad 38) 4 a8_h] := hD
  refine lv_aload_n hx hb dX8_begin_5 rfl (lv_at hl 0 rfl) ?_
  refine lv_iconst (v := 0) hx hb dX8_begin_6 (by decide) ?_
  refine va_put (D := D) (ci := 8) (v := .int (0 : Int32)) (ty := .int) (C := RX8) (T := TX8) (N := 6) hx hb hts in_X8_begin_8 tyX8 tyX8_ok nmX8 hown hK hP hD hS 0 rfl rfl 1 (by decide) (hts _ lk_X8_begin_28) (fun _ h9 => h9) rfl (by decide +kernel) rfl rfl (Nat.le_of_ble_eq_true rfl) dX8_begin_7 (fun H locs hP hD hS => ?_)
  have hP : va_P D vwCl [oX8 ad x1 (0 : Int32), aI cy (ad 35) 16 a8_a, aI cy (ad 36) 4 a8_b, aI cy (ad 37) 4 a8_e, aI cy (ad 38) 4 a8_h] H := hP
  have hD : va_D A [oX8 ad x1 (0 : Int32), aI cy (ad 35) 16 a8_a, aI cy (ad 36) 4 a8_b, aI cy (ad 37) 4 a8_e, aI cy (ad 38) 4 a8_h] := hD
  refine lv_iconst (v := 0) hx hb dX8_begin_10 (by decide) ?_
  refine lv_istore_n (lv' := [(2, .int (0 : Int32)), (0, .ref (ad 8)), (1, .int x1)]) hx hb dX8_begin_11 rfl hl (by decide) rfl (fun ls hl => ?_)
  have lp12 : ∀ (n12 : Nat) (l2_1 : Int32) (a8_a_2 : Nat → Int32) (H : Heap) (locs : List Loc) (ls : Array Slot), vfix (vF_X8_begin_12 a8_b a8_e a8_h x1 K) n12 (l2_1, a8_a_2) → lv_has ls 3 [(2, .int l2_1), (0, .ref (ad 8))] → va_P D vwCl [oX8 ad x1 (0 : Int32), aI cy (ad 35) 16 a8_a_2, aI cy (ad 36) 4 a8_b, aI cy (ad 37) 4 a8_e, aI cy (ad 38) 4 a8_h] H → va_D A [oX8 ad x1 (0 : Int32), aI cy (ad 35) 16 a8_a_2, aI cy (ad 36) 4 a8_b, aI cy (ad 37) 4 a8_e, aI cy (ad 38) 4 a8_h] → va_S A s.heap H locs → W p l e rm_X8_begin s m ([.ref (ad 8), .int x1] : List Value).toArray below meth c H locs 0 0 Q (F0 m 12 ls []) := by
    intro n12
    induction n12 with
    | zero => intro l2_1 a8_a_2 H locs ls hv; exact hv.elim
    | succ n12 ih12 =>
      intro l2_1 a8_a_2 H locs ls hv hl hP hD hS
      have hv : vB_X8_begin_12 a8_b a8_e a8_h x1 K (fun z0 z1 => vfix (vF_X8_begin_12 a8_b a8_e a8_h x1 K) n12 (z0, z1)) l2_1 a8_a_2 := hv
      unfold vB_X8_begin_12 at hv
      refine lv_iload_n hx hb dX8_begin_12 rfl (lv_at hl 0 rfl) ?_
      refine lv_aload_n hx hb dX8_begin_13 rfl (lv_at hl 1 rfl) ?_
      refine va_get (D := D) (ci := 8) (v := .ref (ad 35)) (C := RX8) (T := TX8) (N := 6) hx hb hts in_X8_begin_8 hown hK hP 0 rfl rfl 2 (by decide) (hts _ lk_X8_begin_15) (fun _ h9 => h9) rfl dX8_begin_14 ?_
      refine va_alen (v := 16) hx hb hK hP 1 0 rfl rfl rfl dX8_begin_17 ?_
      refine lv_icmp_ge (tgt := 34) hx hb dX8_begin_18 (by decide) (fun c_18 => ?_) (fun c_18 => ?_)
      · have hv := hv.1 c_18
        refine lv_iconst (v := 0) hx hb dX8_begin_34 (by decide) ?_
        refine lv_istore_n (lv' := [(2, .int (0 : Int32)), (0, .ref (ad 8))]) hx hb dX8_begin_35 rfl hl (by decide) rfl (fun ls hl => ?_)
        have lp36 : ∀ (n36 : Nat) (l2_3 : Int32) (a8_b_4 : Nat → Int32) (a8_e_5 : Nat → Int32) (a8_h_6 : Nat → Int32) (H : Heap) (locs : List Loc) (ls : Array Slot), vfix (vF_X8_begin_36 x1 K a8_a_2) n36 (l2_3, a8_b_4, a8_e_5, a8_h_6) → lv_has ls 3 [(2, .int l2_3), (0, .ref (ad 8))] → va_P D vwCl [oX8 ad x1 (0 : Int32), aI cy (ad 35) 16 a8_a_2, aI cy (ad 36) 4 a8_b_4, aI cy (ad 37) 4 a8_e_5, aI cy (ad 38) 4 a8_h_6] H → va_D A [oX8 ad x1 (0 : Int32), aI cy (ad 35) 16 a8_a_2, aI cy (ad 36) 4 a8_b_4, aI cy (ad 37) 4 a8_e_5, aI cy (ad 38) 4 a8_h_6] → va_S A s.heap H locs → W p l e rm_X8_begin s m ([.ref (ad 8), .int x1] : List Value).toArray below meth c H locs 0 0 Q (F0 m 36 ls []) := by
          intro n36
          induction n36 with
          | zero => intro l2_3 a8_b_4 a8_e_5 a8_h_6 H locs ls hv; exact hv.elim
          | succ n36 ih36 =>
            intro l2_3 a8_b_4 a8_e_5 a8_h_6 H locs ls hv hl hP hD hS
            have hv : vB_X8_begin_36 x1 K a8_a_2 (fun z0 z1 z2 z3 => vfix (vF_X8_begin_36 x1 K a8_a_2) n36 (z0, z1, z2, z3)) l2_3 a8_b_4 a8_e_5 a8_h_6 := hv
            unfold vB_X8_begin_36 at hv
            refine lv_iload_n hx hb dX8_begin_36 rfl (lv_at hl 0 rfl) ?_
            refine lv_iconst (v := 4) hx hb dX8_begin_37 (by decide) ?_
            refine lv_icmp_ge (tgt := 68) hx hb dX8_begin_38 (by decide) (fun c_38 => ?_) (fun c_38 => ?_)
            · have hv := hv.1 c_38
              rw [← hQ]
              exact k_vret hx hb hr hlocks hS (x1, (0 : Int32), a8_a_2, a8_b_4, a8_e_5, a8_h_6) hP hD hv dX8_begin_68
            · have hv := hv.2 c_38
              refine lv_aload_n hx hb dX8_begin_41 rfl (lv_at hl 1 rfl) ?_
              refine va_get (D := D) (ci := 8) (v := .ref (ad 36)) (C := RX8) (T := TX8) (N := 6) hx hb hts in_X8_begin_8 hown hK hP 0 rfl rfl 3 (by decide) (hts _ lk_X8_begin_19) (fun _ h9 => h9) rfl dX8_begin_42 ?_
              refine lv_iload_n hx hb dX8_begin_45 rfl (lv_at hl 0 rfl) ?_
              refine lv_iconst (v := 0) hx hb dX8_begin_46 (by decide) ?_
              refine k_iast hx hb hK hP hD hS 2 0 rfl rfl hv.1 dX8_begin_47 (fun a8_b_7 H locs h_a8_b_7 hP hD hS => ?_)
              have hv := hv.2 a8_b_7 h_a8_b_7
              have hP : va_P D vwCl [oX8 ad x1 (0 : Int32), aI cy (ad 35) 16 a8_a_2, aI cy (ad 36) 4 a8_b_7, aI cy (ad 37) 4 a8_e_5, aI cy (ad 38) 4 a8_h_6] H := hP
              have hD : va_D A [oX8 ad x1 (0 : Int32), aI cy (ad 35) 16 a8_a_2, aI cy (ad 36) 4 a8_b_7, aI cy (ad 37) 4 a8_e_5, aI cy (ad 38) 4 a8_h_6] := hD
              refine lv_aload_n hx hb dX8_begin_48 rfl (lv_at hl 1 rfl) ?_
              refine va_get (D := D) (ci := 8) (v := .ref (ad 37)) (C := RX8) (T := TX8) (N := 6) hx hb hts in_X8_begin_8 hown hK hP 0 rfl rfl 4 (by decide) (hts _ lk_X8_begin_22) (fun _ h9 => h9) rfl dX8_begin_49 ?_
              refine lv_iload_n hx hb dX8_begin_52 rfl (lv_at hl 0 rfl) ?_
              refine lv_iconst (v := 0) hx hb dX8_begin_53 (by decide) ?_
              refine k_iast hx hb hK hP hD hS 3 0 rfl rfl hv.1 dX8_begin_54 (fun a8_e_8 H locs h_a8_e_8 hP hD hS => ?_)
              have hv := hv.2 a8_e_8 h_a8_e_8
              have hP : va_P D vwCl [oX8 ad x1 (0 : Int32), aI cy (ad 35) 16 a8_a_2, aI cy (ad 36) 4 a8_b_7, aI cy (ad 37) 4 a8_e_8, aI cy (ad 38) 4 a8_h_6] H := hP
              have hD : va_D A [oX8 ad x1 (0 : Int32), aI cy (ad 35) 16 a8_a_2, aI cy (ad 36) 4 a8_b_7, aI cy (ad 37) 4 a8_e_8, aI cy (ad 38) 4 a8_h_6] := hD
              refine lv_aload_n hx hb dX8_begin_55 rfl (lv_at hl 1 rfl) ?_
              refine va_get (D := D) (ci := 8) (v := .ref (ad 38)) (C := RX8) (T := TX8) (N := 6) hx hb hts in_X8_begin_8 hown hK hP 0 rfl rfl 5 (by decide) (hts _ lk_X8_begin_25) (fun _ h9 => h9) rfl dX8_begin_56 ?_
              refine lv_iload_n hx hb dX8_begin_59 rfl (lv_at hl 0 rfl) ?_
              refine lv_iconst (v := 0) hx hb dX8_begin_60 (by decide) ?_
              refine k_iast hx hb hK hP hD hS 4 0 rfl rfl hv.1 dX8_begin_61 (fun a8_h_9 H locs h_a8_h_9 hP hD hS => ?_)
              have hv := hv.2 a8_h_9 h_a8_h_9
              have hP : va_P D vwCl [oX8 ad x1 (0 : Int32), aI cy (ad 35) 16 a8_a_2, aI cy (ad 36) 4 a8_b_7, aI cy (ad 37) 4 a8_e_8, aI cy (ad 38) 4 a8_h_9] H := hP
              have hD : va_D A [oX8 ad x1 (0 : Int32), aI cy (ad 35) 16 a8_a_2, aI cy (ad 36) 4 a8_b_7, aI cy (ad 37) 4 a8_e_8, aI cy (ad 38) 4 a8_h_9] := hD
              obtain ⟨i10, h_i10⟩ : ∃ y : Int32, y = l2_3 + 1 := ⟨_, rfl⟩
              refine lv_iinc (v := i10) (lv' := [(2, .int i10), (0, .ref (ad 8))]) hx hb dX8_begin_62 hl (k := 0) rfl (by rw [h_i10]; rfl) (by decide) rfl (fun ls hl => ?_)
              have hv := hv i10 h_i10
              refine lv_goto (tgt := 36) hx hb dX8_begin_65 (by decide) ?_
              exact ih36 i10 a8_b_7 a8_e_8 a8_h_9 H locs ls hv (lv_sub hl [0, 1] rfl) hP hD hS
        obtain ⟨nn, hv⟩ := hv
        exact lp36 nn (0 : Int32) a8_b a8_e a8_h H locs ls hv (lv_sub hl [0, 1] rfl) hP hD hS
      · have hv := hv.2 c_18
        refine lv_aload_n hx hb dX8_begin_21 rfl (lv_at hl 1 rfl) ?_
        refine va_get (D := D) (ci := 8) (v := .ref (ad 35)) (C := RX8) (T := TX8) (N := 6) hx hb hts in_X8_begin_8 hown hK hP 0 rfl rfl 2 (by decide) (hts _ lk_X8_begin_15) (fun _ h9 => h9) rfl dX8_begin_22 ?_
        refine lv_iload_n hx hb dX8_begin_25 rfl (lv_at hl 0 rfl) ?_
        refine lv_iconst (v := 0) hx hb dX8_begin_26 (by decide) ?_
        refine k_iast hx hb hK hP hD hS 1 0 rfl rfl hv.1 dX8_begin_27 (fun a8_a_11 H locs h_a8_a_11 hP hD hS => ?_)
        have hv := hv.2 a8_a_11 h_a8_a_11
        have hP : va_P D vwCl [oX8 ad x1 (0 : Int32), aI cy (ad 35) 16 a8_a_11, aI cy (ad 36) 4 a8_b, aI cy (ad 37) 4 a8_e, aI cy (ad 38) 4 a8_h] H := hP
        have hD : va_D A [oX8 ad x1 (0 : Int32), aI cy (ad 35) 16 a8_a_11, aI cy (ad 36) 4 a8_b, aI cy (ad 37) 4 a8_e, aI cy (ad 38) 4 a8_h] := hD
        obtain ⟨i12, h_i12⟩ : ∃ y : Int32, y = l2_1 + 1 := ⟨_, rfl⟩
        refine lv_iinc (v := i12) (lv' := [(2, .int i12), (0, .ref (ad 8))]) hx hb dX8_begin_28 hl (k := 0) rfl (by rw [h_i12]; rfl) (by decide) rfl (fun ls hl => ?_)
        have hv := hv i12 h_i12
        refine lv_goto (tgt := 12) hx hb dX8_begin_31 (by decide) ?_
        exact ih12 i12 a8_a_11 H locs ls hv (lv_sub hl [0, 1] rfl) hP hD hS
  obtain ⟨nn, hv⟩ := hv
  exact lp12 nn (0 : Int32) a8_a H locs ls hv (lv_sub hl [0, 1] rfl) hP hD hS
theorem lk_X5_begin_26 : Cond.fieldLink RX5 26 "CoarseSteps$Mover" "kind" "I" ∈ wsX5_begin := by decide +kernel
theorem in_X5_begin_5 : ∀ w ∈ wsX50, w ∈ wsX5_begin := by decide +kernel
theorem lk_X5_begin_30 : Cond.fieldLink RX5 30 "CoarseSteps$Mover" "sums" "I" ∈ wsX5_begin := by decide +kernel
theorem lk_X5_begin_12 : Cond.fieldLink RX5 12 "CoarseSteps$Mover" "tables" "LCoarseSteps$Tables;" ∈ wsX5_begin := by decide +kernel
abbrev rm_X5_begin : Room := { frames := 1, cells := 0, slots := 0, locals := 22 }
set_option maxHeartbeats 4000000 in
set_option maxRecDepth 100000 in
theorem m_X5_begin (l : Launch) (D : va_G) (cy : ClassId × ClassId × ClassId) (ad : Nat → Nat) (s5_kind : Int32) (s5_sums : Int32) (s8_sums : Int32) (s8_g : Int32) (a8_a : Nat → Int32) (a8_b : Nat → Int32) (a8_e : Nat → Int32) (a8_h : Nat → Int32) (x1 : Int32) (x2 : Int32) (sz : Nat) {K : Int32 → Int32 → Int32 → Int32 → (Nat → Int32) → (Nat → Int32) → (Nat → Int32) → (Nat → Int32) → Prop} (hv : v_X5_begin s8_sums s8_g a8_a a8_b a8_e a8_h x1 x2 K) : Met l yX5_begin wsX5_begin rm_X5_begin (va_Pc [.ref (ad 5), .int x1, .int x2] (wd D cy [oX5 ad s5_kind s5_sums, oX8 ad s8_sums s8_g, aI cy (ad 35) 16 a8_a, aI cy (ad 36) 4 a8_b, aI cy (ad 37) 4 a8_e, aI cy (ad 38) 4 a8_h] sz)) (va_Qv (fun u : Int32 × Int32 × Int32 × Int32 × (Nat → Int32) × (Nat → Int32) × (Nat → Int32) × (Nat → Int32) => K u.1 u.2.1 u.2.2.1 u.2.2.2.1 u.2.2.2.2.1 u.2.2.2.2.2.1 u.2.2.2.2.2.2.1 u.2.2.2.2.2.2.2) (fun u t => we D ((fun u : Int32 × Int32 × Int32 × Int32 × (Nat → Int32) × (Nat → Int32) × (Nat → Int32) × (Nat → Int32) => [oX5 ad u.1 u.2.1, oX8 ad u.2.2.1 u.2.2.2.1, aI cy (ad 35) 16 u.2.2.2.2.1, aI cy (ad 36) 4 u.2.2.2.2.2.1, aI cy (ad 37) 4 u.2.2.2.2.2.2.1, aI cy (ad 38) 4 u.2.2.2.2.2.2.2]) u) (va_A [oX5 ad s5_kind s5_sums, oX8 ad s8_sums s8_g, aI cy (ad 35) 16 a8_a, aI cy (ad 36) 4 a8_b, aI cy (ad 37) 4 a8_e, aI cy (ad 38) 4 a8_h] sz) t) (va_A [oX5 ad s5_kind s5_sums, oX8 ad s8_sums s8_g, aI cy (ad 35) 16 a8_a, aI cy (ad 36) 4 a8_b, aI cy (ad 37) 4 a8_e, aI cy (ad 38) 4 a8_h] sz)) 0 0 (va_A [oX5 ad s5_kind s5_sums, oX8 ad s8_sums s8_g, aI cy (ad 35) 16 a8_a, aI cy (ad 36) 4 a8_b, aI cy (ad 37) 4 a8_e, aI cy (ad 38) 4 a8_h] sz) := by
  refine k_ofW (cc := cX5_begin) (maxL := 3) (ret := none) (fun A => va_Qv (fun u : Int32 × Int32 × Int32 × Int32 × (Nat → Int32) × (Nat → Int32) × (Nat → Int32) × (Nat → Int32) => K u.1 u.2.1 u.2.2.1 u.2.2.2.1 u.2.2.2.2.1 u.2.2.2.2.2.1 u.2.2.2.2.2.2.1 u.2.2.2.2.2.2.2) (fun u t => we D ((fun u : Int32 × Int32 × Int32 × Int32 × (Nat → Int32) × (Nat → Int32) × (Nat → Int32) × (Nat → Int32) => [oX5 ad u.1 u.2.1, oX8 ad u.2.2.1 u.2.2.2.1, aI cy (ad 35) 16 u.2.2.2.2.1, aI cy (ad 36) 4 u.2.2.2.2.2.1, aI cy (ad 37) 4 u.2.2.2.2.2.2.1, aI cy (ad 38) 4 u.2.2.2.2.2.2.2]) u) A t) A) (by decide) rfl (Nat.le_of_ble_eq_true rfl) ?_
  intro p e s m below meth c A ls H locs hx hb hml hr hts hown hlocks hname hK hN hA hP hD hS hl
  have hl : lv_has ls 3 [(0, .ref (ad 5)), (1, .int x1), (2, .int x2)] := hl
  generalize hQ : MQ below _ _ s _ _ A = Q
  unfold v_X5_begin at hv
  refine lv_aload_n hx hb dX5_begin_0 rfl (lv_at hl 0 rfl) ?_
  refine lv_iload_n hx hb dX5_begin_1 rfl (lv_at hl 1 rfl) ?_
  refine va_put (D := D) (ci := 5) (v := .int x1) (ty := .int) (C := RX5) (T := TX5) (N := 6) hx hb hts in_X5_begin_5 tyX5 tyX5_ok nmX5 hown hK hP hD hS 0 rfl rfl 4 (by decide) (hts _ lk_X5_begin_26) (fun _ h9 => h9) rfl (by decide +kernel) rfl rfl (Nat.le_of_ble_eq_true rfl) dX5_begin_2 (fun H locs hP hD hS => ?_)
  have hP : va_P D vwCl [oX5 ad x1 s5_sums, oX8 ad s8_sums s8_g, aI cy (ad 35) 16 a8_a, aI cy (ad 36) 4 a8_b, aI cy (ad 37) 4 a8_e, aI cy (ad 38) 4 a8_h] H := hP
  have hD : va_D A [oX5 ad x1 s5_sums, oX8 ad s8_sums s8_g, aI cy (ad 35) 16 a8_a, aI cy (ad 36) 4 a8_b, aI cy (ad 37) 4 a8_e, aI cy (ad 38) 4 a8_h] := hD
  refine lv_iload_n hx hb dX5_begin_5 rfl (lv_at hl 1 rfl) ?_
  by_cases c_6_0 : x1 = 1
  · refine lv_tableIn (tgt := 32) (off := 26) hx hb dX5_begin_6 (by rw [c_6_0] <;> decide) (by rw [c_6_0] <;> decide) (by rw [c_6_0] <;> rfl) (by decide) ?_
    have hv := hv.1 c_6_0
    refine lv_aload_n hx hb dX5_begin_32 rfl (lv_at hl 0 rfl) ?_
    refine lv_iconst (v := 2) hx hb dX5_begin_33 (by decide) ?_
    refine va_put (D := D) (ci := 5) (v := .int (2 : Int32)) (ty := .int) (C := RX5) (T := TX5) (N := 6) hx hb hts in_X5_begin_5 tyX5 tyX5_ok nmX5 hown hK hP hD hS 0 rfl rfl 5 (by decide) (hts _ lk_X5_begin_30) (fun _ h9 => h9) rfl (by decide +kernel) rfl rfl (Nat.le_of_ble_eq_true rfl) dX5_begin_34 (fun H locs hP hD hS => ?_)
    have hP : va_P D vwCl [oX5 ad x1 (2 : Int32), oX8 ad s8_sums s8_g, aI cy (ad 35) 16 a8_a, aI cy (ad 36) 4 a8_b, aI cy (ad 37) 4 a8_e, aI cy (ad 38) 4 a8_h] H := hP
    have hD : va_D A [oX5 ad x1 (2 : Int32), oX8 ad s8_sums s8_g, aI cy (ad 35) 16 a8_a, aI cy (ad 36) 4 a8_b, aI cy (ad 37) 4 a8_e, aI cy (ad 38) 4 a8_h] := hD
    refine lv_goto (tgt := 69) hx hb dX5_begin_37 (by decide) ?_
    rw [← hQ]
    exact k_vret hx hb hr hlocks hS (x1, (2 : Int32), s8_sums, s8_g, a8_a, a8_b, a8_e, a8_h) hP hD hv dX5_begin_69
  have hv := hv.2
  by_cases c_6_1 : x1 = 2
  · refine lv_tableIn (tgt := 40) (off := 34) hx hb dX5_begin_6 (by rw [c_6_1] <;> decide) (by rw [c_6_1] <;> decide) (by rw [c_6_1] <;> rfl) (by decide) ?_
    have hv := hv.1 c_6_1
    refine lv_aload_n hx hb dX5_begin_40 rfl (lv_at hl 0 rfl) ?_
    refine lv_iload_n hx hb dX5_begin_41 rfl (lv_at hl 2 rfl) ?_
    refine va_put (D := D) (ci := 5) (v := .int x2) (ty := .int) (C := RX5) (T := TX5) (N := 6) hx hb hts in_X5_begin_5 tyX5 tyX5_ok nmX5 hown hK hP hD hS 0 rfl rfl 5 (by decide) (hts _ lk_X5_begin_30) (fun _ h9 => h9) rfl (by decide +kernel) rfl rfl (Nat.le_of_ble_eq_true rfl) dX5_begin_42 (fun H locs hP hD hS => ?_)
    have hP : va_P D vwCl [oX5 ad x1 x2, oX8 ad s8_sums s8_g, aI cy (ad 35) 16 a8_a, aI cy (ad 36) 4 a8_b, aI cy (ad 37) 4 a8_e, aI cy (ad 38) 4 a8_h] H := hP
    have hD : va_D A [oX5 ad x1 x2, oX8 ad s8_sums s8_g, aI cy (ad 35) 16 a8_a, aI cy (ad 36) 4 a8_b, aI cy (ad 37) 4 a8_e, aI cy (ad 38) 4 a8_h] := hD
    refine lv_aload_n hx hb dX5_begin_45 rfl (lv_at hl 0 rfl) ?_
    refine va_get (D := D) (ci := 5) (v := .ref (ad 8)) (C := RX5) (T := TX5) (N := 6) hx hb hts in_X5_begin_5 hown hK hP 0 rfl rfl 1 (by decide) (hts _ lk_X5_begin_12) (fun _ h9 => h9) rfl dX5_begin_46 ?_
    refine lv_iload_n hx hb dX5_begin_49 rfl (lv_at hl 2 rfl) ?_
    have hPc := hP.sub (ws' := [oX8 ad s8_sums s8_g, aI cy (ad 35) 16 a8_a, aI cy (ad 36) 4 a8_b, aI cy (ad 37) 4 a8_e, aI cy (ad 38) 4 a8_h]) [1, 2, 3, 4, 5] rfl
    have hDc := hD.sub (ws' := [oX8 ad s8_sums s8_g, aI cy (ad 35) 16 a8_a, aI cy (ad 36) 4 a8_b, aI cy (ad 37) 4 a8_e, aI cy (ad 38) 4 a8_h]) [1, 2, 3, 4, 5] (by decide) rfl
    refine k_calv (wc := [oX8 ad s8_sums s8_g, aI cy (ad 35) 16 a8_a, aI cy (ad 36) 4 a8_b, aI cy (ad 37) 4 a8_e, aI cy (ad 38) 4 a8_h]) (wr := [oX5 ad x1 x2]) (va_runV (As := [.int x2]) (rest := []) ⟨hx, hb, hml, hown, hts⟩ (m_X8_begin l D cy ad s8_sums s8_g a8_a a8_b a8_e a8_h x2 H.size hv) (cwV 1 hts gX5_begin_X8_begin rfl rfl rfl (by decide +kernel) ⟨Nat.le_of_ble_eq_true rfl, Nat.le_of_ble_eq_true rfl⟩) ⟨wd_blind, va_recv hK hPc (ci := 8) (q0 := 0) rfl rfl, wd_ok hPc hK hDc hN⟩ rfl rfl hl.1 rfl (lv_room (Nat.le_of_ble_eq_true rfl)) dX5_begin_50 ⟨Nat.le_of_ble_eq_true rfl, Nat.le_of_ble_eq_true rfl⟩) hP hD hS hA [1, 2, 3, 4, 5] [0] rfl rfl (by decide) (by decide) (fun u H locs hv hP hD hS => ?_)
    obtain ⟨s8_sums_1, s8_g_2, a8_a_3, a8_b_4, a8_e_5, a8_h_6⟩ := u
    have hP : va_P D vwCl [oX5 ad x1 x2, oX8 ad s8_sums_1 s8_g_2, aI cy (ad 35) 16 a8_a_3, aI cy (ad 36) 4 a8_b_4, aI cy (ad 37) 4 a8_e_5, aI cy (ad 38) 4 a8_h_6] H := hP.sub [0, 1, 2, 3, 4, 5] rfl
    have hD : va_D A [oX5 ad x1 x2, oX8 ad s8_sums_1 s8_g_2, aI cy (ad 35) 16 a8_a_3, aI cy (ad 36) 4 a8_b_4, aI cy (ad 37) 4 a8_e_5, aI cy (ad 38) 4 a8_h_6] := hD.sub [0, 1, 2, 3, 4, 5] (by decide) rfl
    refine lv_goto (tgt := 69) hx hb dX5_begin_53 (by decide) ?_
    rw [← hQ]
    exact k_vret hx hb hr hlocks hS (x1, x2, s8_sums_1, s8_g_2, a8_a_3, a8_b_4, a8_e_5, a8_h_6) hP hD hv dX5_begin_69
  have hv := hv.2
  by_cases c_6_2 : x1 = 3
  · refine lv_tableIn (tgt := 56) (off := 50) hx hb dX5_begin_6 (by rw [c_6_2] <;> decide) (by rw [c_6_2] <;> decide) (by rw [c_6_2] <;> rfl) (by decide) ?_
    have hv := hv.1 c_6_2
    refine lv_aload_n hx hb dX5_begin_56 rfl (lv_at hl 0 rfl) ?_
    refine lv_iload_n hx hb dX5_begin_57 rfl (lv_at hl 2 rfl) ?_
    refine va_put (D := D) (ci := 5) (v := .int x2) (ty := .int) (C := RX5) (T := TX5) (N := 6) hx hb hts in_X5_begin_5 tyX5 tyX5_ok nmX5 hown hK hP hD hS 0 rfl rfl 5 (by decide) (hts _ lk_X5_begin_30) (fun _ h9 => h9) rfl (by decide +kernel) rfl rfl (Nat.le_of_ble_eq_true rfl) dX5_begin_58 (fun H locs hP hD hS => ?_)
    have hP : va_P D vwCl [oX5 ad x1 x2, oX8 ad s8_sums s8_g, aI cy (ad 35) 16 a8_a, aI cy (ad 36) 4 a8_b, aI cy (ad 37) 4 a8_e, aI cy (ad 38) 4 a8_h] H := hP
    have hD : va_D A [oX5 ad x1 x2, oX8 ad s8_sums s8_g, aI cy (ad 35) 16 a8_a, aI cy (ad 36) 4 a8_b, aI cy (ad 37) 4 a8_e, aI cy (ad 38) 4 a8_h] := hD
    refine lv_goto (tgt := 69) hx hb dX5_begin_61 (by decide) ?_
    rw [← hQ]
    exact k_vret hx hb hr hlocks hS (x1, x2, s8_sums, s8_g, a8_a, a8_b, a8_e, a8_h) hP hD hv dX5_begin_69
  have hv := hv.2
  refine lv_tableOut (tgt := 64) hx hb dX5_begin_6 (by have q0 := lv_neT c_6_0 (a := 1) (by decide); have q1 := lv_neT c_6_1 (a := 2) (by decide); have q2 := lv_neT c_6_2 (a := 3) (by decide); omega) (by decide) ?_
  have hv := hv c_6_0 c_6_1 c_6_2
  refine lv_aload_n hx hb dX5_begin_64 rfl (lv_at hl 0 rfl) ?_
  refine lv_iconst (v := 1) hx hb dX5_begin_65 (by decide) ?_
  refine va_put (D := D) (ci := 5) (v := .int (1 : Int32)) (ty := .int) (C := RX5) (T := TX5) (N := 6) hx hb hts in_X5_begin_5 tyX5 tyX5_ok nmX5 hown hK hP hD hS 0 rfl rfl 5 (by decide) (hts _ lk_X5_begin_30) (fun _ h9 => h9) rfl (by decide +kernel) rfl rfl (Nat.le_of_ble_eq_true rfl) dX5_begin_66 (fun H locs hP hD hS => ?_)
  have hP : va_P D vwCl [oX5 ad x1 (1 : Int32), oX8 ad s8_sums s8_g, aI cy (ad 35) 16 a8_a, aI cy (ad 36) 4 a8_b, aI cy (ad 37) 4 a8_e, aI cy (ad 38) 4 a8_h] H := hP
  have hD : va_D A [oX5 ad x1 (1 : Int32), oX8 ad s8_sums s8_g, aI cy (ad 35) 16 a8_a, aI cy (ad 36) 4 a8_b, aI cy (ad 37) 4 a8_e, aI cy (ad 38) 4 a8_h] := hD
  rw [← hQ]
  exact k_vret hx hb hr hlocks hS (x1, (1 : Int32), s8_sums, s8_g, a8_a, a8_b, a8_e, a8_h) hP hD hv dX5_begin_69
theorem lk_X9_begin_19 : Cond.fieldLink RX9 19 "CoarseSteps$Wheel" "parts" "I" ∈ wsX9_begin := by decide +kernel
theorem in_X9_begin_9 : ∀ w ∈ wsX90, w ∈ wsX9_begin := by decide +kernel
theorem lk_X9_begin_23 : Cond.fieldLink RX9 23 "CoarseSteps$Wheel" "rule" "I" ∈ wsX9_begin := by decide +kernel
abbrev rm_X9_begin : Room := { frames := 1, cells := 0, slots := 0, locals := 21 }
set_option maxHeartbeats 4000000 in
set_option maxRecDepth 100000 in
theorem m_X9_begin (l : Launch) (D : va_G) (cy : ClassId × ClassId × ClassId) (ad : Nat → Nat) (s9_parts : Int32) (s9_rule : Int32) (s9_hand : Int32) (a9_isOn : Nat → Int32) (a9_timesOn : Nat → Int32) (x1 : Int32) (x2 : Int32) (sz : Nat) {K : Int32 → Int32 → Int32 → (Nat → Int32) → (Nat → Int32) → Prop} (hv : v_X9_begin a9_isOn a9_timesOn x1 x2 K) : Met l yX9_begin wsX9_begin rm_X9_begin (va_Pc [.ref (ad 9), .int x1, .int x2] (wd D cy [oX9 ad s9_parts s9_rule s9_hand, aZ cy (ad 39) 16 a9_isOn, aI cy (ad 40) 16 a9_timesOn] sz)) (va_Qv (fun u : Int32 × Int32 × Int32 × (Nat → Int32) × (Nat → Int32) => K u.1 u.2.1 u.2.2.1 u.2.2.2.1 u.2.2.2.2) (fun u t => we D ((fun u : Int32 × Int32 × Int32 × (Nat → Int32) × (Nat → Int32) => [oX9 ad u.1 u.2.1 u.2.2.1, aZ cy (ad 39) 16 u.2.2.2.1, aI cy (ad 40) 16 u.2.2.2.2]) u) (va_A [oX9 ad s9_parts s9_rule s9_hand, aZ cy (ad 39) 16 a9_isOn, aI cy (ad 40) 16 a9_timesOn] sz) t) (va_A [oX9 ad s9_parts s9_rule s9_hand, aZ cy (ad 39) 16 a9_isOn, aI cy (ad 40) 16 a9_timesOn] sz)) 0 0 (va_A [oX9 ad s9_parts s9_rule s9_hand, aZ cy (ad 39) 16 a9_isOn, aI cy (ad 40) 16 a9_timesOn] sz) := by
  refine k_ofW (cc := cX9_begin) (maxL := 3) (ret := none) (fun A => va_Qv (fun u : Int32 × Int32 × Int32 × (Nat → Int32) × (Nat → Int32) => K u.1 u.2.1 u.2.2.1 u.2.2.2.1 u.2.2.2.2) (fun u t => we D ((fun u : Int32 × Int32 × Int32 × (Nat → Int32) × (Nat → Int32) => [oX9 ad u.1 u.2.1 u.2.2.1, aZ cy (ad 39) 16 u.2.2.2.1, aI cy (ad 40) 16 u.2.2.2.2]) u) A t) A) (by decide) rfl (Nat.le_of_ble_eq_true rfl) ?_
  intro p e s m below meth c A ls H locs hx hb hml hr hts hown hlocks hname hK hN hA hP hD hS hl
  have hl : lv_has ls 3 [(0, .ref (ad 9)), (1, .int x1), (2, .int x2)] := hl
  generalize hQ : MQ below _ _ s _ _ A = Q
  unfold v_X9_begin at hv
  refine lv_aload_n hx hb dX9_begin_0 rfl (lv_at hl 0 rfl) ?_
  refine lv_iload_n hx hb dX9_begin_1 rfl (lv_at hl 1 rfl) ?_
  refine va_put (D := D) (ci := 9) (v := .int x1) (ty := .int) (C := RX9) (T := TX9) (N := 5) hx hb hts in_X9_begin_9 tyX9 tyX9_ok nmX9 hown hK hP hD hS 0 rfl rfl 2 (by decide) (hts _ lk_X9_begin_19) (fun _ h9 => h9) rfl (by decide +kernel) rfl rfl (Nat.le_of_ble_eq_true rfl) dX9_begin_2 (fun H locs hP hD hS => ?_)
  have hP : va_P D vwCl [oX9 ad x1 s9_rule s9_hand, aZ cy (ad 39) 16 a9_isOn, aI cy (ad 40) 16 a9_timesOn] H := hP
  have hD : va_D A [oX9 ad x1 s9_rule s9_hand, aZ cy (ad 39) 16 a9_isOn, aI cy (ad 40) 16 a9_timesOn] := hD
  refine lv_aload_n hx hb dX9_begin_5 rfl (lv_at hl 0 rfl) ?_
  refine lv_iload_n hx hb dX9_begin_6 rfl (lv_at hl 2 rfl) ?_
  refine va_put (D := D) (ci := 9) (v := .int x2) (ty := .int) (C := RX9) (T := TX9) (N := 5) hx hb hts in_X9_begin_9 tyX9 tyX9_ok nmX9 hown hK hP hD hS 0 rfl rfl 3 (by decide) (hts _ lk_X9_begin_23) (fun _ h9 => h9) rfl (by decide +kernel) rfl rfl (Nat.le_of_ble_eq_true rfl) dX9_begin_7 (fun H locs hP hD hS => ?_)
  have hP : va_P D vwCl [oX9 ad x1 x2 s9_hand, aZ cy (ad 39) 16 a9_isOn, aI cy (ad 40) 16 a9_timesOn] H := hP
  have hD : va_D A [oX9 ad x1 x2 s9_hand, aZ cy (ad 39) 16 a9_isOn, aI cy (ad 40) 16 a9_timesOn] := hD
  refine lv_aload_n hx hb dX9_begin_10 rfl (lv_at hl 0 rfl) ?_
  have hPc := hP.sub (ws' := [oX9 ad x1 x2 s9_hand, aZ cy (ad 39) 16 a9_isOn, aI cy (ad 40) 16 a9_timesOn]) [0, 1, 2] rfl
  have hDc := hD.sub (ws' := [oX9 ad x1 x2 s9_hand, aZ cy (ad 39) 16 a9_isOn, aI cy (ad 40) 16 a9_timesOn]) [0, 1, 2] (by decide) rfl
  refine k_calv (wc := [oX9 ad x1 x2 s9_hand, aZ cy (ad 39) 16 a9_isOn, aI cy (ad 40) 16 a9_timesOn]) (wr := []) (va_runV (As := []) (rest := []) ⟨hx, hb, hml, hown, hts⟩ (m_X9_beginAnew l D cy ad x1 x2 s9_hand a9_isOn a9_timesOn H.size hv) (cwV 0 hts gX9_begin_X9_beginAnew rfl rfl rfl (by decide +kernel) ⟨Nat.le_of_ble_eq_true rfl, Nat.le_of_ble_eq_true rfl⟩) ⟨wd_blind, va_recv hK hPc (ci := 9) (q0 := 0) rfl rfl, wd_ok hPc hK hDc hN⟩ rfl rfl hl.1 rfl (lv_room (Nat.le_of_ble_eq_true rfl)) dX9_begin_11 ⟨Nat.le_of_ble_eq_true rfl, Nat.le_of_ble_eq_true rfl⟩) hP hD hS hA [0, 1, 2] [] rfl rfl (by decide) (by decide) (fun u H locs hv hP hD hS => ?_)
  obtain ⟨s9_hand_1, a9_isOn_2, a9_timesOn_3⟩ := u
  have hP : va_P D vwCl [oX9 ad x1 x2 s9_hand_1, aZ cy (ad 39) 16 a9_isOn_2, aI cy (ad 40) 16 a9_timesOn_3] H := hP.sub [0, 1, 2] rfl
  have hD : va_D A [oX9 ad x1 x2 s9_hand_1, aZ cy (ad 39) 16 a9_isOn_2, aI cy (ad 40) 16 a9_timesOn_3] := hD.sub [0, 1, 2] (by decide) rfl
  rw [← hQ]
  exact k_vret hx hb hr hlocks hS (x1, x2, s9_hand_1, a9_isOn_2, a9_timesOn_3) hP hD hv dX9_begin_14
theorem lk_X4_begin_34 : Cond.fieldLink RX4 34 "CoarseSteps$Loop" "mover" "LCoarseSteps$Mover;" ∈ wsX4_begin := by decide +kernel
theorem in_X4_begin_4 : ∀ w ∈ wsX40, w ∈ wsX4_begin := by decide +kernel
theorem lk_X4_begin_12 : Cond.fieldLink RX4 12 "CoarseSteps$Loop" "wheel" "LCoarseSteps$Wheel;" ∈ wsX4_begin := by decide +kernel
abbrev rm_X4_begin : Room := { frames := 2, cells := 0, slots := 0, locals := 44 }
set_option maxHeartbeats 4000000 in
set_option maxRecDepth 100000 in
theorem m_X4_begin (l : Launch) (D : va_G) (cy : ClassId × ClassId × ClassId) (ad : Nat → Nat) (s3_next : Int32) (s3_kept : Int32) (s4_ticks : Int32) (s4_firstBeganWith : Int64) (s4_secondBefore : Int32) (s4_thirdBefore : Int32) (s4_thirdTwoBefore : Int32) (s5_kind : Int32) (s5_sums : Int32) (s8_sums : Int32) (s8_g : Int32) (s9_parts : Int32) (s9_rule : Int32) (s9_hand : Int32) (a4_sums : Nat → Int64) (a8_a : Nat → Int32) (a8_b : Nat → Int32) (a8_e : Nat → Int32) (a8_h : Nat → Int32) (a9_isOn : Nat → Int32) (a9_timesOn : Nat → Int32) (x1 : Int32) (x2 : Int32) (x3 : Int32) (sz : Nat) {K : Int32 → Int32 → Int32 → Int64 → Int32 → Int32 → Int32 → Int32 → Int32 → Int32 → Int32 → Int32 → Int32 → Int32 → (Nat → Int64) → (Nat → Int32) → (Nat → Int32) → (Nat → Int32) → (Nat → Int32) → (Nat → Int32) → (Nat → Int32) → Prop} (hv : v_X4_begin s8_sums s8_g a4_sums a8_a a8_b a8_e a8_h a9_isOn a9_timesOn x1 x2 x3 K) : Met l yX4_begin wsX4_begin rm_X4_begin (va_Pc [.ref (ad 4), .int x1, .int x2, .int x3] (wd D cy [oX3 ad s3_next s3_kept, oX4 ad s4_ticks s4_firstBeganWith s4_secondBefore s4_thirdBefore s4_thirdTwoBefore, oX5 ad s5_kind s5_sums, oX8 ad s8_sums s8_g, oX9 ad s9_parts s9_rule s9_hand, aJ cy (ad 29) 4 a4_sums, aI cy (ad 35) 16 a8_a, aI cy (ad 36) 4 a8_b, aI cy (ad 37) 4 a8_e, aI cy (ad 38) 4 a8_h, aZ cy (ad 39) 16 a9_isOn, aI cy (ad 40) 16 a9_timesOn] sz)) (va_Qv (fun u : Int32 × Int32 × Int32 × Int64 × Int32 × Int32 × Int32 × Int32 × Int32 × Int32 × Int32 × Int32 × Int32 × Int32 × (Nat → Int64) × (Nat → Int32) × (Nat → Int32) × (Nat → Int32) × (Nat → Int32) × (Nat → Int32) × (Nat → Int32) => K u.1 u.2.1 u.2.2.1 u.2.2.2.1 u.2.2.2.2.1 u.2.2.2.2.2.1 u.2.2.2.2.2.2.1 u.2.2.2.2.2.2.2.1 u.2.2.2.2.2.2.2.2.1 u.2.2.2.2.2.2.2.2.2.1 u.2.2.2.2.2.2.2.2.2.2.1 u.2.2.2.2.2.2.2.2.2.2.2.1 u.2.2.2.2.2.2.2.2.2.2.2.2.1 u.2.2.2.2.2.2.2.2.2.2.2.2.2.1 u.2.2.2.2.2.2.2.2.2.2.2.2.2.2.1 u.2.2.2.2.2.2.2.2.2.2.2.2.2.2.2.1 u.2.2.2.2.2.2.2.2.2.2.2.2.2.2.2.2.1 u.2.2.2.2.2.2.2.2.2.2.2.2.2.2.2.2.2.1 u.2.2.2.2.2.2.2.2.2.2.2.2.2.2.2.2.2.2.1 u.2.2.2.2.2.2.2.2.2.2.2.2.2.2.2.2.2.2.2.1 u.2.2.2.2.2.2.2.2.2.2.2.2.2.2.2.2.2.2.2.2) (fun u t => we D ((fun u : Int32 × Int32 × Int32 × Int64 × Int32 × Int32 × Int32 × Int32 × Int32 × Int32 × Int32 × Int32 × Int32 × Int32 × (Nat → Int64) × (Nat → Int32) × (Nat → Int32) × (Nat → Int32) × (Nat → Int32) × (Nat → Int32) × (Nat → Int32) => [oX3 ad u.1 u.2.1, oX4 ad u.2.2.1 u.2.2.2.1 u.2.2.2.2.1 u.2.2.2.2.2.1 u.2.2.2.2.2.2.1, oX5 ad u.2.2.2.2.2.2.2.1 u.2.2.2.2.2.2.2.2.1, oX8 ad u.2.2.2.2.2.2.2.2.2.1 u.2.2.2.2.2.2.2.2.2.2.1, oX9 ad u.2.2.2.2.2.2.2.2.2.2.2.1 u.2.2.2.2.2.2.2.2.2.2.2.2.1 u.2.2.2.2.2.2.2.2.2.2.2.2.2.1, aJ cy (ad 29) 4 u.2.2.2.2.2.2.2.2.2.2.2.2.2.2.1, aI cy (ad 35) 16 u.2.2.2.2.2.2.2.2.2.2.2.2.2.2.2.1, aI cy (ad 36) 4 u.2.2.2.2.2.2.2.2.2.2.2.2.2.2.2.2.1, aI cy (ad 37) 4 u.2.2.2.2.2.2.2.2.2.2.2.2.2.2.2.2.2.1, aI cy (ad 38) 4 u.2.2.2.2.2.2.2.2.2.2.2.2.2.2.2.2.2.2.1, aZ cy (ad 39) 16 u.2.2.2.2.2.2.2.2.2.2.2.2.2.2.2.2.2.2.2.1, aI cy (ad 40) 16 u.2.2.2.2.2.2.2.2.2.2.2.2.2.2.2.2.2.2.2.2]) u) (va_A [oX3 ad s3_next s3_kept, oX4 ad s4_ticks s4_firstBeganWith s4_secondBefore s4_thirdBefore s4_thirdTwoBefore, oX5 ad s5_kind s5_sums, oX8 ad s8_sums s8_g, oX9 ad s9_parts s9_rule s9_hand, aJ cy (ad 29) 4 a4_sums, aI cy (ad 35) 16 a8_a, aI cy (ad 36) 4 a8_b, aI cy (ad 37) 4 a8_e, aI cy (ad 38) 4 a8_h, aZ cy (ad 39) 16 a9_isOn, aI cy (ad 40) 16 a9_timesOn] sz) t) (va_A [oX3 ad s3_next s3_kept, oX4 ad s4_ticks s4_firstBeganWith s4_secondBefore s4_thirdBefore s4_thirdTwoBefore, oX5 ad s5_kind s5_sums, oX8 ad s8_sums s8_g, oX9 ad s9_parts s9_rule s9_hand, aJ cy (ad 29) 4 a4_sums, aI cy (ad 35) 16 a8_a, aI cy (ad 36) 4 a8_b, aI cy (ad 37) 4 a8_e, aI cy (ad 38) 4 a8_h, aZ cy (ad 39) 16 a9_isOn, aI cy (ad 40) 16 a9_timesOn] sz)) 0 0 (va_A [oX3 ad s3_next s3_kept, oX4 ad s4_ticks s4_firstBeganWith s4_secondBefore s4_thirdBefore s4_thirdTwoBefore, oX5 ad s5_kind s5_sums, oX8 ad s8_sums s8_g, oX9 ad s9_parts s9_rule s9_hand, aJ cy (ad 29) 4 a4_sums, aI cy (ad 35) 16 a8_a, aI cy (ad 36) 4 a8_b, aI cy (ad 37) 4 a8_e, aI cy (ad 38) 4 a8_h, aZ cy (ad 39) 16 a9_isOn, aI cy (ad 40) 16 a9_timesOn] sz) := by
  refine k_ofW (cc := cX4_begin) (maxL := 4) (ret := none) (fun A => va_Qv (fun u : Int32 × Int32 × Int32 × Int64 × Int32 × Int32 × Int32 × Int32 × Int32 × Int32 × Int32 × Int32 × Int32 × Int32 × (Nat → Int64) × (Nat → Int32) × (Nat → Int32) × (Nat → Int32) × (Nat → Int32) × (Nat → Int32) × (Nat → Int32) => K u.1 u.2.1 u.2.2.1 u.2.2.2.1 u.2.2.2.2.1 u.2.2.2.2.2.1 u.2.2.2.2.2.2.1 u.2.2.2.2.2.2.2.1 u.2.2.2.2.2.2.2.2.1 u.2.2.2.2.2.2.2.2.2.1 u.2.2.2.2.2.2.2.2.2.2.1 u.2.2.2.2.2.2.2.2.2.2.2.1 u.2.2.2.2.2.2.2.2.2.2.2.2.1 u.2.2.2.2.2.2.2.2.2.2.2.2.2.1 u.2.2.2.2.2.2.2.2.2.2.2.2.2.2.1 u.2.2.2.2.2.2.2.2.2.2.2.2.2.2.2.1 u.2.2.2.2.2.2.2.2.2.2.2.2.2.2.2.2.1 u.2.2.2.2.2.2.2.2.2.2.2.2.2.2.2.2.2.1 u.2.2.2.2.2.2.2.2.2.2.2.2.2.2.2.2.2.2.1 u.2.2.2.2.2.2.2.2.2.2.2.2.2.2.2.2.2.2.2.1 u.2.2.2.2.2.2.2.2.2.2.2.2.2.2.2.2.2.2.2.2) (fun u t => we D ((fun u : Int32 × Int32 × Int32 × Int64 × Int32 × Int32 × Int32 × Int32 × Int32 × Int32 × Int32 × Int32 × Int32 × Int32 × (Nat → Int64) × (Nat → Int32) × (Nat → Int32) × (Nat → Int32) × (Nat → Int32) × (Nat → Int32) × (Nat → Int32) => [oX3 ad u.1 u.2.1, oX4 ad u.2.2.1 u.2.2.2.1 u.2.2.2.2.1 u.2.2.2.2.2.1 u.2.2.2.2.2.2.1, oX5 ad u.2.2.2.2.2.2.2.1 u.2.2.2.2.2.2.2.2.1, oX8 ad u.2.2.2.2.2.2.2.2.2.1 u.2.2.2.2.2.2.2.2.2.2.1, oX9 ad u.2.2.2.2.2.2.2.2.2.2.2.1 u.2.2.2.2.2.2.2.2.2.2.2.2.1 u.2.2.2.2.2.2.2.2.2.2.2.2.2.1, aJ cy (ad 29) 4 u.2.2.2.2.2.2.2.2.2.2.2.2.2.2.1, aI cy (ad 35) 16 u.2.2.2.2.2.2.2.2.2.2.2.2.2.2.2.1, aI cy (ad 36) 4 u.2.2.2.2.2.2.2.2.2.2.2.2.2.2.2.2.1, aI cy (ad 37) 4 u.2.2.2.2.2.2.2.2.2.2.2.2.2.2.2.2.2.1, aI cy (ad 38) 4 u.2.2.2.2.2.2.2.2.2.2.2.2.2.2.2.2.2.2.1, aZ cy (ad 39) 16 u.2.2.2.2.2.2.2.2.2.2.2.2.2.2.2.2.2.2.2.1, aI cy (ad 40) 16 u.2.2.2.2.2.2.2.2.2.2.2.2.2.2.2.2.2.2.2.2]) u) A t) A) (by decide) rfl (Nat.le_of_ble_eq_true rfl) ?_
  intro p e s m below meth c A ls H locs hx hb hml hr hts hown hlocks hname hK hN hA hP hD hS hl
  have hl : lv_has ls 4 [(0, .ref (ad 4)), (1, .int x1), (2, .int x2), (3, .int x3)] := hl
  generalize hQ : MQ below _ _ s _ _ A = Q
  unfold v_X4_begin at hv
  refine lv_aload_n hx hb dX4_begin_0 rfl (lv_at hl 0 rfl) ?_
  refine va_get (D := D) (ci := 4) (v := .ref (ad 5)) (C := RX4) (T := TX4) (N := 9) hx hb hts in_X4_begin_4 hown hK hP 1 rfl rfl 0 (by decide) (hts _ lk_X4_begin_34) (fun _ h9 => h9) rfl dX4_begin_1 ?_
  refine lv_iload_n hx hb dX4_begin_4 rfl (lv_at hl 1 rfl) ?_
  refine lv_iload_n hx hb dX4_begin_5 rfl (lv_at hl 2 rfl) ?_
  have hPc := hP.sub (ws' := [oX5 ad s5_kind s5_sums, oX8 ad s8_sums s8_g, aI cy (ad 35) 16 a8_a, aI cy (ad 36) 4 a8_b, aI cy (ad 37) 4 a8_e, aI cy (ad 38) 4 a8_h]) [2, 3, 6, 7, 8, 9] rfl
  have hDc := hD.sub (ws' := [oX5 ad s5_kind s5_sums, oX8 ad s8_sums s8_g, aI cy (ad 35) 16 a8_a, aI cy (ad 36) 4 a8_b, aI cy (ad 37) 4 a8_e, aI cy (ad 38) 4 a8_h]) [2, 3, 6, 7, 8, 9] (by decide) rfl
  refine k_calv (wc := [oX5 ad s5_kind s5_sums, oX8 ad s8_sums s8_g, aI cy (ad 35) 16 a8_a, aI cy (ad 36) 4 a8_b, aI cy (ad 37) 4 a8_e, aI cy (ad 38) 4 a8_h]) (wr := [oX3 ad s3_next s3_kept, oX4 ad s4_ticks s4_firstBeganWith s4_secondBefore s4_thirdBefore s4_thirdTwoBefore, oX9 ad s9_parts s9_rule s9_hand, aJ cy (ad 29) 4 a4_sums, aZ cy (ad 39) 16 a9_isOn, aI cy (ad 40) 16 a9_timesOn]) (va_runV (As := [.int x1, .int x2]) (rest := []) ⟨hx, hb, hml, hown, hts⟩ (m_X5_begin l D cy ad s5_kind s5_sums s8_sums s8_g a8_a a8_b a8_e a8_h x1 x2 H.size hv) (cwV 2 hts gX4_begin_X5_begin rfl rfl rfl (by decide +kernel) ⟨Nat.le_of_ble_eq_true rfl, Nat.le_of_ble_eq_true rfl⟩) ⟨wd_blind, va_recv hK hPc (ci := 5) (q0 := 0) rfl rfl, wd_ok hPc hK hDc hN⟩ rfl rfl hl.1 rfl (lv_room (Nat.le_of_ble_eq_true rfl)) dX4_begin_6 ⟨Nat.le_of_ble_eq_true rfl, Nat.le_of_ble_eq_true rfl⟩) hP hD hS hA [2, 3, 6, 7, 8, 9] [0, 1, 4, 5, 10, 11] rfl rfl (by decide) (by decide) (fun u H locs hv hP hD hS => ?_)
  obtain ⟨s5_kind_1, s5_sums_2, s8_sums_3, s8_g_4, a8_a_5, a8_b_6, a8_e_7, a8_h_8⟩ := u
  have hP : va_P D vwCl [oX3 ad s3_next s3_kept, oX4 ad s4_ticks s4_firstBeganWith s4_secondBefore s4_thirdBefore s4_thirdTwoBefore, oX5 ad s5_kind_1 s5_sums_2, oX8 ad s8_sums_3 s8_g_4, oX9 ad s9_parts s9_rule s9_hand, aJ cy (ad 29) 4 a4_sums, aI cy (ad 35) 16 a8_a_5, aI cy (ad 36) 4 a8_b_6, aI cy (ad 37) 4 a8_e_7, aI cy (ad 38) 4 a8_h_8, aZ cy (ad 39) 16 a9_isOn, aI cy (ad 40) 16 a9_timesOn] H := hP.sub [0, 1, 6, 7, 2, 3, 8, 9, 10, 11, 4, 5] rfl
  have hD : va_D A [oX3 ad s3_next s3_kept, oX4 ad s4_ticks s4_firstBeganWith s4_secondBefore s4_thirdBefore s4_thirdTwoBefore, oX5 ad s5_kind_1 s5_sums_2, oX8 ad s8_sums_3 s8_g_4, oX9 ad s9_parts s9_rule s9_hand, aJ cy (ad 29) 4 a4_sums, aI cy (ad 35) 16 a8_a_5, aI cy (ad 36) 4 a8_b_6, aI cy (ad 37) 4 a8_e_7, aI cy (ad 38) 4 a8_h_8, aZ cy (ad 39) 16 a9_isOn, aI cy (ad 40) 16 a9_timesOn] := hD.sub [0, 1, 6, 7, 2, 3, 8, 9, 10, 11, 4, 5] (by decide) rfl
  refine lv_aload_n hx hb dX4_begin_9 rfl (lv_at hl 0 rfl) ?_
  refine va_get (D := D) (ci := 4) (v := .ref (ad 9)) (C := RX4) (T := TX4) (N := 9) hx hb hts in_X4_begin_4 hown hK hP 1 rfl rfl 1 (by decide) (hts _ lk_X4_begin_12) (fun _ h9 => h9) rfl dX4_begin_10 ?_
  refine lv_iload_n hx hb dX4_begin_13 rfl (lv_at hl 1 rfl) ?_
  refine lv_iconst (v := 4) hx hb dX4_begin_14 (by decide) ?_
  refine lv_icmp_ne (tgt := 22) hx hb dX4_begin_15 (by decide) (fun c_15 => ?_) (fun c_15 => ?_)
  · have hv := hv.1 c_15
    refine lv_iconst (v := 0) hx hb dX4_begin_22 (by decide) ?_
    refine lv_iload_n hx hb dX4_begin_23 rfl (lv_at hl 3 rfl) ?_
    have hPc := hP.sub (ws' := [oX9 ad s9_parts s9_rule s9_hand, aZ cy (ad 39) 16 a9_isOn, aI cy (ad 40) 16 a9_timesOn]) [4, 10, 11] rfl
    have hDc := hD.sub (ws' := [oX9 ad s9_parts s9_rule s9_hand, aZ cy (ad 39) 16 a9_isOn, aI cy (ad 40) 16 a9_timesOn]) [4, 10, 11] (by decide) rfl
    refine k_calv (wc := [oX9 ad s9_parts s9_rule s9_hand, aZ cy (ad 39) 16 a9_isOn, aI cy (ad 40) 16 a9_timesOn]) (wr := [oX3 ad s3_next s3_kept, oX4 ad s4_ticks s4_firstBeganWith s4_secondBefore s4_thirdBefore s4_thirdTwoBefore, oX5 ad s5_kind_1 s5_sums_2, oX8 ad s8_sums_3 s8_g_4, aJ cy (ad 29) 4 a4_sums, aI cy (ad 35) 16 a8_a_5, aI cy (ad 36) 4 a8_b_6, aI cy (ad 37) 4 a8_e_7, aI cy (ad 38) 4 a8_h_8]) (va_runV (As := [.int (0 : Int32), .int x3]) (rest := []) ⟨hx, hb, hml, hown, hts⟩ (m_X9_begin l D cy ad s9_parts s9_rule s9_hand a9_isOn a9_timesOn (0 : Int32) x3 H.size hv) (cwV 2 hts gX4_begin_X9_begin rfl rfl rfl (by decide +kernel) ⟨Nat.le_of_ble_eq_true rfl, Nat.le_of_ble_eq_true rfl⟩) ⟨wd_blind, va_recv hK hPc (ci := 9) (q0 := 0) rfl rfl, wd_ok hPc hK hDc hN⟩ rfl rfl hl.1 rfl (lv_room (Nat.le_of_ble_eq_true rfl)) dX4_begin_24 ⟨Nat.le_of_ble_eq_true rfl, Nat.le_of_ble_eq_true rfl⟩) hP hD hS hA [4, 10, 11] [0, 1, 2, 3, 5, 6, 7, 8, 9] rfl rfl (by decide) (by decide) (fun u H locs hv hP hD hS => ?_)
    obtain ⟨s9_parts_9, s9_rule_10, s9_hand_11, a9_isOn_12, a9_timesOn_13⟩ := u
    have hP : va_P D vwCl [oX3 ad s3_next s3_kept, oX4 ad s4_ticks s4_firstBeganWith s4_secondBefore s4_thirdBefore s4_thirdTwoBefore, oX5 ad s5_kind_1 s5_sums_2, oX8 ad s8_sums_3 s8_g_4, oX9 ad s9_parts_9 s9_rule_10 s9_hand_11, aJ cy (ad 29) 4 a4_sums, aI cy (ad 35) 16 a8_a_5, aI cy (ad 36) 4 a8_b_6, aI cy (ad 37) 4 a8_e_7, aI cy (ad 38) 4 a8_h_8, aZ cy (ad 39) 16 a9_isOn_12, aI cy (ad 40) 16 a9_timesOn_13] H := hP.sub [0, 1, 2, 3, 9, 4, 5, 6, 7, 8, 10, 11] rfl
    have hD : va_D A [oX3 ad s3_next s3_kept, oX4 ad s4_ticks s4_firstBeganWith s4_secondBefore s4_thirdBefore s4_thirdTwoBefore, oX5 ad s5_kind_1 s5_sums_2, oX8 ad s8_sums_3 s8_g_4, oX9 ad s9_parts_9 s9_rule_10 s9_hand_11, aJ cy (ad 29) 4 a4_sums, aI cy (ad 35) 16 a8_a_5, aI cy (ad 36) 4 a8_b_6, aI cy (ad 37) 4 a8_e_7, aI cy (ad 38) 4 a8_h_8, aZ cy (ad 39) 16 a9_isOn_12, aI cy (ad 40) 16 a9_timesOn_13] := hD.sub [0, 1, 2, 3, 9, 4, 5, 6, 7, 8, 10, 11] (by decide) rfl
    refine lv_aload_n hx hb dX4_begin_27 rfl (lv_at hl 0 rfl) ?_
    have hPc := hP.sub (ws' := [oX3 ad s3_next s3_kept, oX4 ad s4_ticks s4_firstBeganWith s4_secondBefore s4_thirdBefore s4_thirdTwoBefore, oX9 ad s9_parts_9 s9_rule_10 s9_hand_11, aJ cy (ad 29) 4 a4_sums, aZ cy (ad 39) 16 a9_isOn_12, aI cy (ad 40) 16 a9_timesOn_13]) [0, 1, 4, 5, 10, 11] rfl
    have hDc := hD.sub (ws' := [oX3 ad s3_next s3_kept, oX4 ad s4_ticks s4_firstBeganWith s4_secondBefore s4_thirdBefore s4_thirdTwoBefore, oX9 ad s9_parts_9 s9_rule_10 s9_hand_11, aJ cy (ad 29) 4 a4_sums, aZ cy (ad 39) 16 a9_isOn_12, aI cy (ad 40) 16 a9_timesOn_13]) [0, 1, 4, 5, 10, 11] (by decide) rfl
    refine k_calv (wc := [oX3 ad s3_next s3_kept, oX4 ad s4_ticks s4_firstBeganWith s4_secondBefore s4_thirdBefore s4_thirdTwoBefore, oX9 ad s9_parts_9 s9_rule_10 s9_hand_11, aJ cy (ad 29) 4 a4_sums, aZ cy (ad 39) 16 a9_isOn_12, aI cy (ad 40) 16 a9_timesOn_13]) (wr := [oX5 ad s5_kind_1 s5_sums_2, oX8 ad s8_sums_3 s8_g_4, aI cy (ad 35) 16 a8_a_5, aI cy (ad 36) 4 a8_b_6, aI cy (ad 37) 4 a8_e_7, aI cy (ad 38) 4 a8_h_8]) (va_runV (As := []) (rest := []) ⟨hx, hb, hml, hown, hts⟩ (m_X4_beginAnew l D cy ad s3_next s3_kept s4_ticks s4_firstBeganWith s4_secondBefore s4_thirdBefore s4_thirdTwoBefore s9_parts_9 s9_rule_10 s9_hand_11 a4_sums a9_isOn_12 a9_timesOn_13 H.size hv) (cwV 0 hts gX4_begin_X4_beginAnew rfl rfl rfl (by decide +kernel) ⟨Nat.le_of_ble_eq_true rfl, Nat.le_of_ble_eq_true rfl⟩) ⟨wd_blind, va_recv hK hPc (ci := 4) (q0 := 1) rfl rfl, wd_ok hPc hK hDc hN⟩ rfl rfl hl.1 rfl (lv_room (Nat.le_of_ble_eq_true rfl)) dX4_begin_28 ⟨Nat.le_of_ble_eq_true rfl, Nat.le_of_ble_eq_true rfl⟩) hP hD hS hA [0, 1, 4, 5, 10, 11] [2, 3, 6, 7, 8, 9] rfl rfl (by decide) (by decide) (fun u H locs hv hP hD hS => ?_)
    obtain ⟨s3_next_14, s3_kept_15, s4_ticks_16, s4_firstBeganWith_17, s4_secondBefore_18, s4_thirdBefore_19, s4_thirdTwoBefore_20, s9_hand_21, a4_sums_22, a9_isOn_23, a9_timesOn_24⟩ := u
    have hP : va_P D vwCl [oX3 ad s3_next_14 s3_kept_15, oX4 ad s4_ticks_16 s4_firstBeganWith_17 s4_secondBefore_18 s4_thirdBefore_19 s4_thirdTwoBefore_20, oX5 ad s5_kind_1 s5_sums_2, oX8 ad s8_sums_3 s8_g_4, oX9 ad s9_parts_9 s9_rule_10 s9_hand_21, aJ cy (ad 29) 4 a4_sums_22, aI cy (ad 35) 16 a8_a_5, aI cy (ad 36) 4 a8_b_6, aI cy (ad 37) 4 a8_e_7, aI cy (ad 38) 4 a8_h_8, aZ cy (ad 39) 16 a9_isOn_23, aI cy (ad 40) 16 a9_timesOn_24] H := hP.sub [6, 7, 0, 1, 8, 9, 2, 3, 4, 5, 10, 11] rfl
    have hD : va_D A [oX3 ad s3_next_14 s3_kept_15, oX4 ad s4_ticks_16 s4_firstBeganWith_17 s4_secondBefore_18 s4_thirdBefore_19 s4_thirdTwoBefore_20, oX5 ad s5_kind_1 s5_sums_2, oX8 ad s8_sums_3 s8_g_4, oX9 ad s9_parts_9 s9_rule_10 s9_hand_21, aJ cy (ad 29) 4 a4_sums_22, aI cy (ad 35) 16 a8_a_5, aI cy (ad 36) 4 a8_b_6, aI cy (ad 37) 4 a8_e_7, aI cy (ad 38) 4 a8_h_8, aZ cy (ad 39) 16 a9_isOn_23, aI cy (ad 40) 16 a9_timesOn_24] := hD.sub [6, 7, 0, 1, 8, 9, 2, 3, 4, 5, 10, 11] (by decide) rfl
    rw [← hQ]
    exact k_vret hx hb hr hlocks hS (s3_next_14, s3_kept_15, s4_ticks_16, s4_firstBeganWith_17, s4_secondBefore_18, s4_thirdBefore_19, s4_thirdTwoBefore_20, s5_kind_1, s5_sums_2, s8_sums_3, s8_g_4, s9_parts_9, s9_rule_10, s9_hand_21, a4_sums_22, a8_a_5, a8_b_6, a8_e_7, a8_h_8, a9_isOn_23, a9_timesOn_24) hP hD hv dX4_begin_31
  · have hv := hv.2 c_15
    refine lv_iload_n hx hb dX4_begin_18 rfl (lv_at hl 2 rfl) ?_
    refine lv_goto (tgt := 23) hx hb dX4_begin_19 (by decide) ?_
    refine lv_iload_n hx hb dX4_begin_23 rfl (lv_at hl 3 rfl) ?_
    have hPc := hP.sub (ws' := [oX9 ad s9_parts s9_rule s9_hand, aZ cy (ad 39) 16 a9_isOn, aI cy (ad 40) 16 a9_timesOn]) [4, 10, 11] rfl
    have hDc := hD.sub (ws' := [oX9 ad s9_parts s9_rule s9_hand, aZ cy (ad 39) 16 a9_isOn, aI cy (ad 40) 16 a9_timesOn]) [4, 10, 11] (by decide) rfl
    refine k_calv (wc := [oX9 ad s9_parts s9_rule s9_hand, aZ cy (ad 39) 16 a9_isOn, aI cy (ad 40) 16 a9_timesOn]) (wr := [oX3 ad s3_next s3_kept, oX4 ad s4_ticks s4_firstBeganWith s4_secondBefore s4_thirdBefore s4_thirdTwoBefore, oX5 ad s5_kind_1 s5_sums_2, oX8 ad s8_sums_3 s8_g_4, aJ cy (ad 29) 4 a4_sums, aI cy (ad 35) 16 a8_a_5, aI cy (ad 36) 4 a8_b_6, aI cy (ad 37) 4 a8_e_7, aI cy (ad 38) 4 a8_h_8]) (va_runV (As := [.int x2, .int x3]) (rest := []) ⟨hx, hb, hml, hown, hts⟩ (m_X9_begin l D cy ad s9_parts s9_rule s9_hand a9_isOn a9_timesOn x2 x3 H.size hv) (cwV 2 hts gX4_begin_X9_begin rfl rfl rfl (by decide +kernel) ⟨Nat.le_of_ble_eq_true rfl, Nat.le_of_ble_eq_true rfl⟩) ⟨wd_blind, va_recv hK hPc (ci := 9) (q0 := 0) rfl rfl, wd_ok hPc hK hDc hN⟩ rfl rfl hl.1 rfl (lv_room (Nat.le_of_ble_eq_true rfl)) dX4_begin_24 ⟨Nat.le_of_ble_eq_true rfl, Nat.le_of_ble_eq_true rfl⟩) hP hD hS hA [4, 10, 11] [0, 1, 2, 3, 5, 6, 7, 8, 9] rfl rfl (by decide) (by decide) (fun u H locs hv hP hD hS => ?_)
    obtain ⟨s9_parts_25, s9_rule_26, s9_hand_27, a9_isOn_28, a9_timesOn_29⟩ := u
    have hP : va_P D vwCl [oX3 ad s3_next s3_kept, oX4 ad s4_ticks s4_firstBeganWith s4_secondBefore s4_thirdBefore s4_thirdTwoBefore, oX5 ad s5_kind_1 s5_sums_2, oX8 ad s8_sums_3 s8_g_4, oX9 ad s9_parts_25 s9_rule_26 s9_hand_27, aJ cy (ad 29) 4 a4_sums, aI cy (ad 35) 16 a8_a_5, aI cy (ad 36) 4 a8_b_6, aI cy (ad 37) 4 a8_e_7, aI cy (ad 38) 4 a8_h_8, aZ cy (ad 39) 16 a9_isOn_28, aI cy (ad 40) 16 a9_timesOn_29] H := hP.sub [0, 1, 2, 3, 9, 4, 5, 6, 7, 8, 10, 11] rfl
    have hD : va_D A [oX3 ad s3_next s3_kept, oX4 ad s4_ticks s4_firstBeganWith s4_secondBefore s4_thirdBefore s4_thirdTwoBefore, oX5 ad s5_kind_1 s5_sums_2, oX8 ad s8_sums_3 s8_g_4, oX9 ad s9_parts_25 s9_rule_26 s9_hand_27, aJ cy (ad 29) 4 a4_sums, aI cy (ad 35) 16 a8_a_5, aI cy (ad 36) 4 a8_b_6, aI cy (ad 37) 4 a8_e_7, aI cy (ad 38) 4 a8_h_8, aZ cy (ad 39) 16 a9_isOn_28, aI cy (ad 40) 16 a9_timesOn_29] := hD.sub [0, 1, 2, 3, 9, 4, 5, 6, 7, 8, 10, 11] (by decide) rfl
    refine lv_aload_n hx hb dX4_begin_27 rfl (lv_at hl 0 rfl) ?_
    have hPc := hP.sub (ws' := [oX3 ad s3_next s3_kept, oX4 ad s4_ticks s4_firstBeganWith s4_secondBefore s4_thirdBefore s4_thirdTwoBefore, oX9 ad s9_parts_25 s9_rule_26 s9_hand_27, aJ cy (ad 29) 4 a4_sums, aZ cy (ad 39) 16 a9_isOn_28, aI cy (ad 40) 16 a9_timesOn_29]) [0, 1, 4, 5, 10, 11] rfl
    have hDc := hD.sub (ws' := [oX3 ad s3_next s3_kept, oX4 ad s4_ticks s4_firstBeganWith s4_secondBefore s4_thirdBefore s4_thirdTwoBefore, oX9 ad s9_parts_25 s9_rule_26 s9_hand_27, aJ cy (ad 29) 4 a4_sums, aZ cy (ad 39) 16 a9_isOn_28, aI cy (ad 40) 16 a9_timesOn_29]) [0, 1, 4, 5, 10, 11] (by decide) rfl
    refine k_calv (wc := [oX3 ad s3_next s3_kept, oX4 ad s4_ticks s4_firstBeganWith s4_secondBefore s4_thirdBefore s4_thirdTwoBefore, oX9 ad s9_parts_25 s9_rule_26 s9_hand_27, aJ cy (ad 29) 4 a4_sums, aZ cy (ad 39) 16 a9_isOn_28, aI cy (ad 40) 16 a9_timesOn_29]) (wr := [oX5 ad s5_kind_1 s5_sums_2, oX8 ad s8_sums_3 s8_g_4, aI cy (ad 35) 16 a8_a_5, aI cy (ad 36) 4 a8_b_6, aI cy (ad 37) 4 a8_e_7, aI cy (ad 38) 4 a8_h_8]) (va_runV (As := []) (rest := []) ⟨hx, hb, hml, hown, hts⟩ (m_X4_beginAnew l D cy ad s3_next s3_kept s4_ticks s4_firstBeganWith s4_secondBefore s4_thirdBefore s4_thirdTwoBefore s9_parts_25 s9_rule_26 s9_hand_27 a4_sums a9_isOn_28 a9_timesOn_29 H.size hv) (cwV 0 hts gX4_begin_X4_beginAnew rfl rfl rfl (by decide +kernel) ⟨Nat.le_of_ble_eq_true rfl, Nat.le_of_ble_eq_true rfl⟩) ⟨wd_blind, va_recv hK hPc (ci := 4) (q0 := 1) rfl rfl, wd_ok hPc hK hDc hN⟩ rfl rfl hl.1 rfl (lv_room (Nat.le_of_ble_eq_true rfl)) dX4_begin_28 ⟨Nat.le_of_ble_eq_true rfl, Nat.le_of_ble_eq_true rfl⟩) hP hD hS hA [0, 1, 4, 5, 10, 11] [2, 3, 6, 7, 8, 9] rfl rfl (by decide) (by decide) (fun u H locs hv hP hD hS => ?_)
    obtain ⟨s3_next_30, s3_kept_31, s4_ticks_32, s4_firstBeganWith_33, s4_secondBefore_34, s4_thirdBefore_35, s4_thirdTwoBefore_36, s9_hand_37, a4_sums_38, a9_isOn_39, a9_timesOn_40⟩ := u
    have hP : va_P D vwCl [oX3 ad s3_next_30 s3_kept_31, oX4 ad s4_ticks_32 s4_firstBeganWith_33 s4_secondBefore_34 s4_thirdBefore_35 s4_thirdTwoBefore_36, oX5 ad s5_kind_1 s5_sums_2, oX8 ad s8_sums_3 s8_g_4, oX9 ad s9_parts_25 s9_rule_26 s9_hand_37, aJ cy (ad 29) 4 a4_sums_38, aI cy (ad 35) 16 a8_a_5, aI cy (ad 36) 4 a8_b_6, aI cy (ad 37) 4 a8_e_7, aI cy (ad 38) 4 a8_h_8, aZ cy (ad 39) 16 a9_isOn_39, aI cy (ad 40) 16 a9_timesOn_40] H := hP.sub [6, 7, 0, 1, 8, 9, 2, 3, 4, 5, 10, 11] rfl
    have hD : va_D A [oX3 ad s3_next_30 s3_kept_31, oX4 ad s4_ticks_32 s4_firstBeganWith_33 s4_secondBefore_34 s4_thirdBefore_35 s4_thirdTwoBefore_36, oX5 ad s5_kind_1 s5_sums_2, oX8 ad s8_sums_3 s8_g_4, oX9 ad s9_parts_25 s9_rule_26 s9_hand_37, aJ cy (ad 29) 4 a4_sums_38, aI cy (ad 35) 16 a8_a_5, aI cy (ad 36) 4 a8_b_6, aI cy (ad 37) 4 a8_e_7, aI cy (ad 38) 4 a8_h_8, aZ cy (ad 39) 16 a9_isOn_39, aI cy (ad 40) 16 a9_timesOn_40] := hD.sub [6, 7, 0, 1, 8, 9, 2, 3, 4, 5, 10, 11] (by decide) rfl
    rw [← hQ]
    exact k_vret hx hb hr hlocks hS (s3_next_30, s3_kept_31, s4_ticks_32, s4_firstBeganWith_33, s4_secondBefore_34, s4_thirdBefore_35, s4_thirdTwoBefore_36, s5_kind_1, s5_sums_2, s8_sums_3, s8_g_4, s9_parts_25, s9_rule_26, s9_hand_37, a4_sums_38, a8_a_5, a8_b_6, a8_e_7, a8_h_8, a9_isOn_39, a9_timesOn_40) hP hD hv dX4_begin_31
theorem lk_X4_startAt_25 : Cond.fieldLink RX4 25 "CoarseSteps$Loop" "sums" "[J" ∈ wsX4_startAt := by decide +kernel
theorem in_X4_startAt_4 : ∀ w ∈ wsX40, w ∈ wsX4_startAt := by decide +kernel
theorem lk_X4_startAt_50 : Cond.fieldLink RX4 50 "CoarseSteps$Loop" "firstBeganWith" "J" ∈ wsX4_startAt := by decide +kernel
abbrev rm_X4_startAt : Room := { frames := 0, cells := 0, slots := 0, locals := 0 }
set_option maxHeartbeats 4000000 in
set_option maxRecDepth 100000 in
theorem m_X4_startAt (l : Launch) (D : va_G) (cy : ClassId × ClassId × ClassId) (ad : Nat → Nat) (s4_ticks : Int32) (s4_firstBeganWith : Int64) (s4_secondBefore : Int32) (s4_thirdBefore : Int32) (s4_thirdTwoBefore : Int32) (a4_sums : Nat → Int64) (x1 : Int32) (x2 : Int64) (sz : Nat) {K : Int64 → (Nat → Int64) → Prop} (hv : v_X4_startAt s4_firstBeganWith a4_sums x1 x2 K) : Met l yX4_startAt wsX4_startAt rm_X4_startAt (va_Pc [.ref (ad 4), .int x1, .long x2] (wd D cy [oX4 ad s4_ticks s4_firstBeganWith s4_secondBefore s4_thirdBefore s4_thirdTwoBefore, aJ cy (ad 29) 4 a4_sums] sz)) (va_Qv (fun u : Int64 × (Nat → Int64) => K u.1 u.2) (fun u t => we D ((fun u : Int64 × (Nat → Int64) => [oX4 ad s4_ticks u.1 s4_secondBefore s4_thirdBefore s4_thirdTwoBefore, aJ cy (ad 29) 4 u.2]) u) (va_A [oX4 ad s4_ticks s4_firstBeganWith s4_secondBefore s4_thirdBefore s4_thirdTwoBefore, aJ cy (ad 29) 4 a4_sums] sz) t) (va_A [oX4 ad s4_ticks s4_firstBeganWith s4_secondBefore s4_thirdBefore s4_thirdTwoBefore, aJ cy (ad 29) 4 a4_sums] sz)) 0 0 (va_A [oX4 ad s4_ticks s4_firstBeganWith s4_secondBefore s4_thirdBefore s4_thirdTwoBefore, aJ cy (ad 29) 4 a4_sums] sz) := by
  refine k_ofW (cc := cX4_startAt) (maxL := 4) (ret := none) (fun A => va_Qv (fun u : Int64 × (Nat → Int64) => K u.1 u.2) (fun u t => we D ((fun u : Int64 × (Nat → Int64) => [oX4 ad s4_ticks u.1 s4_secondBefore s4_thirdBefore s4_thirdTwoBefore, aJ cy (ad 29) 4 u.2]) u) A t) A) (by decide) rfl (Nat.le_of_ble_eq_true rfl) ?_
  intro p e s m below meth c A ls H locs hx hb hml hr hts hown hlocks hname hK hN hA hP hD hS hl
  have hl : lv_has ls 4 [(0, .ref (ad 4)), (1, .int x1), (2, .long x2)] := hl
  generalize hQ : MQ below _ _ s _ _ A = Q
  unfold v_X4_startAt at hv
  refine lv_aload_n hx hb dX4_startAt_0 rfl (lv_at hl 0 rfl) ?_
  refine va_get (D := D) (ci := 4) (v := .ref (ad 29)) (C := RX4) (T := TX4) (N := 9) hx hb hts in_X4_startAt_4 hown hK hP 0 rfl rfl 3 (by decide) (hts _ lk_X4_startAt_25) (fun _ h9 => h9) rfl dX4_startAt_1 ?_
  refine lv_iload_n hx hb dX4_startAt_4 rfl (lv_at hl 1 rfl) ?_
  refine lv_lload_n hx hb dX4_startAt_5 rfl (lv_at hl 2 rfl) ?_
  refine k_last hx hb hK hP hD hS 1 1 rfl rfl hv.1 dX4_startAt_6 (fun a4_sums_1 H locs h_a4_sums_1 hP hD hS => ?_)
  have hv := hv.2 a4_sums_1 h_a4_sums_1
  have hP : va_P D vwCl [oX4 ad s4_ticks s4_firstBeganWith s4_secondBefore s4_thirdBefore s4_thirdTwoBefore, aJ cy (ad 29) 4 a4_sums_1] H := hP
  have hD : va_D A [oX4 ad s4_ticks s4_firstBeganWith s4_secondBefore s4_thirdBefore s4_thirdTwoBefore, aJ cy (ad 29) 4 a4_sums_1] := hD
  refine lv_iload_n hx hb dX4_startAt_7 rfl (lv_at hl 1 rfl) ?_
  refine lv_if_ne (tgt := 16) hx hb dX4_startAt_8 (by decide) (fun c_8 => ?_) (fun c_8 => ?_)
  · have hv := hv.1 c_8
    rw [← hQ]
    exact k_vret hx hb hr hlocks hS (s4_firstBeganWith, a4_sums_1) hP hD hv dX4_startAt_16
  · have hv := hv.2 c_8
    refine lv_aload_n hx hb dX4_startAt_11 rfl (lv_at hl 0 rfl) ?_
    refine lv_lload_n hx hb dX4_startAt_12 rfl (lv_at hl 2 rfl) ?_
    refine va_put (D := D) (ci := 4) (v := .long x2) (ty := .long) (C := RX4) (T := TX4) (N := 9) hx hb hts in_X4_startAt_4 tyX4 tyX4_ok nmX4 hown hK hP hD hS 0 rfl rfl 5 (by decide) (hts _ lk_X4_startAt_50) (fun _ h9 => h9) rfl (by decide +kernel) rfl rfl (Nat.le_of_ble_eq_true rfl) dX4_startAt_13 (fun H locs hP hD hS => ?_)
    have hP : va_P D vwCl [oX4 ad s4_ticks x2 s4_secondBefore s4_thirdBefore s4_thirdTwoBefore, aJ cy (ad 29) 4 a4_sums_1] H := hP
    have hD : va_D A [oX4 ad s4_ticks x2 s4_secondBefore s4_thirdBefore s4_thirdTwoBefore, aJ cy (ad 29) 4 a4_sums_1] := hD
    rw [← hQ]
    exact k_vret hx hb hr hlocks hS (x2, a4_sums_1) hP hD hv dX4_startAt_16
theorem lk_X4_giveOfRow_34 : Cond.fieldLink RX4 34 "CoarseSteps$Loop" "mover" "LCoarseSteps$Mover;" ∈ wsX4_giveOfRow := by decide +kernel
theorem in_X4_giveOfRow_4 : ∀ w ∈ wsX40, w ∈ wsX4_giveOfRow := by decide +kernel
theorem in_X4_giveOfRow_5 : ∀ w ∈ wsX50, w ∈ wsX4_giveOfRow := by decide +kernel
theorem lk_X4_giveOfRow_54 : Cond.fieldLink RX4 54 "CoarseSteps$Loop" "secondBefore" "I" ∈ wsX4_giveOfRow := by decide +kernel
theorem lk_X4_giveOfRow_57 : Cond.fieldLink RX4 57 "CoarseSteps$Loop" "thirdBefore" "I" ∈ wsX4_giveOfRow := by decide +kernel
theorem lk_X4_giveOfRow_60 : Cond.fieldLink RX4 60 "CoarseSteps$Loop" "thirdTwoBefore" "I" ∈ wsX4_giveOfRow := by decide +kernel
abbrev rm_X4_giveOfRow : Room := { frames := 0, cells := 0, slots := 0, locals := 0 }
set_option maxHeartbeats 4000000 in
set_option maxRecDepth 100000 in
theorem m_X4_giveOfRow (l : Launch) (D : va_G) (cy : ClassId × ClassId × ClassId) (ad : Nat → Nat) (s4_ticks : Int32) (s4_firstBeganWith : Int64) (s4_secondBefore : Int32) (s4_thirdBefore : Int32) (s4_thirdTwoBefore : Int32) (s5_kind : Int32) (s5_sums : Int32) (a5_picked : Nat → Int32) (sz : Nat) {K : Int32 → Int32 → Int32 → Int32 → Prop} (hv : v_X4_giveOfRow s4_secondBefore s4_thirdBefore s4_thirdTwoBefore s5_sums a5_picked K) : Met l yX4_giveOfRow wsX4_giveOfRow rm_X4_giveOfRow (va_Pc [.ref (ad 4)] (wd D cy [oX4 ad s4_ticks s4_firstBeganWith s4_secondBefore s4_thirdBefore s4_thirdTwoBefore, oX5 ad s5_kind s5_sums, aI cy (ad 31) 3 a5_picked] sz)) (va_Qi (fun (r : Int32) (u : Int32 × Int32 × Int32) => K r u.1 u.2.1 u.2.2) (fun u t => we D ((fun u : Int32 × Int32 × Int32 => [oX4 ad s4_ticks s4_firstBeganWith u.1 u.2.1 u.2.2, oX5 ad s5_kind s5_sums, aI cy (ad 31) 3 a5_picked]) u) (va_A [oX4 ad s4_ticks s4_firstBeganWith s4_secondBefore s4_thirdBefore s4_thirdTwoBefore, oX5 ad s5_kind s5_sums, aI cy (ad 31) 3 a5_picked] sz) t) (va_A [oX4 ad s4_ticks s4_firstBeganWith s4_secondBefore s4_thirdBefore s4_thirdTwoBefore, oX5 ad s5_kind s5_sums, aI cy (ad 31) 3 a5_picked] sz)) 0 0 (va_A [oX4 ad s4_ticks s4_firstBeganWith s4_secondBefore s4_thirdBefore s4_thirdTwoBefore, oX5 ad s5_kind s5_sums, aI cy (ad 31) 3 a5_picked] sz) := by
  refine k_ofW (cc := cX4_giveOfRow) (maxL := 4) (ret := (some .int)) (fun A => va_Qi (fun (r : Int32) (u : Int32 × Int32 × Int32) => K r u.1 u.2.1 u.2.2) (fun u t => we D ((fun u : Int32 × Int32 × Int32 => [oX4 ad s4_ticks s4_firstBeganWith u.1 u.2.1 u.2.2, oX5 ad s5_kind s5_sums, aI cy (ad 31) 3 a5_picked]) u) A t) A) (by decide) rfl (Nat.le_of_ble_eq_true rfl) ?_
  intro p e s m below meth c A ls H locs hx hb hml hr hts hown hlocks hname hK hN hA hP hD hS hl
  have hl : lv_has ls 4 [(0, .ref (ad 4))] := hl
  generalize hQ : MQ below _ _ s _ _ A = Q
  unfold v_X4_giveOfRow at hv
  refine lv_aload_n hx hb dX4_giveOfRow_0 rfl (lv_at hl 0 rfl) ?_
  refine va_get (D := D) (ci := 4) (v := .ref (ad 5)) (C := RX4) (T := TX4) (N := 9) hx hb hts in_X4_giveOfRow_4 hown hK hP 0 rfl rfl 0 (by decide) (hts _ lk_X4_giveOfRow_34) (fun _ h9 => h9) rfl dX4_giveOfRow_1 ?_
  refine va_getN (D := D) (ci := 5) (v := .ref (ad 31)) (C := RX5) (T := TX5) (N := 6) hx hb hts in_X4_giveOfRow_5 hown hK hP 1 rfl rfl 3 (by decide) (nz_use hN nzf_X4_79) (fun _ h9 => h9) rfl dX4_giveOfRow_4 ?_
  refine lv_iconst (v := 1) hx hb dX4_giveOfRow_7 (by decide) ?_
  refine va_iald hx hb hK hP 2 0 rfl rfl hv.1 dX4_giveOfRow_8 ?_
  refine lv_topi (fun g1 h_g1 => ?_)
  have hv := hv.2 g1 h_g1
  refine lv_istore_n (lv' := [(1, .int g1), (0, .ref (ad 4))]) hx hb dX4_giveOfRow_9 rfl hl (by decide) rfl (fun ls hl => ?_)
  refine lv_aload_n hx hb dX4_giveOfRow_10 rfl (lv_at hl 1 rfl) ?_
  refine va_get (D := D) (ci := 4) (v := .ref (ad 5)) (C := RX4) (T := TX4) (N := 9) hx hb hts in_X4_giveOfRow_4 hown hK hP 0 rfl rfl 0 (by decide) (hts _ lk_X4_giveOfRow_34) (fun _ h9 => h9) rfl dX4_giveOfRow_11 ?_
  refine va_getN (D := D) (ci := 5) (v := .ref (ad 31)) (C := RX5) (T := TX5) (N := 6) hx hb hts in_X4_giveOfRow_5 hown hK hP 1 rfl rfl 3 (by decide) (nz_use hN nzf_X4_79) (fun _ h9 => h9) rfl dX4_giveOfRow_14 ?_
  refine lv_iconst (v := 0) hx hb dX4_giveOfRow_17 (by decide) ?_
  refine va_iald hx hb hK hP 2 0 rfl rfl hv.1 dX4_giveOfRow_18 ?_
  refine lv_topi (fun g2 h_g2 => ?_)
  have hv := hv.2 g2 h_g2
  refine lv_iload_n hx hb dX4_giveOfRow_19 rfl (lv_at hl 0 rfl) ?_
  refine lv_iadd hx hb dX4_giveOfRow_20 ?_
  refine lv_topi (fun e3 h_e3 => ?_)
  have hv := hv e3 h_e3
  refine lv_aload_n hx hb dX4_giveOfRow_21 rfl (lv_at hl 1 rfl) ?_
  refine va_get (D := D) (ci := 4) (v := .int s4_secondBefore) (C := RX4) (T := TX4) (N := 9) hx hb hts in_X4_giveOfRow_4 hown hK hP 0 rfl rfl 6 (by decide) (hts _ lk_X4_giveOfRow_54) (fun _ h9 => h9) rfl dX4_giveOfRow_22 ?_
  refine lv_isub hx hb dX4_giveOfRow_25 ?_
  refine lv_topi (fun e4 h_e4 => ?_)
  have hv := hv e4 h_e4
  refine lv_istore_n (lv' := [(2, .int e4), (1, .int g1), (0, .ref (ad 4))]) hx hb dX4_giveOfRow_26 rfl hl (by decide) rfl (fun ls hl => ?_)
  refine lv_aload_n hx hb dX4_giveOfRow_27 rfl (lv_at hl 2 rfl) ?_
  refine lv_iload_n hx hb dX4_giveOfRow_28 rfl (lv_at hl 1 rfl) ?_
  refine va_put (D := D) (ci := 4) (v := .int g1) (ty := .int) (C := RX4) (T := TX4) (N := 9) hx hb hts in_X4_giveOfRow_4 tyX4 tyX4_ok nmX4 hown hK hP hD hS 0 rfl rfl 6 (by decide) (hts _ lk_X4_giveOfRow_54) (fun _ h9 => h9) rfl (by decide +kernel) rfl rfl (Nat.le_of_ble_eq_true rfl) dX4_giveOfRow_29 (fun H locs hP hD hS => ?_)
  have hP : va_P D vwCl [oX4 ad s4_ticks s4_firstBeganWith g1 s4_thirdBefore s4_thirdTwoBefore, oX5 ad s5_kind s5_sums, aI cy (ad 31) 3 a5_picked] H := hP
  have hD : va_D A [oX4 ad s4_ticks s4_firstBeganWith g1 s4_thirdBefore s4_thirdTwoBefore, oX5 ad s5_kind s5_sums, aI cy (ad 31) 3 a5_picked] := hD
  refine lv_aload_n hx hb dX4_giveOfRow_32 rfl (lv_at hl 2 rfl) ?_
  refine va_get (D := D) (ci := 4) (v := .ref (ad 5)) (C := RX4) (T := TX4) (N := 9) hx hb hts in_X4_giveOfRow_4 hown hK hP 0 rfl rfl 0 (by decide) (hts _ lk_X4_giveOfRow_34) (fun _ h9 => h9) rfl dX4_giveOfRow_33 ?_
  refine va_getN (D := D) (ci := 5) (v := .int s5_sums) (C := RX5) (T := TX5) (N := 6) hx hb hts in_X4_giveOfRow_5 hown hK hP 1 rfl rfl 5 (by decide) (nz_use hN nzf_X4_91) (fun _ h9 => h9) rfl dX4_giveOfRow_36 ?_
  refine lv_iconst (v := 3) hx hb dX4_giveOfRow_39 (by decide) ?_
  refine lv_icmp_ne (tgt := 82) hx hb dX4_giveOfRow_40 (by decide) (fun c_40 => ?_) (fun c_40 => ?_)
  · have hv := hv.1 c_40
    refine lv_iload_n hx hb dX4_giveOfRow_82 rfl (lv_at hl 0 rfl) ?_
    rw [← hQ]
    exact k_iret hx hb hr hlocks hS (g1, s4_thirdBefore, s4_thirdTwoBefore) hP hD hv dX4_giveOfRow_83
  · have hv := hv.2 c_40
    refine lv_aload_n hx hb dX4_giveOfRow_43 rfl (lv_at hl 2 rfl) ?_
    refine va_get (D := D) (ci := 4) (v := .ref (ad 5)) (C := RX4) (T := TX4) (N := 9) hx hb hts in_X4_giveOfRow_4 hown hK hP 0 rfl rfl 0 (by decide) (hts _ lk_X4_giveOfRow_34) (fun _ h9 => h9) rfl dX4_giveOfRow_44 ?_
    refine va_getN (D := D) (ci := 5) (v := .ref (ad 31)) (C := RX5) (T := TX5) (N := 6) hx hb hts in_X4_giveOfRow_5 hown hK hP 1 rfl rfl 3 (by decide) (nz_use hN nzf_X4_79) (fun _ h9 => h9) rfl dX4_giveOfRow_47 ?_
    refine lv_iconst (v := 2) hx hb dX4_giveOfRow_50 (by decide) ?_
    refine va_iald hx hb hK hP 2 0 rfl rfl hv.1 dX4_giveOfRow_51 ?_
    refine lv_topi (fun g5 h_g5 => ?_)
    have hv := hv.2 g5 h_g5
    refine lv_istore_n (lv' := [(3, .int g5), (2, .int e4), (1, .int g1), (0, .ref (ad 4))]) hx hb dX4_giveOfRow_52 rfl hl (by decide) rfl (fun ls hl => ?_)
    refine lv_iload_n hx hb dX4_giveOfRow_53 rfl (lv_at hl 1 rfl) ?_
    refine lv_iload_n hx hb dX4_giveOfRow_54 rfl (lv_at hl 0 rfl) ?_
    refine lv_iconst (v := 2) hx hb dX4_giveOfRow_55 (by decide) ?_
    refine lv_aload_n hx hb dX4_giveOfRow_56 rfl (lv_at hl 3 rfl) ?_
    refine va_get (D := D) (ci := 4) (v := .int s4_thirdBefore) (C := RX4) (T := TX4) (N := 9) hx hb hts in_X4_giveOfRow_4 hown hK hP 0 rfl rfl 7 (by decide) (hts _ lk_X4_giveOfRow_57) (fun _ h9 => h9) rfl dX4_giveOfRow_57 ?_
    refine lv_imul hx hb dX4_giveOfRow_60 ?_
    refine lv_topi (fun e6 h_e6 => ?_)
    have hv := hv e6 h_e6
    refine lv_isub hx hb dX4_giveOfRow_61 ?_
    refine lv_topi (fun e7 h_e7 => ?_)
    have hv := hv e7 h_e7
    refine lv_aload_n hx hb dX4_giveOfRow_62 rfl (lv_at hl 3 rfl) ?_
    refine va_get (D := D) (ci := 4) (v := .int s4_thirdTwoBefore) (C := RX4) (T := TX4) (N := 9) hx hb hts in_X4_giveOfRow_4 hown hK hP 0 rfl rfl 8 (by decide) (hts _ lk_X4_giveOfRow_60) (fun _ h9 => h9) rfl dX4_giveOfRow_63 ?_
    refine lv_iadd hx hb dX4_giveOfRow_66 ?_
    refine lv_topi (fun e8 h_e8 => ?_)
    have hv := hv e8 h_e8
    refine lv_iadd hx hb dX4_giveOfRow_67 ?_
    refine lv_topi (fun e9 h_e9 => ?_)
    have hv := hv e9 h_e9
    refine lv_istore_n (lv' := [(2, .int e9), (3, .int g5), (1, .int g1), (0, .ref (ad 4))]) hx hb dX4_giveOfRow_68 rfl hl (by decide) rfl (fun ls hl => ?_)
    refine lv_aload_n hx hb dX4_giveOfRow_69 rfl (lv_at hl 3 rfl) ?_
    refine lv_aload_n hx hb dX4_giveOfRow_70 rfl (lv_at hl 3 rfl) ?_
    refine va_get (D := D) (ci := 4) (v := .int s4_thirdBefore) (C := RX4) (T := TX4) (N := 9) hx hb hts in_X4_giveOfRow_4 hown hK hP 0 rfl rfl 7 (by decide) (hts _ lk_X4_giveOfRow_57) (fun _ h9 => h9) rfl dX4_giveOfRow_71 ?_
    refine va_put (D := D) (ci := 4) (v := .int s4_thirdBefore) (ty := .int) (C := RX4) (T := TX4) (N := 9) hx hb hts in_X4_giveOfRow_4 tyX4 tyX4_ok nmX4 hown hK hP hD hS 0 rfl rfl 8 (by decide) (hts _ lk_X4_giveOfRow_60) (fun _ h9 => h9) rfl (by decide +kernel) rfl rfl (Nat.le_of_ble_eq_true rfl) dX4_giveOfRow_74 (fun H locs hP hD hS => ?_)
    have hP : va_P D vwCl [oX4 ad s4_ticks s4_firstBeganWith g1 s4_thirdBefore s4_thirdBefore, oX5 ad s5_kind s5_sums, aI cy (ad 31) 3 a5_picked] H := hP
    have hD : va_D A [oX4 ad s4_ticks s4_firstBeganWith g1 s4_thirdBefore s4_thirdBefore, oX5 ad s5_kind s5_sums, aI cy (ad 31) 3 a5_picked] := hD
    refine lv_aload_n hx hb dX4_giveOfRow_77 rfl (lv_at hl 3 rfl) ?_
    refine lv_iload_n hx hb dX4_giveOfRow_78 rfl (lv_at hl 1 rfl) ?_
    refine va_put (D := D) (ci := 4) (v := .int g5) (ty := .int) (C := RX4) (T := TX4) (N := 9) hx hb hts in_X4_giveOfRow_4 tyX4 tyX4_ok nmX4 hown hK hP hD hS 0 rfl rfl 7 (by decide) (hts _ lk_X4_giveOfRow_57) (fun _ h9 => h9) rfl (by decide +kernel) rfl rfl (Nat.le_of_ble_eq_true rfl) dX4_giveOfRow_79 (fun H locs hP hD hS => ?_)
    have hP : va_P D vwCl [oX4 ad s4_ticks s4_firstBeganWith g1 g5 s4_thirdBefore, oX5 ad s5_kind s5_sums, aI cy (ad 31) 3 a5_picked] H := hP
    have hD : va_D A [oX4 ad s4_ticks s4_firstBeganWith g1 g5 s4_thirdBefore, oX5 ad s5_kind s5_sums, aI cy (ad 31) 3 a5_picked] := hD
    refine lv_iload_n hx hb dX4_giveOfRow_82 rfl (lv_at hl 0 rfl) ?_
    rw [← hQ]
    exact k_iret hx hb hr hlocks hS (g1, g5, s4_thirdBefore) hP hD hv dX4_giveOfRow_83
theorem lk_X9_leastOftenOn_19 : Cond.fieldLink RX9 19 "CoarseSteps$Wheel" "parts" "I" ∈ wsX9_leastOftenOn := by decide +kernel
theorem in_X9_leastOftenOn_9 : ∀ w ∈ wsX90, w ∈ wsX9_leastOftenOn := by decide +kernel
theorem lk_X9_leastOftenOn_9 : Cond.fieldLink RX9 9 "CoarseSteps$Wheel" "isOn" "[Z" ∈ wsX9_leastOftenOn := by decide +kernel
theorem lk_X9_leastOftenOn_15 : Cond.fieldLink RX9 15 "CoarseSteps$Wheel" "timesOn" "[I" ∈ wsX9_leastOftenOn := by decide +kernel
abbrev rm_X9_leastOftenOn : Room := { frames := 0, cells := 0, slots := 0, locals := 0 }
set_option maxHeartbeats 4000000 in
set_option maxRecDepth 100000 in
theorem m_X9_leastOftenOn (l : Launch) (D : va_G) (cy : ClassId × ClassId × ClassId) (ad : Nat → Nat) (s9_parts : Int32) (s9_rule : Int32) (s9_hand : Int32) (a9_isOn : Nat → Int32) (a9_timesOn : Nat → Int32) (sz : Nat) {K : Int32 → Prop} (hv : v_X9_leastOftenOn s9_parts a9_isOn a9_timesOn K) : Met l yX9_leastOftenOn wsX9_leastOftenOn rm_X9_leastOftenOn (va_Pc [.ref (ad 9)] (wd D cy [oX9 ad s9_parts s9_rule s9_hand, aZ cy (ad 39) 16 a9_isOn, aI cy (ad 40) 16 a9_timesOn] sz)) (va_Qi (fun (r : Int32) (u : Unit) => K r) (fun u t => we D ((fun u : Unit => [oX9 ad s9_parts s9_rule s9_hand, aZ cy (ad 39) 16 a9_isOn, aI cy (ad 40) 16 a9_timesOn]) u) (va_A [oX9 ad s9_parts s9_rule s9_hand, aZ cy (ad 39) 16 a9_isOn, aI cy (ad 40) 16 a9_timesOn] sz) t) (va_A [oX9 ad s9_parts s9_rule s9_hand, aZ cy (ad 39) 16 a9_isOn, aI cy (ad 40) 16 a9_timesOn] sz)) 0 0 (va_A [oX9 ad s9_parts s9_rule s9_hand, aZ cy (ad 39) 16 a9_isOn, aI cy (ad 40) 16 a9_timesOn] sz) := by
  refine k_ofW (cc := cX9_leastOftenOn) (maxL := 3) (ret := (some .int)) (fun A => va_Qi (fun (r : Int32) (u : Unit) => K r) (fun u t => we D ((fun u : Unit => [oX9 ad s9_parts s9_rule s9_hand, aZ cy (ad 39) 16 a9_isOn, aI cy (ad 40) 16 a9_timesOn]) u) A t) A) (by decide) rfl (Nat.le_of_ble_eq_true rfl) ?_
  intro p e s m below meth c A ls H locs hx hb hml hr hts hown hlocks hname hK hN hA hP hD hS hl
  have hl : lv_has ls 3 [(0, .ref (ad 9))] := hl
  generalize hQ : MQ below _ _ s _ _ A = Q
  unfold v_X9_leastOftenOn at hv
  refine lv_iconst (v := 0) hx hb dX9_leastOftenOn_0 (by decide) ?_
  refine lv_istore_n (lv' := [(1, .int (0 : Int32)), (0, .ref (ad 9))]) hx hb dX9_leastOftenOn_1 rfl hl (by decide) rfl (fun ls hl => ?_)
  refine lv_iconst (v := 1) hx hb dX9_leastOftenOn_2 (by decide) ?_
  refine lv_istore_n (lv' := [(2, .int (1 : Int32)), (1, .int (0 : Int32)), (0, .ref (ad 9))]) hx hb dX9_leastOftenOn_3 rfl hl (by decide) rfl (fun ls hl => ?_)
  have lp4 : ∀ (n4 : Nat) (l2_1 : Int32) (l1_2 : Int32) (H : Heap) (locs : List Loc) (ls : Array Slot), vfix (vF_X9_leastOftenOn_4 s9_parts a9_isOn a9_timesOn K) n4 (l2_1, l1_2) → lv_has ls 3 [(2, .int l2_1), (1, .int l1_2), (0, .ref (ad 9))] → va_P D vwCl [oX9 ad s9_parts s9_rule s9_hand, aZ cy (ad 39) 16 a9_isOn, aI cy (ad 40) 16 a9_timesOn] H → va_D A [oX9 ad s9_parts s9_rule s9_hand, aZ cy (ad 39) 16 a9_isOn, aI cy (ad 40) 16 a9_timesOn] → va_S A s.heap H locs → W p l e rm_X9_leastOftenOn s m ([.ref (ad 9)] : List Value).toArray below meth c H locs 0 0 Q (F0 m 4 ls []) := by
    intro n4
    induction n4 with
    | zero => intro l2_1 l1_2 H locs ls hv; exact hv.elim
    | succ n4 ih4 =>
      intro l2_1 l1_2 H locs ls hv hl hP hD hS
      have hv : vB_X9_leastOftenOn_4 s9_parts a9_isOn a9_timesOn K (fun z0 z1 => vfix (vF_X9_leastOftenOn_4 s9_parts a9_isOn a9_timesOn K) n4 (z0, z1)) l2_1 l1_2 := hv
      unfold vB_X9_leastOftenOn_4 at hv
      refine lv_iload_n hx hb dX9_leastOftenOn_4 rfl (lv_at hl 0 rfl) ?_
      refine lv_aload_n hx hb dX9_leastOftenOn_5 rfl (lv_at hl 2 rfl) ?_
      refine va_get (D := D) (ci := 9) (v := .int s9_parts) (C := RX9) (T := TX9) (N := 5) hx hb hts in_X9_leastOftenOn_9 hown hK hP 0 rfl rfl 2 (by decide) (hts _ lk_X9_leastOftenOn_19) (fun _ h9 => h9) rfl dX9_leastOftenOn_6 ?_
      refine lv_icmp_ge (tgt := 53) hx hb dX9_leastOftenOn_9 (by decide) (fun c_9 => ?_) (fun c_9 => ?_)
      · have hv := hv.1 c_9
        refine lv_iload_n hx hb dX9_leastOftenOn_53 rfl (lv_at hl 1 rfl) ?_
        rw [← hQ]
        exact k_iret hx hb hr hlocks hS () hP hD hv dX9_leastOftenOn_54
      · have hv := hv.2 c_9
        refine lv_aload_n hx hb dX9_leastOftenOn_12 rfl (lv_at hl 2 rfl) ?_
        refine va_get (D := D) (ci := 9) (v := .ref (ad 39)) (C := RX9) (T := TX9) (N := 5) hx hb hts in_X9_leastOftenOn_9 hown hK hP 0 rfl rfl 0 (by decide) (hts _ lk_X9_leastOftenOn_9) (fun _ h9 => h9) rfl dX9_leastOftenOn_13 ?_
        refine lv_iload_n hx hb dX9_leastOftenOn_16 rfl (lv_at hl 0 rfl) ?_
        refine va_zald hx hb hK hP 1 2 rfl rfl hv.1 dX9_leastOftenOn_17 ?_
        refine lv_topi (fun g3 h_g3 => ?_)
        have hv := hv.2 g3 h_g3
        have jn47 : ∀ (l1_4 : Int32) (H : Heap) (locs : List Loc) (ls : Array Slot), vJ_X9_leastOftenOn_47 l2_1 (fun z0 z1 => vfix (vF_X9_leastOftenOn_4 s9_parts a9_isOn a9_timesOn K) n4 (z0, z1)) l1_4 → lv_has ls 3 [(2, .int l2_1), (1, .int l1_4), (0, .ref (ad 9))] → va_P D vwCl [oX9 ad s9_parts s9_rule s9_hand, aZ cy (ad 39) 16 a9_isOn, aI cy (ad 40) 16 a9_timesOn] H → va_D A [oX9 ad s9_parts s9_rule s9_hand, aZ cy (ad 39) 16 a9_isOn, aI cy (ad 40) 16 a9_timesOn] → va_S A s.heap H locs → W p l e rm_X9_leastOftenOn s m ([.ref (ad 9)] : List Value).toArray below meth c H locs 0 0 Q (F0 m 47 ls []) := by
          intro l1_4 H locs ls hv hl hP hD hS
          unfold vJ_X9_leastOftenOn_47 at hv
          obtain ⟨i5, h_i5⟩ : ∃ y : Int32, y = l2_1 + 1 := ⟨_, rfl⟩
          refine lv_iinc (v := i5) (lv' := [(2, .int i5), (1, .int l1_4), (0, .ref (ad 9))]) hx hb dX9_leastOftenOn_47 hl (k := 0) rfl (by rw [h_i5]; rfl) (by decide) rfl (fun ls hl => ?_)
          have hv := hv i5 h_i5
          refine lv_goto (tgt := 4) hx hb dX9_leastOftenOn_50 (by decide) ?_
          exact ih4 i5 l1_4 H locs ls hv (lv_sub hl [0, 1, 2] rfl) hP hD hS
        refine lv_if_ne (tgt := 47) hx hb dX9_leastOftenOn_18 (by decide) (fun c_18 => ?_) (fun c_18 => ?_)
        · have hv := hv.1 c_18
          exact jn47 l1_2 H locs ls hv (lv_sub hl [0, 1, 2] rfl) hP hD hS
        · have hv := hv.2 c_18
          refine lv_aload_n hx hb dX9_leastOftenOn_21 rfl (lv_at hl 2 rfl) ?_
          refine va_get (D := D) (ci := 9) (v := .ref (ad 39)) (C := RX9) (T := TX9) (N := 5) hx hb hts in_X9_leastOftenOn_9 hown hK hP 0 rfl rfl 0 (by decide) (hts _ lk_X9_leastOftenOn_9) (fun _ h9 => h9) rfl dX9_leastOftenOn_22 ?_
          refine lv_iload_n hx hb dX9_leastOftenOn_25 rfl (lv_at hl 1 rfl) ?_
          refine va_zald hx hb hK hP 1 2 rfl rfl hv.1 dX9_leastOftenOn_26 ?_
          refine lv_topi (fun g6 h_g6 => ?_)
          have hv := hv.2 g6 h_g6
          have jn45 : ∀ (H : Heap) (locs : List Loc) (ls : Array Slot), vJ_X9_leastOftenOn_45 l2_1 (fun z0 z1 => vfix (vF_X9_leastOftenOn_4 s9_parts a9_isOn a9_timesOn K) n4 (z0, z1)) → lv_has ls 3 [(2, .int l2_1), (0, .ref (ad 9))] → va_P D vwCl [oX9 ad s9_parts s9_rule s9_hand, aZ cy (ad 39) 16 a9_isOn, aI cy (ad 40) 16 a9_timesOn] H → va_D A [oX9 ad s9_parts s9_rule s9_hand, aZ cy (ad 39) 16 a9_isOn, aI cy (ad 40) 16 a9_timesOn] → va_S A s.heap H locs → W p l e rm_X9_leastOftenOn s m ([.ref (ad 9)] : List Value).toArray below meth c H locs 0 0 Q (F0 m 45 ls []) := by
            intro H locs ls hv hl hP hD hS
            unfold vJ_X9_leastOftenOn_45 at hv
            refine lv_iload_n hx hb dX9_leastOftenOn_45 rfl (lv_at hl 0 rfl) ?_
            refine lv_istore_n (lv' := [(1, .int l2_1), (2, .int l2_1), (0, .ref (ad 9))]) hx hb dX9_leastOftenOn_46 rfl hl (by decide) rfl (fun ls hl => ?_)
            exact jn47 l2_1 H locs ls hv (lv_sub hl [1, 0, 2] rfl) hP hD hS
          refine lv_if_ne (tgt := 45) hx hb dX9_leastOftenOn_27 (by decide) (fun c_27 => ?_) (fun c_27 => ?_)
          · have hv := hv.1 c_27
            exact jn45  H locs ls hv (lv_sub hl [0, 2] rfl) hP hD hS
          · have hv := hv.2 c_27
            refine lv_aload_n hx hb dX9_leastOftenOn_30 rfl (lv_at hl 2 rfl) ?_
            refine va_get (D := D) (ci := 9) (v := .ref (ad 40)) (C := RX9) (T := TX9) (N := 5) hx hb hts in_X9_leastOftenOn_9 hown hK hP 0 rfl rfl 1 (by decide) (hts _ lk_X9_leastOftenOn_15) (fun _ h9 => h9) rfl dX9_leastOftenOn_31 ?_
            refine lv_iload_n hx hb dX9_leastOftenOn_34 rfl (lv_at hl 0 rfl) ?_
            refine va_iald hx hb hK hP 2 0 rfl rfl hv.1 dX9_leastOftenOn_35 ?_
            refine lv_topi (fun g7 h_g7 => ?_)
            have hv := hv.2 g7 h_g7
            refine lv_aload_n hx hb dX9_leastOftenOn_36 rfl (lv_at hl 2 rfl) ?_
            refine va_get (D := D) (ci := 9) (v := .ref (ad 40)) (C := RX9) (T := TX9) (N := 5) hx hb hts in_X9_leastOftenOn_9 hown hK hP 0 rfl rfl 1 (by decide) (hts _ lk_X9_leastOftenOn_15) (fun _ h9 => h9) rfl dX9_leastOftenOn_37 ?_
            refine lv_iload_n hx hb dX9_leastOftenOn_40 rfl (lv_at hl 1 rfl) ?_
            refine va_iald hx hb hK hP 2 0 rfl rfl hv.1 dX9_leastOftenOn_41 ?_
            refine lv_topi (fun g8 h_g8 => ?_)
            have hv := hv.2 g8 h_g8
            refine lv_icmp_ge (tgt := 47) hx hb dX9_leastOftenOn_42 (by decide) (fun c_42 => ?_) (fun c_42 => ?_)
            · have hv := hv.1 c_42
              exact jn47 l1_2 H locs ls hv (lv_sub hl [0, 1, 2] rfl) hP hD hS
            · have hv := hv.2 c_42
              exact jn45  H locs ls hv (lv_sub hl [0, 2] rfl) hP hD hS
  obtain ⟨nn, hv⟩ := hv
  exact lp4 nn (1 : Int32) (0 : Int32) H locs ls hv (lv_sub hl [0, 1, 2] rfl) hP hD hS
theorem lk_X9_nextByHand_29 : Cond.fieldLink RX9 29 "CoarseSteps$Wheel" "hand" "I" ∈ wsX9_nextByHand := by decide +kernel
theorem in_X9_nextByHand_9 : ∀ w ∈ wsX90, w ∈ wsX9_nextByHand := by decide +kernel
theorem lk_X9_nextByHand_19 : Cond.fieldLink RX9 19 "CoarseSteps$Wheel" "parts" "I" ∈ wsX9_nextByHand := by decide +kernel
abbrev rm_X9_nextByHand : Room := { frames := 0, cells := 0, slots := 0, locals := 0 }
set_option maxHeartbeats 4000000 in
set_option maxRecDepth 100000 in
theorem m_X9_nextByHand (l : Launch) (D : va_G) (cy : ClassId × ClassId × ClassId) (ad : Nat → Nat) (s9_parts : Int32) (s9_rule : Int32) (s9_hand : Int32) (sz : Nat) {K : Int32 → Int32 → Prop} (hv : v_X9_nextByHand s9_parts s9_hand K) : Met l yX9_nextByHand wsX9_nextByHand rm_X9_nextByHand (va_Pc [.ref (ad 9)] (wd D cy [oX9 ad s9_parts s9_rule s9_hand] sz)) (va_Qi (fun (r : Int32) (u : Int32) => K r u) (fun u t => we D ((fun u : Int32 => [oX9 ad s9_parts s9_rule u]) u) (va_A [oX9 ad s9_parts s9_rule s9_hand] sz) t) (va_A [oX9 ad s9_parts s9_rule s9_hand] sz)) 0 0 (va_A [oX9 ad s9_parts s9_rule s9_hand] sz) := by
  refine k_ofW (cc := cX9_nextByHand) (maxL := 2) (ret := (some .int)) (fun A => va_Qi (fun (r : Int32) (u : Int32) => K r u) (fun u t => we D ((fun u : Int32 => [oX9 ad s9_parts s9_rule u]) u) A t) A) (by decide) rfl (Nat.le_of_ble_eq_true rfl) ?_
  intro p e s m below meth c A ls H locs hx hb hml hr hts hown hlocks hname hK hN hA hP hD hS hl
  have hl : lv_has ls 2 [(0, .ref (ad 9))] := hl
  generalize hQ : MQ below _ _ s _ _ A = Q
  unfold v_X9_nextByHand at hv
  refine lv_aload_n hx hb dX9_nextByHand_0 rfl (lv_at hl 0 rfl) ?_
  refine va_get (D := D) (ci := 9) (v := .int s9_hand) (C := RX9) (T := TX9) (N := 5) hx hb hts in_X9_nextByHand_9 hown hK hP 0 rfl rfl 4 (by decide) (hts _ lk_X9_nextByHand_29) (fun _ h9 => h9) rfl dX9_nextByHand_1 ?_
  refine lv_istore_n (lv' := [(1, .int s9_hand), (0, .ref (ad 9))]) hx hb dX9_nextByHand_4 rfl hl (by decide) rfl (fun ls hl => ?_)
  refine lv_aload_n hx hb dX9_nextByHand_5 rfl (lv_at hl 1 rfl) ?_
  refine lv_iload_n hx hb dX9_nextByHand_6 rfl (lv_at hl 0 rfl) ?_
  refine lv_iconst (v := 1) hx hb dX9_nextByHand_7 (by decide) ?_
  refine lv_iadd hx hb dX9_nextByHand_8 ?_
  refine lv_topi (fun e1 h_e1 => ?_)
  have hv := hv e1 h_e1
  refine lv_aload_n hx hb dX9_nextByHand_9 rfl (lv_at hl 1 rfl) ?_
  refine va_get (D := D) (ci := 9) (v := .int s9_parts) (C := RX9) (T := TX9) (N := 5) hx hb hts in_X9_nextByHand_9 hown hK hP 0 rfl rfl 2 (by decide) (hts _ lk_X9_nextByHand_19) (fun _ h9 => h9) rfl dX9_nextByHand_10 ?_
  refine lv_icmp_ge (tgt := 22) hx hb dX9_nextByHand_13 (by decide) (fun c_13 => ?_) (fun c_13 => ?_)
  · have hv := hv.1 c_13
    refine lv_iconst (v := 0) hx hb dX9_nextByHand_22 (by decide) ?_
    refine va_put (D := D) (ci := 9) (v := .int (0 : Int32)) (ty := .int) (C := RX9) (T := TX9) (N := 5) hx hb hts in_X9_nextByHand_9 tyX9 tyX9_ok nmX9 hown hK hP hD hS 0 rfl rfl 4 (by decide) (hts _ lk_X9_nextByHand_29) (fun _ h9 => h9) rfl (by decide +kernel) rfl rfl (Nat.le_of_ble_eq_true rfl) dX9_nextByHand_23 (fun H locs hP hD hS => ?_)
    have hP : va_P D vwCl [oX9 ad s9_parts s9_rule (0 : Int32)] H := hP
    have hD : va_D A [oX9 ad s9_parts s9_rule (0 : Int32)] := hD
    refine lv_iload_n hx hb dX9_nextByHand_26 rfl (lv_at hl 0 rfl) ?_
    rw [← hQ]
    exact k_iret hx hb hr hlocks hS ((0 : Int32)) hP hD hv dX9_nextByHand_27
  · have hv := hv.2 c_13
    refine lv_iload_n hx hb dX9_nextByHand_16 rfl (lv_at hl 0 rfl) ?_
    refine lv_iconst (v := 1) hx hb dX9_nextByHand_17 (by decide) ?_
    refine lv_iadd hx hb dX9_nextByHand_18 ?_
    refine lv_topi (fun e2 h_e2 => ?_)
    have hv := hv e2 h_e2
    refine lv_goto (tgt := 23) hx hb dX9_nextByHand_19 (by decide) ?_
    refine va_put (D := D) (ci := 9) (v := .int e2) (ty := .int) (C := RX9) (T := TX9) (N := 5) hx hb hts in_X9_nextByHand_9 tyX9 tyX9_ok nmX9 hown hK hP hD hS 0 rfl rfl 4 (by decide) (hts _ lk_X9_nextByHand_29) (fun _ h9 => h9) rfl (by decide +kernel) rfl rfl (Nat.le_of_ble_eq_true rfl) dX9_nextByHand_23 (fun H locs hP hD hS => ?_)
    have hP : va_P D vwCl [oX9 ad s9_parts s9_rule e2] H := hP
    have hD : va_D A [oX9 ad s9_parts s9_rule e2] := hD
    refine lv_iload_n hx hb dX9_nextByHand_26 rfl (lv_at hl 0 rfl) ?_
    rw [← hQ]
    exact k_iret hx hb hr hlocks hS (e2) hP hD hv dX9_nextByHand_27
theorem lk_X9_switchOn_9 : Cond.fieldLink RX9 9 "CoarseSteps$Wheel" "isOn" "[Z" ∈ wsX9_switchOn := by decide +kernel
theorem in_X9_switchOn_9 : ∀ w ∈ wsX90, w ∈ wsX9_switchOn := by decide +kernel
theorem lk_X9_switchOn_15 : Cond.fieldLink RX9 15 "CoarseSteps$Wheel" "timesOn" "[I" ∈ wsX9_switchOn := by decide +kernel
abbrev rm_X9_switchOn : Room := { frames := 0, cells := 0, slots := 0, locals := 0 }
set_option maxHeartbeats 4000000 in
set_option maxRecDepth 100000 in
theorem m_X9_switchOn (l : Launch) (D : va_G) (cy : ClassId × ClassId × ClassId) (ad : Nat → Nat) (s9_parts : Int32) (s9_rule : Int32) (s9_hand : Int32) (a9_isOn : Nat → Int32) (a9_timesOn : Nat → Int32) (x1 : Int32) (sz : Nat) {K : (Nat → Int32) → (Nat → Int32) → Prop} (hv : v_X9_switchOn a9_isOn a9_timesOn x1 K) : Met l yX9_switchOn wsX9_switchOn rm_X9_switchOn (va_Pc [.ref (ad 9), .int x1] (wd D cy [oX9 ad s9_parts s9_rule s9_hand, aZ cy (ad 39) 16 a9_isOn, aI cy (ad 40) 16 a9_timesOn] sz)) (va_Qv (fun u : (Nat → Int32) × (Nat → Int32) => K u.1 u.2) (fun u t => we D ((fun u : (Nat → Int32) × (Nat → Int32) => [oX9 ad s9_parts s9_rule s9_hand, aZ cy (ad 39) 16 u.1, aI cy (ad 40) 16 u.2]) u) (va_A [oX9 ad s9_parts s9_rule s9_hand, aZ cy (ad 39) 16 a9_isOn, aI cy (ad 40) 16 a9_timesOn] sz) t) (va_A [oX9 ad s9_parts s9_rule s9_hand, aZ cy (ad 39) 16 a9_isOn, aI cy (ad 40) 16 a9_timesOn] sz)) 0 0 (va_A [oX9 ad s9_parts s9_rule s9_hand, aZ cy (ad 39) 16 a9_isOn, aI cy (ad 40) 16 a9_timesOn] sz) := by
  refine k_ofW (cc := cX9_switchOn) (maxL := 2) (ret := none) (fun A => va_Qv (fun u : (Nat → Int32) × (Nat → Int32) => K u.1 u.2) (fun u t => we D ((fun u : (Nat → Int32) × (Nat → Int32) => [oX9 ad s9_parts s9_rule s9_hand, aZ cy (ad 39) 16 u.1, aI cy (ad 40) 16 u.2]) u) A t) A) (by decide) rfl (Nat.le_of_ble_eq_true rfl) ?_
  intro p e s m below meth c A ls H locs hx hb hml hr hts hown hlocks hname hK hN hA hP hD hS hl
  have hl : lv_has ls 2 [(0, .ref (ad 9)), (1, .int x1)] := hl
  generalize hQ : MQ below _ _ s _ _ A = Q
  unfold v_X9_switchOn at hv
  refine lv_aload_n hx hb dX9_switchOn_0 rfl (lv_at hl 0 rfl) ?_
  refine va_get (D := D) (ci := 9) (v := .ref (ad 39)) (C := RX9) (T := TX9) (N := 5) hx hb hts in_X9_switchOn_9 hown hK hP 0 rfl rfl 0 (by decide) (hts _ lk_X9_switchOn_9) (fun _ h9 => h9) rfl dX9_switchOn_1 ?_
  refine lv_iload_n hx hb dX9_switchOn_4 rfl (lv_at hl 1 rfl) ?_
  refine lv_iconst (v := 1) hx hb dX9_switchOn_5 (by decide) ?_
  refine k_zast hx hb hK hP hD hS 1 2 rfl rfl hv.1 (by decide) dX9_switchOn_6 (fun a9_isOn_1 H locs h_a9_isOn_1 hP hD hS => ?_)
  have hv := hv.2 a9_isOn_1 h_a9_isOn_1
  have hP : va_P D vwCl [oX9 ad s9_parts s9_rule s9_hand, aZ cy (ad 39) 16 a9_isOn_1, aI cy (ad 40) 16 a9_timesOn] H := hP
  have hD : va_D A [oX9 ad s9_parts s9_rule s9_hand, aZ cy (ad 39) 16 a9_isOn_1, aI cy (ad 40) 16 a9_timesOn] := hD
  refine lv_aload_n hx hb dX9_switchOn_7 rfl (lv_at hl 0 rfl) ?_
  refine va_get (D := D) (ci := 9) (v := .ref (ad 40)) (C := RX9) (T := TX9) (N := 5) hx hb hts in_X9_switchOn_9 hown hK hP 0 rfl rfl 1 (by decide) (hts _ lk_X9_switchOn_15) (fun _ h9 => h9) rfl dX9_switchOn_8 ?_
  refine lv_iload_n hx hb dX9_switchOn_11 rfl (lv_at hl 1 rfl) ?_
  refine lv_dup2_11 hx hb dX9_switchOn_12 rfl rfl ?_
  refine va_iald hx hb hK hP 2 0 rfl rfl hv.1 dX9_switchOn_13 ?_
  refine lv_topi (fun g2 h_g2 => ?_)
  have hv := hv.2 g2 h_g2
  refine lv_iconst (v := 1) hx hb dX9_switchOn_14 (by decide) ?_
  refine lv_iadd hx hb dX9_switchOn_15 ?_
  refine lv_topi (fun e3 h_e3 => ?_)
  have hv := hv e3 h_e3
  refine k_iast hx hb hK hP hD hS 2 0 rfl rfl hv.1 dX9_switchOn_16 (fun a9_timesOn_4 H locs h_a9_timesOn_4 hP hD hS => ?_)
  have hv := hv.2 a9_timesOn_4 h_a9_timesOn_4
  have hP : va_P D vwCl [oX9 ad s9_parts s9_rule s9_hand, aZ cy (ad 39) 16 a9_isOn_1, aI cy (ad 40) 16 a9_timesOn_4] H := hP
  have hD : va_D A [oX9 ad s9_parts s9_rule s9_hand, aZ cy (ad 39) 16 a9_isOn_1, aI cy (ad 40) 16 a9_timesOn_4] := hD
  rw [← hQ]
  exact k_vret hx hb hr hlocks hS (a9_isOn_1, a9_timesOn_4) hP hD hv dX9_switchOn_17
theorem lk_X9_turn_19 : Cond.fieldLink RX9 19 "CoarseSteps$Wheel" "parts" "I" ∈ wsX9_turn := by decide +kernel
theorem in_X9_turn_9 : ∀ w ∈ wsX90, w ∈ wsX9_turn := by decide +kernel
theorem lm1_X9_turn_min : Cond.methodLink RX9 32 Lib.Math.min.name ∈ wsX9_turn := by decide +kernel
theorem lm2_X9_turn_min : Cond.static Lib.Math.min.name ∈ wsX9_turn := by decide +kernel
theorem lm3_X9_turn : Cond.initialized "java/lang/Math" ∈ wsX9_turn := by decide +kernel
theorem lm4_X9_turn_min : Cond.code Lib.Math.min.name Lib.Math.min.code 2 (some .int) ∈ wsX9_turn := by decide +kernel
theorem lm1_X9_turn_max : Cond.methodLink RX9 38 Lib.Math.max.name ∈ wsX9_turn := by decide +kernel
theorem lm2_X9_turn_max : Cond.static Lib.Math.max.name ∈ wsX9_turn := by decide +kernel
theorem lm4_X9_turn_max : Cond.code Lib.Math.max.name Lib.Math.max.code 2 (some .int) ∈ wsX9_turn := by decide +kernel
theorem lk_X9_turn_23 : Cond.fieldLink RX9 23 "CoarseSteps$Wheel" "rule" "I" ∈ wsX9_turn := by decide +kernel
theorem lk_X9_turn_9 : Cond.fieldLink RX9 9 "CoarseSteps$Wheel" "isOn" "[Z" ∈ wsX9_turn := by decide +kernel
abbrev rm_X9_turn : Room := { frames := 1, cells := 0, slots := 0, locals := 22 }
set_option maxHeartbeats 4000000 in
set_option maxRecDepth 100000 in
theorem m_X9_turn (l : Launch) (D : va_G) (cy : ClassId × ClassId × ClassId) (ad : Nat → Nat) (s9_parts : Int32) (s9_rule : Int32) (s9_hand : Int32) (a9_isOn : Nat → Int32) (a9_timesOn : Nat → Int32) (x1 : Int32) (sz : Nat) {K : Int32 → (Nat → Int32) → (Nat → Int32) → Prop} (hv : v_X9_turn s9_parts s9_rule s9_hand a9_isOn a9_timesOn x1 K) : Met l yX9_turn wsX9_turn rm_X9_turn (va_Pc [.ref (ad 9), .int x1] (wd D cy [oX9 ad s9_parts s9_rule s9_hand, aZ cy (ad 39) 16 a9_isOn, aI cy (ad 40) 16 a9_timesOn] sz)) (va_Qv (fun u : Int32 × (Nat → Int32) × (Nat → Int32) => K u.1 u.2.1 u.2.2) (fun u t => we D ((fun u : Int32 × (Nat → Int32) × (Nat → Int32) => [oX9 ad s9_parts s9_rule u.1, aZ cy (ad 39) 16 u.2.1, aI cy (ad 40) 16 u.2.2]) u) (va_A [oX9 ad s9_parts s9_rule s9_hand, aZ cy (ad 39) 16 a9_isOn, aI cy (ad 40) 16 a9_timesOn] sz) t) (va_A [oX9 ad s9_parts s9_rule s9_hand, aZ cy (ad 39) 16 a9_isOn, aI cy (ad 40) 16 a9_timesOn] sz)) 0 0 (va_A [oX9 ad s9_parts s9_rule s9_hand, aZ cy (ad 39) 16 a9_isOn, aI cy (ad 40) 16 a9_timesOn] sz) := by
  refine k_ofW (cc := cX9_turn) (maxL := 4) (ret := none) (fun A => va_Qv (fun u : Int32 × (Nat → Int32) × (Nat → Int32) => K u.1 u.2.1 u.2.2) (fun u t => we D ((fun u : Int32 × (Nat → Int32) × (Nat → Int32) => [oX9 ad s9_parts s9_rule u.1, aZ cy (ad 39) 16 u.2.1, aI cy (ad 40) 16 u.2.2]) u) A t) A) (by decide) rfl (Nat.le_of_ble_eq_true rfl) ?_
  intro p e s m below meth c A ls H locs hx hb hml hr hts hown hlocks hname hK hN hA hP hD hS hl
  have hl : lv_has ls 4 [(0, .ref (ad 9)), (1, .int x1)] := hl
  generalize hQ : MQ below _ _ s _ _ A = Q
  unfold v_X9_turn at hv
  refine lv_iconst (v := 0) hx hb dX9_turn_0 (by decide) ?_
  refine lv_iload_n hx hb dX9_turn_1 rfl (lv_at hl 1 rfl) ?_
  refine lv_aload_n hx hb dX9_turn_2 rfl (lv_at hl 0 rfl) ?_
  refine va_get (D := D) (ci := 9) (v := .int s9_parts) (C := RX9) (T := TX9) (N := 5) hx hb hts in_X9_turn_9 hown hK hP 0 rfl rfl 2 (by decide) (hts _ lk_X9_turn_19) (fun _ h9 => h9) rfl dX9_turn_3 ?_
  refine va_mmin hx hb (hml.trans hl.1.symm) hown (hts _ lm1_X9_turn_min) (hts _ lm2_X9_turn_min) (hts _ lm3_X9_turn) (hts _ lm4_X9_turn_min) (Nat.le_of_ble_eq_true rfl) (Nat.le_of_ble_eq_true rfl) (Nat.le_of_ble_eq_true rfl) (Nat.le_of_ble_eq_true rfl) dX9_turn_6 ?_
  refine lv_topi (fun e1 h_e1 => ?_)
  have hv := hv e1 h_e1
  refine va_mmax hx hb (hml.trans hl.1.symm) hown (hts _ lm1_X9_turn_max) (hts _ lm2_X9_turn_max) (hts _ lm3_X9_turn) (hts _ lm4_X9_turn_max) (Nat.le_of_ble_eq_true rfl) (Nat.le_of_ble_eq_true rfl) (Nat.le_of_ble_eq_true rfl) (Nat.le_of_ble_eq_true rfl) dX9_turn_9 ?_
  refine lv_topi (fun e2 h_e2 => ?_)
  have hv := hv e2 h_e2
  refine lv_istore_n (lv' := [(2, .int e2), (0, .ref (ad 9)), (1, .int x1)]) hx hb dX9_turn_12 rfl hl (by decide) rfl (fun ls hl => ?_)
  refine lv_iconst (v := 0) hx hb dX9_turn_13 (by decide) ?_
  refine lv_istore_n (lv' := [(3, .int (0 : Int32)), (2, .int e2), (0, .ref (ad 9)), (1, .int x1)]) hx hb dX9_turn_14 rfl hl (by decide) rfl (fun ls hl => ?_)
  have lp15 : ∀ (n15 : Nat) (l3_3 : Int32) (a9_isOn_4 : Nat → Int32) (H : Heap) (locs : List Loc) (ls : Array Slot), vfix (vF_X9_turn_15 s9_parts s9_rule s9_hand a9_timesOn K e2) n15 (l3_3, a9_isOn_4) → lv_has ls 4 [(3, .int l3_3), (2, .int e2), (0, .ref (ad 9))] → va_P D vwCl [oX9 ad s9_parts s9_rule s9_hand, aZ cy (ad 39) 16 a9_isOn_4, aI cy (ad 40) 16 a9_timesOn] H → va_D A [oX9 ad s9_parts s9_rule s9_hand, aZ cy (ad 39) 16 a9_isOn_4, aI cy (ad 40) 16 a9_timesOn] → va_S A s.heap H locs → W p l e rm_X9_turn s m ([.ref (ad 9), .int x1] : List Value).toArray below meth c H locs 0 0 Q (F0 m 15 ls []) := by
    intro n15
    induction n15 with
    | zero => intro l3_3 a9_isOn_4 H locs ls hv; exact hv.elim
    | succ n15 ih15 =>
      intro l3_3 a9_isOn_4 H locs ls hv hl hP hD hS
      have hv : vB_X9_turn_15 s9_parts s9_rule s9_hand a9_timesOn K e2 (fun z0 z1 => vfix (vF_X9_turn_15 s9_parts s9_rule s9_hand a9_timesOn K e2) n15 (z0, z1)) l3_3 a9_isOn_4 := hv
      unfold vB_X9_turn_15 at hv
      refine lv_iload_n hx hb dX9_turn_15 rfl (lv_at hl 0 rfl) ?_
      refine lv_aload_n hx hb dX9_turn_16 rfl (lv_at hl 2 rfl) ?_
      refine va_get (D := D) (ci := 9) (v := .int s9_parts) (C := RX9) (T := TX9) (N := 5) hx hb hts in_X9_turn_9 hown hK hP 0 rfl rfl 2 (by decide) (hts _ lk_X9_turn_19) (fun _ h9 => h9) rfl dX9_turn_17 ?_
      refine lv_icmp_ge (tgt := 36) hx hb dX9_turn_20 (by decide) (fun c_20 => ?_) (fun c_20 => ?_)
      · have hv := hv.1 c_20
        refine lv_iconst (v := 0) hx hb dX9_turn_36 (by decide) ?_
        refine lv_istore_n (lv' := [(3, .int (0 : Int32)), (2, .int e2), (0, .ref (ad 9))]) hx hb dX9_turn_37 rfl hl (by decide) rfl (fun ls hl => ?_)
        have lp38 : ∀ (n38 : Nat) (l3_5 : Int32) (s9_hand_6 : Int32) (a9_isOn_7 : Nat → Int32) (a9_timesOn_8 : Nat → Int32) (H : Heap) (locs : List Loc) (ls : Array Slot), vfix (vF_X9_turn_38 s9_parts s9_rule K e2) n38 (l3_5, s9_hand_6, a9_isOn_7, a9_timesOn_8) → lv_has ls 4 [(3, .int l3_5), (2, .int e2), (0, .ref (ad 9))] → va_P D vwCl [oX9 ad s9_parts s9_rule s9_hand_6, aZ cy (ad 39) 16 a9_isOn_7, aI cy (ad 40) 16 a9_timesOn_8] H → va_D A [oX9 ad s9_parts s9_rule s9_hand_6, aZ cy (ad 39) 16 a9_isOn_7, aI cy (ad 40) 16 a9_timesOn_8] → va_S A s.heap H locs → W p l e rm_X9_turn s m ([.ref (ad 9), .int x1] : List Value).toArray below meth c H locs 0 0 Q (F0 m 38 ls []) := by
          intro n38
          induction n38 with
          | zero => intro l3_5 s9_hand_6 a9_isOn_7 a9_timesOn_8 H locs ls hv; exact hv.elim
          | succ n38 ih38 =>
            intro l3_5 s9_hand_6 a9_isOn_7 a9_timesOn_8 H locs ls hv hl hP hD hS
            have hv : vB_X9_turn_38 s9_parts s9_rule K e2 (fun z0 z1 z2 z3 => vfix (vF_X9_turn_38 s9_parts s9_rule K e2) n38 (z0, z1, z2, z3)) l3_5 s9_hand_6 a9_isOn_7 a9_timesOn_8 := hv
            unfold vB_X9_turn_38 at hv
            refine lv_iload_n hx hb dX9_turn_38 rfl (lv_at hl 0 rfl) ?_
            refine lv_iload_n hx hb dX9_turn_39 rfl (lv_at hl 1 rfl) ?_
            refine lv_icmp_ge (tgt := 71) hx hb dX9_turn_40 (by decide) (fun c_40 => ?_) (fun c_40 => ?_)
            · have hv := hv.1 c_40
              rw [← hQ]
              exact k_vret hx hb hr hlocks hS (s9_hand_6, a9_isOn_7, a9_timesOn_8) hP hD hv dX9_turn_71
            · have hv := hv.2 c_40
              refine lv_aload_n hx hb dX9_turn_43 rfl (lv_at hl 2 rfl) ?_
              refine lv_aload_n hx hb dX9_turn_44 rfl (lv_at hl 2 rfl) ?_
              refine va_get (D := D) (ci := 9) (v := .int s9_rule) (C := RX9) (T := TX9) (N := 5) hx hb hts in_X9_turn_9 hown hK hP 0 rfl rfl 3 (by decide) (hts _ lk_X9_turn_23) (fun _ h9 => h9) rfl dX9_turn_45 ?_
              have jn62 : ∀ (t9 : Int32) (s9_hand_10 : Int32) (H : Heap) (locs : List Loc) (ls : Array Slot), vJ_X9_turn_62 l3_5 a9_isOn_7 a9_timesOn_8 (fun z0 z1 z2 z3 => vfix (vF_X9_turn_38 s9_parts s9_rule K e2) n38 (z0, z1, z2, z3)) t9 s9_hand_10 → lv_has ls 4 [(3, .int l3_5), (2, .int e2), (0, .ref (ad 9))] → va_P D vwCl [oX9 ad s9_parts s9_rule s9_hand_10, aZ cy (ad 39) 16 a9_isOn_7, aI cy (ad 40) 16 a9_timesOn_8] H → va_D A [oX9 ad s9_parts s9_rule s9_hand_10, aZ cy (ad 39) 16 a9_isOn_7, aI cy (ad 40) 16 a9_timesOn_8] → va_S A s.heap H locs → W p l e rm_X9_turn s m ([.ref (ad 9), .int x1] : List Value).toArray below meth c H locs 0 0 Q (F0 m 62 ls [.int t9, .ref (ad 9)]) := by
                intro t9 s9_hand_10 H locs ls hv hl hP hD hS
                unfold vJ_X9_turn_62 at hv
                have hPc := hP.sub (ws' := [oX9 ad s9_parts s9_rule s9_hand_10, aZ cy (ad 39) 16 a9_isOn_7, aI cy (ad 40) 16 a9_timesOn_8]) [0, 1, 2] rfl
                have hDc := hD.sub (ws' := [oX9 ad s9_parts s9_rule s9_hand_10, aZ cy (ad 39) 16 a9_isOn_7, aI cy (ad 40) 16 a9_timesOn_8]) [0, 1, 2] (by decide) rfl
                refine k_calv (wc := [oX9 ad s9_parts s9_rule s9_hand_10, aZ cy (ad 39) 16 a9_isOn_7, aI cy (ad 40) 16 a9_timesOn_8]) (wr := []) (va_runV (As := [.int t9]) (rest := []) ⟨hx, hb, hml, hown, hts⟩ (m_X9_switchOn l D cy ad s9_parts s9_rule s9_hand_10 a9_isOn_7 a9_timesOn_8 t9 H.size hv) (cwV 1 hts gX9_turn_X9_switchOn rfl rfl rfl (by decide +kernel) ⟨Nat.le_of_ble_eq_true rfl, Nat.le_of_ble_eq_true rfl⟩) ⟨wd_blind, va_recv hK hPc (ci := 9) (q0 := 0) rfl rfl, wd_ok hPc hK hDc hN⟩ rfl rfl hl.1 rfl (lv_room (Nat.le_of_ble_eq_true rfl)) dX9_turn_62 ⟨Nat.le_of_ble_eq_true rfl, Nat.le_of_ble_eq_true rfl⟩) hP hD hS hA [0, 1, 2] [] rfl rfl (by decide) (by decide) (fun u H locs hv hP hD hS => ?_)
                obtain ⟨a9_isOn_11, a9_timesOn_12⟩ := u
                have hP : va_P D vwCl [oX9 ad s9_parts s9_rule s9_hand_10, aZ cy (ad 39) 16 a9_isOn_11, aI cy (ad 40) 16 a9_timesOn_12] H := hP.sub [0, 1, 2] rfl
                have hD : va_D A [oX9 ad s9_parts s9_rule s9_hand_10, aZ cy (ad 39) 16 a9_isOn_11, aI cy (ad 40) 16 a9_timesOn_12] := hD.sub [0, 1, 2] (by decide) rfl
                obtain ⟨i13, h_i13⟩ : ∃ y : Int32, y = l3_5 + 1 := ⟨_, rfl⟩
                refine lv_iinc (v := i13) (lv' := [(3, .int i13), (2, .int e2), (0, .ref (ad 9))]) hx hb dX9_turn_65 hl (k := 0) rfl (by rw [h_i13]; rfl) (by decide) rfl (fun ls hl => ?_)
                have hv := hv i13 h_i13
                refine lv_goto (tgt := 38) hx hb dX9_turn_68 (by decide) ?_
                exact ih38 i13 s9_hand_10 a9_isOn_11 a9_timesOn_12 H locs ls hv (lv_sub hl [0, 1, 2] rfl) hP hD hS
              refine lv_if_ne (tgt := 58) hx hb dX9_turn_48 (by decide) (fun c_48 => ?_) (fun c_48 => ?_)
              · have hv := hv.1 c_48
                refine lv_aload_n hx hb dX9_turn_58 rfl (lv_at hl 2 rfl) ?_
                have hPc := hP.sub (ws' := [oX9 ad s9_parts s9_rule s9_hand_6, aZ cy (ad 39) 16 a9_isOn_7, aI cy (ad 40) 16 a9_timesOn_8]) [0, 1, 2] rfl
                have hDc := hD.sub (ws' := [oX9 ad s9_parts s9_rule s9_hand_6, aZ cy (ad 39) 16 a9_isOn_7, aI cy (ad 40) 16 a9_timesOn_8]) [0, 1, 2] (by decide) rfl
                refine k_cali (wc := [oX9 ad s9_parts s9_rule s9_hand_6, aZ cy (ad 39) 16 a9_isOn_7, aI cy (ad 40) 16 a9_timesOn_8]) (wr := []) (va_runV (As := []) (rest := [.ref (ad 9)]) ⟨hx, hb, hml, hown, hts⟩ (m_X9_leastOftenOn l D cy ad s9_parts s9_rule s9_hand_6 a9_isOn_7 a9_timesOn_8 H.size hv) (cwV 0 hts gX9_turn_X9_leastOftenOn rfl rfl rfl (by decide +kernel) ⟨Nat.le_of_ble_eq_true rfl, Nat.le_of_ble_eq_true rfl⟩) ⟨wd_blind, va_recv hK hPc (ci := 9) (q0 := 0) rfl rfl, wd_ok hPc hK hDc hN⟩ rfl rfl hl.1 rfl (lv_room (Nat.le_of_ble_eq_true rfl)) dX9_turn_59 ⟨Nat.le_of_ble_eq_true rfl, Nat.le_of_ble_eq_true rfl⟩) hP hD hS hA [0, 1, 2] [] rfl rfl (by decide) (by decide) (fun r14 u H locs hv hP hD hS => ?_)
                have hP : va_P D vwCl [oX9 ad s9_parts s9_rule s9_hand_6, aZ cy (ad 39) 16 a9_isOn_7, aI cy (ad 40) 16 a9_timesOn_8] H := hP.sub [0, 1, 2] rfl
                have hD : va_D A [oX9 ad s9_parts s9_rule s9_hand_6, aZ cy (ad 39) 16 a9_isOn_7, aI cy (ad 40) 16 a9_timesOn_8] := hD.sub [0, 1, 2] (by decide) rfl
                exact jn62 r14 s9_hand_6 H locs ls hv (lv_sub hl [0, 1, 2] rfl) hP hD hS
              · have hv := hv.2 c_48
                refine lv_aload_n hx hb dX9_turn_51 rfl (lv_at hl 2 rfl) ?_
                have hPc := hP.sub (ws' := [oX9 ad s9_parts s9_rule s9_hand_6]) [0] rfl
                have hDc := hD.sub (ws' := [oX9 ad s9_parts s9_rule s9_hand_6]) [0] (by decide) rfl
                refine k_cali (wc := [oX9 ad s9_parts s9_rule s9_hand_6]) (wr := [aZ cy (ad 39) 16 a9_isOn_7, aI cy (ad 40) 16 a9_timesOn_8]) (va_runV (As := []) (rest := [.ref (ad 9)]) ⟨hx, hb, hml, hown, hts⟩ (m_X9_nextByHand l D cy ad s9_parts s9_rule s9_hand_6 H.size hv) (cwV 0 hts gX9_turn_X9_nextByHand rfl rfl rfl (by decide +kernel) ⟨Nat.le_of_ble_eq_true rfl, Nat.le_of_ble_eq_true rfl⟩) ⟨wd_blind, va_recv hK hPc (ci := 9) (q0 := 0) rfl rfl, wd_ok hPc hK hDc hN⟩ rfl rfl hl.1 rfl (lv_room (Nat.le_of_ble_eq_true rfl)) dX9_turn_52 ⟨Nat.le_of_ble_eq_true rfl, Nat.le_of_ble_eq_true rfl⟩) hP hD hS hA [0] [1, 2] rfl rfl (by decide) (by decide) (fun r15 s9_hand_16 H locs hv hP hD hS => ?_)
                have hP : va_P D vwCl [oX9 ad s9_parts s9_rule s9_hand_16, aZ cy (ad 39) 16 a9_isOn_7, aI cy (ad 40) 16 a9_timesOn_8] H := hP.sub [2, 0, 1] rfl
                have hD : va_D A [oX9 ad s9_parts s9_rule s9_hand_16, aZ cy (ad 39) 16 a9_isOn_7, aI cy (ad 40) 16 a9_timesOn_8] := hD.sub [2, 0, 1] (by decide) rfl
                refine lv_goto (tgt := 62) hx hb dX9_turn_55 (by decide) ?_
                exact jn62 r15 s9_hand_16 H locs ls hv (lv_sub hl [0, 1, 2] rfl) hP hD hS
        obtain ⟨nn, hv⟩ := hv
        exact lp38 nn (0 : Int32) s9_hand a9_isOn_4 a9_timesOn H locs ls hv (lv_sub hl [0, 1, 2] rfl) hP hD hS
      · have hv := hv.2 c_20
        refine lv_aload_n hx hb dX9_turn_23 rfl (lv_at hl 2 rfl) ?_
        refine va_get (D := D) (ci := 9) (v := .ref (ad 39)) (C := RX9) (T := TX9) (N := 5) hx hb hts in_X9_turn_9 hown hK hP 0 rfl rfl 0 (by decide) (hts _ lk_X9_turn_9) (fun _ h9 => h9) rfl dX9_turn_24 ?_
        refine lv_iload_n hx hb dX9_turn_27 rfl (lv_at hl 0 rfl) ?_
        refine lv_iconst (v := 0) hx hb dX9_turn_28 (by decide) ?_
        refine k_zast hx hb hK hP hD hS 1 2 rfl rfl hv.1 (by decide) dX9_turn_29 (fun a9_isOn_17 H locs h_a9_isOn_17 hP hD hS => ?_)
        have hv := hv.2 a9_isOn_17 h_a9_isOn_17
        have hP : va_P D vwCl [oX9 ad s9_parts s9_rule s9_hand, aZ cy (ad 39) 16 a9_isOn_17, aI cy (ad 40) 16 a9_timesOn] H := hP
        have hD : va_D A [oX9 ad s9_parts s9_rule s9_hand, aZ cy (ad 39) 16 a9_isOn_17, aI cy (ad 40) 16 a9_timesOn] := hD
        obtain ⟨i18, h_i18⟩ : ∃ y : Int32, y = l3_3 + 1 := ⟨_, rfl⟩
        refine lv_iinc (v := i18) (lv' := [(3, .int i18), (2, .int e2), (0, .ref (ad 9))]) hx hb dX9_turn_30 hl (k := 0) rfl (by rw [h_i18]; rfl) (by decide) rfl (fun ls hl => ?_)
        have hv := hv i18 h_i18
        refine lv_goto (tgt := 15) hx hb dX9_turn_33 (by decide) ?_
        exact ih15 i18 a9_isOn_17 H locs ls hv (lv_sub hl [0, 1, 2] rfl) hP hD hS
  obtain ⟨nn, hv⟩ := hv
  exact lp15 nn (0 : Int32) a9_isOn H locs ls hv (lv_sub hl [0, 1, 2] rfl) hP hD hS
theorem lk_X4_turn_34 : Cond.fieldLink RX4 34 "CoarseSteps$Loop" "mover" "LCoarseSteps$Mover;" ∈ wsX4_turn := by decide +kernel
theorem in_X4_turn_4 : ∀ w ∈ wsX40, w ∈ wsX4_turn := by decide +kernel
theorem lk_X4_turn_25 : Cond.fieldLink RX4 25 "CoarseSteps$Loop" "sums" "[J" ∈ wsX4_turn := by decide +kernel
theorem in_X4_turn_5 : ∀ w ∈ wsX50, w ∈ wsX4_turn := by decide +kernel
theorem lk_X4_turn_46 : Cond.fieldLink RX4 46 "CoarseSteps$Loop" "ticks" "I" ∈ wsX4_turn := by decide +kernel
theorem lk_X4_turn_21 : Cond.fieldLink RX4 21 "CoarseSteps$Loop" "history" "LCoarseSteps$History;" ∈ wsX4_turn := by decide +kernel
theorem lk_X4_turn_12 : Cond.fieldLink RX4 12 "CoarseSteps$Loop" "wheel" "LCoarseSteps$Wheel;" ∈ wsX4_turn := by decide +kernel
theorem lk_X4_turn_71 : Cond.constant RX4 71 (-2147483648) ∈ wsX4_turn := by decide +kernel
abbrev rm_X4_turn : Room := { frames := 4, cells := 0, slots := 0, locals := 96 }
set_option maxHeartbeats 4000000 in
set_option maxRecDepth 100000 in
theorem m_X4_turn (l : Launch) (D : va_G) (cy : ClassId × ClassId × ClassId) (ad : Nat → Nat) (s3_next : Int32) (s3_kept : Int32) (s4_ticks : Int32) (s4_firstBeganWith : Int64) (s4_secondBefore : Int32) (s4_thirdBefore : Int32) (s4_thirdTwoBefore : Int32) (s5_kind : Int32) (s5_sums : Int32) (s7_over : Int32) (s7_count : Int32) (s8_sums : Int32) (s8_g : Int32) (s9_parts : Int32) (s9_rule : Int32) (s9_hand : Int32) (a3_wishes : Nat → Int32) (a3_givens : Nat → Int32) (a3_sums : Nat → Int64) (a4_sums : Nat → Int64) (a5_coming : Nat → Int64) (a5_picked : Nat → Int32) (a7_values : Nat → Int32) (a8_a : Nat → Int32) (a8_b : Nat → Int32) (a8_e : Nat → Int32) (a8_h : Nat → Int32) (a9_isOn : Nat → Int32) (a9_timesOn : Nat → Int32) (x1 : Int32) (sz : Nat) {K : Int32 → Int32 → Int32 → Int32 → Int32 → Int32 → Int32 → Int32 → (Nat → Int32) → (Nat → Int32) → (Nat → Int64) → (Nat → Int64) → (Nat → Int64) → (Nat → Int32) → (Nat → Int32) → (Nat → Int32) → Prop} (hv : v_X4_turn s3_next s3_kept s4_ticks s4_secondBefore s4_thirdBefore s4_thirdTwoBefore s5_kind s5_sums s7_over s7_count s8_sums s8_g s9_parts s9_rule s9_hand a3_wishes a3_givens a3_sums a4_sums a5_coming a5_picked a7_values a8_a a8_b a8_e a8_h a9_isOn a9_timesOn x1 K) : Met l yX4_turn wsX4_turn rm_X4_turn (va_Pc [.ref (ad 4), .int x1] (wd D cy [oX3 ad s3_next s3_kept, oX4 ad s4_ticks s4_firstBeganWith s4_secondBefore s4_thirdBefore s4_thirdTwoBefore, oX5 ad s5_kind s5_sums, oX7 ad s7_over s7_count, oX8 ad s8_sums s8_g, oX9 ad s9_parts s9_rule s9_hand, aI cy (ad 25) 256 a3_wishes, aI cy (ad 26) 256 a3_givens, aJ cy (ad 27) 256 a3_sums, aJ cy (ad 29) 4 a4_sums, aJ cy (ad 30) 4 a5_coming, aI cy (ad 31) 3 a5_picked, aI cy (ad 34) 8 a7_values, aI cy (ad 35) 16 a8_a, aI cy (ad 36) 4 a8_b, aI cy (ad 37) 4 a8_e, aI cy (ad 38) 4 a8_h, aZ cy (ad 39) 16 a9_isOn, aI cy (ad 40) 16 a9_timesOn] sz)) (va_Qi (fun (r : Int32) (u : Int32 × Int32 × Int32 × Int32 × Int32 × Int32 × Int32 × (Nat → Int32) × (Nat → Int32) × (Nat → Int64) × (Nat → Int64) × (Nat → Int64) × (Nat → Int32) × (Nat → Int32) × (Nat → Int32)) => K r u.1 u.2.1 u.2.2.1 u.2.2.2.1 u.2.2.2.2.1 u.2.2.2.2.2.1 u.2.2.2.2.2.2.1 u.2.2.2.2.2.2.2.1 u.2.2.2.2.2.2.2.2.1 u.2.2.2.2.2.2.2.2.2.1 u.2.2.2.2.2.2.2.2.2.2.1 u.2.2.2.2.2.2.2.2.2.2.2.1 u.2.2.2.2.2.2.2.2.2.2.2.2.1 u.2.2.2.2.2.2.2.2.2.2.2.2.2.1 u.2.2.2.2.2.2.2.2.2.2.2.2.2.2) (fun u t => we D ((fun u : Int32 × Int32 × Int32 × Int32 × Int32 × Int32 × Int32 × (Nat → Int32) × (Nat → Int32) × (Nat → Int64) × (Nat → Int64) × (Nat → Int64) × (Nat → Int32) × (Nat → Int32) × (Nat → Int32) => [oX3 ad u.1 u.2.1, oX4 ad u.2.2.1 s4_firstBeganWith u.2.2.2.1 u.2.2.2.2.1 u.2.2.2.2.2.1, oX5 ad s5_kind s5_sums, oX7 ad s7_over s7_count, oX8 ad s8_sums s8_g, oX9 ad s9_parts s9_rule u.2.2.2.2.2.2.1, aI cy (ad 25) 256 u.2.2.2.2.2.2.2.1, aI cy (ad 26) 256 u.2.2.2.2.2.2.2.2.1, aJ cy (ad 27) 256 u.2.2.2.2.2.2.2.2.2.1, aJ cy (ad 29) 4 u.2.2.2.2.2.2.2.2.2.2.1, aJ cy (ad 30) 4 u.2.2.2.2.2.2.2.2.2.2.2.1, aI cy (ad 31) 3 u.2.2.2.2.2.2.2.2.2.2.2.2.1, aI cy (ad 34) 8 a7_values, aI cy (ad 35) 16 a8_a, aI cy (ad 36) 4 a8_b, aI cy (ad 37) 4 a8_e, aI cy (ad 38) 4 a8_h, aZ cy (ad 39) 16 u.2.2.2.2.2.2.2.2.2.2.2.2.2.1, aI cy (ad 40) 16 u.2.2.2.2.2.2.2.2.2.2.2.2.2.2]) u) (va_A [oX3 ad s3_next s3_kept, oX4 ad s4_ticks s4_firstBeganWith s4_secondBefore s4_thirdBefore s4_thirdTwoBefore, oX5 ad s5_kind s5_sums, oX7 ad s7_over s7_count, oX8 ad s8_sums s8_g, oX9 ad s9_parts s9_rule s9_hand, aI cy (ad 25) 256 a3_wishes, aI cy (ad 26) 256 a3_givens, aJ cy (ad 27) 256 a3_sums, aJ cy (ad 29) 4 a4_sums, aJ cy (ad 30) 4 a5_coming, aI cy (ad 31) 3 a5_picked, aI cy (ad 34) 8 a7_values, aI cy (ad 35) 16 a8_a, aI cy (ad 36) 4 a8_b, aI cy (ad 37) 4 a8_e, aI cy (ad 38) 4 a8_h, aZ cy (ad 39) 16 a9_isOn, aI cy (ad 40) 16 a9_timesOn] sz) t) (va_A [oX3 ad s3_next s3_kept, oX4 ad s4_ticks s4_firstBeganWith s4_secondBefore s4_thirdBefore s4_thirdTwoBefore, oX5 ad s5_kind s5_sums, oX7 ad s7_over s7_count, oX8 ad s8_sums s8_g, oX9 ad s9_parts s9_rule s9_hand, aI cy (ad 25) 256 a3_wishes, aI cy (ad 26) 256 a3_givens, aJ cy (ad 27) 256 a3_sums, aJ cy (ad 29) 4 a4_sums, aJ cy (ad 30) 4 a5_coming, aI cy (ad 31) 3 a5_picked, aI cy (ad 34) 8 a7_values, aI cy (ad 35) 16 a8_a, aI cy (ad 36) 4 a8_b, aI cy (ad 37) 4 a8_e, aI cy (ad 38) 4 a8_h, aZ cy (ad 39) 16 a9_isOn, aI cy (ad 40) 16 a9_timesOn] sz)) 0 0 (va_A [oX3 ad s3_next s3_kept, oX4 ad s4_ticks s4_firstBeganWith s4_secondBefore s4_thirdBefore s4_thirdTwoBefore, oX5 ad s5_kind s5_sums, oX7 ad s7_over s7_count, oX8 ad s8_sums s8_g, oX9 ad s9_parts s9_rule s9_hand, aI cy (ad 25) 256 a3_wishes, aI cy (ad 26) 256 a3_givens, aJ cy (ad 27) 256 a3_sums, aJ cy (ad 29) 4 a4_sums, aJ cy (ad 30) 4 a5_coming, aI cy (ad 31) 3 a5_picked, aI cy (ad 34) 8 a7_values, aI cy (ad 35) 16 a8_a, aI cy (ad 36) 4 a8_b, aI cy (ad 37) 4 a8_e, aI cy (ad 38) 4 a8_h, aZ cy (ad 39) 16 a9_isOn, aI cy (ad 40) 16 a9_timesOn] sz) := by
  refine k_ofW (cc := cX4_turn) (maxL := 3) (ret := (some .int)) (fun A => va_Qi (fun (r : Int32) (u : Int32 × Int32 × Int32 × Int32 × Int32 × Int32 × Int32 × (Nat → Int32) × (Nat → Int32) × (Nat → Int64) × (Nat → Int64) × (Nat → Int64) × (Nat → Int32) × (Nat → Int32) × (Nat → Int32)) => K r u.1 u.2.1 u.2.2.1 u.2.2.2.1 u.2.2.2.2.1 u.2.2.2.2.2.1 u.2.2.2.2.2.2.1 u.2.2.2.2.2.2.2.1 u.2.2.2.2.2.2.2.2.1 u.2.2.2.2.2.2.2.2.2.1 u.2.2.2.2.2.2.2.2.2.2.1 u.2.2.2.2.2.2.2.2.2.2.2.1 u.2.2.2.2.2.2.2.2.2.2.2.2.1 u.2.2.2.2.2.2.2.2.2.2.2.2.2.1 u.2.2.2.2.2.2.2.2.2.2.2.2.2.2) (fun u t => we D ((fun u : Int32 × Int32 × Int32 × Int32 × Int32 × Int32 × Int32 × (Nat → Int32) × (Nat → Int32) × (Nat → Int64) × (Nat → Int64) × (Nat → Int64) × (Nat → Int32) × (Nat → Int32) × (Nat → Int32) => [oX3 ad u.1 u.2.1, oX4 ad u.2.2.1 s4_firstBeganWith u.2.2.2.1 u.2.2.2.2.1 u.2.2.2.2.2.1, oX5 ad s5_kind s5_sums, oX7 ad s7_over s7_count, oX8 ad s8_sums s8_g, oX9 ad s9_parts s9_rule u.2.2.2.2.2.2.1, aI cy (ad 25) 256 u.2.2.2.2.2.2.2.1, aI cy (ad 26) 256 u.2.2.2.2.2.2.2.2.1, aJ cy (ad 27) 256 u.2.2.2.2.2.2.2.2.2.1, aJ cy (ad 29) 4 u.2.2.2.2.2.2.2.2.2.2.1, aJ cy (ad 30) 4 u.2.2.2.2.2.2.2.2.2.2.2.1, aI cy (ad 31) 3 u.2.2.2.2.2.2.2.2.2.2.2.2.1, aI cy (ad 34) 8 a7_values, aI cy (ad 35) 16 a8_a, aI cy (ad 36) 4 a8_b, aI cy (ad 37) 4 a8_e, aI cy (ad 38) 4 a8_h, aZ cy (ad 39) 16 u.2.2.2.2.2.2.2.2.2.2.2.2.2.1, aI cy (ad 40) 16 u.2.2.2.2.2.2.2.2.2.2.2.2.2.2]) u) A t) A) (by decide) rfl (Nat.le_of_ble_eq_true rfl) ?_
  intro p e s m below meth c A ls H locs hx hb hml hr hts hown hlocks hname hK hN hA hP hD hS hl
  have hl : lv_has ls 3 [(0, .ref (ad 4)), (1, .int x1)] := hl
  generalize hQ : MQ below _ _ s _ _ A = Q
  unfold v_X4_turn at hv
  refine lv_aload_n hx hb dX4_turn_0 rfl (lv_at hl 0 rfl) ?_
  refine va_get (D := D) (ci := 4) (v := .ref (ad 5)) (C := RX4) (T := TX4) (N := 9) hx hb hts in_X4_turn_4 hown hK hP 1 rfl rfl 0 (by decide) (hts _ lk_X4_turn_34) (fun _ h9 => h9) rfl dX4_turn_1 ?_
  refine lv_aload_n hx hb dX4_turn_4 rfl (lv_at hl 0 rfl) ?_
  refine va_get (D := D) (ci := 4) (v := .ref (ad 29)) (C := RX4) (T := TX4) (N := 9) hx hb hts in_X4_turn_4 hown hK hP 1 rfl rfl 3 (by decide) (hts _ lk_X4_turn_25) (fun _ h9 => h9) rfl dX4_turn_5 ?_
  refine lv_iload_n hx hb dX4_turn_8 rfl (lv_at hl 1 rfl) ?_
  have hPc := hP.sub (ws' := [oX5 ad s5_kind s5_sums, oX7 ad s7_over s7_count, oX8 ad s8_sums s8_g, aJ cy (ad 30) 4 a5_coming, aI cy (ad 31) 3 a5_picked, aI cy (ad 34) 8 a7_values, aI cy (ad 35) 16 a8_a, aI cy (ad 36) 4 a8_b, aI cy (ad 37) 4 a8_e, aI cy (ad 38) 4 a8_h, aJ cy (ad 29) 4 a4_sums]) [2, 3, 4, 10, 11, 12, 13, 14, 15, 16, 9] rfl
  have hDc := hD.sub (ws' := [oX5 ad s5_kind s5_sums, oX7 ad s7_over s7_count, oX8 ad s8_sums s8_g, aJ cy (ad 30) 4 a5_coming, aI cy (ad 31) 3 a5_picked, aI cy (ad 34) 8 a7_values, aI cy (ad 35) 16 a8_a, aI cy (ad 36) 4 a8_b, aI cy (ad 37) 4 a8_e, aI cy (ad 38) 4 a8_h, aJ cy (ad 29) 4 a4_sums]) [2, 3, 4, 10, 11, 12, 13, 14, 15, 16, 9] (by decide) rfl
  refine k_cali (wc := [oX5 ad s5_kind s5_sums, oX7 ad s7_over s7_count, oX8 ad s8_sums s8_g, aJ cy (ad 30) 4 a5_coming, aI cy (ad 31) 3 a5_picked, aI cy (ad 34) 8 a7_values, aI cy (ad 35) 16 a8_a, aI cy (ad 36) 4 a8_b, aI cy (ad 37) 4 a8_e, aI cy (ad 38) 4 a8_h, aJ cy (ad 29) 4 a4_sums]) (wr := [oX3 ad s3_next s3_kept, oX4 ad s4_ticks s4_firstBeganWith s4_secondBefore s4_thirdBefore s4_thirdTwoBefore, oX9 ad s9_parts s9_rule s9_hand, aI cy (ad 25) 256 a3_wishes, aI cy (ad 26) 256 a3_givens, aJ cy (ad 27) 256 a3_sums, aZ cy (ad 39) 16 a9_isOn, aI cy (ad 40) 16 a9_timesOn]) (va_runV (As := [.ref (ad 29), .int x1]) (rest := []) ⟨hx, hb, hml, hown, hts⟩ (m_X5_advance l D cy ad s5_kind s5_sums s7_over s7_count s8_sums s8_g a5_coming a5_picked a7_values a8_a a8_b a8_e a8_h a4_sums (ad 29) x1 H.size hv) (cwV 2 hts gX4_turn_X5_advance rfl rfl rfl (by decide +kernel) ⟨Nat.le_of_ble_eq_true rfl, Nat.le_of_ble_eq_true rfl⟩) ⟨wd_blind, va_recv hK hPc (ci := 5) (q0 := 0) rfl rfl, wd_ok hPc hK hDc hN⟩ rfl rfl hl.1 rfl (lv_room (Nat.le_of_ble_eq_true rfl)) dX4_turn_9 ⟨Nat.le_of_ble_eq_true rfl, Nat.le_of_ble_eq_true rfl⟩) hP hD hS hA [2, 3, 4, 10, 11, 12, 13, 14, 15, 16, 9] [0, 1, 5, 6, 7, 8, 17, 18] rfl rfl (by decide) (by decide) (fun r1 u H locs hv hP hD hS => ?_)
  obtain ⟨a5_coming_2, a5_picked_3, a4_sums_4⟩ := u
  obtain ⟨hz_r1, hv⟩ := hv
  have hP : va_P D vwCl [oX3 ad s3_next s3_kept, oX4 ad s4_ticks s4_firstBeganWith s4_secondBefore s4_thirdBefore s4_thirdTwoBefore, oX5 ad s5_kind s5_sums, oX7 ad s7_over s7_count, oX8 ad s8_sums s8_g, oX9 ad s9_parts s9_rule s9_hand, aI cy (ad 25) 256 a3_wishes, aI cy (ad 26) 256 a3_givens, aJ cy (ad 27) 256 a3_sums, aJ cy (ad 29) 4 a4_sums_4, aJ cy (ad 30) 4 a5_coming_2, aI cy (ad 31) 3 a5_picked_3, aI cy (ad 34) 8 a7_values, aI cy (ad 35) 16 a8_a, aI cy (ad 36) 4 a8_b, aI cy (ad 37) 4 a8_e, aI cy (ad 38) 4 a8_h, aZ cy (ad 39) 16 a9_isOn, aI cy (ad 40) 16 a9_timesOn] H := hP.sub [0, 1, 8, 9, 10, 2, 3, 4, 5, 18, 11, 12, 13, 14, 15, 16, 17, 6, 7] rfl
  have hD : va_D A [oX3 ad s3_next s3_kept, oX4 ad s4_ticks s4_firstBeganWith s4_secondBefore s4_thirdBefore s4_thirdTwoBefore, oX5 ad s5_kind s5_sums, oX7 ad s7_over s7_count, oX8 ad s8_sums s8_g, oX9 ad s9_parts s9_rule s9_hand, aI cy (ad 25) 256 a3_wishes, aI cy (ad 26) 256 a3_givens, aJ cy (ad 27) 256 a3_sums, aJ cy (ad 29) 4 a4_sums_4, aJ cy (ad 30) 4 a5_coming_2, aI cy (ad 31) 3 a5_picked_3, aI cy (ad 34) 8 a7_values, aI cy (ad 35) 16 a8_a, aI cy (ad 36) 4 a8_b, aI cy (ad 37) 4 a8_e, aI cy (ad 38) 4 a8_h, aZ cy (ad 39) 16 a9_isOn, aI cy (ad 40) 16 a9_timesOn] := hD.sub [0, 1, 8, 9, 10, 2, 3, 4, 5, 18, 11, 12, 13, 14, 15, 16, 17, 6, 7] (by decide) rfl
  refine lv_if_ne (tgt := 18) hx hb dX4_turn_12 (by decide) (fun c_12 => ?_) (fun c_12 => ?_)
  · have hv := hv.1 c_12
    refine lv_aload_n hx hb dX4_turn_18 rfl (lv_at hl 0 rfl) ?_
    refine va_get (D := D) (ci := 4) (v := .ref (ad 5)) (C := RX4) (T := TX4) (N := 9) hx hb hts in_X4_turn_4 hown hK hP 1 rfl rfl 0 (by decide) (hts _ lk_X4_turn_34) (fun _ h9 => h9) rfl dX4_turn_19 ?_
    refine va_getN (D := D) (ci := 5) (v := .int s5_kind) (C := RX5) (T := TX5) (N := 6) hx hb hts in_X4_turn_5 hown hK hP 2 rfl rfl 4 (by decide) (nz_use hN nzf_X4_72) (fun _ h9 => h9) rfl dX4_turn_22 ?_
    refine lv_iconst (v := 3) hx hb dX4_turn_25 (by decide) ?_
    have jn45 : ∀ (t5 : Int32) (s4_secondBefore_6 : Int32) (s4_thirdBefore_7 : Int32) (s4_thirdTwoBefore_8 : Int32) (H : Heap) (locs : List Loc) (ls : Array Slot), vJ_X4_turn_45 s3_next s3_kept s4_ticks s9_parts s9_rule s9_hand a3_wishes a3_givens a3_sums a9_isOn a9_timesOn x1 K a5_coming_2 a5_picked_3 a4_sums_4 t5 s4_secondBefore_6 s4_thirdBefore_7 s4_thirdTwoBefore_8 → lv_has ls 3 [(0, .ref (ad 4)), (1, .int x1)] → va_P D vwCl [oX3 ad s3_next s3_kept, oX4 ad s4_ticks s4_firstBeganWith s4_secondBefore_6 s4_thirdBefore_7 s4_thirdTwoBefore_8, oX5 ad s5_kind s5_sums, oX7 ad s7_over s7_count, oX8 ad s8_sums s8_g, oX9 ad s9_parts s9_rule s9_hand, aI cy (ad 25) 256 a3_wishes, aI cy (ad 26) 256 a3_givens, aJ cy (ad 27) 256 a3_sums, aJ cy (ad 29) 4 a4_sums_4, aJ cy (ad 30) 4 a5_coming_2, aI cy (ad 31) 3 a5_picked_3, aI cy (ad 34) 8 a7_values, aI cy (ad 35) 16 a8_a, aI cy (ad 36) 4 a8_b, aI cy (ad 37) 4 a8_e, aI cy (ad 38) 4 a8_h, aZ cy (ad 39) 16 a9_isOn, aI cy (ad 40) 16 a9_timesOn] H → va_D A [oX3 ad s3_next s3_kept, oX4 ad s4_ticks s4_firstBeganWith s4_secondBefore_6 s4_thirdBefore_7 s4_thirdTwoBefore_8, oX5 ad s5_kind s5_sums, oX7 ad s7_over s7_count, oX8 ad s8_sums s8_g, oX9 ad s9_parts s9_rule s9_hand, aI cy (ad 25) 256 a3_wishes, aI cy (ad 26) 256 a3_givens, aJ cy (ad 27) 256 a3_sums, aJ cy (ad 29) 4 a4_sums_4, aJ cy (ad 30) 4 a5_coming_2, aI cy (ad 31) 3 a5_picked_3, aI cy (ad 34) 8 a7_values, aI cy (ad 35) 16 a8_a, aI cy (ad 36) 4 a8_b, aI cy (ad 37) 4 a8_e, aI cy (ad 38) 4 a8_h, aZ cy (ad 39) 16 a9_isOn, aI cy (ad 40) 16 a9_timesOn] → va_S A s.heap H locs → W p l e rm_X4_turn s m ([.ref (ad 4), .int x1] : List Value).toArray below meth c H locs 0 0 Q (F0 m 45 ls [.int t5]) := by
      intro t5 s4_secondBefore_6 s4_thirdBefore_7 s4_thirdTwoBefore_8 H locs ls hv hl hP hD hS
      unfold vJ_X4_turn_45 at hv
      refine lv_istore_n (lv' := [(2, .int t5), (0, .ref (ad 4)), (1, .int x1)]) hx hb dX4_turn_45 rfl hl (by decide) rfl (fun ls hl => ?_)
      refine lv_aload_n hx hb dX4_turn_46 rfl (lv_at hl 1 rfl) ?_
      refine lv_dup hx hb dX4_turn_47 rfl ?_
      refine va_get (D := D) (ci := 4) (v := .int s4_ticks) (C := RX4) (T := TX4) (N := 9) hx hb hts in_X4_turn_4 hown hK hP 1 rfl rfl 4 (by decide) (hts _ lk_X4_turn_46) (fun _ h9 => h9) rfl dX4_turn_48 ?_
      refine lv_iconst (v := 1) hx hb dX4_turn_51 (by decide) ?_
      refine lv_iadd hx hb dX4_turn_52 ?_
      refine lv_topi (fun e9 h_e9 => ?_)
      have hv := hv e9 h_e9
      refine va_put (D := D) (ci := 4) (v := .int e9) (ty := .int) (C := RX4) (T := TX4) (N := 9) hx hb hts in_X4_turn_4 tyX4 tyX4_ok nmX4 hown hK hP hD hS 1 rfl rfl 4 (by decide) (hts _ lk_X4_turn_46) (fun _ h9 => h9) rfl (by decide +kernel) rfl rfl (Nat.le_of_ble_eq_true rfl) dX4_turn_53 (fun H locs hP hD hS => ?_)
      have hP : va_P D vwCl [oX3 ad s3_next s3_kept, oX4 ad e9 s4_firstBeganWith s4_secondBefore_6 s4_thirdBefore_7 s4_thirdTwoBefore_8, oX5 ad s5_kind s5_sums, oX7 ad s7_over s7_count, oX8 ad s8_sums s8_g, oX9 ad s9_parts s9_rule s9_hand, aI cy (ad 25) 256 a3_wishes, aI cy (ad 26) 256 a3_givens, aJ cy (ad 27) 256 a3_sums, aJ cy (ad 29) 4 a4_sums_4, aJ cy (ad 30) 4 a5_coming_2, aI cy (ad 31) 3 a5_picked_3, aI cy (ad 34) 8 a7_values, aI cy (ad 35) 16 a8_a, aI cy (ad 36) 4 a8_b, aI cy (ad 37) 4 a8_e, aI cy (ad 38) 4 a8_h, aZ cy (ad 39) 16 a9_isOn, aI cy (ad 40) 16 a9_timesOn] H := hP
      have hD : va_D A [oX3 ad s3_next s3_kept, oX4 ad e9 s4_firstBeganWith s4_secondBefore_6 s4_thirdBefore_7 s4_thirdTwoBefore_8, oX5 ad s5_kind s5_sums, oX7 ad s7_over s7_count, oX8 ad s8_sums s8_g, oX9 ad s9_parts s9_rule s9_hand, aI cy (ad 25) 256 a3_wishes, aI cy (ad 26) 256 a3_givens, aJ cy (ad 27) 256 a3_sums, aJ cy (ad 29) 4 a4_sums_4, aJ cy (ad 30) 4 a5_coming_2, aI cy (ad 31) 3 a5_picked_3, aI cy (ad 34) 8 a7_values, aI cy (ad 35) 16 a8_a, aI cy (ad 36) 4 a8_b, aI cy (ad 37) 4 a8_e, aI cy (ad 38) 4 a8_h, aZ cy (ad 39) 16 a9_isOn, aI cy (ad 40) 16 a9_timesOn] := hD
      refine lv_aload_n hx hb dX4_turn_56 rfl (lv_at hl 1 rfl) ?_
      refine va_get (D := D) (ci := 4) (v := .ref (ad 3)) (C := RX4) (T := TX4) (N := 9) hx hb hts in_X4_turn_4 hown hK hP 1 rfl rfl 2 (by decide) (hts _ lk_X4_turn_21) (fun _ h9 => h9) rfl dX4_turn_57 ?_
      refine lv_iload_n hx hb dX4_turn_60 rfl (lv_at hl 2 rfl) ?_
      refine lv_iload_n hx hb dX4_turn_61 rfl (lv_at hl 0 rfl) ?_
      refine lv_aload_n hx hb dX4_turn_62 rfl (lv_at hl 1 rfl) ?_
      refine va_get (D := D) (ci := 4) (v := .ref (ad 29)) (C := RX4) (T := TX4) (N := 9) hx hb hts in_X4_turn_4 hown hK hP 1 rfl rfl 3 (by decide) (hts _ lk_X4_turn_25) (fun _ h9 => h9) rfl dX4_turn_63 ?_
      refine lv_iconst (v := 0) hx hb dX4_turn_66 (by decide) ?_
      refine va_lald hx hb hK hP 9 1 rfl rfl hv.1 dX4_turn_67 ?_
      refine lv_topl (fun g10 h_g10 => ?_)
      have hv := hv.2 g10 h_g10
      have hPc := hP.sub (ws' := [oX3 ad s3_next s3_kept, aI cy (ad 25) 256 a3_wishes, aI cy (ad 26) 256 a3_givens, aJ cy (ad 27) 256 a3_sums]) [0, 6, 7, 8] rfl
      have hDc := hD.sub (ws' := [oX3 ad s3_next s3_kept, aI cy (ad 25) 256 a3_wishes, aI cy (ad 26) 256 a3_givens, aJ cy (ad 27) 256 a3_sums]) [0, 6, 7, 8] (by decide) rfl
      refine k_calv (wc := [oX3 ad s3_next s3_kept, aI cy (ad 25) 256 a3_wishes, aI cy (ad 26) 256 a3_givens, aJ cy (ad 27) 256 a3_sums]) (wr := [oX4 ad e9 s4_firstBeganWith s4_secondBefore_6 s4_thirdBefore_7 s4_thirdTwoBefore_8, oX5 ad s5_kind s5_sums, oX7 ad s7_over s7_count, oX8 ad s8_sums s8_g, oX9 ad s9_parts s9_rule s9_hand, aJ cy (ad 29) 4 a4_sums_4, aJ cy (ad 30) 4 a5_coming_2, aI cy (ad 31) 3 a5_picked_3, aI cy (ad 34) 8 a7_values, aI cy (ad 35) 16 a8_a, aI cy (ad 36) 4 a8_b, aI cy (ad 37) 4 a8_e, aI cy (ad 38) 4 a8_h, aZ cy (ad 39) 16 a9_isOn, aI cy (ad 40) 16 a9_timesOn]) (va_runV (As := [.int x1, .int t5, .long g10]) (rest := []) ⟨hx, hb, hml, hown, hts⟩ (m_X3_note l D cy ad s3_next s3_kept a3_wishes a3_givens a3_sums x1 t5 g10 H.size hv) (cwV 3 hts gX4_turn_X3_note rfl rfl rfl (by decide +kernel) ⟨Nat.le_of_ble_eq_true rfl, Nat.le_of_ble_eq_true rfl⟩) ⟨wd_blind, va_recv hK hPc (ci := 3) (q0 := 0) rfl rfl, wd_ok hPc hK hDc hN⟩ rfl rfl hl.1 rfl (lv_room (Nat.le_of_ble_eq_true rfl)) dX4_turn_68 ⟨Nat.le_of_ble_eq_true rfl, Nat.le_of_ble_eq_true rfl⟩) hP hD hS hA [0, 6, 7, 8] [1, 2, 3, 4, 5, 9, 10, 11, 12, 13, 14, 15, 16, 17, 18] rfl rfl (by decide) (by decide) (fun u H locs hv hP hD hS => ?_)
      obtain ⟨s3_next_11, s3_kept_12, a3_wishes_13, a3_givens_14, a3_sums_15⟩ := u
      have hP : va_P D vwCl [oX3 ad s3_next_11 s3_kept_12, oX4 ad e9 s4_firstBeganWith s4_secondBefore_6 s4_thirdBefore_7 s4_thirdTwoBefore_8, oX5 ad s5_kind s5_sums, oX7 ad s7_over s7_count, oX8 ad s8_sums s8_g, oX9 ad s9_parts s9_rule s9_hand, aI cy (ad 25) 256 a3_wishes_13, aI cy (ad 26) 256 a3_givens_14, aJ cy (ad 27) 256 a3_sums_15, aJ cy (ad 29) 4 a4_sums_4, aJ cy (ad 30) 4 a5_coming_2, aI cy (ad 31) 3 a5_picked_3, aI cy (ad 34) 8 a7_values, aI cy (ad 35) 16 a8_a, aI cy (ad 36) 4 a8_b, aI cy (ad 37) 4 a8_e, aI cy (ad 38) 4 a8_h, aZ cy (ad 39) 16 a9_isOn, aI cy (ad 40) 16 a9_timesOn] H := hP.sub [15, 0, 1, 2, 3, 4, 16, 17, 18, 5, 6, 7, 8, 9, 10, 11, 12, 13, 14] rfl
      have hD : va_D A [oX3 ad s3_next_11 s3_kept_12, oX4 ad e9 s4_firstBeganWith s4_secondBefore_6 s4_thirdBefore_7 s4_thirdTwoBefore_8, oX5 ad s5_kind s5_sums, oX7 ad s7_over s7_count, oX8 ad s8_sums s8_g, oX9 ad s9_parts s9_rule s9_hand, aI cy (ad 25) 256 a3_wishes_13, aI cy (ad 26) 256 a3_givens_14, aJ cy (ad 27) 256 a3_sums_15, aJ cy (ad 29) 4 a4_sums_4, aJ cy (ad 30) 4 a5_coming_2, aI cy (ad 31) 3 a5_picked_3, aI cy (ad 34) 8 a7_values, aI cy (ad 35) 16 a8_a, aI cy (ad 36) 4 a8_b, aI cy (ad 37) 4 a8_e, aI cy (ad 38) 4 a8_h, aZ cy (ad 39) 16 a9_isOn, aI cy (ad 40) 16 a9_timesOn] := hD.sub [15, 0, 1, 2, 3, 4, 16, 17, 18, 5, 6, 7, 8, 9, 10, 11, 12, 13, 14] (by decide) rfl
      refine lv_aload_n hx hb dX4_turn_71 rfl (lv_at hl 1 rfl) ?_
      refine va_get (D := D) (ci := 4) (v := .ref (ad 9)) (C := RX4) (T := TX4) (N := 9) hx hb hts in_X4_turn_4 hown hK hP 1 rfl rfl 1 (by decide) (hts _ lk_X4_turn_12) (fun _ h9 => h9) rfl dX4_turn_72 ?_
      refine lv_iload_n hx hb dX4_turn_75 rfl (lv_at hl 0 rfl) ?_
      have hPc := hP.sub (ws' := [oX9 ad s9_parts s9_rule s9_hand, aZ cy (ad 39) 16 a9_isOn, aI cy (ad 40) 16 a9_timesOn]) [5, 17, 18] rfl
      have hDc := hD.sub (ws' := [oX9 ad s9_parts s9_rule s9_hand, aZ cy (ad 39) 16 a9_isOn, aI cy (ad 40) 16 a9_timesOn]) [5, 17, 18] (by decide) rfl
      refine k_calv (wc := [oX9 ad s9_parts s9_rule s9_hand, aZ cy (ad 39) 16 a9_isOn, aI cy (ad 40) 16 a9_timesOn]) (wr := [oX3 ad s3_next_11 s3_kept_12, oX4 ad e9 s4_firstBeganWith s4_secondBefore_6 s4_thirdBefore_7 s4_thirdTwoBefore_8, oX5 ad s5_kind s5_sums, oX7 ad s7_over s7_count, oX8 ad s8_sums s8_g, aI cy (ad 25) 256 a3_wishes_13, aI cy (ad 26) 256 a3_givens_14, aJ cy (ad 27) 256 a3_sums_15, aJ cy (ad 29) 4 a4_sums_4, aJ cy (ad 30) 4 a5_coming_2, aI cy (ad 31) 3 a5_picked_3, aI cy (ad 34) 8 a7_values, aI cy (ad 35) 16 a8_a, aI cy (ad 36) 4 a8_b, aI cy (ad 37) 4 a8_e, aI cy (ad 38) 4 a8_h]) (va_runV (As := [.int t5]) (rest := []) ⟨hx, hb, hml, hown, hts⟩ (m_X9_turn l D cy ad s9_parts s9_rule s9_hand a9_isOn a9_timesOn t5 H.size hv) (cwV 1 hts gX4_turn_X9_turn rfl rfl rfl (by decide +kernel) ⟨Nat.le_of_ble_eq_true rfl, Nat.le_of_ble_eq_true rfl⟩) ⟨wd_blind, va_recv hK hPc (ci := 9) (q0 := 0) rfl rfl, wd_ok hPc hK hDc hN⟩ rfl rfl hl.1 rfl (lv_room (Nat.le_of_ble_eq_true rfl)) dX4_turn_76 ⟨Nat.le_of_ble_eq_true rfl, Nat.le_of_ble_eq_true rfl⟩) hP hD hS hA [5, 17, 18] [0, 1, 2, 3, 4, 6, 7, 8, 9, 10, 11, 12, 13, 14, 15, 16] rfl rfl (by decide) (by decide) (fun u H locs hv hP hD hS => ?_)
      obtain ⟨s9_hand_16, a9_isOn_17, a9_timesOn_18⟩ := u
      have hP : va_P D vwCl [oX3 ad s3_next_11 s3_kept_12, oX4 ad e9 s4_firstBeganWith s4_secondBefore_6 s4_thirdBefore_7 s4_thirdTwoBefore_8, oX5 ad s5_kind s5_sums, oX7 ad s7_over s7_count, oX8 ad s8_sums s8_g, oX9 ad s9_parts s9_rule s9_hand_16, aI cy (ad 25) 256 a3_wishes_13, aI cy (ad 26) 256 a3_givens_14, aJ cy (ad 27) 256 a3_sums_15, aJ cy (ad 29) 4 a4_sums_4, aJ cy (ad 30) 4 a5_coming_2, aI cy (ad 31) 3 a5_picked_3, aI cy (ad 34) 8 a7_values, aI cy (ad 35) 16 a8_a, aI cy (ad 36) 4 a8_b, aI cy (ad 37) 4 a8_e, aI cy (ad 38) 4 a8_h, aZ cy (ad 39) 16 a9_isOn_17, aI cy (ad 40) 16 a9_timesOn_18] H := hP.sub [0, 1, 2, 3, 4, 16, 5, 6, 7, 8, 9, 10, 11, 12, 13, 14, 15, 17, 18] rfl
      have hD : va_D A [oX3 ad s3_next_11 s3_kept_12, oX4 ad e9 s4_firstBeganWith s4_secondBefore_6 s4_thirdBefore_7 s4_thirdTwoBefore_8, oX5 ad s5_kind s5_sums, oX7 ad s7_over s7_count, oX8 ad s8_sums s8_g, oX9 ad s9_parts s9_rule s9_hand_16, aI cy (ad 25) 256 a3_wishes_13, aI cy (ad 26) 256 a3_givens_14, aJ cy (ad 27) 256 a3_sums_15, aJ cy (ad 29) 4 a4_sums_4, aJ cy (ad 30) 4 a5_coming_2, aI cy (ad 31) 3 a5_picked_3, aI cy (ad 34) 8 a7_values, aI cy (ad 35) 16 a8_a, aI cy (ad 36) 4 a8_b, aI cy (ad 37) 4 a8_e, aI cy (ad 38) 4 a8_h, aZ cy (ad 39) 16 a9_isOn_17, aI cy (ad 40) 16 a9_timesOn_18] := hD.sub [0, 1, 2, 3, 4, 16, 5, 6, 7, 8, 9, 10, 11, 12, 13, 14, 15, 17, 18] (by decide) rfl
      refine lv_iload_n hx hb dX4_turn_79 rfl (lv_at hl 0 rfl) ?_
      rw [← hQ]
      exact k_iret hx hb hr hlocks hS (s3_next_11, s3_kept_12, e9, s4_secondBefore_6, s4_thirdBefore_7, s4_thirdTwoBefore_8, s9_hand_16, a3_wishes_13, a3_givens_14, a3_sums_15, a4_sums_4, a5_coming_2, a5_picked_3, a9_isOn_17, a9_timesOn_18) hP hD hv dX4_turn_80
    refine lv_icmp_ne (tgt := 36) hx hb dX4_turn_26 (by decide) (fun c_26 => ?_) (fun c_26 => ?_)
    · have hv := hv.1 c_26
      refine lv_aload_n hx hb dX4_turn_36 rfl (lv_at hl 0 rfl) ?_
      refine va_get (D := D) (ci := 4) (v := .ref (ad 5)) (C := RX4) (T := TX4) (N := 9) hx hb hts in_X4_turn_4 hown hK hP 1 rfl rfl 0 (by decide) (hts _ lk_X4_turn_34) (fun _ h9 => h9) rfl dX4_turn_37 ?_
      refine va_getN (D := D) (ci := 5) (v := .ref (ad 31)) (C := RX5) (T := TX5) (N := 6) hx hb hts in_X4_turn_5 hown hK hP 2 rfl rfl 3 (by decide) (nz_use hN nzf_X4_79) (fun _ h9 => h9) rfl dX4_turn_40 ?_
      refine lv_iconst (v := 0) hx hb dX4_turn_43 (by decide) ?_
      refine va_iald hx hb hK hP 11 0 rfl rfl hv.1 dX4_turn_44 ?_
      refine lv_topi (fun g19 h_g19 => ?_)
      have hv := hv.2 g19 h_g19
      exact jn45 g19 s4_secondBefore s4_thirdBefore s4_thirdTwoBefore H locs ls hv (lv_sub hl [0, 1] rfl) hP hD hS
    · have hv := hv.2 c_26
      refine lv_aload_n hx hb dX4_turn_29 rfl (lv_at hl 0 rfl) ?_
      have hPc := hP.sub (ws' := [oX4 ad s4_ticks s4_firstBeganWith s4_secondBefore s4_thirdBefore s4_thirdTwoBefore, oX5 ad s5_kind s5_sums, aI cy (ad 31) 3 a5_picked_3]) [1, 2, 11] rfl
      have hDc := hD.sub (ws' := [oX4 ad s4_ticks s4_firstBeganWith s4_secondBefore s4_thirdBefore s4_thirdTwoBefore, oX5 ad s5_kind s5_sums, aI cy (ad 31) 3 a5_picked_3]) [1, 2, 11] (by decide) rfl
      refine k_cali (wc := [oX4 ad s4_ticks s4_firstBeganWith s4_secondBefore s4_thirdBefore s4_thirdTwoBefore, oX5 ad s5_kind s5_sums, aI cy (ad 31) 3 a5_picked_3]) (wr := [oX3 ad s3_next s3_kept, oX7 ad s7_over s7_count, oX8 ad s8_sums s8_g, oX9 ad s9_parts s9_rule s9_hand, aI cy (ad 25) 256 a3_wishes, aI cy (ad 26) 256 a3_givens, aJ cy (ad 27) 256 a3_sums, aJ cy (ad 29) 4 a4_sums_4, aJ cy (ad 30) 4 a5_coming_2, aI cy (ad 34) 8 a7_values, aI cy (ad 35) 16 a8_a, aI cy (ad 36) 4 a8_b, aI cy (ad 37) 4 a8_e, aI cy (ad 38) 4 a8_h, aZ cy (ad 39) 16 a9_isOn, aI cy (ad 40) 16 a9_timesOn]) (va_runV (As := []) (rest := []) ⟨hx, hb, hml, hown, hts⟩ (m_X4_giveOfRow l D cy ad s4_ticks s4_firstBeganWith s4_secondBefore s4_thirdBefore s4_thirdTwoBefore s5_kind s5_sums a5_picked_3 H.size hv) (cwV 0 hts gX4_turn_X4_giveOfRow rfl rfl rfl (by decide +kernel) ⟨Nat.le_of_ble_eq_true rfl, Nat.le_of_ble_eq_true rfl⟩) ⟨wd_blind, va_recv hK hPc (ci := 4) (q0 := 0) rfl rfl, wd_ok hPc hK hDc hN⟩ rfl rfl hl.1 rfl (lv_room (Nat.le_of_ble_eq_true rfl)) dX4_turn_30 ⟨Nat.le_of_ble_eq_true rfl, Nat.le_of_ble_eq_true rfl⟩) hP hD hS hA [1, 2, 11] [0, 3, 4, 5, 6, 7, 8, 9, 10, 12, 13, 14, 15, 16, 17, 18] rfl rfl (by decide) (by decide) (fun r20 u H locs hv hP hD hS => ?_)
      obtain ⟨s4_secondBefore_21, s4_thirdBefore_22, s4_thirdTwoBefore_23⟩ := u
      have hP : va_P D vwCl [oX3 ad s3_next s3_kept, oX4 ad s4_ticks s4_firstBeganWith s4_secondBefore_21 s4_thirdBefore_22 s4_thirdTwoBefore_23, oX5 ad s5_kind s5_sums, oX7 ad s7_over s7_count, oX8 ad s8_sums s8_g, oX9 ad s9_parts s9_rule s9_hand, aI cy (ad 25) 256 a3_wishes, aI cy (ad 26) 256 a3_givens, aJ cy (ad 27) 256 a3_sums, aJ cy (ad 29) 4 a4_sums_4, aJ cy (ad 30) 4 a5_coming_2, aI cy (ad 31) 3 a5_picked_3, aI cy (ad 34) 8 a7_values, aI cy (ad 35) 16 a8_a, aI cy (ad 36) 4 a8_b, aI cy (ad 37) 4 a8_e, aI cy (ad 38) 4 a8_h, aZ cy (ad 39) 16 a9_isOn, aI cy (ad 40) 16 a9_timesOn] H := hP.sub [0, 16, 17, 1, 2, 3, 4, 5, 6, 7, 8, 18, 9, 10, 11, 12, 13, 14, 15] rfl
      have hD : va_D A [oX3 ad s3_next s3_kept, oX4 ad s4_ticks s4_firstBeganWith s4_secondBefore_21 s4_thirdBefore_22 s4_thirdTwoBefore_23, oX5 ad s5_kind s5_sums, oX7 ad s7_over s7_count, oX8 ad s8_sums s8_g, oX9 ad s9_parts s9_rule s9_hand, aI cy (ad 25) 256 a3_wishes, aI cy (ad 26) 256 a3_givens, aJ cy (ad 27) 256 a3_sums, aJ cy (ad 29) 4 a4_sums_4, aJ cy (ad 30) 4 a5_coming_2, aI cy (ad 31) 3 a5_picked_3, aI cy (ad 34) 8 a7_values, aI cy (ad 35) 16 a8_a, aI cy (ad 36) 4 a8_b, aI cy (ad 37) 4 a8_e, aI cy (ad 38) 4 a8_h, aZ cy (ad 39) 16 a9_isOn, aI cy (ad 40) 16 a9_timesOn] := hD.sub [0, 16, 17, 1, 2, 3, 4, 5, 6, 7, 8, 18, 9, 10, 11, 12, 13, 14, 15] (by decide) rfl
      refine lv_goto (tgt := 45) hx hb dX4_turn_33 (by decide) ?_
      exact jn45 r20 s4_secondBefore_21 s4_thirdBefore_22 s4_thirdTwoBefore_23 H locs ls hv (lv_sub hl [0, 1] rfl) hP hD hS
  · have hv := hv.2 c_12
    refine lv_ldc hx hb hown (hts _ lk_X4_turn_71) dX4_turn_15 ?_
    rw [← hQ]
    exact k_iret hx hb hr hlocks hS (s3_next, s3_kept, s4_ticks, s4_secondBefore, s4_thirdBefore, s4_thirdTwoBefore, s9_hand, a3_wishes, a3_givens, a3_sums, a4_sums_4, a5_coming_2, a5_picked_3, a9_isOn, a9_timesOn) hP hD hv dX4_turn_17
