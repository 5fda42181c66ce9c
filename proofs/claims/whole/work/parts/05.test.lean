theorem lk_X7_placeFor_15 : Cond.fieldLink RX7 15 "CoarseSteps$Scale" "count" "I" ∈ wsX7_placeFor := by decide +kernel
theorem in_X7_placeFor_7 : ∀ w ∈ wsX70, w ∈ wsX7_placeFor := by decide +kernel
theorem lk_X7_placeFor_18 : Cond.fieldLink RX7 18 "CoarseSteps$Scale" "values" "[I" ∈ wsX7_placeFor := by decide +kernel
theorem lk_X7_placeFor_9 : Cond.fieldLink RX7 9 "CoarseSteps$Scale" "over" "I" ∈ wsX7_placeFor := by decide +kernel
abbrev rm_X7_placeFor : Room := { frames := 0, cells := 0, slots := 0, locals := 0 }
set_option maxHeartbeats 4000000 in
set_option maxRecDepth 100000 in
theorem m_X7_placeFor (l : Launch) (D : va_G) (cy : ClassId × ClassId × ClassId) (ad : Nat → Nat) (s7_over : Int32) (s7_count : Int32) (a7_values : Nat → Int32) (x1 : Int64) (sz : Nat) {K : Int32 → Prop} (hv : v_X7_placeFor s7_over s7_count a7_values x1 K) : Met l yX7_placeFor wsX7_placeFor rm_X7_placeFor (va_Pc [.ref (ad 7), .long x1] (wd D cy [oX7 ad s7_over s7_count, aI cy (ad 34) 8 a7_values] sz)) (va_Qi (fun (r : Int32) (u : Unit) => K r) (fun u t => we D ((fun u : Unit => [oX7 ad s7_over s7_count, aI cy (ad 34) 8 a7_values]) u) (va_A [oX7 ad s7_over s7_count, aI cy (ad 34) 8 a7_values] sz) t) (va_A [oX7 ad s7_over s7_count, aI cy (ad 34) 8 a7_values] sz)) 0 0 (va_A [oX7 ad s7_over s7_count, aI cy (ad 34) 8 a7_values] sz) := by
  refine k_ofW (cc := cX7_placeFor) (maxL := 4) (ret := (some .int)) (fun A => va_Qi (fun (r : Int32) (u : Unit) => K r) (fun u t => we D ((fun u : Unit => [oX7 ad s7_over s7_count, aI cy (ad 34) 8 a7_values]) u) A t) A) (by decide) rfl (Nat.le_of_ble_eq_true rfl) ?_
  intro p e s m below meth c A ls hx hb hml hr hts hown hlocks hname hK hN hA hP hD hS hl
  have hl : lv_has ls 4 [(0, .ref (ad 7)), (1, .long x1)] := hl
  generalize hQ : MQ below _ _ s _ _ A = Q
  unfold v_X7_placeFor at hv
  refine lv_aload_n hx hb dX7_placeFor_0 rfl (lv_at hl 0 rfl) ?_
  refine va_get (D := D) (ci := 7) (v := .int s7_count) (C := RX7) (T := TX7) (N := 3) hx hb hts in_X7_placeFor_7 hown hK hP 0 rfl rfl 1 (by decide) (hts _ lk_X7_placeFor_15) (fun _ h9 => h9) rfl dX7_placeFor_1 ?_
  refine lv_iconst (v := 1) hx hb dX7_placeFor_4 (by decide) ?_
  refine lv_isub hx hb dX7_placeFor_5 ?_
  refine lv_topi (fun e1 h_e1 => ?_)
  have hv := hv e1 h_e1
  refine lv_istore_n (lv' := [(3, .int e1), (0, .ref (ad 7)), (1, .long x1)]) hx hb dX7_placeFor_6 rfl hl (by decide) rfl (fun ls hl => ?_)
  have lp7 : ∀ (n7 : Nat) (l3_2 : Int32) (H : Heap) (locs : List Loc) (ls : Array Slot), vfix (vF_X7_placeFor_7 s7_over a7_values x1 K) n7 l3_2 → lv_has ls 4 [(3, .int l3_2), (0, .ref (ad 7)), (1, .long x1)] → va_P D vwCl [oX7 ad s7_over s7_count, aI cy (ad 34) 8 a7_values] H → va_D A [oX7 ad s7_over s7_count, aI cy (ad 34) 8 a7_values] → va_S A s.heap H locs → W p l e rm_X7_placeFor s m ([.ref (ad 7), .long x1] : List Value).toArray below meth c H locs 0 0 Q (F0 m 7 ls []) := by
    intro n7
    induction n7 with
    | zero => intro l3_2 H locs ls hv; exact hv.elim
    | succ n7 ih7 =>
      intro l3_2 H locs ls hv hl hP hD hS
      have hv : vB_X7_placeFor_7 s7_over a7_values x1 K (fun z0 => vfix (vF_X7_placeFor_7 s7_over a7_values x1 K) n7 z0) l3_2 := hv
      unfold vB_X7_placeFor_7 at hv
      refine lv_iload_n hx hb dX7_placeFor_7 rfl (lv_at hl 0 rfl) ?_
      refine lv_if_le (tgt := 37) hx hb dX7_placeFor_8 (by decide) (fun c_8 => ?_) (fun c_8 => ?_)
      · have hv := hv.1 c_8
        refine lv_iconst (v := 0) hx hb dX7_placeFor_37 (by decide) ?_
        rw [← hQ]
        exact k_iret hx hb hr hlocks hS () hP hD hv dX7_placeFor_38
      · have hv := hv.2 c_8
        refine lv_aload_n hx hb dX7_placeFor_11 rfl (lv_at hl 1 rfl) ?_
        refine va_get (D := D) (ci := 7) (v := .ref (ad 34)) (C := RX7) (T := TX7) (N := 3) hx hb hts in_X7_placeFor_7 hown hK hP 0 rfl rfl 2 (by decide) (hts _ lk_X7_placeFor_18) (fun _ h9 => h9) rfl dX7_placeFor_12 ?_
        refine lv_iload_n hx hb dX7_placeFor_15 rfl (lv_at hl 0 rfl) ?_
        refine va_iald hx hb hK hP 1 0 rfl rfl hv.1 dX7_placeFor_16 ?_
        refine lv_topi (fun g3 h_g3 => ?_)
        have hv := hv.2 g3 h_g3
        refine lv_i2l hx hb dX7_placeFor_17 rfl ?_
        refine lv_aload_n hx hb dX7_placeFor_18 rfl (lv_at hl 1 rfl) ?_
        refine va_get (D := D) (ci := 7) (v := .int s7_over) (C := RX7) (T := TX7) (N := 3) hx hb hts in_X7_placeFor_7 hown hK hP 0 rfl rfl 0 (by decide) (hts _ lk_X7_placeFor_9) (fun _ h9 => h9) rfl dX7_placeFor_19 ?_
        refine lv_i2l hx hb dX7_placeFor_22 rfl ?_
        refine lv_lmul hx hb dX7_placeFor_23 ?_
        refine lv_topl (fun e4 h_e4 => ?_)
        have hv := hv e4 h_e4
        refine lv_lload_n hx hb dX7_placeFor_24 rfl (lv_at hl 2 rfl) ?_
        refine k_lc_gt (tgt := 31) hx hb dX7_placeFor_25 dX7_placeFor_26 (by decide) (fun c_25 => ?_) (fun c_25 => ?_)
        · have hv := hv.1 c_25
          obtain ⟨i5, h_i5⟩ : ∃ y : Int32, y = l3_2 + (-1) := ⟨_, rfl⟩
          refine lv_iinc (v := i5) (lv' := [(3, .int i5), (0, .ref (ad 7)), (1, .long x1)]) hx hb dX7_placeFor_31 hl (k := 0) rfl (by rw [h_i5]; rfl) (by decide) rfl (fun ls hl => ?_)
          have hv := hv i5 h_i5
          refine lv_goto (tgt := 7) hx hb dX7_placeFor_34 (by decide) ?_
          exact ih7 i5 H locs ls hv (lv_sub hl [0, 1, 2] rfl) hP hD hS
        · have hv := hv.2 c_25
          refine lv_iload_n hx hb dX7_placeFor_29 rfl (lv_at hl 0 rfl) ?_
          rw [← hQ]
          exact k_iret hx hb hr hlocks hS () hP hD hv dX7_placeFor_30
  obtain ⟨nn, hv⟩ := hv
  exact lp7 nn e1 H locs ls hv (lv_sub hl [0, 1, 2] rfl) hP hD hS
theorem lk_X7_fineAt_18 : Cond.fieldLink RX7 18 "CoarseSteps$Scale" "values" "[I" ∈ wsX7_fineAt := by decide +kernel
theorem in_X7_fineAt_7 : ∀ w ∈ wsX70, w ∈ wsX7_fineAt := by decide +kernel
theorem lk_X7_fineAt_9 : Cond.fieldLink RX7 9 "CoarseSteps$Scale" "over" "I" ∈ wsX7_fineAt := by decide +kernel
abbrev rm_X7_fineAt : Room := { frames := 0, cells := 0, slots := 0, locals := 0 }
set_option maxHeartbeats 4000000 in
set_option maxRecDepth 100000 in
theorem m_X7_fineAt (l : Launch) (D : va_G) (cy : ClassId × ClassId × ClassId) (ad : Nat → Nat) (s7_over : Int32) (s7_count : Int32) (a7_values : Nat → Int32) (x1 : Int32) (sz : Nat) {K : Int64 → Prop} (hv : v_X7_fineAt s7_over a7_values x1 K) : Met l yX7_fineAt wsX7_fineAt rm_X7_fineAt (va_Pc [.ref (ad 7), .int x1] (wd D cy [oX7 ad s7_over s7_count, aI cy (ad 34) 8 a7_values] sz)) (va_Ql (fun (r : Int64) (u : Unit) => K r) (fun u t => we D ((fun u : Unit => [oX7 ad s7_over s7_count, aI cy (ad 34) 8 a7_values]) u) (va_A [oX7 ad s7_over s7_count, aI cy (ad 34) 8 a7_values] sz) t) (va_A [oX7 ad s7_over s7_count, aI cy (ad 34) 8 a7_values] sz)) 0 0 (va_A [oX7 ad s7_over s7_count, aI cy (ad 34) 8 a7_values] sz) := by
  refine k_ofW (cc := cX7_fineAt) (maxL := 2) (ret := (some .long)) (fun A => va_Ql (fun (r : Int64) (u : Unit) => K r) (fun u t => we D ((fun u : Unit => [oX7 ad s7_over s7_count, aI cy (ad 34) 8 a7_values]) u) A t) A) (by decide) rfl (Nat.le_of_ble_eq_true rfl) ?_
  intro p e s m below meth c A ls hx hb hml hr hts hown hlocks hname hK hN hA hP hD hS hl
  have hl : lv_has ls 2 [(0, .ref (ad 7)), (1, .int x1)] := hl
  generalize hQ : MQ below _ _ s _ _ A = Q
  unfold v_X7_fineAt at hv
  refine lv_aload_n hx hb dX7_fineAt_0 rfl (lv_at hl 0 rfl) ?_
  refine va_get (D := D) (ci := 7) (v := .ref (ad 34)) (C := RX7) (T := TX7) (N := 3) hx hb hts in_X7_fineAt_7 hown hK hP 0 rfl rfl 2 (by decide) (hts _ lk_X7_fineAt_18) (fun _ h9 => h9) rfl dX7_fineAt_1 ?_
  refine lv_iload_n hx hb dX7_fineAt_4 rfl (lv_at hl 1 rfl) ?_
  refine va_iald hx hb hK hP 1 0 rfl rfl hv.1 dX7_fineAt_5 ?_
  refine lv_topi (fun g1 h_g1 => ?_)
  have hv := hv.2 g1 h_g1
  refine lv_i2l hx hb dX7_fineAt_6 rfl ?_
  refine lv_aload_n hx hb dX7_fineAt_7 rfl (lv_at hl 0 rfl) ?_
  refine va_get (D := D) (ci := 7) (v := .int s7_over) (C := RX7) (T := TX7) (N := 3) hx hb hts in_X7_fineAt_7 hown hK hP 0 rfl rfl 0 (by decide) (hts _ lk_X7_fineAt_9) (fun _ h9 => h9) rfl dX7_fineAt_8 ?_
  refine lv_i2l hx hb dX7_fineAt_11 rfl ?_
  refine lv_lmul hx hb dX7_fineAt_12 ?_
  refine lv_topl (fun e2 h_e2 => ?_)
  have hv := hv e2 h_e2
  rw [← hQ]
  exact k_lret hx hb hr hlocks hS () hP hD hv dX7_fineAt_13
abbrev rm_X10_isWithin : Room := { frames := 0, cells := 0, slots := 0, locals := 0 }
set_option maxHeartbeats 4000000 in
set_option maxRecDepth 100000 in
theorem m_X10_isWithin (l : Launch) (D : va_G) (cy : ClassId × ClassId × ClassId) (ad : Nat → Nat) (x0 : Int32) (x1 : Int32) (sz : Nat) {K : Int32 → Prop} (hv : v_X10_isWithin x0 x1 K) : Met l yX10_isWithin wsX10_isWithin rm_X10_isWithin (va_Pc [.int x0, .int x1] (wd D cy [] sz)) (va_Qi (fun (r : Int32) (u : Unit) => (r = 0 ∨ r = 1) ∧ K r) (fun u t => we D ((fun u : Unit => []) u) (va_A [] sz) t) (va_A [] sz)) 0 0 (va_A [] sz) := by
  refine k_ofW (cc := cX10_isWithin) (maxL := 2) (ret := (some .boolean)) (fun A => va_Qi (fun (r : Int32) (u : Unit) => (r = 0 ∨ r = 1) ∧ K r) (fun u t => we D ((fun u : Unit => []) u) A t) A) (by decide) rfl (Nat.le_of_ble_eq_true rfl) ?_
  intro p e s m below meth c A ls hx hb hml hr hts hown hlocks hname hK hN hA hP hD hS hl
  have hl : lv_has ls 2 [(0, .int x0), (1, .int x1)] := hl
  generalize hQ : MQ below _ _ s _ _ A = Q
  unfold v_X10_isWithin at hv
  refine lv_iload_n hx hb dX10_isWithin_0 rfl (lv_at hl 0 rfl) ?_
  refine lv_iload_n hx hb dX10_isWithin_1 rfl (lv_at hl 1 rfl) ?_
  refine lv_ineg hx hb dX10_isWithin_2 ?_
  refine lv_topi (fun e1 h_e1 => ?_)
  have hv := hv e1 h_e1
  refine lv_icmp_lt (tgt := 15) hx hb dX10_isWithin_3 (by decide) (fun c_3 => ?_) (fun c_3 => ?_)
  · have hv := hv.1 c_3
    refine lv_iconst (v := 0) hx hb dX10_isWithin_15 (by decide) ?_
    rw [← hQ]
    exact k_zret hx hb hr hlocks hS () hP hD (by decide) hv dX10_isWithin_16
  · have hv := hv.2 c_3
    refine lv_iload_n hx hb dX10_isWithin_6 rfl (lv_at hl 0 rfl) ?_
    refine lv_iload_n hx hb dX10_isWithin_7 rfl (lv_at hl 1 rfl) ?_
    refine lv_icmp_gt (tgt := 15) hx hb dX10_isWithin_8 (by decide) (fun c_8 => ?_) (fun c_8 => ?_)
    · have hv := hv.1 c_8
      refine lv_iconst (v := 0) hx hb dX10_isWithin_15 (by decide) ?_
      rw [← hQ]
      exact k_zret hx hb hr hlocks hS () hP hD (by decide) hv dX10_isWithin_16
    · have hv := hv.2 c_8
      refine lv_iconst (v := 1) hx hb dX10_isWithin_11 (by decide) ?_
      refine lv_goto (tgt := 16) hx hb dX10_isWithin_12 (by decide) ?_
      rw [← hQ]
      exact k_zret hx hb hr hlocks hS () hP hD (by decide) hv dX10_isWithin_16
theorem lk_X5_takeStep_33 : Cond.fieldLink RX5 33 "CoarseSteps$Mover" "scale" "LCoarseSteps$Scale;" ∈ wsX5_takeStep := by decide +kernel
theorem in_X5_takeStep_5 : ∀ w ∈ wsX50, w ∈ wsX5_takeStep := by decide +kernel
theorem lk_X5_takeStep_22 : Cond.fieldLink RX5 22 "CoarseSteps$Mover" "picked" "[I" ∈ wsX5_takeStep := by decide +kernel
theorem in_X5_takeStep_7 : ∀ w ∈ wsX70, w ∈ wsX5_takeStep := by decide +kernel
abbrev rm_X5_takeStep : Room := { frames := 1, cells := 0, slots := 0, locals := 23 }
set_option maxHeartbeats 4000000 in
set_option maxRecDepth 100000 in
theorem m_X5_takeStep (l : Launch) (D : va_G) (cy : ClassId × ClassId × ClassId) (ad : Nat → Nat) (s5_kind : Int32) (s5_sums : Int32) (s7_over : Int32) (s7_count : Int32) (a5_picked : Nat → Int32) (a7_values : Nat → Int32) (x1 : Int32) (x2 : Int64) (sz : Nat) {K : Int64 → (Nat → Int32) → Prop} (hv : v_X5_takeStep s7_over s7_count a5_picked a7_values x1 x2 K) : Met l yX5_takeStep wsX5_takeStep rm_X5_takeStep (va_Pc [.ref (ad 5), .int x1, .long x2] (wd D cy [oX5 ad s5_kind s5_sums, oX7 ad s7_over s7_count, aI cy (ad 31) 3 a5_picked, aI cy (ad 34) 8 a7_values] sz)) (va_Ql (fun (r : Int64) (u : (Nat → Int32)) => K r u) (fun u t => we D ((fun u : (Nat → Int32) => [oX5 ad s5_kind s5_sums, oX7 ad s7_over s7_count, aI cy (ad 31) 3 u, aI cy (ad 34) 8 a7_values]) u) (va_A [oX5 ad s5_kind s5_sums, oX7 ad s7_over s7_count, aI cy (ad 31) 3 a5_picked, aI cy (ad 34) 8 a7_values] sz) t) (va_A [oX5 ad s5_kind s5_sums, oX7 ad s7_over s7_count, aI cy (ad 31) 3 a5_picked, aI cy (ad 34) 8 a7_values] sz)) 0 0 (va_A [oX5 ad s5_kind s5_sums, oX7 ad s7_over s7_count, aI cy (ad 31) 3 a5_picked, aI cy (ad 34) 8 a7_values] sz) := by
  refine k_ofW (cc := cX5_takeStep) (maxL := 5) (ret := (some .long)) (fun A => va_Ql (fun (r : Int64) (u : (Nat → Int32)) => K r u) (fun u t => we D ((fun u : (Nat → Int32) => [oX5 ad s5_kind s5_sums, oX7 ad s7_over s7_count, aI cy (ad 31) 3 u, aI cy (ad 34) 8 a7_values]) u) A t) A) (by decide) rfl (Nat.le_of_ble_eq_true rfl) ?_
  intro p e s m below meth c A ls hx hb hml hr hts hown hlocks hname hK hN hA hP hD hS hl
  have hl : lv_has ls 5 [(0, .ref (ad 5)), (1, .int x1), (2, .long x2)] := hl
  generalize hQ : MQ below _ _ s _ _ A = Q
  unfold v_X5_takeStep at hv
  refine lv_aload_n hx hb dX5_takeStep_0 rfl (lv_at hl 0 rfl) ?_
  refine va_get (D := D) (ci := 5) (v := .ref (ad 7)) (C := RX5) (T := TX5) (N := 6) hx hb hts in_X5_takeStep_5 hown hK hP 0 rfl rfl 0 (by decide) (hts _ lk_X5_takeStep_33) (fun _ h9 => h9) rfl dX5_takeStep_1 ?_
  refine lv_lload_n hx hb dX5_takeStep_4 rfl (lv_at hl 2 rfl) ?_
  have hPc := hP.sub (ws' := [oX7 ad s7_over s7_count, aI cy (ad 34) 8 a7_values]) [1, 3] rfl
  have hDc := hD.sub (ws' := [oX7 ad s7_over s7_count, aI cy (ad 34) 8 a7_values]) [1, 3] (by decide) rfl
  refine k_cali (wc := [oX7 ad s7_over s7_count, aI cy (ad 34) 8 a7_values]) (wr := [oX5 ad s5_kind s5_sums, aI cy (ad 31) 3 a5_picked]) (va_runV (As := [.long x2]) (rest := []) ⟨hx, hb, hml, hown, hts⟩ (m_X7_placeFor l D cy ad s7_over s7_count a7_values x2 H.size hv) (cwV 1 hts gX5_takeStep_X7_placeFor rfl rfl rfl (by decide +kernel) ⟨Nat.le_of_ble_eq_true rfl, Nat.le_of_ble_eq_true rfl⟩) ⟨wd_blind, va_recv hK hPc (ci := 7) (q0 := 0) rfl rfl, wd_ok hPc hK hDc hN⟩ rfl rfl hl.1 rfl (lv_room (Nat.le_of_ble_eq_true rfl)) dX5_takeStep_5 ⟨Nat.le_of_ble_eq_true rfl, Nat.le_of_ble_eq_true rfl⟩) hP hD hS hA [1, 3] [0, 2] rfl rfl (by decide) (by decide) (fun r1 u H locs hv hP hD hS => ?_)
  have hP : va_P D vwCl [oX5 ad s5_kind s5_sums, oX7 ad s7_over s7_count, aI cy (ad 31) 3 a5_picked, aI cy (ad 34) 8 a7_values] H := hP.sub [0, 2, 1, 3] rfl
  have hD : va_D A [oX5 ad s5_kind s5_sums, oX7 ad s7_over s7_count, aI cy (ad 31) 3 a5_picked, aI cy (ad 34) 8 a7_values] := hD.sub [0, 2, 1, 3] (by decide) rfl
  refine lv_istore (lv' := [(4, .int r1), (0, .ref (ad 5)), (1, .int x1), (2, .long x2)]) hx hb dX5_takeStep_8 hl (by decide) rfl (fun ls hl => ?_)
  refine lv_aload_n hx hb dX5_takeStep_10 rfl (lv_at hl 1 rfl) ?_
  refine va_get (D := D) (ci := 5) (v := .ref (ad 31)) (C := RX5) (T := TX5) (N := 6) hx hb hts in_X5_takeStep_5 hown hK hP 0 rfl rfl 3 (by decide) (hts _ lk_X5_takeStep_22) (fun _ h9 => h9) rfl dX5_takeStep_11 ?_
  refine lv_iload_n hx hb dX5_takeStep_14 rfl (lv_at hl 2 rfl) ?_
  refine lv_aload_n hx hb dX5_takeStep_15 rfl (lv_at hl 1 rfl) ?_
  refine va_get (D := D) (ci := 5) (v := .ref (ad 7)) (C := RX5) (T := TX5) (N := 6) hx hb hts in_X5_takeStep_5 hown hK hP 0 rfl rfl 0 (by decide) (hts _ lk_X5_takeStep_33) (fun _ h9 => h9) rfl dX5_takeStep_16 ?_
  refine va_getN (D := D) (ci := 7) (v := .ref (ad 34)) (C := RX7) (T := TX7) (N := 3) hx hb hts in_X5_takeStep_7 hown hK hP 1 rfl rfl 2 (by decide) (nz_use hN nzf_X5_79) (fun _ h9 => h9) rfl dX5_takeStep_19 ?_
  refine lv_iload hx hb dX5_takeStep_22 (lv_at hl 0 rfl) ?_
  refine va_iald hx hb hK hP 3 0 rfl rfl hv.1 dX5_takeStep_24 ?_
  refine lv_topi (fun g2 h_g2 => ?_)
  have hv := hv.2 g2 h_g2
  refine k_iast hx hb hK hP hD hS 2 0 rfl rfl hv.1 dX5_takeStep_25 (fun a5_picked_3 H locs h_a5_picked_3 hP hD hS => ?_)
  have hv := hv.2 a5_picked_3 h_a5_picked_3
  have hP : va_P D vwCl [oX5 ad s5_kind s5_sums, oX7 ad s7_over s7_count, aI cy (ad 31) 3 a5_picked_3, aI cy (ad 34) 8 a7_values] H := hP
  have hD : va_D A [oX5 ad s5_kind s5_sums, oX7 ad s7_over s7_count, aI cy (ad 31) 3 a5_picked_3, aI cy (ad 34) 8 a7_values] := hD
  refine lv_lload_n hx hb dX5_takeStep_26 rfl (lv_at hl 3 rfl) ?_
  refine lv_aload_n hx hb dX5_takeStep_27 rfl (lv_at hl 1 rfl) ?_
  refine va_get (D := D) (ci := 5) (v := .ref (ad 7)) (C := RX5) (T := TX5) (N := 6) hx hb hts in_X5_takeStep_5 hown hK hP 0 rfl rfl 0 (by decide) (hts _ lk_X5_takeStep_33) (fun _ h9 => h9) rfl dX5_takeStep_28 ?_
  refine lv_iload hx hb dX5_takeStep_31 (lv_at hl 0 rfl) ?_
  have hPc := hP.sub (ws' := [oX7 ad s7_over s7_count, aI cy (ad 34) 8 a7_values]) [1, 3] rfl
  have hDc := hD.sub (ws' := [oX7 ad s7_over s7_count, aI cy (ad 34) 8 a7_values]) [1, 3] (by decide) rfl
  refine k_call (wc := [oX7 ad s7_over s7_count, aI cy (ad 34) 8 a7_values]) (wr := [oX5 ad s5_kind s5_sums, aI cy (ad 31) 3 a5_picked_3]) (va_runV (As := [.int r1]) (rest := [.long x2]) ⟨hx, hb, hml, hown, hts⟩ (m_X7_fineAt l D cy ad s7_over s7_count a7_values r1 H.size hv) (cwV 1 hts gX5_takeStep_X7_fineAt rfl rfl rfl (by decide +kernel) ⟨Nat.le_of_ble_eq_true rfl, Nat.le_of_ble_eq_true rfl⟩) ⟨wd_blind, va_recv hK hPc (ci := 7) (q0 := 0) rfl rfl, wd_ok hPc hK hDc hN⟩ rfl rfl hl.1 rfl (lv_room (Nat.le_of_ble_eq_true rfl)) dX5_takeStep_33 ⟨Nat.le_of_ble_eq_true rfl, Nat.le_of_ble_eq_true rfl⟩) hP hD hS hA [1, 3] [0, 2] rfl rfl (by decide) (by decide) (fun r4 u H locs hv hP hD hS => ?_)
  have hP : va_P D vwCl [oX5 ad s5_kind s5_sums, oX7 ad s7_over s7_count, aI cy (ad 31) 3 a5_picked_3, aI cy (ad 34) 8 a7_values] H := hP.sub [0, 2, 1, 3] rfl
  have hD : va_D A [oX5 ad s5_kind s5_sums, oX7 ad s7_over s7_count, aI cy (ad 31) 3 a5_picked_3, aI cy (ad 34) 8 a7_values] := hD.sub [0, 2, 1, 3] (by decide) rfl
  refine lv_lsub hx hb dX5_takeStep_36 ?_
  refine lv_topl (fun e5 h_e5 => ?_)
  have hv := hv e5 h_e5
  rw [← hQ]
  exact k_lret hx hb hr hlocks hS (a5_picked_3) hP hD hv dX5_takeStep_37
theorem li_X7_canTake_X10 : Cond.initialized RX10 ∈ wsX7_canTake := by decide +kernel
theorem ls_X7_canTake_X10_isWithin : Cond.static yX10_isWithin ∈ wsX7_canTake := by decide +kernel
abbrev rm_X7_canTake : Room := { frames := 1, cells := 0, slots := 0, locals := 21 }
set_option maxHeartbeats 4000000 in
set_option maxRecDepth 100000 in
theorem m_X7_canTake (l : Launch) (D : va_G) (cy : ClassId × ClassId × ClassId) (ad : Nat → Nat) (s7_over : Int32) (s7_count : Int32) (p2 : Nat → Int32) (rp2 : Nat) (x1 : Int32) (sz : Nat) {K : Int32 → Prop} (hv : v_X7_canTake p2 x1 K) : Met l yX7_canTake wsX7_canTake rm_X7_canTake (va_Pc [.ref (ad 7), .int x1, .ref rp2] (wd D cy [oX7 ad s7_over s7_count, aI cy rp2 8 p2] sz)) (va_Qi (fun (r : Int32) (u : Unit) => (r = 0 ∨ r = 1) ∧ K r) (fun u t => we D ((fun u : Unit => [oX7 ad s7_over s7_count, aI cy rp2 8 p2]) u) (va_A [oX7 ad s7_over s7_count, aI cy rp2 8 p2] sz) t) (va_A [oX7 ad s7_over s7_count, aI cy rp2 8 p2] sz)) 0 0 (va_A [oX7 ad s7_over s7_count, aI cy rp2 8 p2] sz) := by
  refine k_ofW (cc := cX7_canTake) (maxL := 4) (ret := (some .boolean)) (fun A => va_Qi (fun (r : Int32) (u : Unit) => (r = 0 ∨ r = 1) ∧ K r) (fun u t => we D ((fun u : Unit => [oX7 ad s7_over s7_count, aI cy rp2 8 p2]) u) A t) A) (by decide) rfl (Nat.le_of_ble_eq_true rfl) ?_
  intro p e s m below meth c A ls hx hb hml hr hts hown hlocks hname hK hN hA hP hD hS hl
  have hl : lv_has ls 4 [(0, .ref (ad 7)), (1, .int x1), (2, .ref rp2)] := hl
  generalize hQ : MQ below _ _ s _ _ A = Q
  unfold v_X7_canTake at hv
  refine lv_iload_n hx hb dX7_canTake_0 rfl (lv_at hl 1 rfl) ?_
  refine lv_iconst (v := 2) hx hb dX7_canTake_1 (by decide) ?_
  refine lv_icmp_lt (tgt := 17) hx hb dX7_canTake_2 (by decide) (fun c_2 => ?_) (fun c_2 => ?_)
  · have hv := hv.1 c_2
    refine lv_iconst (v := 0) hx hb dX7_canTake_17 (by decide) ?_
    rw [← hQ]
    exact k_zret hx hb hr hlocks hS () hP hD (by decide) hv dX7_canTake_18
  · have hv := hv.2 c_2
    refine lv_iload_n hx hb dX7_canTake_5 rfl (lv_at hl 1 rfl) ?_
    refine lv_bipush (v := 8) hx hb dX7_canTake_6 (by decide) ?_
    refine lv_icmp_gt (tgt := 17) hx hb dX7_canTake_8 (by decide) (fun c_8 => ?_) (fun c_8 => ?_)
    · have hv := hv.1 c_8
      refine lv_iconst (v := 0) hx hb dX7_canTake_17 (by decide) ?_
      rw [← hQ]
      exact k_zret hx hb hr hlocks hS () hP hD (by decide) hv dX7_canTake_18
    · have hv := hv.2 c_8
      refine lv_iload_n hx hb dX7_canTake_11 rfl (lv_at hl 1 rfl) ?_
      refine lv_aload_n hx hb dX7_canTake_12 rfl (lv_at hl 2 rfl) ?_
      refine va_alen (v := 8) hx hb hK hP 1 0 rfl rfl (by decide) dX7_canTake_13 ?_
      refine lv_icmp_le (tgt := 19) hx hb dX7_canTake_14 (by decide) (fun c_14 => ?_) (fun c_14 => ?_)
      · have hv := hv.1 c_14
        refine lv_iconst (v := 0) hx hb dX7_canTake_19 (by decide) ?_
        refine lv_istore_n (lv' := [(3, .int (0 : Int32)), (0, .ref (ad 7)), (1, .int x1), (2, .ref rp2)]) hx hb dX7_canTake_20 rfl hl (by decide) rfl (fun ls hl => ?_)
        have lp21 : ∀ (n21 : Nat) (l3_1 : Int32) (H : Heap) (locs : List Loc) (ls : Array Slot), vfix (vF_X7_canTake_21 p2 x1 K) n21 l3_1 → lv_has ls 4 [(3, .int l3_1), (1, .int x1), (2, .ref rp2)] → va_P D vwCl [oX7 ad s7_over s7_count, aI cy rp2 8 p2] H → va_D A [oX7 ad s7_over s7_count, aI cy rp2 8 p2] → va_S A s.heap H locs → W p l e rm_X7_canTake s m ([.ref (ad 7), .int x1, .ref rp2] : List Value).toArray below meth c H locs 0 0 Q (F0 m 21 ls []) := by
          intro n21
          induction n21 with
          | zero => intro l3_1 H locs ls hv; exact hv.elim
          | succ n21 ih21 =>
            intro l3_1 H locs ls hv hl hP hD hS
            have hv : vB_X7_canTake_21 p2 x1 K (fun z0 => vfix (vF_X7_canTake_21 p2 x1 K) n21 z0) l3_1 := hv
            unfold vB_X7_canTake_21 at hv
            refine lv_iload_n hx hb dX7_canTake_21 rfl (lv_at hl 0 rfl) ?_
            refine lv_iload_n hx hb dX7_canTake_22 rfl (lv_at hl 1 rfl) ?_
            refine lv_icmp_ge (tgt := 60) hx hb dX7_canTake_23 (by decide) (fun c_23 => ?_) (fun c_23 => ?_)
            · have hv := hv.1 c_23
              refine lv_iconst (v := 1) hx hb dX7_canTake_60 (by decide) ?_
              rw [← hQ]
              exact k_zret hx hb hr hlocks hS () hP hD (by decide) hv dX7_canTake_61
            · have hv := hv.2 c_23
              refine lv_aload_n hx hb dX7_canTake_26 rfl (lv_at hl 2 rfl) ?_
              refine lv_iload_n hx hb dX7_canTake_27 rfl (lv_at hl 0 rfl) ?_
              refine va_iald hx hb hK hP 1 0 rfl rfl hv.1 dX7_canTake_28 ?_
              refine lv_topi (fun g2 h_g2 => ?_)
              have hv := hv.2 g2 h_g2
              refine lv_bipush (v := 100) hx hb dX7_canTake_29 (by decide) ?_
              have hPc := hP.sub (ws' := []) [] rfl
              have hDc := hD.sub (ws' := []) [] (by decide) rfl
              refine k_cali (wc := []) (wr := [oX7 ad s7_over s7_count, aI cy rp2 8 p2]) (va_runSN (As := [.int g2, .int (100 : Int32)]) (rest := []) ⟨hx, hb, hml, hown, hts⟩ (m_X10_isWithin l D cy ad g2 (100 : Int32) H.size hv) ⟨va_cnB 2 hts gX7_canTake_X10_isWithin_n22 rfl rfl rfl (hN _ nzm_X7_22) (hts _ li_X7_canTake_X10) (by decide +kernel) ⟨Nat.le_of_ble_eq_true rfl, Nat.le_of_ble_eq_true rfl⟩, hts _ ls_X7_canTake_X10_isWithin, trivial⟩ ⟨wd_blind, wd_ok hPc hK hDc hN⟩ rfl rfl hl.1 rfl (lv_room (Nat.le_of_ble_eq_true rfl)) dX7_canTake_31 ⟨Nat.le_of_ble_eq_true rfl, Nat.le_of_ble_eq_true rfl⟩) hP hD hS hA [] [0, 1] rfl rfl (by decide) (by decide) (fun r3 u H locs hv hP hD hS => ?_)
              obtain ⟨hz_r3, hv⟩ := hv
              have hP : va_P D vwCl [oX7 ad s7_over s7_count, aI cy rp2 8 p2] H := hP.sub [0, 1] rfl
              have hD : va_D A [oX7 ad s7_over s7_count, aI cy rp2 8 p2] := hD.sub [0, 1] (by decide) rfl
              refine lv_if_eq (tgt := 52) hx hb dX7_canTake_34 (by decide) (fun c_34 => ?_) (fun c_34 => ?_)
              · have hv := hv.1 c_34
                refine lv_iconst (v := 0) hx hb dX7_canTake_52 (by decide) ?_
                rw [← hQ]
                exact k_zret hx hb hr hlocks hS () hP hD (by decide) hv dX7_canTake_53
              · have hv := hv.2 c_34
                refine lv_iload_n hx hb dX7_canTake_37 rfl (lv_at hl 0 rfl) ?_
                have jn54 : ∀ (H : Heap) (locs : List Loc) (ls : Array Slot), vJ_X7_canTake_54 l3_1 (fun z0 => vfix (vF_X7_canTake_21 p2 x1 K) n21 z0) → lv_has ls 4 [(3, .int l3_1), (1, .int x1), (2, .ref rp2)] → va_P D vwCl [oX7 ad s7_over s7_count, aI cy rp2 8 p2] H → va_D A [oX7 ad s7_over s7_count, aI cy rp2 8 p2] → va_S A s.heap H locs → W p l e rm_X7_canTake s m ([.ref (ad 7), .int x1, .ref rp2] : List Value).toArray below meth c H locs 0 0 Q (F0 m 54 ls []) := by
                  intro H locs ls hv hl hP hD hS
                  unfold vJ_X7_canTake_54 at hv
                  obtain ⟨i4, h_i4⟩ : ∃ y : Int32, y = l3_1 + 1 := ⟨_, rfl⟩
                  refine lv_iinc (v := i4) (lv' := [(3, .int i4), (1, .int x1), (2, .ref rp2)]) hx hb dX7_canTake_54 hl (k := 0) rfl (by rw [h_i4]; rfl) (by decide) rfl (fun ls hl => ?_)
                  have hv := hv i4 h_i4
                  refine lv_goto (tgt := 21) hx hb dX7_canTake_57 (by decide) ?_
                  exact ih21 i4 H locs ls hv (lv_sub hl [0, 1, 2] rfl) hP hD hS
                refine lv_if_le (tgt := 54) hx hb dX7_canTake_38 (by decide) (fun c_38 => ?_) (fun c_38 => ?_)
                · have hv := hv.1 c_38
                  exact jn54  H locs ls hv (lv_sub hl [0, 1, 2] rfl) hP hD hS
                · have hv := hv.2 c_38
                  refine lv_aload_n hx hb dX7_canTake_41 rfl (lv_at hl 2 rfl) ?_
                  refine lv_iload_n hx hb dX7_canTake_42 rfl (lv_at hl 0 rfl) ?_
                  refine va_iald hx hb hK hP 1 0 rfl rfl hv.1 dX7_canTake_43 ?_
                  refine lv_topi (fun g5 h_g5 => ?_)
                  have hv := hv.2 g5 h_g5
                  refine lv_aload_n hx hb dX7_canTake_44 rfl (lv_at hl 2 rfl) ?_
                  refine lv_iload_n hx hb dX7_canTake_45 rfl (lv_at hl 0 rfl) ?_
                  refine lv_iconst (v := 1) hx hb dX7_canTake_46 (by decide) ?_
                  refine lv_isub hx hb dX7_canTake_47 ?_
                  refine lv_topi (fun e6 h_e6 => ?_)
                  have hv := hv e6 h_e6
                  refine va_iald hx hb hK hP 1 0 rfl rfl hv.1 dX7_canTake_48 ?_
                  refine lv_topi (fun g7 h_g7 => ?_)
                  have hv := hv.2 g7 h_g7
                  refine lv_icmp_gt (tgt := 54) hx hb dX7_canTake_49 (by decide) (fun c_49 => ?_) (fun c_49 => ?_)
                  · have hv := hv.1 c_49
                    exact jn54  H locs ls hv (lv_sub hl [0, 1, 2] rfl) hP hD hS
                  · have hv := hv.2 c_49
                    refine lv_iconst (v := 0) hx hb dX7_canTake_52 (by decide) ?_
                    rw [← hQ]
                    exact k_zret hx hb hr hlocks hS () hP hD (by decide) hv dX7_canTake_53
        obtain ⟨nn, hv⟩ := hv
        exact lp21 nn (0 : Int32) H locs ls hv (lv_sub hl [0, 2, 3] rfl) hP hD hS
      · have hv := hv.2 c_14
        refine lv_iconst (v := 0) hx hb dX7_canTake_17 (by decide) ?_
        rw [← hQ]
        exact k_zret hx hb hr hlocks hS () hP hD (by decide) hv dX7_canTake_18
