theorem lk_X4_canClaim_34 : Cond.fieldLink RX4 34 "CoarseSteps$Loop" "mover" "LCoarseSteps$Mover;" ∈ wsX4_canClaim := by decide +kernel
theorem in_X4_canClaim_4 : ∀ w ∈ wsX40, w ∈ wsX4_canClaim := by decide +kernel
theorem in_X4_canClaim_5 : ∀ w ∈ wsX50, w ∈ wsX4_canClaim := by decide +kernel
theorem lk_X4_canClaim_50 : Cond.fieldLink RX4 50 "CoarseSteps$Loop" "firstBeganWith" "J" ∈ wsX4_canClaim := by decide +kernel
theorem lk_X4_canClaim_46 : Cond.fieldLink RX4 46 "CoarseSteps$Loop" "ticks" "I" ∈ wsX4_canClaim := by decide +kernel
theorem lk_X4_canClaim_21 : Cond.fieldLink RX4 21 "CoarseSteps$Loop" "history" "LCoarseSteps$History;" ∈ wsX4_canClaim := by decide +kernel
theorem in_X4_canClaim_3 : ∀ w ∈ wsX30, w ∈ wsX4_canClaim := by decide +kernel
abbrev rm_X4_canClaim : Room := { frames := 1, cells := 0, slots := 0, locals := 21 }
set_option maxHeartbeats 4000000 in
set_option maxRecDepth 100000 in
theorem m_X4_canClaim (l : Launch) (D : va_G) (cy : ClassId × ClassId × ClassId) (ad : Nat → Nat) (s3_next : Int32) (s3_kept : Int32) (s4_ticks : Int32) (s4_firstBeganWith : Int64) (s4_secondBefore : Int32) (s4_thirdBefore : Int32) (s4_thirdTwoBefore : Int32) (s5_kind : Int32) (s5_sums : Int32) (x1 : Int32) (sz : Nat) {K : Int32 → Prop} (hv : v_X4_canClaim s3_kept s4_ticks s4_firstBeganWith s5_kind x1 K) : Met l yX4_canClaim wsX4_canClaim rm_X4_canClaim (va_Pc [.ref (ad 4), .int x1] (wd D cy [oX3 ad s3_next s3_kept, oX4 ad s4_ticks s4_firstBeganWith s4_secondBefore s4_thirdBefore s4_thirdTwoBefore, oX5 ad s5_kind s5_sums] sz)) (va_Qi (fun (r : Int32) (u : Unit) => (r = 0 ∨ r = 1) ∧ K r) (fun u t => we D ((fun u : Unit => [oX3 ad s3_next s3_kept, oX4 ad s4_ticks s4_firstBeganWith s4_secondBefore s4_thirdBefore s4_thirdTwoBefore, oX5 ad s5_kind s5_sums]) u) (va_A [oX3 ad s3_next s3_kept, oX4 ad s4_ticks s4_firstBeganWith s4_secondBefore s4_thirdBefore s4_thirdTwoBefore, oX5 ad s5_kind s5_sums] sz) t) (va_A [oX3 ad s3_next s3_kept, oX4 ad s4_ticks s4_firstBeganWith s4_secondBefore s4_thirdBefore s4_thirdTwoBefore, oX5 ad s5_kind s5_sums] sz)) 0 0 (va_A [oX3 ad s3_next s3_kept, oX4 ad s4_ticks s4_firstBeganWith s4_secondBefore s4_thirdBefore s4_thirdTwoBefore, oX5 ad s5_kind s5_sums] sz) := by
  refine k_ofW (cc := cX4_canClaim) (maxL := 2) (ret := (some .boolean)) (fun A => va_Qi (fun (r : Int32) (u : Unit) => (r = 0 ∨ r = 1) ∧ K r) (fun u t => we D ((fun u : Unit => [oX3 ad s3_next s3_kept, oX4 ad s4_ticks s4_firstBeganWith s4_secondBefore s4_thirdBefore s4_thirdTwoBefore, oX5 ad s5_kind s5_sums]) u) A t) A) (by decide) rfl (Nat.le_of_ble_eq_true rfl) ?_
  intro p e s m below meth c A ls H locs hx hb hml hr hts hown hlocks hname hK hN hA hP hD hS hl
  have hl : lv_has ls 2 [(0, .ref (ad 4)), (1, .int x1)] := hl
  generalize hQ : MQ below _ _ s _ _ A = Q
  unfold v_X4_canClaim at hv
  refine lv_aload_n hx hb dX4_canClaim_0 rfl (lv_at hl 0 rfl) ?_
  refine va_get (D := D) (ci := 4) (v := .ref (ad 5)) (C := RX4) (T := TX4) (N := 9) hx hb hts in_X4_canClaim_4 hown hK hP 1 rfl rfl 0 (by decide) (hts _ lk_X4_canClaim_34) (fun _ h9 => h9) rfl dX4_canClaim_1 ?_
  refine va_getN (D := D) (ci := 5) (v := .int s5_kind) (C := RX5) (T := TX5) (N := 6) hx hb hts in_X4_canClaim_5 hown hK hP 2 rfl rfl 4 (by decide) (nz_use hN nzf_X4_72) (fun _ h9 => h9) rfl dX4_canClaim_4 ?_
  refine lv_if_ne (tgt := 48) hx hb dX4_canClaim_7 (by decide) (fun c_7 => ?_) (fun c_7 => ?_)
  · have hv := hv.1 c_7
    refine lv_iconst (v := 0) hx hb dX4_canClaim_48 (by decide) ?_
    rw [← hQ]
    exact k_zret hx hb hr hlocks hS () hP hD (by decide) hv dX4_canClaim_49
  · have hv := hv.2 c_7
    refine lv_aload_n hx hb dX4_canClaim_10 rfl (lv_at hl 0 rfl) ?_
    refine va_get (D := D) (ci := 4) (v := .long s4_firstBeganWith) (C := RX4) (T := TX4) (N := 9) hx hb hts in_X4_canClaim_4 hown hK hP 1 rfl rfl 5 (by decide) (hts _ lk_X4_canClaim_50) (fun _ h9 => h9) rfl dX4_canClaim_11 ?_
    refine lv_lconst (v := 0) hx hb dX4_canClaim_14 (by decide) ?_
    refine k_lc_ne (tgt := 48) hx hb dX4_canClaim_15 dX4_canClaim_16 (by decide) (fun c_15 => ?_) (fun c_15 => ?_)
    · have hv := hv.1 c_15
      refine lv_iconst (v := 0) hx hb dX4_canClaim_48 (by decide) ?_
      rw [← hQ]
      exact k_zret hx hb hr hlocks hS () hP hD (by decide) hv dX4_canClaim_49
    · have hv := hv.2 c_15
      refine lv_aload_n hx hb dX4_canClaim_19 rfl (lv_at hl 0 rfl) ?_
      refine va_get (D := D) (ci := 4) (v := .int s4_ticks) (C := RX4) (T := TX4) (N := 9) hx hb hts in_X4_canClaim_4 hown hK hP 1 rfl rfl 4 (by decide) (hts _ lk_X4_canClaim_46) (fun _ h9 => h9) rfl dX4_canClaim_20 ?_
      refine lv_aload_n hx hb dX4_canClaim_23 rfl (lv_at hl 0 rfl) ?_
      refine va_get (D := D) (ci := 4) (v := .ref (ad 3)) (C := RX4) (T := TX4) (N := 9) hx hb hts in_X4_canClaim_4 hown hK hP 1 rfl rfl 2 (by decide) (hts _ lk_X4_canClaim_21) (fun _ h9 => h9) rfl dX4_canClaim_24 ?_
      refine va_getN (D := D) (ci := 3) (v := .int s3_kept) (C := RX3) (T := TX3) (N := 6) hx hb hts in_X4_canClaim_3 hown hK hP 0 rfl rfl 5 (by decide) (nz_use hN nzf_X4_93) (fun _ h9 => h9) rfl dX4_canClaim_27 ?_
      refine lv_icmp_ne (tgt := 48) hx hb dX4_canClaim_30 (by decide) (fun c_30 => ?_) (fun c_30 => ?_)
      · have hv := hv.1 c_30
        refine lv_iconst (v := 0) hx hb dX4_canClaim_48 (by decide) ?_
        rw [← hQ]
        exact k_zret hx hb hr hlocks hS () hP hD (by decide) hv dX4_canClaim_49
      · have hv := hv.2 c_30
        refine lv_aload_n hx hb dX4_canClaim_33 rfl (lv_at hl 0 rfl) ?_
        refine va_get (D := D) (ci := 4) (v := .ref (ad 3)) (C := RX4) (T := TX4) (N := 9) hx hb hts in_X4_canClaim_4 hown hK hP 1 rfl rfl 2 (by decide) (hts _ lk_X4_canClaim_21) (fun _ h9 => h9) rfl dX4_canClaim_34 ?_
        refine lv_iload_n hx hb dX4_canClaim_37 rfl (lv_at hl 1 rfl) ?_
        have hPc := hP.sub (ws' := [oX3 ad s3_next s3_kept]) [0] rfl
        have hDc := hD.sub (ws' := [oX3 ad s3_next s3_kept]) [0] (by decide) rfl
        refine k_cali (wc := [oX3 ad s3_next s3_kept]) (wr := [oX4 ad s4_ticks s4_firstBeganWith s4_secondBefore s4_thirdBefore s4_thirdTwoBefore, oX5 ad s5_kind s5_sums]) (va_runV (As := [.int x1]) (rest := []) ⟨hx, hb, hml, hown, hts⟩ (m_X3_holdsLast l D cy ad s3_next s3_kept x1 H.size hv) (cwV 1 hts gX4_canClaim_X3_holdsLast rfl rfl rfl (by decide +kernel) ⟨Nat.le_of_ble_eq_true rfl, Nat.le_of_ble_eq_true rfl⟩) ⟨wd_blind, va_recv hK hPc (ci := 3) (q0 := 0) rfl rfl, wd_ok hPc hK hDc hN⟩ rfl rfl hl.1 rfl (lv_room (Nat.le_of_ble_eq_true rfl)) dX4_canClaim_38 ⟨Nat.le_of_ble_eq_true rfl, Nat.le_of_ble_eq_true rfl⟩) hP hD hS hA [0] [1, 2] rfl rfl (by decide) (by decide) (fun r1 u H locs hv hP hD hS => ?_)
        obtain ⟨hz_r1, hv⟩ := hv
        have hP : va_P D vwCl [oX3 ad s3_next s3_kept, oX4 ad s4_ticks s4_firstBeganWith s4_secondBefore s4_thirdBefore s4_thirdTwoBefore, oX5 ad s5_kind s5_sums] H := hP.sub [2, 0, 1] rfl
        have hD : va_D A [oX3 ad s3_next s3_kept, oX4 ad s4_ticks s4_firstBeganWith s4_secondBefore s4_thirdBefore s4_thirdTwoBefore, oX5 ad s5_kind s5_sums] := hD.sub [2, 0, 1] (by decide) rfl
        refine lv_if_eq (tgt := 48) hx hb dX4_canClaim_41 (by decide) (fun c_41 => ?_) (fun c_41 => ?_)
        · have hv := hv.1 c_41
          refine lv_iconst (v := 0) hx hb dX4_canClaim_48 (by decide) ?_
          rw [← hQ]
          exact k_zret hx hb hr hlocks hS () hP hD (by decide) hv dX4_canClaim_49
        · have hv := hv.2 c_41
          refine lv_iconst (v := 1) hx hb dX4_canClaim_44 (by decide) ?_
          refine lv_goto (tgt := 49) hx hb dX4_canClaim_45 (by decide) ?_
          rw [← hQ]
          exact k_zret hx hb hr hlocks hS () hP hD (by decide) hv dX4_canClaim_49
theorem lk_X5_hasSum_30 : Cond.fieldLink RX5 30 "CoarseSteps$Mover" "sums" "I" ∈ wsX5_hasSum := by decide +kernel
theorem in_X5_hasSum_5 : ∀ w ∈ wsX50, w ∈ wsX5_hasSum := by decide +kernel
abbrev rm_X5_hasSum : Room := { frames := 0, cells := 0, slots := 0, locals := 0 }
set_option maxHeartbeats 4000000 in
set_option maxRecDepth 100000 in
theorem m_X5_hasSum (l : Launch) (D : va_G) (cy : ClassId × ClassId × ClassId) (ad : Nat → Nat) (s5_kind : Int32) (s5_sums : Int32) (x1 : Int32) (sz : Nat) {K : Int32 → Prop} (hv : v_X5_hasSum s5_sums x1 K) : Met l yX5_hasSum wsX5_hasSum rm_X5_hasSum (va_Pc [.ref (ad 5), .int x1] (wd D cy [oX5 ad s5_kind s5_sums] sz)) (va_Qi (fun (r : Int32) (u : Unit) => (r = 0 ∨ r = 1) ∧ K r) (fun u t => we D ((fun u : Unit => [oX5 ad s5_kind s5_sums]) u) (va_A [oX5 ad s5_kind s5_sums] sz) t) (va_A [oX5 ad s5_kind s5_sums] sz)) 0 0 (va_A [oX5 ad s5_kind s5_sums] sz) := by
  refine k_ofW (cc := cX5_hasSum) (maxL := 2) (ret := (some .boolean)) (fun A => va_Qi (fun (r : Int32) (u : Unit) => (r = 0 ∨ r = 1) ∧ K r) (fun u t => we D ((fun u : Unit => [oX5 ad s5_kind s5_sums]) u) A t) A) (by decide) rfl (Nat.le_of_ble_eq_true rfl) ?_
  intro p e s m below meth c A ls H locs hx hb hml hr hts hown hlocks hname hK hN hA hP hD hS hl
  have hl : lv_has ls 2 [(0, .ref (ad 5)), (1, .int x1)] := hl
  generalize hQ : MQ below _ _ s _ _ A = Q
  unfold v_X5_hasSum at hv
  refine lv_iload_n hx hb dX5_hasSum_0 rfl (lv_at hl 1 rfl) ?_
  refine lv_if_lt (tgt := 16) hx hb dX5_hasSum_1 (by decide) (fun c_1 => ?_) (fun c_1 => ?_)
  · have hv := hv.1 c_1
    refine lv_iconst (v := 0) hx hb dX5_hasSum_16 (by decide) ?_
    rw [← hQ]
    exact k_zret hx hb hr hlocks hS () hP hD (by decide) hv dX5_hasSum_17
  · have hv := hv.2 c_1
    refine lv_iload_n hx hb dX5_hasSum_4 rfl (lv_at hl 1 rfl) ?_
    refine lv_aload_n hx hb dX5_hasSum_5 rfl (lv_at hl 0 rfl) ?_
    refine va_get (D := D) (ci := 5) (v := .int s5_sums) (C := RX5) (T := TX5) (N := 6) hx hb hts in_X5_hasSum_5 hown hK hP 0 rfl rfl 5 (by decide) (hts _ lk_X5_hasSum_30) (fun _ h9 => h9) rfl dX5_hasSum_6 ?_
    refine lv_icmp_ge (tgt := 16) hx hb dX5_hasSum_9 (by decide) (fun c_9 => ?_) (fun c_9 => ?_)
    · have hv := hv.1 c_9
      refine lv_iconst (v := 0) hx hb dX5_hasSum_16 (by decide) ?_
      rw [← hQ]
      exact k_zret hx hb hr hlocks hS () hP hD (by decide) hv dX5_hasSum_17
    · have hv := hv.2 c_9
      refine lv_iconst (v := 1) hx hb dX5_hasSum_12 (by decide) ?_
      refine lv_goto (tgt := 17) hx hb dX5_hasSum_13 (by decide) ?_
      rw [← hQ]
      exact k_zret hx hb hr hlocks hS () hP hD (by decide) hv dX5_hasSum_17
abbrev rm_X6_copy : Room := { frames := 0, cells := 0, slots := 0, locals := 0 }
set_option maxHeartbeats 4000000 in
set_option maxRecDepth 100000 in
theorem m_X6_copy (l : Launch) (D : va_G) (cy : ClassId × ClassId × ClassId) (ad : Nat → Nat) (p0 : Nat → Int64) (p1 : Nat → Int64) (rp0 : Nat) (rp1 : Nat) (sz : Nat) {K : (Nat → Int64) → Prop} (hv : v_X6_copy p0 p1 K) : Met l yX6_copy wsX6_copy rm_X6_copy (va_Pc [.ref rp0, .ref rp1] (wd D cy [aJ cy rp0 4 p0, aJ cy rp1 4 p1] sz)) (va_Qv (fun u : (Nat → Int64) => K u) (fun u t => we D ((fun u : (Nat → Int64) => [aJ cy rp0 4 p0, aJ cy rp1 4 u]) u) (va_A [aJ cy rp0 4 p0, aJ cy rp1 4 p1] sz) t) (va_A [aJ cy rp0 4 p0, aJ cy rp1 4 p1] sz)) 0 0 (va_A [aJ cy rp0 4 p0, aJ cy rp1 4 p1] sz) := by
  refine k_ofW (cc := cX6_copy) (maxL := 3) (ret := none) (fun A => va_Qv (fun u : (Nat → Int64) => K u) (fun u t => we D ((fun u : (Nat → Int64) => [aJ cy rp0 4 p0, aJ cy rp1 4 u]) u) A t) A) (by decide) rfl (Nat.le_of_ble_eq_true rfl) ?_
  intro p e s m below meth c A ls H locs hx hb hml hr hts hown hlocks hname hK hN hA hP hD hS hl
  have hl : lv_has ls 3 [(0, .ref rp0), (1, .ref rp1)] := hl
  generalize hQ : MQ below _ _ s _ _ A = Q
  unfold v_X6_copy at hv
  refine lv_iconst (v := 0) hx hb dX6_copy_0 (by decide) ?_
  refine lv_istore_n (lv' := [(2, .int (0 : Int32)), (0, .ref rp0), (1, .ref rp1)]) hx hb dX6_copy_1 rfl hl (by decide) rfl (fun ls hl => ?_)
  have lp2 : ∀ (n2 : Nat) (l2_1 : Int32) (p1_2 : Nat → Int64) (H : Heap) (locs : List Loc) (ls : Array Slot), vfix (vF_X6_copy_2 p0 K) n2 (l2_1, p1_2) → lv_has ls 3 [(2, .int l2_1), (0, .ref rp0), (1, .ref rp1)] → va_P D vwCl [aJ cy rp0 4 p0, aJ cy rp1 4 p1_2] H → va_D A [aJ cy rp0 4 p0, aJ cy rp1 4 p1_2] → va_S A s.heap H locs → W p l e rm_X6_copy s m ([.ref rp0, .ref rp1] : List Value).toArray below meth c H locs 0 0 Q (F0 m 2 ls []) := by
    intro n2
    induction n2 with
    | zero => intro l2_1 p1_2 H locs ls hv; exact hv.elim
    | succ n2 ih2 =>
      intro l2_1 p1_2 H locs ls hv hl hP hD hS
      have hv : vB_X6_copy_2 p0 K (fun z0 z1 => vfix (vF_X6_copy_2 p0 K) n2 (z0, z1)) l2_1 p1_2 := hv
      unfold vB_X6_copy_2 at hv
      refine lv_iload_n hx hb dX6_copy_2 rfl (lv_at hl 0 rfl) ?_
      refine lv_iconst (v := 4) hx hb dX6_copy_3 (by decide) ?_
      refine lv_icmp_ge (tgt := 19) hx hb dX6_copy_4 (by decide) (fun c_4 => ?_) (fun c_4 => ?_)
      · have hv := hv.1 c_4
        rw [← hQ]
        exact k_vret hx hb hr hlocks hS (p1_2) hP hD hv dX6_copy_19
      · have hv := hv.2 c_4
        refine lv_aload_n hx hb dX6_copy_7 rfl (lv_at hl 2 rfl) ?_
        refine lv_iload_n hx hb dX6_copy_8 rfl (lv_at hl 0 rfl) ?_
        refine lv_aload_n hx hb dX6_copy_9 rfl (lv_at hl 1 rfl) ?_
        refine lv_iload_n hx hb dX6_copy_10 rfl (lv_at hl 0 rfl) ?_
        refine va_lald hx hb hK hP 0 1 rfl rfl hv.1 dX6_copy_11 ?_
        refine lv_topl (fun g3 h_g3 => ?_)
        have hv := hv.2 g3 h_g3
        refine k_last hx hb hK hP hD hS 1 1 rfl rfl hv.1 dX6_copy_12 (fun p1_4 H locs h_p1_4 hP hD hS => ?_)
        have hv := hv.2 p1_4 h_p1_4
        have hP : va_P D vwCl [aJ cy rp0 4 p0, aJ cy rp1 4 p1_4] H := hP
        have hD : va_D A [aJ cy rp0 4 p0, aJ cy rp1 4 p1_4] := hD
        obtain ⟨i5, h_i5⟩ : ∃ y : Int32, y = l2_1 + 1 := ⟨_, rfl⟩
        refine lv_iinc (v := i5) (lv' := [(2, .int i5), (0, .ref rp0), (1, .ref rp1)]) hx hb dX6_copy_13 hl (k := 0) rfl (by rw [h_i5]; rfl) (by decide) rfl (fun ls hl => ?_)
        have hv := hv i5 h_i5
        refine lv_goto (tgt := 2) hx hb dX6_copy_16 (by decide) ?_
        exact ih2 i5 p1_4 H locs ls hv (lv_sub hl [0, 1, 2] rfl) hP hD hS
  obtain ⟨nn, hv⟩ := hv
  exact lp2 nn (0 : Int32) p1 H locs ls hv (lv_sub hl [0, 1, 2] rfl) hP hD hS
theorem lk_X6_isSame_18 : Cond.fieldLink RX6 18 "CoarseSteps$Outlook" "loop" "LCoarseSteps$Loop;" ∈ wsX6_isSame := by decide +kernel
theorem in_X6_isSame_6 : ∀ w ∈ wsX60, w ∈ wsX6_isSame := by decide +kernel
theorem in_X6_isSame_4 : ∀ w ∈ wsX40, w ∈ wsX6_isSame := by decide +kernel
theorem in_X6_isSame_5 : ∀ w ∈ wsX50, w ∈ wsX6_isSame := by decide +kernel
abbrev rm_X6_isSame : Room := { frames := 0, cells := 0, slots := 0, locals := 0 }
set_option maxHeartbeats 4000000 in
set_option maxRecDepth 100000 in
theorem m_X6_isSame (l : Launch) (D : va_G) (cy : ClassId × ClassId × ClassId) (ad : Nat → Nat) (s4_ticks : Int32) (s4_firstBeganWith : Int64) (s4_secondBefore : Int32) (s4_thirdBefore : Int32) (s4_thirdTwoBefore : Int32) (s5_kind : Int32) (s5_sums : Int32) (s6_toldTail : Int32) (p1 : Nat → Int64) (p2 : Nat → Int64) (rp1 : Nat) (rp2 : Nat) (sz : Nat) {K : Int32 → Prop} (hv : v_X6_isSame s5_sums p1 p2 K) : Met l yX6_isSame wsX6_isSame rm_X6_isSame (va_Pc [.ref (ad 6), .ref rp1, .ref rp2] (wd D cy [oX4 ad s4_ticks s4_firstBeganWith s4_secondBefore s4_thirdBefore s4_thirdTwoBefore, oX5 ad s5_kind s5_sums, oX6 ad s6_toldTail, aJ cy rp1 4 p1, aJ cy rp2 4 p2] sz)) (va_Qi (fun (r : Int32) (u : Unit) => (r = 0 ∨ r = 1) ∧ K r) (fun u t => we D ((fun u : Unit => [oX4 ad s4_ticks s4_firstBeganWith s4_secondBefore s4_thirdBefore s4_thirdTwoBefore, oX5 ad s5_kind s5_sums, oX6 ad s6_toldTail, aJ cy rp1 4 p1, aJ cy rp2 4 p2]) u) (va_A [oX4 ad s4_ticks s4_firstBeganWith s4_secondBefore s4_thirdBefore s4_thirdTwoBefore, oX5 ad s5_kind s5_sums, oX6 ad s6_toldTail, aJ cy rp1 4 p1, aJ cy rp2 4 p2] sz) t) (va_A [oX4 ad s4_ticks s4_firstBeganWith s4_secondBefore s4_thirdBefore s4_thirdTwoBefore, oX5 ad s5_kind s5_sums, oX6 ad s6_toldTail, aJ cy rp1 4 p1, aJ cy rp2 4 p2] sz)) 0 0 (va_A [oX4 ad s4_ticks s4_firstBeganWith s4_secondBefore s4_thirdBefore s4_thirdTwoBefore, oX5 ad s5_kind s5_sums, oX6 ad s6_toldTail, aJ cy rp1 4 p1, aJ cy rp2 4 p2] sz) := by
  refine k_ofW (cc := cX6_isSame) (maxL := 4) (ret := (some .boolean)) (fun A => va_Qi (fun (r : Int32) (u : Unit) => (r = 0 ∨ r = 1) ∧ K r) (fun u t => we D ((fun u : Unit => [oX4 ad s4_ticks s4_firstBeganWith s4_secondBefore s4_thirdBefore s4_thirdTwoBefore, oX5 ad s5_kind s5_sums, oX6 ad s6_toldTail, aJ cy rp1 4 p1, aJ cy rp2 4 p2]) u) A t) A) (by decide) rfl (Nat.le_of_ble_eq_true rfl) ?_
  intro p e s m below meth c A ls H locs hx hb hml hr hts hown hlocks hname hK hN hA hP hD hS hl
  have hl : lv_has ls 4 [(0, .ref (ad 6)), (1, .ref rp1), (2, .ref rp2)] := hl
  generalize hQ : MQ below _ _ s _ _ A = Q
  unfold v_X6_isSame at hv
  refine lv_iconst (v := 0) hx hb dX6_isSame_0 (by decide) ?_
  refine lv_istore_n (lv' := [(3, .int (0 : Int32)), (0, .ref (ad 6)), (1, .ref rp1), (2, .ref rp2)]) hx hb dX6_isSame_1 rfl hl (by decide) rfl (fun ls hl => ?_)
  have lp2 : ∀ (n2 : Nat) (l3_1 : Int32) (H : Heap) (locs : List Loc) (ls : Array Slot), vfix (vF_X6_isSame_2 s5_sums p1 p2 K) n2 l3_1 → lv_has ls 4 [(3, .int l3_1), (0, .ref (ad 6)), (1, .ref rp1), (2, .ref rp2)] → va_P D vwCl [oX4 ad s4_ticks s4_firstBeganWith s4_secondBefore s4_thirdBefore s4_thirdTwoBefore, oX5 ad s5_kind s5_sums, oX6 ad s6_toldTail, aJ cy rp1 4 p1, aJ cy rp2 4 p2] H → va_D A [oX4 ad s4_ticks s4_firstBeganWith s4_secondBefore s4_thirdBefore s4_thirdTwoBefore, oX5 ad s5_kind s5_sums, oX6 ad s6_toldTail, aJ cy rp1 4 p1, aJ cy rp2 4 p2] → va_S A s.heap H locs → W p l e rm_X6_isSame s m ([.ref (ad 6), .ref rp1, .ref rp2] : List Value).toArray below meth c H locs 0 0 Q (F0 m 2 ls []) := by
    intro n2
    induction n2 with
    | zero => intro l3_1 H locs ls hv; exact hv.elim
    | succ n2 ih2 =>
      intro l3_1 H locs ls hv hl hP hD hS
      have hv : vB_X6_isSame_2 s5_sums p1 p2 K (fun z0 => vfix (vF_X6_isSame_2 s5_sums p1 p2 K) n2 z0) l3_1 := hv
      unfold vB_X6_isSame_2 at hv
      refine lv_iload_n hx hb dX6_isSame_2 rfl (lv_at hl 0 rfl) ?_
      refine lv_aload_n hx hb dX6_isSame_3 rfl (lv_at hl 1 rfl) ?_
      refine va_get (D := D) (ci := 6) (v := .ref (ad 4)) (C := RX6) (T := TX6) (N := 4) hx hb hts in_X6_isSame_6 hown hK hP 2 rfl rfl 0 (by decide) (hts _ lk_X6_isSame_18) (fun _ h9 => h9) rfl dX6_isSame_4 ?_
      refine va_getN (D := D) (ci := 4) (v := .ref (ad 5)) (C := RX4) (T := TX4) (N := 9) hx hb hts in_X6_isSame_4 hown hK hP 0 rfl rfl 0 (by decide) (nz_use hN nzf_X6_43) (fun _ h9 => h9) rfl dX6_isSame_7 ?_
      refine va_getN (D := D) (ci := 5) (v := .int s5_sums) (C := RX5) (T := TX5) (N := 6) hx hb hts in_X6_isSame_5 hown hK hP 1 rfl rfl 5 (by decide) (nz_use hN nzf_X6_61) (fun _ h9 => h9) rfl dX6_isSame_10 ?_
      refine lv_icmp_ge (tgt := 34) hx hb dX6_isSame_13 (by decide) (fun c_13 => ?_) (fun c_13 => ?_)
      · have hv := hv.1 c_13
        refine lv_iconst (v := 1) hx hb dX6_isSame_34 (by decide) ?_
        rw [← hQ]
        exact k_zret hx hb hr hlocks hS () hP hD (by decide) hv dX6_isSame_35
      · have hv := hv.2 c_13
        refine lv_aload_n hx hb dX6_isSame_16 rfl (lv_at hl 2 rfl) ?_
        refine lv_iload_n hx hb dX6_isSame_17 rfl (lv_at hl 0 rfl) ?_
        refine va_lald hx hb hK hP 3 1 rfl rfl hv.1 dX6_isSame_18 ?_
        refine lv_topl (fun g2 h_g2 => ?_)
        have hv := hv.2 g2 h_g2
        refine lv_aload_n hx hb dX6_isSame_19 rfl (lv_at hl 3 rfl) ?_
        refine lv_iload_n hx hb dX6_isSame_20 rfl (lv_at hl 0 rfl) ?_
        refine va_lald hx hb hK hP 4 1 rfl rfl hv.1 dX6_isSame_21 ?_
        refine lv_topl (fun g3 h_g3 => ?_)
        have hv := hv.2 g3 h_g3
        refine k_lc_eq (tgt := 28) hx hb dX6_isSame_22 dX6_isSame_23 (by decide) (fun c_22 => ?_) (fun c_22 => ?_)
        · have hv := hv.1 c_22
          obtain ⟨i4, h_i4⟩ : ∃ y : Int32, y = l3_1 + 1 := ⟨_, rfl⟩
          refine lv_iinc (v := i4) (lv' := [(3, .int i4), (0, .ref (ad 6)), (1, .ref rp1), (2, .ref rp2)]) hx hb dX6_isSame_28 hl (k := 0) rfl (by rw [h_i4]; rfl) (by decide) rfl (fun ls hl => ?_)
          have hv := hv i4 h_i4
          refine lv_goto (tgt := 2) hx hb dX6_isSame_31 (by decide) ?_
          exact ih2 i4 H locs ls hv (lv_sub hl [0, 1, 2, 3] rfl) hP hD hS
        · have hv := hv.2 c_22
          refine lv_iconst (v := 0) hx hb dX6_isSame_26 (by decide) ?_
          rw [← hQ]
          exact k_zret hx hb hr hlocks hS () hP hD (by decide) hv dX6_isSame_27
  obtain ⟨nn, hv⟩ := hv
  exact lp2 nn (0 : Int32) H locs ls hv (lv_sub hl [0, 1, 2, 3] rfl) hP hD hS
theorem lk_X6_findBeat_18 : Cond.fieldLink RX6 18 "CoarseSteps$Outlook" "loop" "LCoarseSteps$Loop;" ∈ wsX6_findBeat := by decide +kernel
theorem in_X6_findBeat_6 : ∀ w ∈ wsX60, w ∈ wsX6_findBeat := by decide +kernel
theorem in_X6_findBeat_4 : ∀ w ∈ wsX40, w ∈ wsX6_findBeat := by decide +kernel
theorem lk_X6_findBeat_9 : Cond.fieldLink RX6 9 "CoarseSteps$Outlook" "at" "[J" ∈ wsX6_findBeat := by decide +kernel
theorem lk_X6_findBeat_15 : Cond.fieldLink RX6 15 "CoarseSteps$Outlook" "mark" "[J" ∈ wsX6_findBeat := by decide +kernel
abbrev rm_X6_findBeat : Room := { frames := 4, cells := 0, slots := 0, locals := 96 }
set_option maxHeartbeats 4000000 in
set_option maxRecDepth 100000 in
theorem m_X6_findBeat (l : Launch) (D : va_G) (cy : ClassId × ClassId × ClassId) (ad : Nat → Nat) (s4_ticks : Int32) (s4_firstBeganWith : Int64) (s4_secondBefore : Int32) (s4_thirdBefore : Int32) (s4_thirdTwoBefore : Int32) (s5_kind : Int32) (s5_sums : Int32) (s6_toldTail : Int32) (s7_over : Int32) (s7_count : Int32) (s8_sums : Int32) (s8_g : Int32) (a4_sums : Nat → Int64) (a5_coming : Nat → Int64) (a5_picked : Nat → Int32) (a6_at : Nat → Int64) (a6_mark : Nat → Int64) (a7_values : Nat → Int32) (a8_a : Nat → Int32) (a8_b : Nat → Int32) (a8_e : Nat → Int32) (a8_h : Nat → Int32) (x1 : Int32) (sz : Nat) {K : Int32 → (Nat → Int64) → (Nat → Int32) → (Nat → Int64) → (Nat → Int64) → Prop} (hv : v_X6_findBeat s5_kind s5_sums s7_over s7_count s8_sums s8_g a4_sums a5_coming a5_picked a6_at a6_mark a7_values a8_a a8_b a8_e a8_h x1 K) : Met l yX6_findBeat wsX6_findBeat rm_X6_findBeat (va_Pc [.ref (ad 6), .int x1] (wd D cy [oX4 ad s4_ticks s4_firstBeganWith s4_secondBefore s4_thirdBefore s4_thirdTwoBefore, oX5 ad s5_kind s5_sums, oX6 ad s6_toldTail, oX7 ad s7_over s7_count, oX8 ad s8_sums s8_g, aJ cy (ad 29) 4 a4_sums, aJ cy (ad 30) 4 a5_coming, aI cy (ad 31) 3 a5_picked, aJ cy (ad 32) 4 a6_at, aJ cy (ad 33) 4 a6_mark, aI cy (ad 34) 8 a7_values, aI cy (ad 35) 16 a8_a, aI cy (ad 36) 4 a8_b, aI cy (ad 37) 4 a8_e, aI cy (ad 38) 4 a8_h] sz)) (va_Qi (fun (r : Int32) (u : (Nat → Int64) × (Nat → Int32) × (Nat → Int64) × (Nat → Int64)) => K r u.1 u.2.1 u.2.2.1 u.2.2.2) (fun u t => we D ((fun u : (Nat → Int64) × (Nat → Int32) × (Nat → Int64) × (Nat → Int64) => [oX4 ad s4_ticks s4_firstBeganWith s4_secondBefore s4_thirdBefore s4_thirdTwoBefore, oX5 ad s5_kind s5_sums, oX6 ad s6_toldTail, oX7 ad s7_over s7_count, oX8 ad s8_sums s8_g, aJ cy (ad 29) 4 a4_sums, aJ cy (ad 30) 4 u.1, aI cy (ad 31) 3 u.2.1, aJ cy (ad 32) 4 u.2.2.1, aJ cy (ad 33) 4 u.2.2.2, aI cy (ad 34) 8 a7_values, aI cy (ad 35) 16 a8_a, aI cy (ad 36) 4 a8_b, aI cy (ad 37) 4 a8_e, aI cy (ad 38) 4 a8_h]) u) (va_A [oX4 ad s4_ticks s4_firstBeganWith s4_secondBefore s4_thirdBefore s4_thirdTwoBefore, oX5 ad s5_kind s5_sums, oX6 ad s6_toldTail, oX7 ad s7_over s7_count, oX8 ad s8_sums s8_g, aJ cy (ad 29) 4 a4_sums, aJ cy (ad 30) 4 a5_coming, aI cy (ad 31) 3 a5_picked, aJ cy (ad 32) 4 a6_at, aJ cy (ad 33) 4 a6_mark, aI cy (ad 34) 8 a7_values, aI cy (ad 35) 16 a8_a, aI cy (ad 36) 4 a8_b, aI cy (ad 37) 4 a8_e, aI cy (ad 38) 4 a8_h] sz) t) (va_A [oX4 ad s4_ticks s4_firstBeganWith s4_secondBefore s4_thirdBefore s4_thirdTwoBefore, oX5 ad s5_kind s5_sums, oX6 ad s6_toldTail, oX7 ad s7_over s7_count, oX8 ad s8_sums s8_g, aJ cy (ad 29) 4 a4_sums, aJ cy (ad 30) 4 a5_coming, aI cy (ad 31) 3 a5_picked, aJ cy (ad 32) 4 a6_at, aJ cy (ad 33) 4 a6_mark, aI cy (ad 34) 8 a7_values, aI cy (ad 35) 16 a8_a, aI cy (ad 36) 4 a8_b, aI cy (ad 37) 4 a8_e, aI cy (ad 38) 4 a8_h] sz)) 0 0 (va_A [oX4 ad s4_ticks s4_firstBeganWith s4_secondBefore s4_thirdBefore s4_thirdTwoBefore, oX5 ad s5_kind s5_sums, oX6 ad s6_toldTail, oX7 ad s7_over s7_count, oX8 ad s8_sums s8_g, aJ cy (ad 29) 4 a4_sums, aJ cy (ad 30) 4 a5_coming, aI cy (ad 31) 3 a5_picked, aJ cy (ad 32) 4 a6_at, aJ cy (ad 33) 4 a6_mark, aI cy (ad 34) 8 a7_values, aI cy (ad 35) 16 a8_a, aI cy (ad 36) 4 a8_b, aI cy (ad 37) 4 a8_e, aI cy (ad 38) 4 a8_h] sz) := by
  refine k_ofW (cc := cX6_findBeat) (maxL := 5) (ret := (some .int)) (fun A => va_Qi (fun (r : Int32) (u : (Nat → Int64) × (Nat → Int32) × (Nat → Int64) × (Nat → Int64)) => K r u.1 u.2.1 u.2.2.1 u.2.2.2) (fun u t => we D ((fun u : (Nat → Int64) × (Nat → Int32) × (Nat → Int64) × (Nat → Int64) => [oX4 ad s4_ticks s4_firstBeganWith s4_secondBefore s4_thirdBefore s4_thirdTwoBefore, oX5 ad s5_kind s5_sums, oX6 ad s6_toldTail, oX7 ad s7_over s7_count, oX8 ad s8_sums s8_g, aJ cy (ad 29) 4 a4_sums, aJ cy (ad 30) 4 u.1, aI cy (ad 31) 3 u.2.1, aJ cy (ad 32) 4 u.2.2.1, aJ cy (ad 33) 4 u.2.2.2, aI cy (ad 34) 8 a7_values, aI cy (ad 35) 16 a8_a, aI cy (ad 36) 4 a8_b, aI cy (ad 37) 4 a8_e, aI cy (ad 38) 4 a8_h]) u) A t) A) (by decide) rfl (Nat.le_of_ble_eq_true rfl) ?_
  intro p e s m below meth c A ls H locs hx hb hml hr hts hown hlocks hname hK hN hA hP hD hS hl
  have hl : lv_has ls 5 [(0, .ref (ad 6)), (1, .int x1)] := hl
  generalize hQ : MQ below _ _ s _ _ A = Q
  unfold v_X6_findBeat at hv
  refine lv_aload_n hx hb dX6_findBeat_0 rfl (lv_at hl 0 rfl) ?_
  refine va_get (D := D) (ci := 6) (v := .ref (ad 4)) (C := RX6) (T := TX6) (N := 4) hx hb hts in_X6_findBeat_6 hown hK hP 2 rfl rfl 0 (by decide) (hts _ lk_X6_findBeat_18) (fun _ h9 => h9) rfl dX6_findBeat_1 ?_
  refine va_getN (D := D) (ci := 4) (v := .ref (ad 29)) (C := RX4) (T := TX4) (N := 9) hx hb hts in_X6_findBeat_4 hown hK hP 0 rfl rfl 3 (by decide) (nz_use hN nzf_X6_34) (fun _ h9 => h9) rfl dX6_findBeat_4 ?_
  refine lv_aload_n hx hb dX6_findBeat_7 rfl (lv_at hl 0 rfl) ?_
  refine va_get (D := D) (ci := 6) (v := .ref (ad 32)) (C := RX6) (T := TX6) (N := 4) hx hb hts in_X6_findBeat_6 hown hK hP 2 rfl rfl 1 (by decide) (hts _ lk_X6_findBeat_9) (fun _ h9 => h9) rfl dX6_findBeat_8 ?_
  have hPc := hP.sub (ws' := [aJ cy (ad 29) 4 a4_sums, aJ cy (ad 32) 4 a6_at]) [5, 8] rfl
  have hDc := hD.sub (ws' := [aJ cy (ad 29) 4 a4_sums, aJ cy (ad 32) 4 a6_at]) [5, 8] (by decide) rfl
  refine k_calv (wc := [aJ cy (ad 29) 4 a4_sums, aJ cy (ad 32) 4 a6_at]) (wr := [oX4 ad s4_ticks s4_firstBeganWith s4_secondBefore s4_thirdBefore s4_thirdTwoBefore, oX5 ad s5_kind s5_sums, oX6 ad s6_toldTail, oX7 ad s7_over s7_count, oX8 ad s8_sums s8_g, aJ cy (ad 30) 4 a5_coming, aI cy (ad 31) 3 a5_picked, aJ cy (ad 33) 4 a6_mark, aI cy (ad 34) 8 a7_values, aI cy (ad 35) 16 a8_a, aI cy (ad 36) 4 a8_b, aI cy (ad 37) 4 a8_e, aI cy (ad 38) 4 a8_h]) (va_runS (As := [.ref (ad 29), .ref (ad 32)]) (rest := []) ⟨hx, hb, hml, hown, hts⟩ (m_X6_copy l D cy ad a4_sums a6_at (ad 29) (ad 32) H.size hv) (va_cwS 2 hts gX6_findBeat_X6_copy rfl rfl rfl (by decide +kernel) ⟨Nat.le_of_ble_eq_true rfl, Nat.le_of_ble_eq_true rfl⟩) ⟨wd_blind, wd_ok hPc hK hDc hN⟩ rfl rfl hl.1 rfl (lv_room (Nat.le_of_ble_eq_true rfl)) dX6_findBeat_11 ⟨Nat.le_of_ble_eq_true rfl, Nat.le_of_ble_eq_true rfl⟩) hP hD hS hA [5, 8] [0, 1, 2, 3, 4, 6, 7, 9, 10, 11, 12, 13, 14] rfl rfl (by decide) (by decide) (fun a6_at_1 H locs hv hP hD hS => ?_)
  have hP : va_P D vwCl [oX4 ad s4_ticks s4_firstBeganWith s4_secondBefore s4_thirdBefore s4_thirdTwoBefore, oX5 ad s5_kind s5_sums, oX6 ad s6_toldTail, oX7 ad s7_over s7_count, oX8 ad s8_sums s8_g, aJ cy (ad 29) 4 a4_sums, aJ cy (ad 30) 4 a5_coming, aI cy (ad 31) 3 a5_picked, aJ cy (ad 32) 4 a6_at_1, aJ cy (ad 33) 4 a6_mark, aI cy (ad 34) 8 a7_values, aI cy (ad 35) 16 a8_a, aI cy (ad 36) 4 a8_b, aI cy (ad 37) 4 a8_e, aI cy (ad 38) 4 a8_h] H := hP.sub [0, 1, 2, 3, 4, 13, 5, 6, 14, 7, 8, 9, 10, 11, 12] rfl
  have hD : va_D A [oX4 ad s4_ticks s4_firstBeganWith s4_secondBefore s4_thirdBefore s4_thirdTwoBefore, oX5 ad s5_kind s5_sums, oX6 ad s6_toldTail, oX7 ad s7_over s7_count, oX8 ad s8_sums s8_g, aJ cy (ad 29) 4 a4_sums, aJ cy (ad 30) 4 a5_coming, aI cy (ad 31) 3 a5_picked, aJ cy (ad 32) 4 a6_at_1, aJ cy (ad 33) 4 a6_mark, aI cy (ad 34) 8 a7_values, aI cy (ad 35) 16 a8_a, aI cy (ad 36) 4 a8_b, aI cy (ad 37) 4 a8_e, aI cy (ad 38) 4 a8_h] := hD.sub [0, 1, 2, 3, 4, 13, 5, 6, 14, 7, 8, 9, 10, 11, 12] (by decide) rfl
  refine lv_aload_n hx hb dX6_findBeat_14 rfl (lv_at hl 0 rfl) ?_
  refine va_get (D := D) (ci := 6) (v := .ref (ad 32)) (C := RX6) (T := TX6) (N := 4) hx hb hts in_X6_findBeat_6 hown hK hP 2 rfl rfl 1 (by decide) (hts _ lk_X6_findBeat_9) (fun _ h9 => h9) rfl dX6_findBeat_15 ?_
  refine lv_aload_n hx hb dX6_findBeat_18 rfl (lv_at hl 0 rfl) ?_
  refine va_get (D := D) (ci := 6) (v := .ref (ad 33)) (C := RX6) (T := TX6) (N := 4) hx hb hts in_X6_findBeat_6 hown hK hP 2 rfl rfl 2 (by decide) (hts _ lk_X6_findBeat_15) (fun _ h9 => h9) rfl dX6_findBeat_19 ?_
  have hPc := hP.sub (ws' := [aJ cy (ad 32) 4 a6_at_1, aJ cy (ad 33) 4 a6_mark]) [8, 9] rfl
  have hDc := hD.sub (ws' := [aJ cy (ad 32) 4 a6_at_1, aJ cy (ad 33) 4 a6_mark]) [8, 9] (by decide) rfl
  refine k_calv (wc := [aJ cy (ad 32) 4 a6_at_1, aJ cy (ad 33) 4 a6_mark]) (wr := [oX4 ad s4_ticks s4_firstBeganWith s4_secondBefore s4_thirdBefore s4_thirdTwoBefore, oX5 ad s5_kind s5_sums, oX6 ad s6_toldTail, oX7 ad s7_over s7_count, oX8 ad s8_sums s8_g, aJ cy (ad 29) 4 a4_sums, aJ cy (ad 30) 4 a5_coming, aI cy (ad 31) 3 a5_picked, aI cy (ad 34) 8 a7_values, aI cy (ad 35) 16 a8_a, aI cy (ad 36) 4 a8_b, aI cy (ad 37) 4 a8_e, aI cy (ad 38) 4 a8_h]) (va_runS (As := [.ref (ad 32), .ref (ad 33)]) (rest := []) ⟨hx, hb, hml, hown, hts⟩ (m_X6_copy l D cy ad a6_at_1 a6_mark (ad 32) (ad 33) H.size hv) (va_cwS 2 hts gX6_findBeat_X6_copy rfl rfl rfl (by decide +kernel) ⟨Nat.le_of_ble_eq_true rfl, Nat.le_of_ble_eq_true rfl⟩) ⟨wd_blind, wd_ok hPc hK hDc hN⟩ rfl rfl hl.1 rfl (lv_room (Nat.le_of_ble_eq_true rfl)) dX6_findBeat_22 ⟨Nat.le_of_ble_eq_true rfl, Nat.le_of_ble_eq_true rfl⟩) hP hD hS hA [8, 9] [0, 1, 2, 3, 4, 5, 6, 7, 10, 11, 12, 13, 14] rfl rfl (by decide) (by decide) (fun a6_mark_2 H locs hv hP hD hS => ?_)
  have hP : va_P D vwCl [oX4 ad s4_ticks s4_firstBeganWith s4_secondBefore s4_thirdBefore s4_thirdTwoBefore, oX5 ad s5_kind s5_sums, oX6 ad s6_toldTail, oX7 ad s7_over s7_count, oX8 ad s8_sums s8_g, aJ cy (ad 29) 4 a4_sums, aJ cy (ad 30) 4 a5_coming, aI cy (ad 31) 3 a5_picked, aJ cy (ad 32) 4 a6_at_1, aJ cy (ad 33) 4 a6_mark_2, aI cy (ad 34) 8 a7_values, aI cy (ad 35) 16 a8_a, aI cy (ad 36) 4 a8_b, aI cy (ad 37) 4 a8_e, aI cy (ad 38) 4 a8_h] H := hP.sub [0, 1, 2, 3, 4, 5, 6, 7, 13, 14, 8, 9, 10, 11, 12] rfl
  have hD : va_D A [oX4 ad s4_ticks s4_firstBeganWith s4_secondBefore s4_thirdBefore s4_thirdTwoBefore, oX5 ad s5_kind s5_sums, oX6 ad s6_toldTail, oX7 ad s7_over s7_count, oX8 ad s8_sums s8_g, aJ cy (ad 29) 4 a4_sums, aJ cy (ad 30) 4 a5_coming, aI cy (ad 31) 3 a5_picked, aJ cy (ad 32) 4 a6_at_1, aJ cy (ad 33) 4 a6_mark_2, aI cy (ad 34) 8 a7_values, aI cy (ad 35) 16 a8_a, aI cy (ad 36) 4 a8_b, aI cy (ad 37) 4 a8_e, aI cy (ad 38) 4 a8_h] := hD.sub [0, 1, 2, 3, 4, 5, 6, 7, 13, 14, 8, 9, 10, 11, 12] (by decide) rfl
  refine lv_iconst (v := 1) hx hb dX6_findBeat_25 (by decide) ?_
  refine lv_istore_n (lv' := [(2, .int (1 : Int32)), (0, .ref (ad 6)), (1, .int x1)]) hx hb dX6_findBeat_26 rfl hl (by decide) rfl (fun ls hl => ?_)
  refine lv_iconst (v := 0) hx hb dX6_findBeat_27 (by decide) ?_
  refine lv_istore_n (lv' := [(3, .int (0 : Int32)), (2, .int (1 : Int32)), (0, .ref (ad 6)), (1, .int x1)]) hx hb dX6_findBeat_28 rfl hl (by decide) rfl (fun ls hl => ?_)
  refine lv_iconst (v := 1) hx hb dX6_findBeat_29 (by decide) ?_
  refine lv_istore (lv' := [(4, .int (1 : Int32)), (3, .int (0 : Int32)), (2, .int (1 : Int32)), (0, .ref (ad 6)), (1, .int x1)]) hx hb dX6_findBeat_30 hl (by decide) rfl (fun ls hl => ?_)
  have lp32 : ∀ (n32 : Nat) (l4_3 : Int32) (l3_4 : Int32) (l2_5 : Int32) (a5_coming_6 : Nat → Int64) (a5_picked_7 : Nat → Int32) (a6_at_8 : Nat → Int64) (a6_mark_9 : Nat → Int64) (H : Heap) (locs : List Loc) (ls : Array Slot), vfix (vF_X6_findBeat_32 s5_kind s5_sums s7_over s7_count s8_sums s8_g a7_values a8_a a8_b a8_e a8_h x1 K) n32 (l4_3, l3_4, l2_5, a5_coming_6, a5_picked_7, a6_at_8, a6_mark_9) → lv_has ls 5 [(4, .int l4_3), (3, .int l3_4), (2, .int l2_5), (0, .ref (ad 6)), (1, .int x1)] → va_P D vwCl [oX4 ad s4_ticks s4_firstBeganWith s4_secondBefore s4_thirdBefore s4_thirdTwoBefore, oX5 ad s5_kind s5_sums, oX6 ad s6_toldTail, oX7 ad s7_over s7_count, oX8 ad s8_sums s8_g, aJ cy (ad 29) 4 a4_sums, aJ cy (ad 30) 4 a5_coming_6, aI cy (ad 31) 3 a5_picked_7, aJ cy (ad 32) 4 a6_at_8, aJ cy (ad 33) 4 a6_mark_9, aI cy (ad 34) 8 a7_values, aI cy (ad 35) 16 a8_a, aI cy (ad 36) 4 a8_b, aI cy (ad 37) 4 a8_e, aI cy (ad 38) 4 a8_h] H → va_D A [oX4 ad s4_ticks s4_firstBeganWith s4_secondBefore s4_thirdBefore s4_thirdTwoBefore, oX5 ad s5_kind s5_sums, oX6 ad s6_toldTail, oX7 ad s7_over s7_count, oX8 ad s8_sums s8_g, aJ cy (ad 29) 4 a4_sums, aJ cy (ad 30) 4 a5_coming_6, aI cy (ad 31) 3 a5_picked_7, aJ cy (ad 32) 4 a6_at_8, aJ cy (ad 33) 4 a6_mark_9, aI cy (ad 34) 8 a7_values, aI cy (ad 35) 16 a8_a, aI cy (ad 36) 4 a8_b, aI cy (ad 37) 4 a8_e, aI cy (ad 38) 4 a8_h] → va_S A s.heap H locs → W p l e rm_X6_findBeat s m ([.ref (ad 6), .int x1] : List Value).toArray below meth c H locs 0 0 Q (F0 m 32 ls []) := by
    intro n32
    induction n32 with
    | zero => intro l4_3 l3_4 l2_5 a5_coming_6 a5_picked_7 a6_at_8 a6_mark_9 H locs ls hv; exact hv.elim
    | succ n32 ih32 =>
      intro l4_3 l3_4 l2_5 a5_coming_6 a5_picked_7 a6_at_8 a6_mark_9 H locs ls hv hl hP hD hS
      have hv : vB_X6_findBeat_32 s5_kind s5_sums s7_over s7_count s8_sums s8_g a7_values a8_a a8_b a8_e a8_h x1 K (fun z0 z1 z2 z3 z4 z5 z6 => vfix (vF_X6_findBeat_32 s5_kind s5_sums s7_over s7_count s8_sums s8_g a7_values a8_a a8_b a8_e a8_h x1 K) n32 (z0, z1, z2, z3, z4, z5, z6)) l4_3 l3_4 l2_5 a5_coming_6 a5_picked_7 a6_at_8 a6_mark_9 := hv
      unfold vB_X6_findBeat_32 at hv
      refine lv_iload hx hb dX6_findBeat_32 (lv_at hl 0 rfl) ?_
      refine lv_sipush (v := 8192) hx hb dX6_findBeat_34 (by decide) ?_
      refine lv_icmp_ge (tgt := 122) hx hb dX6_findBeat_37 (by decide) (fun c_37 => ?_) (fun c_37 => ?_)
      · have hv := hv.1 c_37
        refine lv_bipush (v := -2) hx hb dX6_findBeat_122 (by decide) ?_
        rw [← hQ]
        exact k_iret hx hb hr hlocks hS (a5_coming_6, a5_picked_7, a6_at_8, a6_mark_9) hP hD hv dX6_findBeat_124
      · have hv := hv.2 c_37
        refine lv_aload_n hx hb dX6_findBeat_40 rfl (lv_at hl 3 rfl) ?_
        refine va_get (D := D) (ci := 6) (v := .ref (ad 4)) (C := RX6) (T := TX6) (N := 4) hx hb hts in_X6_findBeat_6 hown hK hP 2 rfl rfl 0 (by decide) (hts _ lk_X6_findBeat_18) (fun _ h9 => h9) rfl dX6_findBeat_41 ?_
        refine va_getN (D := D) (ci := 4) (v := .ref (ad 5)) (C := RX4) (T := TX4) (N := 9) hx hb hts in_X6_findBeat_4 hown hK hP 0 rfl rfl 0 (by decide) (nz_use hN nzf_X6_43) (fun _ h9 => h9) rfl dX6_findBeat_44 ?_
        refine lv_aload_n hx hb dX6_findBeat_47 rfl (lv_at hl 3 rfl) ?_
        refine va_get (D := D) (ci := 6) (v := .ref (ad 32)) (C := RX6) (T := TX6) (N := 4) hx hb hts in_X6_findBeat_6 hown hK hP 2 rfl rfl 1 (by decide) (hts _ lk_X6_findBeat_9) (fun _ h9 => h9) rfl dX6_findBeat_48 ?_
        refine lv_iload_n hx hb dX6_findBeat_51 rfl (lv_at hl 4 rfl) ?_
        have hPc := hP.sub (ws' := [oX5 ad s5_kind s5_sums, oX7 ad s7_over s7_count, oX8 ad s8_sums s8_g, aJ cy (ad 30) 4 a5_coming_6, aI cy (ad 31) 3 a5_picked_7, aI cy (ad 34) 8 a7_values, aI cy (ad 35) 16 a8_a, aI cy (ad 36) 4 a8_b, aI cy (ad 37) 4 a8_e, aI cy (ad 38) 4 a8_h, aJ cy (ad 32) 4 a6_at_8]) [1, 3, 4, 6, 7, 10, 11, 12, 13, 14, 8] rfl
        have hDc := hD.sub (ws' := [oX5 ad s5_kind s5_sums, oX7 ad s7_over s7_count, oX8 ad s8_sums s8_g, aJ cy (ad 30) 4 a5_coming_6, aI cy (ad 31) 3 a5_picked_7, aI cy (ad 34) 8 a7_values, aI cy (ad 35) 16 a8_a, aI cy (ad 36) 4 a8_b, aI cy (ad 37) 4 a8_e, aI cy (ad 38) 4 a8_h, aJ cy (ad 32) 4 a6_at_8]) [1, 3, 4, 6, 7, 10, 11, 12, 13, 14, 8] (by decide) rfl
        refine k_cali (wc := [oX5 ad s5_kind s5_sums, oX7 ad s7_over s7_count, oX8 ad s8_sums s8_g, aJ cy (ad 30) 4 a5_coming_6, aI cy (ad 31) 3 a5_picked_7, aI cy (ad 34) 8 a7_values, aI cy (ad 35) 16 a8_a, aI cy (ad 36) 4 a8_b, aI cy (ad 37) 4 a8_e, aI cy (ad 38) 4 a8_h, aJ cy (ad 32) 4 a6_at_8]) (wr := [oX4 ad s4_ticks s4_firstBeganWith s4_secondBefore s4_thirdBefore s4_thirdTwoBefore, oX6 ad s6_toldTail, aJ cy (ad 29) 4 a4_sums, aJ cy (ad 33) 4 a6_mark_9]) (va_runV (As := [.ref (ad 32), .int x1]) (rest := []) ⟨hx, hb, hml, hown, hts⟩ (m_X5_advance l D cy ad s5_kind s5_sums s7_over s7_count s8_sums s8_g a5_coming_6 a5_picked_7 a7_values a8_a a8_b a8_e a8_h a6_at_8 (ad 32) x1 H.size hv) (cwV 2 hts gX6_findBeat_X5_advance rfl rfl rfl (by decide +kernel) ⟨Nat.le_of_ble_eq_true rfl, Nat.le_of_ble_eq_true rfl⟩) ⟨wd_blind, va_recv hK hPc (ci := 5) (q0 := 0) rfl rfl, wd_ok hPc hK hDc hN⟩ rfl rfl hl.1 rfl (lv_room (Nat.le_of_ble_eq_true rfl)) dX6_findBeat_52 ⟨Nat.le_of_ble_eq_true rfl, Nat.le_of_ble_eq_true rfl⟩) hP hD hS hA [1, 3, 4, 6, 7, 10, 11, 12, 13, 14, 8] [0, 2, 5, 9] rfl rfl (by decide) (by decide) (fun r10 u H locs hv hP hD hS => ?_)
        obtain ⟨a5_coming_11, a5_picked_12, a6_at_13⟩ := u
        obtain ⟨hz_r10, hv⟩ := hv
        have hP : va_P D vwCl [oX4 ad s4_ticks s4_firstBeganWith s4_secondBefore s4_thirdBefore s4_thirdTwoBefore, oX5 ad s5_kind s5_sums, oX6 ad s6_toldTail, oX7 ad s7_over s7_count, oX8 ad s8_sums s8_g, aJ cy (ad 29) 4 a4_sums, aJ cy (ad 30) 4 a5_coming_11, aI cy (ad 31) 3 a5_picked_12, aJ cy (ad 32) 4 a6_at_13, aJ cy (ad 33) 4 a6_mark_9, aI cy (ad 34) 8 a7_values, aI cy (ad 35) 16 a8_a, aI cy (ad 36) 4 a8_b, aI cy (ad 37) 4 a8_e, aI cy (ad 38) 4 a8_h] H := hP.sub [0, 4, 1, 5, 6, 2, 7, 8, 14, 3, 9, 10, 11, 12, 13] rfl
        have hD : va_D A [oX4 ad s4_ticks s4_firstBeganWith s4_secondBefore s4_thirdBefore s4_thirdTwoBefore, oX5 ad s5_kind s5_sums, oX6 ad s6_toldTail, oX7 ad s7_over s7_count, oX8 ad s8_sums s8_g, aJ cy (ad 29) 4 a4_sums, aJ cy (ad 30) 4 a5_coming_11, aI cy (ad 31) 3 a5_picked_12, aJ cy (ad 32) 4 a6_at_13, aJ cy (ad 33) 4 a6_mark_9, aI cy (ad 34) 8 a7_values, aI cy (ad 35) 16 a8_a, aI cy (ad 36) 4 a8_b, aI cy (ad 37) 4 a8_e, aI cy (ad 38) 4 a8_h] := hD.sub [0, 4, 1, 5, 6, 2, 7, 8, 14, 3, 9, 10, 11, 12, 13] (by decide) rfl
        refine lv_if_ne (tgt := 74) hx hb dX6_findBeat_55 (by decide) (fun c_55 => ?_) (fun c_55 => ?_)
        · have hv := hv.1 c_55
          obtain ⟨i14, h_i14⟩ : ∃ y : Int32, y = l3_4 + 1 := ⟨_, rfl⟩
          refine lv_iinc (v := i14) (lv' := [(3, .int i14), (4, .int l4_3), (2, .int l2_5), (0, .ref (ad 6)), (1, .int x1)]) hx hb dX6_findBeat_74 hl (k := 1) rfl (by rw [h_i14]; rfl) (by decide) rfl (fun ls hl => ?_)
          have hv := hv i14 h_i14
          refine lv_aload_n hx hb dX6_findBeat_77 rfl (lv_at hl 3 rfl) ?_
          refine lv_aload_n hx hb dX6_findBeat_78 rfl (lv_at hl 3 rfl) ?_
          refine va_get (D := D) (ci := 6) (v := .ref (ad 32)) (C := RX6) (T := TX6) (N := 4) hx hb hts in_X6_findBeat_6 hown hK hP 2 rfl rfl 1 (by decide) (hts _ lk_X6_findBeat_9) (fun _ h9 => h9) rfl dX6_findBeat_79 ?_
          refine lv_aload_n hx hb dX6_findBeat_82 rfl (lv_at hl 3 rfl) ?_
          refine va_get (D := D) (ci := 6) (v := .ref (ad 33)) (C := RX6) (T := TX6) (N := 4) hx hb hts in_X6_findBeat_6 hown hK hP 2 rfl rfl 2 (by decide) (hts _ lk_X6_findBeat_15) (fun _ h9 => h9) rfl dX6_findBeat_83 ?_
          have hPc := hP.sub (ws' := [oX4 ad s4_ticks s4_firstBeganWith s4_secondBefore s4_thirdBefore s4_thirdTwoBefore, oX5 ad s5_kind s5_sums, oX6 ad s6_toldTail, aJ cy (ad 32) 4 a6_at_13, aJ cy (ad 33) 4 a6_mark_9]) [0, 1, 2, 8, 9] rfl
          have hDc := hD.sub (ws' := [oX4 ad s4_ticks s4_firstBeganWith s4_secondBefore s4_thirdBefore s4_thirdTwoBefore, oX5 ad s5_kind s5_sums, oX6 ad s6_toldTail, aJ cy (ad 32) 4 a6_at_13, aJ cy (ad 33) 4 a6_mark_9]) [0, 1, 2, 8, 9] (by decide) rfl
          refine k_cali (wc := [oX4 ad s4_ticks s4_firstBeganWith s4_secondBefore s4_thirdBefore s4_thirdTwoBefore, oX5 ad s5_kind s5_sums, oX6 ad s6_toldTail, aJ cy (ad 32) 4 a6_at_13, aJ cy (ad 33) 4 a6_mark_9]) (wr := [oX7 ad s7_over s7_count, oX8 ad s8_sums s8_g, aJ cy (ad 29) 4 a4_sums, aJ cy (ad 30) 4 a5_coming_11, aI cy (ad 31) 3 a5_picked_12, aI cy (ad 34) 8 a7_values, aI cy (ad 35) 16 a8_a, aI cy (ad 36) 4 a8_b, aI cy (ad 37) 4 a8_e, aI cy (ad 38) 4 a8_h]) (va_runV (As := [.ref (ad 32), .ref (ad 33)]) (rest := []) ⟨hx, hb, hml, hown, hts⟩ (m_X6_isSame l D cy ad s4_ticks s4_firstBeganWith s4_secondBefore s4_thirdBefore s4_thirdTwoBefore s5_kind s5_sums s6_toldTail a6_at_13 a6_mark_9 (ad 32) (ad 33) H.size hv) (cwV 2 hts gX6_findBeat_X6_isSame rfl rfl rfl (by decide +kernel) ⟨Nat.le_of_ble_eq_true rfl, Nat.le_of_ble_eq_true rfl⟩) ⟨wd_blind, va_recv hK hPc (ci := 6) (q0 := 2) rfl rfl, wd_ok hPc hK hDc hN⟩ rfl rfl hl.1 rfl (lv_room (Nat.le_of_ble_eq_true rfl)) dX6_findBeat_86 ⟨Nat.le_of_ble_eq_true rfl, Nat.le_of_ble_eq_true rfl⟩) hP hD hS hA [0, 1, 2, 8, 9] [3, 4, 5, 6, 7, 10, 11, 12, 13, 14] rfl rfl (by decide) (by decide) (fun r15 u H locs hv hP hD hS => ?_)
          obtain ⟨hz_r15, hv⟩ := hv
          have hP : va_P D vwCl [oX4 ad s4_ticks s4_firstBeganWith s4_secondBefore s4_thirdBefore s4_thirdTwoBefore, oX5 ad s5_kind s5_sums, oX6 ad s6_toldTail, oX7 ad s7_over s7_count, oX8 ad s8_sums s8_g, aJ cy (ad 29) 4 a4_sums, aJ cy (ad 30) 4 a5_coming_11, aI cy (ad 31) 3 a5_picked_12, aJ cy (ad 32) 4 a6_at_13, aJ cy (ad 33) 4 a6_mark_9, aI cy (ad 34) 8 a7_values, aI cy (ad 35) 16 a8_a, aI cy (ad 36) 4 a8_b, aI cy (ad 37) 4 a8_e, aI cy (ad 38) 4 a8_h] H := hP.sub [10, 11, 12, 0, 1, 2, 3, 4, 13, 14, 5, 6, 7, 8, 9] rfl
          have hD : va_D A [oX4 ad s4_ticks s4_firstBeganWith s4_secondBefore s4_thirdBefore s4_thirdTwoBefore, oX5 ad s5_kind s5_sums, oX6 ad s6_toldTail, oX7 ad s7_over s7_count, oX8 ad s8_sums s8_g, aJ cy (ad 29) 4 a4_sums, aJ cy (ad 30) 4 a5_coming_11, aI cy (ad 31) 3 a5_picked_12, aJ cy (ad 32) 4 a6_at_13, aJ cy (ad 33) 4 a6_mark_9, aI cy (ad 34) 8 a7_values, aI cy (ad 35) 16 a8_a, aI cy (ad 36) 4 a8_b, aI cy (ad 37) 4 a8_e, aI cy (ad 38) 4 a8_h] := hD.sub [10, 11, 12, 0, 1, 2, 3, 4, 13, 14, 5, 6, 7, 8, 9] (by decide) rfl
          refine lv_if_eq (tgt := 94) hx hb dX6_findBeat_89 (by decide) (fun c_89 => ?_) (fun c_89 => ?_)
          · have hv := hv.1 c_89
            refine lv_iload_n hx hb dX6_findBeat_94 rfl (lv_at hl 0 rfl) ?_
            refine lv_iload_n hx hb dX6_findBeat_95 rfl (lv_at hl 2 rfl) ?_
            have jn116 : ∀ (l3_16 : Int32) (l2_17 : Int32) (a6_mark_18 : Nat → Int64) (H : Heap) (locs : List Loc) (ls : Array Slot), vJ_X6_findBeat_116 l4_3 (fun z0 z1 z2 z3 z4 z5 z6 => vfix (vF_X6_findBeat_32 s5_kind s5_sums s7_over s7_count s8_sums s8_g a7_values a8_a a8_b a8_e a8_h x1 K) n32 (z0, z1, z2, z3, z4, z5, z6)) a5_coming_11 a5_picked_12 a6_at_13 l3_16 l2_17 a6_mark_18 → lv_has ls 5 [(3, .int l3_16), (4, .int l4_3), (2, .int l2_17), (0, .ref (ad 6)), (1, .int x1)] → va_P D vwCl [oX4 ad s4_ticks s4_firstBeganWith s4_secondBefore s4_thirdBefore s4_thirdTwoBefore, oX5 ad s5_kind s5_sums, oX6 ad s6_toldTail, oX7 ad s7_over s7_count, oX8 ad s8_sums s8_g, aJ cy (ad 29) 4 a4_sums, aJ cy (ad 30) 4 a5_coming_11, aI cy (ad 31) 3 a5_picked_12, aJ cy (ad 32) 4 a6_at_13, aJ cy (ad 33) 4 a6_mark_18, aI cy (ad 34) 8 a7_values, aI cy (ad 35) 16 a8_a, aI cy (ad 36) 4 a8_b, aI cy (ad 37) 4 a8_e, aI cy (ad 38) 4 a8_h] H → va_D A [oX4 ad s4_ticks s4_firstBeganWith s4_secondBefore s4_thirdBefore s4_thirdTwoBefore, oX5 ad s5_kind s5_sums, oX6 ad s6_toldTail, oX7 ad s7_over s7_count, oX8 ad s8_sums s8_g, aJ cy (ad 29) 4 a4_sums, aJ cy (ad 30) 4 a5_coming_11, aI cy (ad 31) 3 a5_picked_12, aJ cy (ad 32) 4 a6_at_13, aJ cy (ad 33) 4 a6_mark_18, aI cy (ad 34) 8 a7_values, aI cy (ad 35) 16 a8_a, aI cy (ad 36) 4 a8_b, aI cy (ad 37) 4 a8_e, aI cy (ad 38) 4 a8_h] → va_S A s.heap H locs → W p l e rm_X6_findBeat s m ([.ref (ad 6), .int x1] : List Value).toArray below meth c H locs 0 0 Q (F0 m 116 ls []) := by
              intro l3_16 l2_17 a6_mark_18 H locs ls hv hl hP hD hS
              unfold vJ_X6_findBeat_116 at hv
              obtain ⟨i19, h_i19⟩ : ∃ y : Int32, y = l4_3 + 1 := ⟨_, rfl⟩
              refine lv_iinc (v := i19) (lv' := [(4, .int i19), (3, .int l3_16), (2, .int l2_17), (0, .ref (ad 6)), (1, .int x1)]) hx hb dX6_findBeat_116 hl (k := 1) rfl (by rw [h_i19]; rfl) (by decide) rfl (fun ls hl => ?_)
              have hv := hv i19 h_i19
              refine lv_goto (tgt := 32) hx hb dX6_findBeat_119 (by decide) ?_
              exact ih32 i19 l3_16 l2_17 a5_coming_11 a5_picked_12 a6_at_13 a6_mark_18 H locs ls hv (lv_sub hl [0, 1, 2, 3, 4] rfl) hP hD hS
            refine lv_icmp_ne (tgt := 116) hx hb dX6_findBeat_96 (by decide) (fun c_96 => ?_) (fun c_96 => ?_)
            · have hv := hv.1 c_96
              exact jn116 i14 l2_5 a6_mark_9 H locs ls hv (lv_sub hl [0, 1, 2, 3, 4] rfl) hP hD hS
            · have hv := hv.2 c_96
              refine lv_aload_n hx hb dX6_findBeat_99 rfl (lv_at hl 3 rfl) ?_
              refine va_get (D := D) (ci := 6) (v := .ref (ad 32)) (C := RX6) (T := TX6) (N := 4) hx hb hts in_X6_findBeat_6 hown hK hP 2 rfl rfl 1 (by decide) (hts _ lk_X6_findBeat_9) (fun _ h9 => h9) rfl dX6_findBeat_100 ?_
              refine lv_aload_n hx hb dX6_findBeat_103 rfl (lv_at hl 3 rfl) ?_
              refine va_get (D := D) (ci := 6) (v := .ref (ad 33)) (C := RX6) (T := TX6) (N := 4) hx hb hts in_X6_findBeat_6 hown hK hP 2 rfl rfl 2 (by decide) (hts _ lk_X6_findBeat_15) (fun _ h9 => h9) rfl dX6_findBeat_104 ?_
              have hPc := hP.sub (ws' := [aJ cy (ad 32) 4 a6_at_13, aJ cy (ad 33) 4 a6_mark_9]) [8, 9] rfl
              have hDc := hD.sub (ws' := [aJ cy (ad 32) 4 a6_at_13, aJ cy (ad 33) 4 a6_mark_9]) [8, 9] (by decide) rfl
              refine k_calv (wc := [aJ cy (ad 32) 4 a6_at_13, aJ cy (ad 33) 4 a6_mark_9]) (wr := [oX4 ad s4_ticks s4_firstBeganWith s4_secondBefore s4_thirdBefore s4_thirdTwoBefore, oX5 ad s5_kind s5_sums, oX6 ad s6_toldTail, oX7 ad s7_over s7_count, oX8 ad s8_sums s8_g, aJ cy (ad 29) 4 a4_sums, aJ cy (ad 30) 4 a5_coming_11, aI cy (ad 31) 3 a5_picked_12, aI cy (ad 34) 8 a7_values, aI cy (ad 35) 16 a8_a, aI cy (ad 36) 4 a8_b, aI cy (ad 37) 4 a8_e, aI cy (ad 38) 4 a8_h]) (va_runS (As := [.ref (ad 32), .ref (ad 33)]) (rest := []) ⟨hx, hb, hml, hown, hts⟩ (m_X6_copy l D cy ad a6_at_13 a6_mark_9 (ad 32) (ad 33) H.size hv) (va_cwS 2 hts gX6_findBeat_X6_copy rfl rfl rfl (by decide +kernel) ⟨Nat.le_of_ble_eq_true rfl, Nat.le_of_ble_eq_true rfl⟩) ⟨wd_blind, wd_ok hPc hK hDc hN⟩ rfl rfl hl.1 rfl (lv_room (Nat.le_of_ble_eq_true rfl)) dX6_findBeat_107 ⟨Nat.le_of_ble_eq_true rfl, Nat.le_of_ble_eq_true rfl⟩) hP hD hS hA [8, 9] [0, 1, 2, 3, 4, 5, 6, 7, 10, 11, 12, 13, 14] rfl rfl (by decide) (by decide) (fun a6_mark_20 H locs hv hP hD hS => ?_)
              have hP : va_P D vwCl [oX4 ad s4_ticks s4_firstBeganWith s4_secondBefore s4_thirdBefore s4_thirdTwoBefore, oX5 ad s5_kind s5_sums, oX6 ad s6_toldTail, oX7 ad s7_over s7_count, oX8 ad s8_sums s8_g, aJ cy (ad 29) 4 a4_sums, aJ cy (ad 30) 4 a5_coming_11, aI cy (ad 31) 3 a5_picked_12, aJ cy (ad 32) 4 a6_at_13, aJ cy (ad 33) 4 a6_mark_20, aI cy (ad 34) 8 a7_values, aI cy (ad 35) 16 a8_a, aI cy (ad 36) 4 a8_b, aI cy (ad 37) 4 a8_e, aI cy (ad 38) 4 a8_h] H := hP.sub [0, 1, 2, 3, 4, 5, 6, 7, 13, 14, 8, 9, 10, 11, 12] rfl
              have hD : va_D A [oX4 ad s4_ticks s4_firstBeganWith s4_secondBefore s4_thirdBefore s4_thirdTwoBefore, oX5 ad s5_kind s5_sums, oX6 ad s6_toldTail, oX7 ad s7_over s7_count, oX8 ad s8_sums s8_g, aJ cy (ad 29) 4 a4_sums, aJ cy (ad 30) 4 a5_coming_11, aI cy (ad 31) 3 a5_picked_12, aJ cy (ad 32) 4 a6_at_13, aJ cy (ad 33) 4 a6_mark_20, aI cy (ad 34) 8 a7_values, aI cy (ad 35) 16 a8_a, aI cy (ad 36) 4 a8_b, aI cy (ad 37) 4 a8_e, aI cy (ad 38) 4 a8_h] := hD.sub [0, 1, 2, 3, 4, 5, 6, 7, 13, 14, 8, 9, 10, 11, 12] (by decide) rfl
              refine lv_iload_n hx hb dX6_findBeat_110 rfl (lv_at hl 2 rfl) ?_
              refine lv_iconst (v := 2) hx hb dX6_findBeat_111 (by decide) ?_
              refine lv_imul hx hb dX6_findBeat_112 ?_
              refine lv_topi (fun e21 h_e21 => ?_)
              have hv := hv e21 h_e21
              refine lv_istore_n (lv' := [(2, .int e21), (3, .int i14), (4, .int l4_3), (0, .ref (ad 6)), (1, .int x1)]) hx hb dX6_findBeat_113 rfl hl (by decide) rfl (fun ls hl => ?_)
              refine lv_iconst (v := 0) hx hb dX6_findBeat_114 (by decide) ?_
              refine lv_istore_n (lv' := [(3, .int (0 : Int32)), (2, .int e21), (4, .int l4_3), (0, .ref (ad 6)), (1, .int x1)]) hx hb dX6_findBeat_115 rfl hl (by decide) rfl (fun ls hl => ?_)
              exact jn116 (0 : Int32) e21 a6_mark_20 H locs ls hv (lv_sub hl [0, 2, 1, 3, 4] rfl) hP hD hS
          · have hv := hv.2 c_89
            refine lv_iload_n hx hb dX6_findBeat_92 rfl (lv_at hl 0 rfl) ?_
            rw [← hQ]
            exact k_iret hx hb hr hlocks hS (a5_coming_11, a5_picked_12, a6_at_13, a6_mark_9) hP hD hv dX6_findBeat_93
        · have hv := hv.2 c_55
          refine lv_iload hx hb dX6_findBeat_58 (lv_at hl 0 rfl) ?_
          refine lv_sipush (v := 4096) hx hb dX6_findBeat_60 (by decide) ?_
          refine lv_icmp_gt (tgt := 71) hx hb dX6_findBeat_63 (by decide) (fun c_63 => ?_) (fun c_63 => ?_)
          · have hv := hv.1 c_63
            refine lv_bipush (v := -2) hx hb dX6_findBeat_71 (by decide) ?_
            rw [← hQ]
            exact k_iret hx hb hr hlocks hS (a5_coming_11, a5_picked_12, a6_at_13, a6_mark_9) hP hD hv dX6_findBeat_73
          · have hv := hv.2 c_63
            refine lv_bipush (v := -3) hx hb dX6_findBeat_66 (by decide) ?_
            refine lv_goto (tgt := 73) hx hb dX6_findBeat_68 (by decide) ?_
            rw [← hQ]
            exact k_iret hx hb hr hlocks hS (a5_coming_11, a5_picked_12, a6_at_13, a6_mark_9) hP hD hv dX6_findBeat_73
  obtain ⟨nn, hv⟩ := hv
  exact lp32 nn (1 : Int32) (0 : Int32) (1 : Int32) a5_coming a5_picked a6_at_1 a6_mark_2 H locs ls hv (lv_sub hl [0, 1, 2, 3, 4] rfl) hP hD hS
theorem lk_X6_findTail_18 : Cond.fieldLink RX6 18 "CoarseSteps$Outlook" "loop" "LCoarseSteps$Loop;" ∈ wsX6_findTail := by decide +kernel
theorem in_X6_findTail_6 : ∀ w ∈ wsX60, w ∈ wsX6_findTail := by decide +kernel
theorem in_X6_findTail_4 : ∀ w ∈ wsX40, w ∈ wsX6_findTail := by decide +kernel
theorem lk_X6_findTail_9 : Cond.fieldLink RX6 9 "CoarseSteps$Outlook" "at" "[J" ∈ wsX6_findTail := by decide +kernel
theorem lk_X6_findTail_15 : Cond.fieldLink RX6 15 "CoarseSteps$Outlook" "mark" "[J" ∈ wsX6_findTail := by decide +kernel
abbrev rm_X6_findTail : Room := { frames := 4, cells := 0, slots := 0, locals := 96 }
set_option maxHeartbeats 4000000 in
set_option maxRecDepth 100000 in
theorem m_X6_findTail (l : Launch) (D : va_G) (cy : ClassId × ClassId × ClassId) (ad : Nat → Nat) (s4_ticks : Int32) (s4_firstBeganWith : Int64) (s4_secondBefore : Int32) (s4_thirdBefore : Int32) (s4_thirdTwoBefore : Int32) (s5_kind : Int32) (s5_sums : Int32) (s6_toldTail : Int32) (s7_over : Int32) (s7_count : Int32) (s8_sums : Int32) (s8_g : Int32) (a4_sums : Nat → Int64) (a5_coming : Nat → Int64) (a5_picked : Nat → Int32) (a6_at : Nat → Int64) (a6_mark : Nat → Int64) (a7_values : Nat → Int32) (a8_a : Nat → Int32) (a8_b : Nat → Int32) (a8_e : Nat → Int32) (a8_h : Nat → Int32) (x1 : Int32) (x2 : Int32) (sz : Nat) {K : Int32 → (Nat → Int64) → (Nat → Int32) → (Nat → Int64) → (Nat → Int64) → Prop} (hv : v_X6_findTail s5_kind s5_sums s7_over s7_count s8_sums s8_g a4_sums a5_coming a5_picked a6_at a6_mark a7_values a8_a a8_b a8_e a8_h x1 x2 K) : Met l yX6_findTail wsX6_findTail rm_X6_findTail (va_Pc [.ref (ad 6), .int x1, .int x2] (wd D cy [oX4 ad s4_ticks s4_firstBeganWith s4_secondBefore s4_thirdBefore s4_thirdTwoBefore, oX5 ad s5_kind s5_sums, oX6 ad s6_toldTail, oX7 ad s7_over s7_count, oX8 ad s8_sums s8_g, aJ cy (ad 29) 4 a4_sums, aJ cy (ad 30) 4 a5_coming, aI cy (ad 31) 3 a5_picked, aJ cy (ad 32) 4 a6_at, aJ cy (ad 33) 4 a6_mark, aI cy (ad 34) 8 a7_values, aI cy (ad 35) 16 a8_a, aI cy (ad 36) 4 a8_b, aI cy (ad 37) 4 a8_e, aI cy (ad 38) 4 a8_h] sz)) (va_Qi (fun (r : Int32) (u : (Nat → Int64) × (Nat → Int32) × (Nat → Int64) × (Nat → Int64)) => K r u.1 u.2.1 u.2.2.1 u.2.2.2) (fun u t => we D ((fun u : (Nat → Int64) × (Nat → Int32) × (Nat → Int64) × (Nat → Int64) => [oX4 ad s4_ticks s4_firstBeganWith s4_secondBefore s4_thirdBefore s4_thirdTwoBefore, oX5 ad s5_kind s5_sums, oX6 ad s6_toldTail, oX7 ad s7_over s7_count, oX8 ad s8_sums s8_g, aJ cy (ad 29) 4 a4_sums, aJ cy (ad 30) 4 u.1, aI cy (ad 31) 3 u.2.1, aJ cy (ad 32) 4 u.2.2.1, aJ cy (ad 33) 4 u.2.2.2, aI cy (ad 34) 8 a7_values, aI cy (ad 35) 16 a8_a, aI cy (ad 36) 4 a8_b, aI cy (ad 37) 4 a8_e, aI cy (ad 38) 4 a8_h]) u) (va_A [oX4 ad s4_ticks s4_firstBeganWith s4_secondBefore s4_thirdBefore s4_thirdTwoBefore, oX5 ad s5_kind s5_sums, oX6 ad s6_toldTail, oX7 ad s7_over s7_count, oX8 ad s8_sums s8_g, aJ cy (ad 29) 4 a4_sums, aJ cy (ad 30) 4 a5_coming, aI cy (ad 31) 3 a5_picked, aJ cy (ad 32) 4 a6_at, aJ cy (ad 33) 4 a6_mark, aI cy (ad 34) 8 a7_values, aI cy (ad 35) 16 a8_a, aI cy (ad 36) 4 a8_b, aI cy (ad 37) 4 a8_e, aI cy (ad 38) 4 a8_h] sz) t) (va_A [oX4 ad s4_ticks s4_firstBeganWith s4_secondBefore s4_thirdBefore s4_thirdTwoBefore, oX5 ad s5_kind s5_sums, oX6 ad s6_toldTail, oX7 ad s7_over s7_count, oX8 ad s8_sums s8_g, aJ cy (ad 29) 4 a4_sums, aJ cy (ad 30) 4 a5_coming, aI cy (ad 31) 3 a5_picked, aJ cy (ad 32) 4 a6_at, aJ cy (ad 33) 4 a6_mark, aI cy (ad 34) 8 a7_values, aI cy (ad 35) 16 a8_a, aI cy (ad 36) 4 a8_b, aI cy (ad 37) 4 a8_e, aI cy (ad 38) 4 a8_h] sz)) 0 0 (va_A [oX4 ad s4_ticks s4_firstBeganWith s4_secondBefore s4_thirdBefore s4_thirdTwoBefore, oX5 ad s5_kind s5_sums, oX6 ad s6_toldTail, oX7 ad s7_over s7_count, oX8 ad s8_sums s8_g, aJ cy (ad 29) 4 a4_sums, aJ cy (ad 30) 4 a5_coming, aI cy (ad 31) 3 a5_picked, aJ cy (ad 32) 4 a6_at, aJ cy (ad 33) 4 a6_mark, aI cy (ad 34) 8 a7_values, aI cy (ad 35) 16 a8_a, aI cy (ad 36) 4 a8_b, aI cy (ad 37) 4 a8_e, aI cy (ad 38) 4 a8_h] sz) := by
  refine k_ofW (cc := cX6_findTail) (maxL := 4) (ret := (some .int)) (fun A => va_Qi (fun (r : Int32) (u : (Nat → Int64) × (Nat → Int32) × (Nat → Int64) × (Nat → Int64)) => K r u.1 u.2.1 u.2.2.1 u.2.2.2) (fun u t => we D ((fun u : (Nat → Int64) × (Nat → Int32) × (Nat → Int64) × (Nat → Int64) => [oX4 ad s4_ticks s4_firstBeganWith s4_secondBefore s4_thirdBefore s4_thirdTwoBefore, oX5 ad s5_kind s5_sums, oX6 ad s6_toldTail, oX7 ad s7_over s7_count, oX8 ad s8_sums s8_g, aJ cy (ad 29) 4 a4_sums, aJ cy (ad 30) 4 u.1, aI cy (ad 31) 3 u.2.1, aJ cy (ad 32) 4 u.2.2.1, aJ cy (ad 33) 4 u.2.2.2, aI cy (ad 34) 8 a7_values, aI cy (ad 35) 16 a8_a, aI cy (ad 36) 4 a8_b, aI cy (ad 37) 4 a8_e, aI cy (ad 38) 4 a8_h]) u) A t) A) (by decide) rfl (Nat.le_of_ble_eq_true rfl) ?_
  intro p e s m below meth c A ls H locs hx hb hml hr hts hown hlocks hname hK hN hA hP hD hS hl
  have hl : lv_has ls 4 [(0, .ref (ad 6)), (1, .int x1), (2, .int x2)] := hl
  generalize hQ : MQ below _ _ s _ _ A = Q
  unfold v_X6_findTail at hv
  refine lv_aload_n hx hb dX6_findTail_0 rfl (lv_at hl 0 rfl) ?_
  refine va_get (D := D) (ci := 6) (v := .ref (ad 4)) (C := RX6) (T := TX6) (N := 4) hx hb hts in_X6_findTail_6 hown hK hP 2 rfl rfl 0 (by decide) (hts _ lk_X6_findTail_18) (fun _ h9 => h9) rfl dX6_findTail_1 ?_
  refine va_getN (D := D) (ci := 4) (v := .ref (ad 29)) (C := RX4) (T := TX4) (N := 9) hx hb hts in_X6_findTail_4 hown hK hP 0 rfl rfl 3 (by decide) (nz_use hN nzf_X6_34) (fun _ h9 => h9) rfl dX6_findTail_4 ?_
  refine lv_aload_n hx hb dX6_findTail_7 rfl (lv_at hl 0 rfl) ?_
  refine va_get (D := D) (ci := 6) (v := .ref (ad 32)) (C := RX6) (T := TX6) (N := 4) hx hb hts in_X6_findTail_6 hown hK hP 2 rfl rfl 1 (by decide) (hts _ lk_X6_findTail_9) (fun _ h9 => h9) rfl dX6_findTail_8 ?_
  have hPc := hP.sub (ws' := [aJ cy (ad 29) 4 a4_sums, aJ cy (ad 32) 4 a6_at]) [5, 8] rfl
  have hDc := hD.sub (ws' := [aJ cy (ad 29) 4 a4_sums, aJ cy (ad 32) 4 a6_at]) [5, 8] (by decide) rfl
  refine k_calv (wc := [aJ cy (ad 29) 4 a4_sums, aJ cy (ad 32) 4 a6_at]) (wr := [oX4 ad s4_ticks s4_firstBeganWith s4_secondBefore s4_thirdBefore s4_thirdTwoBefore, oX5 ad s5_kind s5_sums, oX6 ad s6_toldTail, oX7 ad s7_over s7_count, oX8 ad s8_sums s8_g, aJ cy (ad 30) 4 a5_coming, aI cy (ad 31) 3 a5_picked, aJ cy (ad 33) 4 a6_mark, aI cy (ad 34) 8 a7_values, aI cy (ad 35) 16 a8_a, aI cy (ad 36) 4 a8_b, aI cy (ad 37) 4 a8_e, aI cy (ad 38) 4 a8_h]) (va_runS (As := [.ref (ad 29), .ref (ad 32)]) (rest := []) ⟨hx, hb, hml, hown, hts⟩ (m_X6_copy l D cy ad a4_sums a6_at (ad 29) (ad 32) H.size hv) (va_cwS 2 hts gX6_findTail_X6_copy rfl rfl rfl (by decide +kernel) ⟨Nat.le_of_ble_eq_true rfl, Nat.le_of_ble_eq_true rfl⟩) ⟨wd_blind, wd_ok hPc hK hDc hN⟩ rfl rfl hl.1 rfl (lv_room (Nat.le_of_ble_eq_true rfl)) dX6_findTail_11 ⟨Nat.le_of_ble_eq_true rfl, Nat.le_of_ble_eq_true rfl⟩) hP hD hS hA [5, 8] [0, 1, 2, 3, 4, 6, 7, 9, 10, 11, 12, 13, 14] rfl rfl (by decide) (by decide) (fun a6_at_1 H locs hv hP hD hS => ?_)
  have hP : va_P D vwCl [oX4 ad s4_ticks s4_firstBeganWith s4_secondBefore s4_thirdBefore s4_thirdTwoBefore, oX5 ad s5_kind s5_sums, oX6 ad s6_toldTail, oX7 ad s7_over s7_count, oX8 ad s8_sums s8_g, aJ cy (ad 29) 4 a4_sums, aJ cy (ad 30) 4 a5_coming, aI cy (ad 31) 3 a5_picked, aJ cy (ad 32) 4 a6_at_1, aJ cy (ad 33) 4 a6_mark, aI cy (ad 34) 8 a7_values, aI cy (ad 35) 16 a8_a, aI cy (ad 36) 4 a8_b, aI cy (ad 37) 4 a8_e, aI cy (ad 38) 4 a8_h] H := hP.sub [0, 1, 2, 3, 4, 13, 5, 6, 14, 7, 8, 9, 10, 11, 12] rfl
  have hD : va_D A [oX4 ad s4_ticks s4_firstBeganWith s4_secondBefore s4_thirdBefore s4_thirdTwoBefore, oX5 ad s5_kind s5_sums, oX6 ad s6_toldTail, oX7 ad s7_over s7_count, oX8 ad s8_sums s8_g, aJ cy (ad 29) 4 a4_sums, aJ cy (ad 30) 4 a5_coming, aI cy (ad 31) 3 a5_picked, aJ cy (ad 32) 4 a6_at_1, aJ cy (ad 33) 4 a6_mark, aI cy (ad 34) 8 a7_values, aI cy (ad 35) 16 a8_a, aI cy (ad 36) 4 a8_b, aI cy (ad 37) 4 a8_e, aI cy (ad 38) 4 a8_h] := hD.sub [0, 1, 2, 3, 4, 13, 5, 6, 14, 7, 8, 9, 10, 11, 12] (by decide) rfl
  refine lv_aload_n hx hb dX6_findTail_14 rfl (lv_at hl 0 rfl) ?_
  refine va_get (D := D) (ci := 6) (v := .ref (ad 4)) (C := RX6) (T := TX6) (N := 4) hx hb hts in_X6_findTail_6 hown hK hP 2 rfl rfl 0 (by decide) (hts _ lk_X6_findTail_18) (fun _ h9 => h9) rfl dX6_findTail_15 ?_
  refine va_getN (D := D) (ci := 4) (v := .ref (ad 29)) (C := RX4) (T := TX4) (N := 9) hx hb hts in_X6_findTail_4 hown hK hP 0 rfl rfl 3 (by decide) (nz_use hN nzf_X6_34) (fun _ h9 => h9) rfl dX6_findTail_18 ?_
  refine lv_aload_n hx hb dX6_findTail_21 rfl (lv_at hl 0 rfl) ?_
  refine va_get (D := D) (ci := 6) (v := .ref (ad 33)) (C := RX6) (T := TX6) (N := 4) hx hb hts in_X6_findTail_6 hown hK hP 2 rfl rfl 2 (by decide) (hts _ lk_X6_findTail_15) (fun _ h9 => h9) rfl dX6_findTail_22 ?_
  have hPc := hP.sub (ws' := [aJ cy (ad 29) 4 a4_sums, aJ cy (ad 33) 4 a6_mark]) [5, 9] rfl
  have hDc := hD.sub (ws' := [aJ cy (ad 29) 4 a4_sums, aJ cy (ad 33) 4 a6_mark]) [5, 9] (by decide) rfl
  refine k_calv (wc := [aJ cy (ad 29) 4 a4_sums, aJ cy (ad 33) 4 a6_mark]) (wr := [oX4 ad s4_ticks s4_firstBeganWith s4_secondBefore s4_thirdBefore s4_thirdTwoBefore, oX5 ad s5_kind s5_sums, oX6 ad s6_toldTail, oX7 ad s7_over s7_count, oX8 ad s8_sums s8_g, aJ cy (ad 30) 4 a5_coming, aI cy (ad 31) 3 a5_picked, aJ cy (ad 32) 4 a6_at_1, aI cy (ad 34) 8 a7_values, aI cy (ad 35) 16 a8_a, aI cy (ad 36) 4 a8_b, aI cy (ad 37) 4 a8_e, aI cy (ad 38) 4 a8_h]) (va_runS (As := [.ref (ad 29), .ref (ad 33)]) (rest := []) ⟨hx, hb, hml, hown, hts⟩ (m_X6_copy l D cy ad a4_sums a6_mark (ad 29) (ad 33) H.size hv) (va_cwS 2 hts gX6_findTail_X6_copy rfl rfl rfl (by decide +kernel) ⟨Nat.le_of_ble_eq_true rfl, Nat.le_of_ble_eq_true rfl⟩) ⟨wd_blind, wd_ok hPc hK hDc hN⟩ rfl rfl hl.1 rfl (lv_room (Nat.le_of_ble_eq_true rfl)) dX6_findTail_25 ⟨Nat.le_of_ble_eq_true rfl, Nat.le_of_ble_eq_true rfl⟩) hP hD hS hA [5, 9] [0, 1, 2, 3, 4, 6, 7, 8, 10, 11, 12, 13, 14] rfl rfl (by decide) (by decide) (fun a6_mark_2 H locs hv hP hD hS => ?_)
  have hP : va_P D vwCl [oX4 ad s4_ticks s4_firstBeganWith s4_secondBefore s4_thirdBefore s4_thirdTwoBefore, oX5 ad s5_kind s5_sums, oX6 ad s6_toldTail, oX7 ad s7_over s7_count, oX8 ad s8_sums s8_g, aJ cy (ad 29) 4 a4_sums, aJ cy (ad 30) 4 a5_coming, aI cy (ad 31) 3 a5_picked, aJ cy (ad 32) 4 a6_at_1, aJ cy (ad 33) 4 a6_mark_2, aI cy (ad 34) 8 a7_values, aI cy (ad 35) 16 a8_a, aI cy (ad 36) 4 a8_b, aI cy (ad 37) 4 a8_e, aI cy (ad 38) 4 a8_h] H := hP.sub [0, 1, 2, 3, 4, 13, 5, 6, 7, 14, 8, 9, 10, 11, 12] rfl
  have hD : va_D A [oX4 ad s4_ticks s4_firstBeganWith s4_secondBefore s4_thirdBefore s4_thirdTwoBefore, oX5 ad s5_kind s5_sums, oX6 ad s6_toldTail, oX7 ad s7_over s7_count, oX8 ad s8_sums s8_g, aJ cy (ad 29) 4 a4_sums, aJ cy (ad 30) 4 a5_coming, aI cy (ad 31) 3 a5_picked, aJ cy (ad 32) 4 a6_at_1, aJ cy (ad 33) 4 a6_mark_2, aI cy (ad 34) 8 a7_values, aI cy (ad 35) 16 a8_a, aI cy (ad 36) 4 a8_b, aI cy (ad 37) 4 a8_e, aI cy (ad 38) 4 a8_h] := hD.sub [0, 1, 2, 3, 4, 13, 5, 6, 7, 14, 8, 9, 10, 11, 12] (by decide) rfl
  refine lv_iconst (v := 0) hx hb dX6_findTail_28 (by decide) ?_
  refine lv_istore_n (lv' := [(3, .int (0 : Int32)), (0, .ref (ad 6)), (1, .int x1), (2, .int x2)]) hx hb dX6_findTail_29 rfl hl (by decide) rfl (fun ls hl => ?_)
  have lp30 : ∀ (n30 : Nat) (l3_3 : Int32) (a5_coming_4 : Nat → Int64) (a5_picked_5 : Nat → Int32) (a6_at_6 : Nat → Int64) (H : Heap) (locs : List Loc) (ls : Array Slot), vfix (vF_X6_findTail_30 s5_kind s5_sums s7_over s7_count s8_sums s8_g a7_values a8_a a8_b a8_e a8_h x1 x2 K a6_mark_2) n30 (l3_3, a5_coming_4, a5_picked_5, a6_at_6) → lv_has ls 4 [(3, .int l3_3), (0, .ref (ad 6)), (1, .int x1), (2, .int x2)] → va_P D vwCl [oX4 ad s4_ticks s4_firstBeganWith s4_secondBefore s4_thirdBefore s4_thirdTwoBefore, oX5 ad s5_kind s5_sums, oX6 ad s6_toldTail, oX7 ad s7_over s7_count, oX8 ad s8_sums s8_g, aJ cy (ad 29) 4 a4_sums, aJ cy (ad 30) 4 a5_coming_4, aI cy (ad 31) 3 a5_picked_5, aJ cy (ad 32) 4 a6_at_6, aJ cy (ad 33) 4 a6_mark_2, aI cy (ad 34) 8 a7_values, aI cy (ad 35) 16 a8_a, aI cy (ad 36) 4 a8_b, aI cy (ad 37) 4 a8_e, aI cy (ad 38) 4 a8_h] H → va_D A [oX4 ad s4_ticks s4_firstBeganWith s4_secondBefore s4_thirdBefore s4_thirdTwoBefore, oX5 ad s5_kind s5_sums, oX6 ad s6_toldTail, oX7 ad s7_over s7_count, oX8 ad s8_sums s8_g, aJ cy (ad 29) 4 a4_sums, aJ cy (ad 30) 4 a5_coming_4, aI cy (ad 31) 3 a5_picked_5, aJ cy (ad 32) 4 a6_at_6, aJ cy (ad 33) 4 a6_mark_2, aI cy (ad 34) 8 a7_values, aI cy (ad 35) 16 a8_a, aI cy (ad 36) 4 a8_b, aI cy (ad 37) 4 a8_e, aI cy (ad 38) 4 a8_h] → va_S A s.heap H locs → W p l e rm_X6_findTail s m ([.ref (ad 6), .int x1, .int x2] : List Value).toArray below meth c H locs 0 0 Q (F0 m 30 ls []) := by
    intro n30
    induction n30 with
    | zero => intro l3_3 a5_coming_4 a5_picked_5 a6_at_6 H locs ls hv; exact hv.elim
    | succ n30 ih30 =>
      intro l3_3 a5_coming_4 a5_picked_5 a6_at_6 H locs ls hv hl hP hD hS
      have hv : vB_X6_findTail_30 s5_kind s5_sums s7_over s7_count s8_sums s8_g a7_values a8_a a8_b a8_e a8_h x1 x2 K a6_mark_2 (fun z0 z1 z2 z3 => vfix (vF_X6_findTail_30 s5_kind s5_sums s7_over s7_count s8_sums s8_g a7_values a8_a a8_b a8_e a8_h x1 x2 K a6_mark_2) n30 (z0, z1, z2, z3)) l3_3 a5_coming_4 a5_picked_5 a6_at_6 := hv
      unfold vB_X6_findTail_30 at hv
      refine lv_iload_n hx hb dX6_findTail_30 rfl (lv_at hl 0 rfl) ?_
      refine lv_iload_n hx hb dX6_findTail_31 rfl (lv_at hl 3 rfl) ?_
      refine lv_icmp_ge (tgt := 61) hx hb dX6_findTail_32 (by decide) (fun c_32 => ?_) (fun c_32 => ?_)
      · have hv := hv.1 c_32
        refine lv_iconst (v := 0) hx hb dX6_findTail_61 (by decide) ?_
        refine lv_istore_n (lv' := [(3, .int (0 : Int32)), (0, .ref (ad 6)), (1, .int x1), (2, .int x2)]) hx hb dX6_findTail_62 rfl hl (by decide) rfl (fun ls hl => ?_)
        have lp63 : ∀ (n63 : Nat) (l3_7 : Int32) (a5_coming_8 : Nat → Int64) (a5_picked_9 : Nat → Int32) (a6_at_10 : Nat → Int64) (a6_mark_11 : Nat → Int64) (H : Heap) (locs : List Loc) (ls : Array Slot), vfix (vF_X6_findTail_63 s5_kind s5_sums s7_over s7_count s8_sums s8_g a7_values a8_a a8_b a8_e a8_h x1 x2 K) n63 (l3_7, a5_coming_8, a5_picked_9, a6_at_10, a6_mark_11) → lv_has ls 4 [(3, .int l3_7), (0, .ref (ad 6)), (1, .int x1), (2, .int x2)] → va_P D vwCl [oX4 ad s4_ticks s4_firstBeganWith s4_secondBefore s4_thirdBefore s4_thirdTwoBefore, oX5 ad s5_kind s5_sums, oX6 ad s6_toldTail, oX7 ad s7_over s7_count, oX8 ad s8_sums s8_g, aJ cy (ad 29) 4 a4_sums, aJ cy (ad 30) 4 a5_coming_8, aI cy (ad 31) 3 a5_picked_9, aJ cy (ad 32) 4 a6_at_10, aJ cy (ad 33) 4 a6_mark_11, aI cy (ad 34) 8 a7_values, aI cy (ad 35) 16 a8_a, aI cy (ad 36) 4 a8_b, aI cy (ad 37) 4 a8_e, aI cy (ad 38) 4 a8_h] H → va_D A [oX4 ad s4_ticks s4_firstBeganWith s4_secondBefore s4_thirdBefore s4_thirdTwoBefore, oX5 ad s5_kind s5_sums, oX6 ad s6_toldTail, oX7 ad s7_over s7_count, oX8 ad s8_sums s8_g, aJ cy (ad 29) 4 a4_sums, aJ cy (ad 30) 4 a5_coming_8, aI cy (ad 31) 3 a5_picked_9, aJ cy (ad 32) 4 a6_at_10, aJ cy (ad 33) 4 a6_mark_11, aI cy (ad 34) 8 a7_values, aI cy (ad 35) 16 a8_a, aI cy (ad 36) 4 a8_b, aI cy (ad 37) 4 a8_e, aI cy (ad 38) 4 a8_h] → va_S A s.heap H locs → W p l e rm_X6_findTail s m ([.ref (ad 6), .int x1, .int x2] : List Value).toArray below meth c H locs 0 0 Q (F0 m 63 ls []) := by
          intro n63
          induction n63 with
          | zero => intro l3_7 a5_coming_8 a5_picked_9 a6_at_10 a6_mark_11 H locs ls hv; exact hv.elim
          | succ n63 ih63 =>
            intro l3_7 a5_coming_8 a5_picked_9 a6_at_10 a6_mark_11 H locs ls hv hl hP hD hS
            have hv : vB_X6_findTail_63 s5_kind s5_sums s7_over s7_count s8_sums s8_g a7_values a8_a a8_b a8_e a8_h x1 x2 K (fun z0 z1 z2 z3 z4 => vfix (vF_X6_findTail_63 s5_kind s5_sums s7_over s7_count s8_sums s8_g a7_values a8_a a8_b a8_e a8_h x1 x2 K) n63 (z0, z1, z2, z3, z4)) l3_7 a5_coming_8 a5_picked_9 a6_at_10 a6_mark_11 := hv
            unfold vB_X6_findTail_63 at hv
            refine lv_iload_n hx hb dX6_findTail_63 rfl (lv_at hl 0 rfl) ?_
            refine lv_iload_n hx hb dX6_findTail_64 rfl (lv_at hl 3 rfl) ?_
            refine lv_iadd hx hb dX6_findTail_65 ?_
            refine lv_topi (fun e12 h_e12 => ?_)
            have hv := hv e12 h_e12
            refine lv_sipush (v := 4096) hx hb dX6_findTail_66 (by decide) ?_
            refine lv_icmp_gt (tgt := 133) hx hb dX6_findTail_69 (by decide) (fun c_69 => ?_) (fun c_69 => ?_)
            · have hv := hv.1 c_69
              refine lv_iconst (v := -1) hx hb dX6_findTail_133 (by decide) ?_
              rw [← hQ]
              exact k_iret hx hb hr hlocks hS (a5_coming_8, a5_picked_9, a6_at_10, a6_mark_11) hP hD hv dX6_findTail_134
            · have hv := hv.2 c_69
              refine lv_aload_n hx hb dX6_findTail_72 rfl (lv_at hl 1 rfl) ?_
              refine lv_aload_n hx hb dX6_findTail_73 rfl (lv_at hl 1 rfl) ?_
              refine va_get (D := D) (ci := 6) (v := .ref (ad 32)) (C := RX6) (T := TX6) (N := 4) hx hb hts in_X6_findTail_6 hown hK hP 2 rfl rfl 1 (by decide) (hts _ lk_X6_findTail_9) (fun _ h9 => h9) rfl dX6_findTail_74 ?_
              refine lv_aload_n hx hb dX6_findTail_77 rfl (lv_at hl 1 rfl) ?_
              refine va_get (D := D) (ci := 6) (v := .ref (ad 33)) (C := RX6) (T := TX6) (N := 4) hx hb hts in_X6_findTail_6 hown hK hP 2 rfl rfl 2 (by decide) (hts _ lk_X6_findTail_15) (fun _ h9 => h9) rfl dX6_findTail_78 ?_
              have hPc := hP.sub (ws' := [oX4 ad s4_ticks s4_firstBeganWith s4_secondBefore s4_thirdBefore s4_thirdTwoBefore, oX5 ad s5_kind s5_sums, oX6 ad s6_toldTail, aJ cy (ad 32) 4 a6_at_10, aJ cy (ad 33) 4 a6_mark_11]) [0, 1, 2, 8, 9] rfl
              have hDc := hD.sub (ws' := [oX4 ad s4_ticks s4_firstBeganWith s4_secondBefore s4_thirdBefore s4_thirdTwoBefore, oX5 ad s5_kind s5_sums, oX6 ad s6_toldTail, aJ cy (ad 32) 4 a6_at_10, aJ cy (ad 33) 4 a6_mark_11]) [0, 1, 2, 8, 9] (by decide) rfl
              refine k_cali (wc := [oX4 ad s4_ticks s4_firstBeganWith s4_secondBefore s4_thirdBefore s4_thirdTwoBefore, oX5 ad s5_kind s5_sums, oX6 ad s6_toldTail, aJ cy (ad 32) 4 a6_at_10, aJ cy (ad 33) 4 a6_mark_11]) (wr := [oX7 ad s7_over s7_count, oX8 ad s8_sums s8_g, aJ cy (ad 29) 4 a4_sums, aJ cy (ad 30) 4 a5_coming_8, aI cy (ad 31) 3 a5_picked_9, aI cy (ad 34) 8 a7_values, aI cy (ad 35) 16 a8_a, aI cy (ad 36) 4 a8_b, aI cy (ad 37) 4 a8_e, aI cy (ad 38) 4 a8_h]) (va_runV (As := [.ref (ad 32), .ref (ad 33)]) (rest := []) ⟨hx, hb, hml, hown, hts⟩ (m_X6_isSame l D cy ad s4_ticks s4_firstBeganWith s4_secondBefore s4_thirdBefore s4_thirdTwoBefore s5_kind s5_sums s6_toldTail a6_at_10 a6_mark_11 (ad 32) (ad 33) H.size hv) (cwV 2 hts gX6_findTail_X6_isSame rfl rfl rfl (by decide +kernel) ⟨Nat.le_of_ble_eq_true rfl, Nat.le_of_ble_eq_true rfl⟩) ⟨wd_blind, va_recv hK hPc (ci := 6) (q0 := 2) rfl rfl, wd_ok hPc hK hDc hN⟩ rfl rfl hl.1 rfl (lv_room (Nat.le_of_ble_eq_true rfl)) dX6_findTail_81 ⟨Nat.le_of_ble_eq_true rfl, Nat.le_of_ble_eq_true rfl⟩) hP hD hS hA [0, 1, 2, 8, 9] [3, 4, 5, 6, 7, 10, 11, 12, 13, 14] rfl rfl (by decide) (by decide) (fun r13 u H locs hv hP hD hS => ?_)
              obtain ⟨hz_r13, hv⟩ := hv
              have hP : va_P D vwCl [oX4 ad s4_ticks s4_firstBeganWith s4_secondBefore s4_thirdBefore s4_thirdTwoBefore, oX5 ad s5_kind s5_sums, oX6 ad s6_toldTail, oX7 ad s7_over s7_count, oX8 ad s8_sums s8_g, aJ cy (ad 29) 4 a4_sums, aJ cy (ad 30) 4 a5_coming_8, aI cy (ad 31) 3 a5_picked_9, aJ cy (ad 32) 4 a6_at_10, aJ cy (ad 33) 4 a6_mark_11, aI cy (ad 34) 8 a7_values, aI cy (ad 35) 16 a8_a, aI cy (ad 36) 4 a8_b, aI cy (ad 37) 4 a8_e, aI cy (ad 38) 4 a8_h] H := hP.sub [10, 11, 12, 0, 1, 2, 3, 4, 13, 14, 5, 6, 7, 8, 9] rfl
              have hD : va_D A [oX4 ad s4_ticks s4_firstBeganWith s4_secondBefore s4_thirdBefore s4_thirdTwoBefore, oX5 ad s5_kind s5_sums, oX6 ad s6_toldTail, oX7 ad s7_over s7_count, oX8 ad s8_sums s8_g, aJ cy (ad 29) 4 a4_sums, aJ cy (ad 30) 4 a5_coming_8, aI cy (ad 31) 3 a5_picked_9, aJ cy (ad 32) 4 a6_at_10, aJ cy (ad 33) 4 a6_mark_11, aI cy (ad 34) 8 a7_values, aI cy (ad 35) 16 a8_a, aI cy (ad 36) 4 a8_b, aI cy (ad 37) 4 a8_e, aI cy (ad 38) 4 a8_h] := hD.sub [10, 11, 12, 0, 1, 2, 3, 4, 13, 14, 5, 6, 7, 8, 9] (by decide) rfl
              refine lv_if_eq (tgt := 89) hx hb dX6_findTail_84 (by decide) (fun c_84 => ?_) (fun c_84 => ?_)
              · have hv := hv.1 c_84
                refine lv_aload_n hx hb dX6_findTail_89 rfl (lv_at hl 1 rfl) ?_
                refine va_get (D := D) (ci := 6) (v := .ref (ad 4)) (C := RX6) (T := TX6) (N := 4) hx hb hts in_X6_findTail_6 hown hK hP 2 rfl rfl 0 (by decide) (hts _ lk_X6_findTail_18) (fun _ h9 => h9) rfl dX6_findTail_90 ?_
                refine va_getN (D := D) (ci := 4) (v := .ref (ad 5)) (C := RX4) (T := TX4) (N := 9) hx hb hts in_X6_findTail_4 hown hK hP 0 rfl rfl 0 (by decide) (nz_use hN nzf_X6_43) (fun _ h9 => h9) rfl dX6_findTail_93 ?_
                refine lv_aload_n hx hb dX6_findTail_96 rfl (lv_at hl 1 rfl) ?_
                refine va_get (D := D) (ci := 6) (v := .ref (ad 32)) (C := RX6) (T := TX6) (N := 4) hx hb hts in_X6_findTail_6 hown hK hP 2 rfl rfl 1 (by decide) (hts _ lk_X6_findTail_9) (fun _ h9 => h9) rfl dX6_findTail_97 ?_
                refine lv_iload_n hx hb dX6_findTail_100 rfl (lv_at hl 2 rfl) ?_
                have hPc := hP.sub (ws' := [oX5 ad s5_kind s5_sums, oX7 ad s7_over s7_count, oX8 ad s8_sums s8_g, aJ cy (ad 30) 4 a5_coming_8, aI cy (ad 31) 3 a5_picked_9, aI cy (ad 34) 8 a7_values, aI cy (ad 35) 16 a8_a, aI cy (ad 36) 4 a8_b, aI cy (ad 37) 4 a8_e, aI cy (ad 38) 4 a8_h, aJ cy (ad 32) 4 a6_at_10]) [1, 3, 4, 6, 7, 10, 11, 12, 13, 14, 8] rfl
                have hDc := hD.sub (ws' := [oX5 ad s5_kind s5_sums, oX7 ad s7_over s7_count, oX8 ad s8_sums s8_g, aJ cy (ad 30) 4 a5_coming_8, aI cy (ad 31) 3 a5_picked_9, aI cy (ad 34) 8 a7_values, aI cy (ad 35) 16 a8_a, aI cy (ad 36) 4 a8_b, aI cy (ad 37) 4 a8_e, aI cy (ad 38) 4 a8_h, aJ cy (ad 32) 4 a6_at_10]) [1, 3, 4, 6, 7, 10, 11, 12, 13, 14, 8] (by decide) rfl
                refine k_cali (wc := [oX5 ad s5_kind s5_sums, oX7 ad s7_over s7_count, oX8 ad s8_sums s8_g, aJ cy (ad 30) 4 a5_coming_8, aI cy (ad 31) 3 a5_picked_9, aI cy (ad 34) 8 a7_values, aI cy (ad 35) 16 a8_a, aI cy (ad 36) 4 a8_b, aI cy (ad 37) 4 a8_e, aI cy (ad 38) 4 a8_h, aJ cy (ad 32) 4 a6_at_10]) (wr := [oX4 ad s4_ticks s4_firstBeganWith s4_secondBefore s4_thirdBefore s4_thirdTwoBefore, oX6 ad s6_toldTail, aJ cy (ad 29) 4 a4_sums, aJ cy (ad 33) 4 a6_mark_11]) (va_runV (As := [.ref (ad 32), .int x1]) (rest := []) ⟨hx, hb, hml, hown, hts⟩ (m_X5_advance l D cy ad s5_kind s5_sums s7_over s7_count s8_sums s8_g a5_coming_8 a5_picked_9 a7_values a8_a a8_b a8_e a8_h a6_at_10 (ad 32) x1 H.size hv) (cwV 2 hts gX6_findTail_X5_advance rfl rfl rfl (by decide +kernel) ⟨Nat.le_of_ble_eq_true rfl, Nat.le_of_ble_eq_true rfl⟩) ⟨wd_blind, va_recv hK hPc (ci := 5) (q0 := 0) rfl rfl, wd_ok hPc hK hDc hN⟩ rfl rfl hl.1 rfl (lv_room (Nat.le_of_ble_eq_true rfl)) dX6_findTail_101 ⟨Nat.le_of_ble_eq_true rfl, Nat.le_of_ble_eq_true rfl⟩) hP hD hS hA [1, 3, 4, 6, 7, 10, 11, 12, 13, 14, 8] [0, 2, 5, 9] rfl rfl (by decide) (by decide) (fun r14 u H locs hv hP hD hS => ?_)
                obtain ⟨a5_coming_15, a5_picked_16, a6_at_17⟩ := u
                obtain ⟨hz_r14, hv⟩ := hv
                have hP : va_P D vwCl [oX4 ad s4_ticks s4_firstBeganWith s4_secondBefore s4_thirdBefore s4_thirdTwoBefore, oX5 ad s5_kind s5_sums, oX6 ad s6_toldTail, oX7 ad s7_over s7_count, oX8 ad s8_sums s8_g, aJ cy (ad 29) 4 a4_sums, aJ cy (ad 30) 4 a5_coming_15, aI cy (ad 31) 3 a5_picked_16, aJ cy (ad 32) 4 a6_at_17, aJ cy (ad 33) 4 a6_mark_11, aI cy (ad 34) 8 a7_values, aI cy (ad 35) 16 a8_a, aI cy (ad 36) 4 a8_b, aI cy (ad 37) 4 a8_e, aI cy (ad 38) 4 a8_h] H := hP.sub [0, 4, 1, 5, 6, 2, 7, 8, 14, 3, 9, 10, 11, 12, 13] rfl
                have hD : va_D A [oX4 ad s4_ticks s4_firstBeganWith s4_secondBefore s4_thirdBefore s4_thirdTwoBefore, oX5 ad s5_kind s5_sums, oX6 ad s6_toldTail, oX7 ad s7_over s7_count, oX8 ad s8_sums s8_g, aJ cy (ad 29) 4 a4_sums, aJ cy (ad 30) 4 a5_coming_15, aI cy (ad 31) 3 a5_picked_16, aJ cy (ad 32) 4 a6_at_17, aJ cy (ad 33) 4 a6_mark_11, aI cy (ad 34) 8 a7_values, aI cy (ad 35) 16 a8_a, aI cy (ad 36) 4 a8_b, aI cy (ad 37) 4 a8_e, aI cy (ad 38) 4 a8_h] := hD.sub [0, 4, 1, 5, 6, 2, 7, 8, 14, 3, 9, 10, 11, 12, 13] (by decide) rfl
                refine lv_if_eq (tgt := 125) hx hb dX6_findTail_104 (by decide) (fun c_104 => ?_) (fun c_104 => ?_)
                · have hv := hv.1 c_104
                  refine lv_iconst (v := -1) hx hb dX6_findTail_125 (by decide) ?_
                  rw [← hQ]
                  exact k_iret hx hb hr hlocks hS (a5_coming_15, a5_picked_16, a6_at_17, a6_mark_11) hP hD hv dX6_findTail_126
                · have hv := hv.2 c_104
                  refine lv_aload_n hx hb dX6_findTail_107 rfl (lv_at hl 1 rfl) ?_
                  refine va_get (D := D) (ci := 6) (v := .ref (ad 4)) (C := RX6) (T := TX6) (N := 4) hx hb hts in_X6_findTail_6 hown hK hP 2 rfl rfl 0 (by decide) (hts _ lk_X6_findTail_18) (fun _ h9 => h9) rfl dX6_findTail_108 ?_
                  refine va_getN (D := D) (ci := 4) (v := .ref (ad 5)) (C := RX4) (T := TX4) (N := 9) hx hb hts in_X6_findTail_4 hown hK hP 0 rfl rfl 0 (by decide) (nz_use hN nzf_X6_43) (fun _ h9 => h9) rfl dX6_findTail_111 ?_
                  refine lv_aload_n hx hb dX6_findTail_114 rfl (lv_at hl 1 rfl) ?_
                  refine va_get (D := D) (ci := 6) (v := .ref (ad 33)) (C := RX6) (T := TX6) (N := 4) hx hb hts in_X6_findTail_6 hown hK hP 2 rfl rfl 2 (by decide) (hts _ lk_X6_findTail_15) (fun _ h9 => h9) rfl dX6_findTail_115 ?_
                  refine lv_iload_n hx hb dX6_findTail_118 rfl (lv_at hl 2 rfl) ?_
                  have hPc := hP.sub (ws' := [oX5 ad s5_kind s5_sums, oX7 ad s7_over s7_count, oX8 ad s8_sums s8_g, aJ cy (ad 30) 4 a5_coming_15, aI cy (ad 31) 3 a5_picked_16, aI cy (ad 34) 8 a7_values, aI cy (ad 35) 16 a8_a, aI cy (ad 36) 4 a8_b, aI cy (ad 37) 4 a8_e, aI cy (ad 38) 4 a8_h, aJ cy (ad 33) 4 a6_mark_11]) [1, 3, 4, 6, 7, 10, 11, 12, 13, 14, 9] rfl
                  have hDc := hD.sub (ws' := [oX5 ad s5_kind s5_sums, oX7 ad s7_over s7_count, oX8 ad s8_sums s8_g, aJ cy (ad 30) 4 a5_coming_15, aI cy (ad 31) 3 a5_picked_16, aI cy (ad 34) 8 a7_values, aI cy (ad 35) 16 a8_a, aI cy (ad 36) 4 a8_b, aI cy (ad 37) 4 a8_e, aI cy (ad 38) 4 a8_h, aJ cy (ad 33) 4 a6_mark_11]) [1, 3, 4, 6, 7, 10, 11, 12, 13, 14, 9] (by decide) rfl
                  refine k_cali (wc := [oX5 ad s5_kind s5_sums, oX7 ad s7_over s7_count, oX8 ad s8_sums s8_g, aJ cy (ad 30) 4 a5_coming_15, aI cy (ad 31) 3 a5_picked_16, aI cy (ad 34) 8 a7_values, aI cy (ad 35) 16 a8_a, aI cy (ad 36) 4 a8_b, aI cy (ad 37) 4 a8_e, aI cy (ad 38) 4 a8_h, aJ cy (ad 33) 4 a6_mark_11]) (wr := [oX4 ad s4_ticks s4_firstBeganWith s4_secondBefore s4_thirdBefore s4_thirdTwoBefore, oX6 ad s6_toldTail, aJ cy (ad 29) 4 a4_sums, aJ cy (ad 32) 4 a6_at_17]) (va_runV (As := [.ref (ad 33), .int x1]) (rest := []) ⟨hx, hb, hml, hown, hts⟩ (m_X5_advance l D cy ad s5_kind s5_sums s7_over s7_count s8_sums s8_g a5_coming_15 a5_picked_16 a7_values a8_a a8_b a8_e a8_h a6_mark_11 (ad 33) x1 H.size hv) (cwV 2 hts gX6_findTail_X5_advance rfl rfl rfl (by decide +kernel) ⟨Nat.le_of_ble_eq_true rfl, Nat.le_of_ble_eq_true rfl⟩) ⟨wd_blind, va_recv hK hPc (ci := 5) (q0 := 0) rfl rfl, wd_ok hPc hK hDc hN⟩ rfl rfl hl.1 rfl (lv_room (Nat.le_of_ble_eq_true rfl)) dX6_findTail_119 ⟨Nat.le_of_ble_eq_true rfl, Nat.le_of_ble_eq_true rfl⟩) hP hD hS hA [1, 3, 4, 6, 7, 10, 11, 12, 13, 14, 9] [0, 2, 5, 8] rfl rfl (by decide) (by decide) (fun r18 u H locs hv hP hD hS => ?_)
                  obtain ⟨a5_coming_19, a5_picked_20, a6_mark_21⟩ := u
                  obtain ⟨hz_r18, hv⟩ := hv
                  have hP : va_P D vwCl [oX4 ad s4_ticks s4_firstBeganWith s4_secondBefore s4_thirdBefore s4_thirdTwoBefore, oX5 ad s5_kind s5_sums, oX6 ad s6_toldTail, oX7 ad s7_over s7_count, oX8 ad s8_sums s8_g, aJ cy (ad 29) 4 a4_sums, aJ cy (ad 30) 4 a5_coming_19, aI cy (ad 31) 3 a5_picked_20, aJ cy (ad 32) 4 a6_at_17, aJ cy (ad 33) 4 a6_mark_21, aI cy (ad 34) 8 a7_values, aI cy (ad 35) 16 a8_a, aI cy (ad 36) 4 a8_b, aI cy (ad 37) 4 a8_e, aI cy (ad 38) 4 a8_h] H := hP.sub [0, 4, 1, 5, 6, 2, 7, 8, 3, 14, 9, 10, 11, 12, 13] rfl
                  have hD : va_D A [oX4 ad s4_ticks s4_firstBeganWith s4_secondBefore s4_thirdBefore s4_thirdTwoBefore, oX5 ad s5_kind s5_sums, oX6 ad s6_toldTail, oX7 ad s7_over s7_count, oX8 ad s8_sums s8_g, aJ cy (ad 29) 4 a4_sums, aJ cy (ad 30) 4 a5_coming_19, aI cy (ad 31) 3 a5_picked_20, aJ cy (ad 32) 4 a6_at_17, aJ cy (ad 33) 4 a6_mark_21, aI cy (ad 34) 8 a7_values, aI cy (ad 35) 16 a8_a, aI cy (ad 36) 4 a8_b, aI cy (ad 37) 4 a8_e, aI cy (ad 38) 4 a8_h] := hD.sub [0, 4, 1, 5, 6, 2, 7, 8, 3, 14, 9, 10, 11, 12, 13] (by decide) rfl
                  refine lv_if_ne (tgt := 127) hx hb dX6_findTail_122 (by decide) (fun c_122 => ?_) (fun c_122 => ?_)
                  · have hv := hv.1 c_122
                    obtain ⟨i22, h_i22⟩ : ∃ y : Int32, y = l3_7 + 1 := ⟨_, rfl⟩
                    refine lv_iinc (v := i22) (lv' := [(3, .int i22), (0, .ref (ad 6)), (1, .int x1), (2, .int x2)]) hx hb dX6_findTail_127 hl (k := 0) rfl (by rw [h_i22]; rfl) (by decide) rfl (fun ls hl => ?_)
                    have hv := hv i22 h_i22
                    refine lv_goto (tgt := 63) hx hb dX6_findTail_130 (by decide) ?_
                    exact ih63 i22 a5_coming_19 a5_picked_20 a6_at_17 a6_mark_21 H locs ls hv (lv_sub hl [0, 1, 2, 3] rfl) hP hD hS
                  · have hv := hv.2 c_122
                    refine lv_iconst (v := -1) hx hb dX6_findTail_125 (by decide) ?_
                    rw [← hQ]
                    exact k_iret hx hb hr hlocks hS (a5_coming_19, a5_picked_20, a6_at_17, a6_mark_21) hP hD hv dX6_findTail_126
              · have hv := hv.2 c_84
                refine lv_iload_n hx hb dX6_findTail_87 rfl (lv_at hl 0 rfl) ?_
                rw [← hQ]
                exact k_iret hx hb hr hlocks hS (a5_coming_8, a5_picked_9, a6_at_10, a6_mark_11) hP hD hv dX6_findTail_88
        obtain ⟨nn, hv⟩ := hv
        exact lp63 nn (0 : Int32) a5_coming_4 a5_picked_5 a6_at_6 a6_mark_2 H locs ls hv (lv_sub hl [0, 1, 2, 3] rfl) hP hD hS
      · have hv := hv.2 c_32
        refine lv_aload_n hx hb dX6_findTail_35 rfl (lv_at hl 1 rfl) ?_
        refine va_get (D := D) (ci := 6) (v := .ref (ad 4)) (C := RX6) (T := TX6) (N := 4) hx hb hts in_X6_findTail_6 hown hK hP 2 rfl rfl 0 (by decide) (hts _ lk_X6_findTail_18) (fun _ h9 => h9) rfl dX6_findTail_36 ?_
        refine va_getN (D := D) (ci := 4) (v := .ref (ad 5)) (C := RX4) (T := TX4) (N := 9) hx hb hts in_X6_findTail_4 hown hK hP 0 rfl rfl 0 (by decide) (nz_use hN nzf_X6_43) (fun _ h9 => h9) rfl dX6_findTail_39 ?_
        refine lv_aload_n hx hb dX6_findTail_42 rfl (lv_at hl 1 rfl) ?_
        refine va_get (D := D) (ci := 6) (v := .ref (ad 32)) (C := RX6) (T := TX6) (N := 4) hx hb hts in_X6_findTail_6 hown hK hP 2 rfl rfl 1 (by decide) (hts _ lk_X6_findTail_9) (fun _ h9 => h9) rfl dX6_findTail_43 ?_
        refine lv_iload_n hx hb dX6_findTail_46 rfl (lv_at hl 2 rfl) ?_
        have hPc := hP.sub (ws' := [oX5 ad s5_kind s5_sums, oX7 ad s7_over s7_count, oX8 ad s8_sums s8_g, aJ cy (ad 30) 4 a5_coming_4, aI cy (ad 31) 3 a5_picked_5, aI cy (ad 34) 8 a7_values, aI cy (ad 35) 16 a8_a, aI cy (ad 36) 4 a8_b, aI cy (ad 37) 4 a8_e, aI cy (ad 38) 4 a8_h, aJ cy (ad 32) 4 a6_at_6]) [1, 3, 4, 6, 7, 10, 11, 12, 13, 14, 8] rfl
        have hDc := hD.sub (ws' := [oX5 ad s5_kind s5_sums, oX7 ad s7_over s7_count, oX8 ad s8_sums s8_g, aJ cy (ad 30) 4 a5_coming_4, aI cy (ad 31) 3 a5_picked_5, aI cy (ad 34) 8 a7_values, aI cy (ad 35) 16 a8_a, aI cy (ad 36) 4 a8_b, aI cy (ad 37) 4 a8_e, aI cy (ad 38) 4 a8_h, aJ cy (ad 32) 4 a6_at_6]) [1, 3, 4, 6, 7, 10, 11, 12, 13, 14, 8] (by decide) rfl
        refine k_cali (wc := [oX5 ad s5_kind s5_sums, oX7 ad s7_over s7_count, oX8 ad s8_sums s8_g, aJ cy (ad 30) 4 a5_coming_4, aI cy (ad 31) 3 a5_picked_5, aI cy (ad 34) 8 a7_values, aI cy (ad 35) 16 a8_a, aI cy (ad 36) 4 a8_b, aI cy (ad 37) 4 a8_e, aI cy (ad 38) 4 a8_h, aJ cy (ad 32) 4 a6_at_6]) (wr := [oX4 ad s4_ticks s4_firstBeganWith s4_secondBefore s4_thirdBefore s4_thirdTwoBefore, oX6 ad s6_toldTail, aJ cy (ad 29) 4 a4_sums, aJ cy (ad 33) 4 a6_mark_2]) (va_runV (As := [.ref (ad 32), .int x1]) (rest := []) ⟨hx, hb, hml, hown, hts⟩ (m_X5_advance l D cy ad s5_kind s5_sums s7_over s7_count s8_sums s8_g a5_coming_4 a5_picked_5 a7_values a8_a a8_b a8_e a8_h a6_at_6 (ad 32) x1 H.size hv) (cwV 2 hts gX6_findTail_X5_advance rfl rfl rfl (by decide +kernel) ⟨Nat.le_of_ble_eq_true rfl, Nat.le_of_ble_eq_true rfl⟩) ⟨wd_blind, va_recv hK hPc (ci := 5) (q0 := 0) rfl rfl, wd_ok hPc hK hDc hN⟩ rfl rfl hl.1 rfl (lv_room (Nat.le_of_ble_eq_true rfl)) dX6_findTail_47 ⟨Nat.le_of_ble_eq_true rfl, Nat.le_of_ble_eq_true rfl⟩) hP hD hS hA [1, 3, 4, 6, 7, 10, 11, 12, 13, 14, 8] [0, 2, 5, 9] rfl rfl (by decide) (by decide) (fun r23 u H locs hv hP hD hS => ?_)
        obtain ⟨a5_coming_24, a5_picked_25, a6_at_26⟩ := u
        obtain ⟨hz_r23, hv⟩ := hv
        have hP : va_P D vwCl [oX4 ad s4_ticks s4_firstBeganWith s4_secondBefore s4_thirdBefore s4_thirdTwoBefore, oX5 ad s5_kind s5_sums, oX6 ad s6_toldTail, oX7 ad s7_over s7_count, oX8 ad s8_sums s8_g, aJ cy (ad 29) 4 a4_sums, aJ cy (ad 30) 4 a5_coming_24, aI cy (ad 31) 3 a5_picked_25, aJ cy (ad 32) 4 a6_at_26, aJ cy (ad 33) 4 a6_mark_2, aI cy (ad 34) 8 a7_values, aI cy (ad 35) 16 a8_a, aI cy (ad 36) 4 a8_b, aI cy (ad 37) 4 a8_e, aI cy (ad 38) 4 a8_h] H := hP.sub [0, 4, 1, 5, 6, 2, 7, 8, 14, 3, 9, 10, 11, 12, 13] rfl
        have hD : va_D A [oX4 ad s4_ticks s4_firstBeganWith s4_secondBefore s4_thirdBefore s4_thirdTwoBefore, oX5 ad s5_kind s5_sums, oX6 ad s6_toldTail, oX7 ad s7_over s7_count, oX8 ad s8_sums s8_g, aJ cy (ad 29) 4 a4_sums, aJ cy (ad 30) 4 a5_coming_24, aI cy (ad 31) 3 a5_picked_25, aJ cy (ad 32) 4 a6_at_26, aJ cy (ad 33) 4 a6_mark_2, aI cy (ad 34) 8 a7_values, aI cy (ad 35) 16 a8_a, aI cy (ad 36) 4 a8_b, aI cy (ad 37) 4 a8_e, aI cy (ad 38) 4 a8_h] := hD.sub [0, 4, 1, 5, 6, 2, 7, 8, 14, 3, 9, 10, 11, 12, 13] (by decide) rfl
        refine lv_if_ne (tgt := 55) hx hb dX6_findTail_50 (by decide) (fun c_50 => ?_) (fun c_50 => ?_)
        · have hv := hv.1 c_50
          obtain ⟨i27, h_i27⟩ : ∃ y : Int32, y = l3_3 + 1 := ⟨_, rfl⟩
          refine lv_iinc (v := i27) (lv' := [(3, .int i27), (0, .ref (ad 6)), (1, .int x1), (2, .int x2)]) hx hb dX6_findTail_55 hl (k := 0) rfl (by rw [h_i27]; rfl) (by decide) rfl (fun ls hl => ?_)
          have hv := hv i27 h_i27
          refine lv_goto (tgt := 30) hx hb dX6_findTail_58 (by decide) ?_
          exact ih30 i27 a5_coming_24 a5_picked_25 a6_at_26 H locs ls hv (lv_sub hl [0, 1, 2, 3] rfl) hP hD hS
        · have hv := hv.2 c_50
          refine lv_iconst (v := -1) hx hb dX6_findTail_53 (by decide) ?_
          rw [← hQ]
          exact k_iret hx hb hr hlocks hS (a5_coming_24, a5_picked_25, a6_at_26, a6_mark_2) hP hD hv dX6_findTail_54
  obtain ⟨nn, hv⟩ := hv
  exact lp30 nn (0 : Int32) a5_coming a5_picked a6_at_1 H locs ls hv (lv_sub hl [0, 1, 2, 3] rfl) hP hD hS
theorem lk_X6_findRing_30 : Cond.fieldLink RX6 30 "CoarseSteps$Outlook" "toldTail" "I" ∈ wsX6_findRing := by decide +kernel
theorem in_X6_findRing_6 : ∀ w ∈ wsX60, w ∈ wsX6_findRing := by decide +kernel
abbrev rm_X6_findRing : Room := { frames := 5, cells := 0, slots := 0, locals := 120 }
set_option maxHeartbeats 4000000 in
set_option maxRecDepth 100000 in
theorem m_X6_findRing (l : Launch) (D : va_G) (cy : ClassId × ClassId × ClassId) (ad : Nat → Nat) (s4_ticks : Int32) (s4_firstBeganWith : Int64) (s4_secondBefore : Int32) (s4_thirdBefore : Int32) (s4_thirdTwoBefore : Int32) (s5_kind : Int32) (s5_sums : Int32) (s6_toldTail : Int32) (s7_over : Int32) (s7_count : Int32) (s8_sums : Int32) (s8_g : Int32) (a4_sums : Nat → Int64) (a5_coming : Nat → Int64) (a5_picked : Nat → Int32) (a6_at : Nat → Int64) (a6_mark : Nat → Int64) (a7_values : Nat → Int32) (a8_a : Nat → Int32) (a8_b : Nat → Int32) (a8_e : Nat → Int32) (a8_h : Nat → Int32) (x1 : Int32) (sz : Nat) {K : Int32 → Int32 → (Nat → Int64) → (Nat → Int32) → (Nat → Int64) → (Nat → Int64) → Prop} (hv : v_X6_findRing s5_kind s5_sums s6_toldTail s7_over s7_count s8_sums s8_g a4_sums a5_coming a5_picked a6_at a6_mark a7_values a8_a a8_b a8_e a8_h x1 K) : Met l yX6_findRing wsX6_findRing rm_X6_findRing (va_Pc [.ref (ad 6), .int x1] (wd D cy [oX4 ad s4_ticks s4_firstBeganWith s4_secondBefore s4_thirdBefore s4_thirdTwoBefore, oX5 ad s5_kind s5_sums, oX6 ad s6_toldTail, oX7 ad s7_over s7_count, oX8 ad s8_sums s8_g, aJ cy (ad 29) 4 a4_sums, aJ cy (ad 30) 4 a5_coming, aI cy (ad 31) 3 a5_picked, aJ cy (ad 32) 4 a6_at, aJ cy (ad 33) 4 a6_mark, aI cy (ad 34) 8 a7_values, aI cy (ad 35) 16 a8_a, aI cy (ad 36) 4 a8_b, aI cy (ad 37) 4 a8_e, aI cy (ad 38) 4 a8_h] sz)) (va_Qi (fun (r : Int32) (u : Int32 × (Nat → Int64) × (Nat → Int32) × (Nat → Int64) × (Nat → Int64)) => K r u.1 u.2.1 u.2.2.1 u.2.2.2.1 u.2.2.2.2) (fun u t => we D ((fun u : Int32 × (Nat → Int64) × (Nat → Int32) × (Nat → Int64) × (Nat → Int64) => [oX4 ad s4_ticks s4_firstBeganWith s4_secondBefore s4_thirdBefore s4_thirdTwoBefore, oX5 ad s5_kind s5_sums, oX6 ad u.1, oX7 ad s7_over s7_count, oX8 ad s8_sums s8_g, aJ cy (ad 29) 4 a4_sums, aJ cy (ad 30) 4 u.2.1, aI cy (ad 31) 3 u.2.2.1, aJ cy (ad 32) 4 u.2.2.2.1, aJ cy (ad 33) 4 u.2.2.2.2, aI cy (ad 34) 8 a7_values, aI cy (ad 35) 16 a8_a, aI cy (ad 36) 4 a8_b, aI cy (ad 37) 4 a8_e, aI cy (ad 38) 4 a8_h]) u) (va_A [oX4 ad s4_ticks s4_firstBeganWith s4_secondBefore s4_thirdBefore s4_thirdTwoBefore, oX5 ad s5_kind s5_sums, oX6 ad s6_toldTail, oX7 ad s7_over s7_count, oX8 ad s8_sums s8_g, aJ cy (ad 29) 4 a4_sums, aJ cy (ad 30) 4 a5_coming, aI cy (ad 31) 3 a5_picked, aJ cy (ad 32) 4 a6_at, aJ cy (ad 33) 4 a6_mark, aI cy (ad 34) 8 a7_values, aI cy (ad 35) 16 a8_a, aI cy (ad 36) 4 a8_b, aI cy (ad 37) 4 a8_e, aI cy (ad 38) 4 a8_h] sz) t) (va_A [oX4 ad s4_ticks s4_firstBeganWith s4_secondBefore s4_thirdBefore s4_thirdTwoBefore, oX5 ad s5_kind s5_sums, oX6 ad s6_toldTail, oX7 ad s7_over s7_count, oX8 ad s8_sums s8_g, aJ cy (ad 29) 4 a4_sums, aJ cy (ad 30) 4 a5_coming, aI cy (ad 31) 3 a5_picked, aJ cy (ad 32) 4 a6_at, aJ cy (ad 33) 4 a6_mark, aI cy (ad 34) 8 a7_values, aI cy (ad 35) 16 a8_a, aI cy (ad 36) 4 a8_b, aI cy (ad 37) 4 a8_e, aI cy (ad 38) 4 a8_h] sz)) 0 0 (va_A [oX4 ad s4_ticks s4_firstBeganWith s4_secondBefore s4_thirdBefore s4_thirdTwoBefore, oX5 ad s5_kind s5_sums, oX6 ad s6_toldTail, oX7 ad s7_over s7_count, oX8 ad s8_sums s8_g, aJ cy (ad 29) 4 a4_sums, aJ cy (ad 30) 4 a5_coming, aI cy (ad 31) 3 a5_picked, aJ cy (ad 32) 4 a6_at, aJ cy (ad 33) 4 a6_mark, aI cy (ad 34) 8 a7_values, aI cy (ad 35) 16 a8_a, aI cy (ad 36) 4 a8_b, aI cy (ad 37) 4 a8_e, aI cy (ad 38) 4 a8_h] sz) := by
  refine k_ofW (cc := cX6_findRing) (maxL := 4) (ret := (some .int)) (fun A => va_Qi (fun (r : Int32) (u : Int32 × (Nat → Int64) × (Nat → Int32) × (Nat → Int64) × (Nat → Int64)) => K r u.1 u.2.1 u.2.2.1 u.2.2.2.1 u.2.2.2.2) (fun u t => we D ((fun u : Int32 × (Nat → Int64) × (Nat → Int32) × (Nat → Int64) × (Nat → Int64) => [oX4 ad s4_ticks s4_firstBeganWith s4_secondBefore s4_thirdBefore s4_thirdTwoBefore, oX5 ad s5_kind s5_sums, oX6 ad u.1, oX7 ad s7_over s7_count, oX8 ad s8_sums s8_g, aJ cy (ad 29) 4 a4_sums, aJ cy (ad 30) 4 u.2.1, aI cy (ad 31) 3 u.2.2.1, aJ cy (ad 32) 4 u.2.2.2.1, aJ cy (ad 33) 4 u.2.2.2.2, aI cy (ad 34) 8 a7_values, aI cy (ad 35) 16 a8_a, aI cy (ad 36) 4 a8_b, aI cy (ad 37) 4 a8_e, aI cy (ad 38) 4 a8_h]) u) A t) A) (by decide) rfl (Nat.le_of_ble_eq_true rfl) ?_
  intro p e s m below meth c A ls H locs hx hb hml hr hts hown hlocks hname hK hN hA hP hD hS hl
  have hl : lv_has ls 4 [(0, .ref (ad 6)), (1, .int x1)] := hl
  generalize hQ : MQ below _ _ s _ _ A = Q
  unfold v_X6_findRing at hv
  refine lv_aload_n hx hb dX6_findRing_0 rfl (lv_at hl 0 rfl) ?_
  refine lv_iload_n hx hb dX6_findRing_1 rfl (lv_at hl 1 rfl) ?_
  have hPc := hP.sub (ws' := [oX4 ad s4_ticks s4_firstBeganWith s4_secondBefore s4_thirdBefore s4_thirdTwoBefore, oX5 ad s5_kind s5_sums, oX6 ad s6_toldTail, oX7 ad s7_over s7_count, oX8 ad s8_sums s8_g, aJ cy (ad 29) 4 a4_sums, aJ cy (ad 30) 4 a5_coming, aI cy (ad 31) 3 a5_picked, aJ cy (ad 32) 4 a6_at, aJ cy (ad 33) 4 a6_mark, aI cy (ad 34) 8 a7_values, aI cy (ad 35) 16 a8_a, aI cy (ad 36) 4 a8_b, aI cy (ad 37) 4 a8_e, aI cy (ad 38) 4 a8_h]) [0, 1, 2, 3, 4, 5, 6, 7, 8, 9, 10, 11, 12, 13, 14] rfl
  have hDc := hD.sub (ws' := [oX4 ad s4_ticks s4_firstBeganWith s4_secondBefore s4_thirdBefore s4_thirdTwoBefore, oX5 ad s5_kind s5_sums, oX6 ad s6_toldTail, oX7 ad s7_over s7_count, oX8 ad s8_sums s8_g, aJ cy (ad 29) 4 a4_sums, aJ cy (ad 30) 4 a5_coming, aI cy (ad 31) 3 a5_picked, aJ cy (ad 32) 4 a6_at, aJ cy (ad 33) 4 a6_mark, aI cy (ad 34) 8 a7_values, aI cy (ad 35) 16 a8_a, aI cy (ad 36) 4 a8_b, aI cy (ad 37) 4 a8_e, aI cy (ad 38) 4 a8_h]) [0, 1, 2, 3, 4, 5, 6, 7, 8, 9, 10, 11, 12, 13, 14] (by decide) rfl
  refine k_cali (wc := [oX4 ad s4_ticks s4_firstBeganWith s4_secondBefore s4_thirdBefore s4_thirdTwoBefore, oX5 ad s5_kind s5_sums, oX6 ad s6_toldTail, oX7 ad s7_over s7_count, oX8 ad s8_sums s8_g, aJ cy (ad 29) 4 a4_sums, aJ cy (ad 30) 4 a5_coming, aI cy (ad 31) 3 a5_picked, aJ cy (ad 32) 4 a6_at, aJ cy (ad 33) 4 a6_mark, aI cy (ad 34) 8 a7_values, aI cy (ad 35) 16 a8_a, aI cy (ad 36) 4 a8_b, aI cy (ad 37) 4 a8_e, aI cy (ad 38) 4 a8_h]) (wr := []) (va_runV (As := [.int x1]) (rest := []) ⟨hx, hb, hml, hown, hts⟩ (m_X6_findBeat l D cy ad s4_ticks s4_firstBeganWith s4_secondBefore s4_thirdBefore s4_thirdTwoBefore s5_kind s5_sums s6_toldTail s7_over s7_count s8_sums s8_g a4_sums a5_coming a5_picked a6_at a6_mark a7_values a8_a a8_b a8_e a8_h x1 H.size hv) (cwV 1 hts gX6_findRing_X6_findBeat rfl rfl rfl (by decide +kernel) ⟨Nat.le_of_ble_eq_true rfl, Nat.le_of_ble_eq_true rfl⟩) ⟨wd_blind, va_recv hK hPc (ci := 6) (q0 := 2) rfl rfl, wd_ok hPc hK hDc hN⟩ rfl rfl hl.1 rfl (lv_room (Nat.le_of_ble_eq_true rfl)) dX6_findRing_2 ⟨Nat.le_of_ble_eq_true rfl, Nat.le_of_ble_eq_true rfl⟩) hP hD hS hA [0, 1, 2, 3, 4, 5, 6, 7, 8, 9, 10, 11, 12, 13, 14] [] rfl rfl (by decide) (by decide) (fun r1 u H locs hv hP hD hS => ?_)
  obtain ⟨a5_coming_2, a5_picked_3, a6_at_4, a6_mark_5⟩ := u
  have hP : va_P D vwCl [oX4 ad s4_ticks s4_firstBeganWith s4_secondBefore s4_thirdBefore s4_thirdTwoBefore, oX5 ad s5_kind s5_sums, oX6 ad s6_toldTail, oX7 ad s7_over s7_count, oX8 ad s8_sums s8_g, aJ cy (ad 29) 4 a4_sums, aJ cy (ad 30) 4 a5_coming_2, aI cy (ad 31) 3 a5_picked_3, aJ cy (ad 32) 4 a6_at_4, aJ cy (ad 33) 4 a6_mark_5, aI cy (ad 34) 8 a7_values, aI cy (ad 35) 16 a8_a, aI cy (ad 36) 4 a8_b, aI cy (ad 37) 4 a8_e, aI cy (ad 38) 4 a8_h] H := hP.sub [0, 1, 2, 3, 4, 5, 6, 7, 8, 9, 10, 11, 12, 13, 14] rfl
  have hD : va_D A [oX4 ad s4_ticks s4_firstBeganWith s4_secondBefore s4_thirdBefore s4_thirdTwoBefore, oX5 ad s5_kind s5_sums, oX6 ad s6_toldTail, oX7 ad s7_over s7_count, oX8 ad s8_sums s8_g, aJ cy (ad 29) 4 a4_sums, aJ cy (ad 30) 4 a5_coming_2, aI cy (ad 31) 3 a5_picked_3, aJ cy (ad 32) 4 a6_at_4, aJ cy (ad 33) 4 a6_mark_5, aI cy (ad 34) 8 a7_values, aI cy (ad 35) 16 a8_a, aI cy (ad 36) 4 a8_b, aI cy (ad 37) 4 a8_e, aI cy (ad 38) 4 a8_h] := hD.sub [0, 1, 2, 3, 4, 5, 6, 7, 8, 9, 10, 11, 12, 13, 14] (by decide) rfl
  refine lv_istore_n (lv' := [(2, .int r1), (0, .ref (ad 6)), (1, .int x1)]) hx hb dX6_findRing_5 rfl hl (by decide) rfl (fun ls hl => ?_)
  refine lv_iload_n hx hb dX6_findRing_6 rfl (lv_at hl 0 rfl) ?_
  refine lv_if_ge (tgt := 12) hx hb dX6_findRing_7 (by decide) (fun c_7 => ?_) (fun c_7 => ?_)
  · have hv := hv.1 c_7
    refine lv_aload_n hx hb dX6_findRing_12 rfl (lv_at hl 1 rfl) ?_
    refine lv_iload_n hx hb dX6_findRing_13 rfl (lv_at hl 2 rfl) ?_
    refine lv_iload_n hx hb dX6_findRing_14 rfl (lv_at hl 0 rfl) ?_
    have hPc := hP.sub (ws' := [oX4 ad s4_ticks s4_firstBeganWith s4_secondBefore s4_thirdBefore s4_thirdTwoBefore, oX5 ad s5_kind s5_sums, oX6 ad s6_toldTail, oX7 ad s7_over s7_count, oX8 ad s8_sums s8_g, aJ cy (ad 29) 4 a4_sums, aJ cy (ad 30) 4 a5_coming_2, aI cy (ad 31) 3 a5_picked_3, aJ cy (ad 32) 4 a6_at_4, aJ cy (ad 33) 4 a6_mark_5, aI cy (ad 34) 8 a7_values, aI cy (ad 35) 16 a8_a, aI cy (ad 36) 4 a8_b, aI cy (ad 37) 4 a8_e, aI cy (ad 38) 4 a8_h]) [0, 1, 2, 3, 4, 5, 6, 7, 8, 9, 10, 11, 12, 13, 14] rfl
    have hDc := hD.sub (ws' := [oX4 ad s4_ticks s4_firstBeganWith s4_secondBefore s4_thirdBefore s4_thirdTwoBefore, oX5 ad s5_kind s5_sums, oX6 ad s6_toldTail, oX7 ad s7_over s7_count, oX8 ad s8_sums s8_g, aJ cy (ad 29) 4 a4_sums, aJ cy (ad 30) 4 a5_coming_2, aI cy (ad 31) 3 a5_picked_3, aJ cy (ad 32) 4 a6_at_4, aJ cy (ad 33) 4 a6_mark_5, aI cy (ad 34) 8 a7_values, aI cy (ad 35) 16 a8_a, aI cy (ad 36) 4 a8_b, aI cy (ad 37) 4 a8_e, aI cy (ad 38) 4 a8_h]) [0, 1, 2, 3, 4, 5, 6, 7, 8, 9, 10, 11, 12, 13, 14] (by decide) rfl
    refine k_cali (wc := [oX4 ad s4_ticks s4_firstBeganWith s4_secondBefore s4_thirdBefore s4_thirdTwoBefore, oX5 ad s5_kind s5_sums, oX6 ad s6_toldTail, oX7 ad s7_over s7_count, oX8 ad s8_sums s8_g, aJ cy (ad 29) 4 a4_sums, aJ cy (ad 30) 4 a5_coming_2, aI cy (ad 31) 3 a5_picked_3, aJ cy (ad 32) 4 a6_at_4, aJ cy (ad 33) 4 a6_mark_5, aI cy (ad 34) 8 a7_values, aI cy (ad 35) 16 a8_a, aI cy (ad 36) 4 a8_b, aI cy (ad 37) 4 a8_e, aI cy (ad 38) 4 a8_h]) (wr := []) (va_runV (As := [.int x1, .int r1]) (rest := []) ⟨hx, hb, hml, hown, hts⟩ (m_X6_findTail l D cy ad s4_ticks s4_firstBeganWith s4_secondBefore s4_thirdBefore s4_thirdTwoBefore s5_kind s5_sums s6_toldTail s7_over s7_count s8_sums s8_g a4_sums a5_coming_2 a5_picked_3 a6_at_4 a6_mark_5 a7_values a8_a a8_b a8_e a8_h x1 r1 H.size hv) (cwV 2 hts gX6_findRing_X6_findTail rfl rfl rfl (by decide +kernel) ⟨Nat.le_of_ble_eq_true rfl, Nat.le_of_ble_eq_true rfl⟩) ⟨wd_blind, va_recv hK hPc (ci := 6) (q0 := 2) rfl rfl, wd_ok hPc hK hDc hN⟩ rfl rfl hl.1 rfl (lv_room (Nat.le_of_ble_eq_true rfl)) dX6_findRing_15 ⟨Nat.le_of_ble_eq_true rfl, Nat.le_of_ble_eq_true rfl⟩) hP hD hS hA [0, 1, 2, 3, 4, 5, 6, 7, 8, 9, 10, 11, 12, 13, 14] [] rfl rfl (by decide) (by decide) (fun r6 u H locs hv hP hD hS => ?_)
    obtain ⟨a5_coming_7, a5_picked_8, a6_at_9, a6_mark_10⟩ := u
    have hP : va_P D vwCl [oX4 ad s4_ticks s4_firstBeganWith s4_secondBefore s4_thirdBefore s4_thirdTwoBefore, oX5 ad s5_kind s5_sums, oX6 ad s6_toldTail, oX7 ad s7_over s7_count, oX8 ad s8_sums s8_g, aJ cy (ad 29) 4 a4_sums, aJ cy (ad 30) 4 a5_coming_7, aI cy (ad 31) 3 a5_picked_8, aJ cy (ad 32) 4 a6_at_9, aJ cy (ad 33) 4 a6_mark_10, aI cy (ad 34) 8 a7_values, aI cy (ad 35) 16 a8_a, aI cy (ad 36) 4 a8_b, aI cy (ad 37) 4 a8_e, aI cy (ad 38) 4 a8_h] H := hP.sub [0, 1, 2, 3, 4, 5, 6, 7, 8, 9, 10, 11, 12, 13, 14] rfl
    have hD : va_D A [oX4 ad s4_ticks s4_firstBeganWith s4_secondBefore s4_thirdBefore s4_thirdTwoBefore, oX5 ad s5_kind s5_sums, oX6 ad s6_toldTail, oX7 ad s7_over s7_count, oX8 ad s8_sums s8_g, aJ cy (ad 29) 4 a4_sums, aJ cy (ad 30) 4 a5_coming_7, aI cy (ad 31) 3 a5_picked_8, aJ cy (ad 32) 4 a6_at_9, aJ cy (ad 33) 4 a6_mark_10, aI cy (ad 34) 8 a7_values, aI cy (ad 35) 16 a8_a, aI cy (ad 36) 4 a8_b, aI cy (ad 37) 4 a8_e, aI cy (ad 38) 4 a8_h] := hD.sub [0, 1, 2, 3, 4, 5, 6, 7, 8, 9, 10, 11, 12, 13, 14] (by decide) rfl
    refine lv_istore_n (lv' := [(3, .int r6), (2, .int r1), (0, .ref (ad 6)), (1, .int x1)]) hx hb dX6_findRing_18 rfl hl (by decide) rfl (fun ls hl => ?_)
    refine lv_iload_n hx hb dX6_findRing_19 rfl (lv_at hl 0 rfl) ?_
    refine lv_if_ge (tgt := 26) hx hb dX6_findRing_20 (by decide) (fun c_20 => ?_) (fun c_20 => ?_)
    · have hv := hv.1 c_20
      refine lv_aload_n hx hb dX6_findRing_26 rfl (lv_at hl 2 rfl) ?_
      refine lv_iload_n hx hb dX6_findRing_27 rfl (lv_at hl 0 rfl) ?_
      refine va_put (D := D) (ci := 6) (v := .int r6) (ty := .int) (C := RX6) (T := TX6) (N := 4) hx hb hts in_X6_findRing_6 tyX6 tyX6_ok nmX6 hown hK hP hD hS 2 rfl rfl 3 (by decide) (hts _ lk_X6_findRing_30) (fun _ h9 => h9) rfl (by decide +kernel) rfl rfl (Nat.le_of_ble_eq_true rfl) dX6_findRing_28 (fun H locs hP hD hS => ?_)
      have hP : va_P D vwCl [oX4 ad s4_ticks s4_firstBeganWith s4_secondBefore s4_thirdBefore s4_thirdTwoBefore, oX5 ad s5_kind s5_sums, oX6 ad r6, oX7 ad s7_over s7_count, oX8 ad s8_sums s8_g, aJ cy (ad 29) 4 a4_sums, aJ cy (ad 30) 4 a5_coming_7, aI cy (ad 31) 3 a5_picked_8, aJ cy (ad 32) 4 a6_at_9, aJ cy (ad 33) 4 a6_mark_10, aI cy (ad 34) 8 a7_values, aI cy (ad 35) 16 a8_a, aI cy (ad 36) 4 a8_b, aI cy (ad 37) 4 a8_e, aI cy (ad 38) 4 a8_h] H := hP
      have hD : va_D A [oX4 ad s4_ticks s4_firstBeganWith s4_secondBefore s4_thirdBefore s4_thirdTwoBefore, oX5 ad s5_kind s5_sums, oX6 ad r6, oX7 ad s7_over s7_count, oX8 ad s8_sums s8_g, aJ cy (ad 29) 4 a4_sums, aJ cy (ad 30) 4 a5_coming_7, aI cy (ad 31) 3 a5_picked_8, aJ cy (ad 32) 4 a6_at_9, aJ cy (ad 33) 4 a6_mark_10, aI cy (ad 34) 8 a7_values, aI cy (ad 35) 16 a8_a, aI cy (ad 36) 4 a8_b, aI cy (ad 37) 4 a8_e, aI cy (ad 38) 4 a8_h] := hD
      refine lv_iload_n hx hb dX6_findRing_31 rfl (lv_at hl 1 rfl) ?_
      rw [← hQ]
      exact k_iret hx hb hr hlocks hS (r6, a5_coming_7, a5_picked_8, a6_at_9, a6_mark_10) hP hD hv dX6_findRing_32
    · have hv := hv.2 c_20
      refine lv_bipush (v := -2) hx hb dX6_findRing_23 (by decide) ?_
      rw [← hQ]
      exact k_iret hx hb hr hlocks hS (s6_toldTail, a5_coming_7, a5_picked_8, a6_at_9, a6_mark_10) hP hD hv dX6_findRing_25
  · have hv := hv.2 c_7
    refine lv_iload_n hx hb dX6_findRing_10 rfl (lv_at hl 0 rfl) ?_
    rw [← hQ]
    exact k_iret hx hb hr hlocks hS (s6_toldTail, a5_coming_2, a5_picked_3, a6_at_4, a6_mark_5) hP hD hv dX6_findRing_11
theorem lk_X6_isBeyond_18 : Cond.fieldLink RX6 18 "CoarseSteps$Outlook" "loop" "LCoarseSteps$Loop;" ∈ wsX6_isBeyond := by decide +kernel
theorem in_X6_isBeyond_6 : ∀ w ∈ wsX60, w ∈ wsX6_isBeyond := by decide +kernel
theorem in_X6_isBeyond_4 : ∀ w ∈ wsX40, w ∈ wsX6_isBeyond := by decide +kernel
theorem in_X6_isBeyond_5 : ∀ w ∈ wsX50, w ∈ wsX6_isBeyond := by decide +kernel
theorem lk_X6_isBeyond_9 : Cond.fieldLink RX6 9 "CoarseSteps$Outlook" "at" "[J" ∈ wsX6_isBeyond := by decide +kernel
abbrev rm_X6_isBeyond : Room := { frames := 0, cells := 0, slots := 0, locals := 0 }
set_option maxHeartbeats 4000000 in
set_option maxRecDepth 100000 in
theorem m_X6_isBeyond (l : Launch) (D : va_G) (cy : ClassId × ClassId × ClassId) (ad : Nat → Nat) (s4_ticks : Int32) (s4_firstBeganWith : Int64) (s4_secondBefore : Int32) (s4_thirdBefore : Int32) (s4_thirdTwoBefore : Int32) (s5_kind : Int32) (s5_sums : Int32) (s6_toldTail : Int32) (a6_at : Nat → Int64) (x1 : Int64) (sz : Nat) {K : Int32 → Prop} (hv : v_X6_isBeyond s5_sums a6_at x1 K) : Met l yX6_isBeyond wsX6_isBeyond rm_X6_isBeyond (va_Pc [.ref (ad 6), .long x1] (wd D cy [oX4 ad s4_ticks s4_firstBeganWith s4_secondBefore s4_thirdBefore s4_thirdTwoBefore, oX5 ad s5_kind s5_sums, oX6 ad s6_toldTail, aJ cy (ad 32) 4 a6_at] sz)) (va_Qi (fun (r : Int32) (u : Unit) => (r = 0 ∨ r = 1) ∧ K r) (fun u t => we D ((fun u : Unit => [oX4 ad s4_ticks s4_firstBeganWith s4_secondBefore s4_thirdBefore s4_thirdTwoBefore, oX5 ad s5_kind s5_sums, oX6 ad s6_toldTail, aJ cy (ad 32) 4 a6_at]) u) (va_A [oX4 ad s4_ticks s4_firstBeganWith s4_secondBefore s4_thirdBefore s4_thirdTwoBefore, oX5 ad s5_kind s5_sums, oX6 ad s6_toldTail, aJ cy (ad 32) 4 a6_at] sz) t) (va_A [oX4 ad s4_ticks s4_firstBeganWith s4_secondBefore s4_thirdBefore s4_thirdTwoBefore, oX5 ad s5_kind s5_sums, oX6 ad s6_toldTail, aJ cy (ad 32) 4 a6_at] sz)) 0 0 (va_A [oX4 ad s4_ticks s4_firstBeganWith s4_secondBefore s4_thirdBefore s4_thirdTwoBefore, oX5 ad s5_kind s5_sums, oX6 ad s6_toldTail, aJ cy (ad 32) 4 a6_at] sz) := by
  refine k_ofW (cc := cX6_isBeyond) (maxL := 4) (ret := (some .boolean)) (fun A => va_Qi (fun (r : Int32) (u : Unit) => (r = 0 ∨ r = 1) ∧ K r) (fun u t => we D ((fun u : Unit => [oX4 ad s4_ticks s4_firstBeganWith s4_secondBefore s4_thirdBefore s4_thirdTwoBefore, oX5 ad s5_kind s5_sums, oX6 ad s6_toldTail, aJ cy (ad 32) 4 a6_at]) u) A t) A) (by decide) rfl (Nat.le_of_ble_eq_true rfl) ?_
  intro p e s m below meth c A ls H locs hx hb hml hr hts hown hlocks hname hK hN hA hP hD hS hl
  have hl : lv_has ls 4 [(0, .ref (ad 6)), (1, .long x1)] := hl
  generalize hQ : MQ below _ _ s _ _ A = Q
  unfold v_X6_isBeyond at hv
  refine lv_iconst (v := 0) hx hb dX6_isBeyond_0 (by decide) ?_
  refine lv_istore_n (lv' := [(3, .int (0 : Int32)), (0, .ref (ad 6)), (1, .long x1)]) hx hb dX6_isBeyond_1 rfl hl (by decide) rfl (fun ls hl => ?_)
  have lp2 : ∀ (n2 : Nat) (l3_1 : Int32) (H : Heap) (locs : List Loc) (ls : Array Slot), vfix (vF_X6_isBeyond_2 s5_sums a6_at x1 K) n2 l3_1 → lv_has ls 4 [(3, .int l3_1), (0, .ref (ad 6)), (1, .long x1)] → va_P D vwCl [oX4 ad s4_ticks s4_firstBeganWith s4_secondBefore s4_thirdBefore s4_thirdTwoBefore, oX5 ad s5_kind s5_sums, oX6 ad s6_toldTail, aJ cy (ad 32) 4 a6_at] H → va_D A [oX4 ad s4_ticks s4_firstBeganWith s4_secondBefore s4_thirdBefore s4_thirdTwoBefore, oX5 ad s5_kind s5_sums, oX6 ad s6_toldTail, aJ cy (ad 32) 4 a6_at] → va_S A s.heap H locs → W p l e rm_X6_isBeyond s m ([.ref (ad 6), .long x1] : List Value).toArray below meth c H locs 0 0 Q (F0 m 2 ls []) := by
    intro n2
    induction n2 with
    | zero => intro l3_1 H locs ls hv; exact hv.elim
    | succ n2 ih2 =>
      intro l3_1 H locs ls hv hl hP hD hS
      have hv : vB_X6_isBeyond_2 s5_sums a6_at x1 K (fun z0 => vfix (vF_X6_isBeyond_2 s5_sums a6_at x1 K) n2 z0) l3_1 := hv
      unfold vB_X6_isBeyond_2 at hv
      refine lv_iload_n hx hb dX6_isBeyond_2 rfl (lv_at hl 0 rfl) ?_
      refine lv_aload_n hx hb dX6_isBeyond_3 rfl (lv_at hl 1 rfl) ?_
      refine va_get (D := D) (ci := 6) (v := .ref (ad 4)) (C := RX6) (T := TX6) (N := 4) hx hb hts in_X6_isBeyond_6 hown hK hP 2 rfl rfl 0 (by decide) (hts _ lk_X6_isBeyond_18) (fun _ h9 => h9) rfl dX6_isBeyond_4 ?_
      refine va_getN (D := D) (ci := 4) (v := .ref (ad 5)) (C := RX4) (T := TX4) (N := 9) hx hb hts in_X6_isBeyond_4 hown hK hP 0 rfl rfl 0 (by decide) (nz_use hN nzf_X6_43) (fun _ h9 => h9) rfl dX6_isBeyond_7 ?_
      refine va_getN (D := D) (ci := 5) (v := .int s5_sums) (C := RX5) (T := TX5) (N := 6) hx hb hts in_X6_isBeyond_5 hown hK hP 1 rfl rfl 5 (by decide) (nz_use hN nzf_X6_61) (fun _ h9 => h9) rfl dX6_isBeyond_10 ?_
      refine lv_icmp_ge (tgt := 47) hx hb dX6_isBeyond_13 (by decide) (fun c_13 => ?_) (fun c_13 => ?_)
      · have hv := hv.1 c_13
        refine lv_iconst (v := 0) hx hb dX6_isBeyond_47 (by decide) ?_
        rw [← hQ]
        exact k_zret hx hb hr hlocks hS () hP hD (by decide) hv dX6_isBeyond_48
      · have hv := hv.2 c_13
        refine lv_aload_n hx hb dX6_isBeyond_16 rfl (lv_at hl 1 rfl) ?_
        refine va_get (D := D) (ci := 6) (v := .ref (ad 32)) (C := RX6) (T := TX6) (N := 4) hx hb hts in_X6_isBeyond_6 hown hK hP 2 rfl rfl 1 (by decide) (hts _ lk_X6_isBeyond_9) (fun _ h9 => h9) rfl dX6_isBeyond_17 ?_
        refine lv_iload_n hx hb dX6_isBeyond_20 rfl (lv_at hl 0 rfl) ?_
        refine va_lald hx hb hK hP 3 1 rfl rfl hv.1 dX6_isBeyond_21 ?_
        refine lv_topl (fun g2 h_g2 => ?_)
        have hv := hv.2 g2 h_g2
        refine lv_lload_n hx hb dX6_isBeyond_22 rfl (lv_at hl 2 rfl) ?_
        refine k_lc_gt (tgt := 39) hx hb dX6_isBeyond_23 dX6_isBeyond_24 (by decide) (fun c_23 => ?_) (fun c_23 => ?_)
        · have hv := hv.1 c_23
          refine lv_iconst (v := 1) hx hb dX6_isBeyond_39 (by decide) ?_
          rw [← hQ]
          exact k_zret hx hb hr hlocks hS () hP hD (by decide) hv dX6_isBeyond_40
        · have hv := hv.2 c_23
          refine lv_aload_n hx hb dX6_isBeyond_27 rfl (lv_at hl 1 rfl) ?_
          refine va_get (D := D) (ci := 6) (v := .ref (ad 32)) (C := RX6) (T := TX6) (N := 4) hx hb hts in_X6_isBeyond_6 hown hK hP 2 rfl rfl 1 (by decide) (hts _ lk_X6_isBeyond_9) (fun _ h9 => h9) rfl dX6_isBeyond_28 ?_
          refine lv_iload_n hx hb dX6_isBeyond_31 rfl (lv_at hl 0 rfl) ?_
          refine va_lald hx hb hK hP 3 1 rfl rfl hv.1 dX6_isBeyond_32 ?_
          refine lv_topl (fun g3 h_g3 => ?_)
          have hv := hv.2 g3 h_g3
          refine lv_lload_n hx hb dX6_isBeyond_33 rfl (lv_at hl 2 rfl) ?_
          refine lv_lneg hx hb dX6_isBeyond_34 ?_
          refine lv_topl (fun e4 h_e4 => ?_)
          have hv := hv e4 h_e4
          refine k_lc_ge (tgt := 41) hx hb dX6_isBeyond_35 dX6_isBeyond_36 (by decide) (fun c_35 => ?_) (fun c_35 => ?_)
          · have hv := hv.1 c_35
            obtain ⟨i5, h_i5⟩ : ∃ y : Int32, y = l3_1 + 1 := ⟨_, rfl⟩
            refine lv_iinc (v := i5) (lv' := [(3, .int i5), (0, .ref (ad 6)), (1, .long x1)]) hx hb dX6_isBeyond_41 hl (k := 0) rfl (by rw [h_i5]; rfl) (by decide) rfl (fun ls hl => ?_)
            have hv := hv i5 h_i5
            refine lv_goto (tgt := 2) hx hb dX6_isBeyond_44 (by decide) ?_
            exact ih2 i5 H locs ls hv (lv_sub hl [0, 1, 2] rfl) hP hD hS
          · have hv := hv.2 c_35
            refine lv_iconst (v := 1) hx hb dX6_isBeyond_39 (by decide) ?_
            rw [← hQ]
            exact k_zret hx hb hr hlocks hS () hP hD (by decide) hv dX6_isBeyond_40
  obtain ⟨nn, hv⟩ := hv
  exact lp2 nn (0 : Int32) H locs ls hv (lv_sub hl [0, 1, 2] rfl) hP hD hS
theorem lk_X6_ticksUntilBeyond_18 : Cond.fieldLink RX6 18 "CoarseSteps$Outlook" "loop" "LCoarseSteps$Loop;" ∈ wsX6_ticksUntilBeyond := by decide +kernel
theorem in_X6_ticksUntilBeyond_6 : ∀ w ∈ wsX60, w ∈ wsX6_ticksUntilBeyond := by decide +kernel
theorem in_X6_ticksUntilBeyond_4 : ∀ w ∈ wsX40, w ∈ wsX6_ticksUntilBeyond := by decide +kernel
theorem lk_X6_ticksUntilBeyond_9 : Cond.fieldLink RX6 9 "CoarseSteps$Outlook" "at" "[J" ∈ wsX6_ticksUntilBeyond := by decide +kernel
abbrev rm_X6_ticksUntilBeyond : Room := { frames := 4, cells := 0, slots := 0, locals := 96 }
set_option maxHeartbeats 4000000 in
set_option maxRecDepth 100000 in
theorem m_X6_ticksUntilBeyond (l : Launch) (D : va_G) (cy : ClassId × ClassId × ClassId) (ad : Nat → Nat) (s4_ticks : Int32) (s4_firstBeganWith : Int64) (s4_secondBefore : Int32) (s4_thirdBefore : Int32) (s4_thirdTwoBefore : Int32) (s5_kind : Int32) (s5_sums : Int32) (s6_toldTail : Int32) (s7_over : Int32) (s7_count : Int32) (s8_sums : Int32) (s8_g : Int32) (a4_sums : Nat → Int64) (a5_coming : Nat → Int64) (a5_picked : Nat → Int32) (a6_at : Nat → Int64) (a7_values : Nat → Int32) (a8_a : Nat → Int32) (a8_b : Nat → Int32) (a8_e : Nat → Int32) (a8_h : Nat → Int32) (x1 : Int32) (x2 : Int64) (sz : Nat) {K : Int32 → (Nat → Int64) → (Nat → Int32) → (Nat → Int64) → Prop} (hv : v_X6_ticksUntilBeyond s5_kind s5_sums s7_over s7_count s8_sums s8_g a4_sums a5_coming a5_picked a6_at a7_values a8_a a8_b a8_e a8_h x1 x2 K) : Met l yX6_ticksUntilBeyond wsX6_ticksUntilBeyond rm_X6_ticksUntilBeyond (va_Pc [.ref (ad 6), .int x1, .long x2] (wd D cy [oX4 ad s4_ticks s4_firstBeganWith s4_secondBefore s4_thirdBefore s4_thirdTwoBefore, oX5 ad s5_kind s5_sums, oX6 ad s6_toldTail, oX7 ad s7_over s7_count, oX8 ad s8_sums s8_g, aJ cy (ad 29) 4 a4_sums, aJ cy (ad 30) 4 a5_coming, aI cy (ad 31) 3 a5_picked, aJ cy (ad 32) 4 a6_at, aI cy (ad 34) 8 a7_values, aI cy (ad 35) 16 a8_a, aI cy (ad 36) 4 a8_b, aI cy (ad 37) 4 a8_e, aI cy (ad 38) 4 a8_h] sz)) (va_Qi (fun (r : Int32) (u : (Nat → Int64) × (Nat → Int32) × (Nat → Int64)) => K r u.1 u.2.1 u.2.2) (fun u t => we D ((fun u : (Nat → Int64) × (Nat → Int32) × (Nat → Int64) => [oX4 ad s4_ticks s4_firstBeganWith s4_secondBefore s4_thirdBefore s4_thirdTwoBefore, oX5 ad s5_kind s5_sums, oX6 ad s6_toldTail, oX7 ad s7_over s7_count, oX8 ad s8_sums s8_g, aJ cy (ad 29) 4 a4_sums, aJ cy (ad 30) 4 u.1, aI cy (ad 31) 3 u.2.1, aJ cy (ad 32) 4 u.2.2, aI cy (ad 34) 8 a7_values, aI cy (ad 35) 16 a8_a, aI cy (ad 36) 4 a8_b, aI cy (ad 37) 4 a8_e, aI cy (ad 38) 4 a8_h]) u) (va_A [oX4 ad s4_ticks s4_firstBeganWith s4_secondBefore s4_thirdBefore s4_thirdTwoBefore, oX5 ad s5_kind s5_sums, oX6 ad s6_toldTail, oX7 ad s7_over s7_count, oX8 ad s8_sums s8_g, aJ cy (ad 29) 4 a4_sums, aJ cy (ad 30) 4 a5_coming, aI cy (ad 31) 3 a5_picked, aJ cy (ad 32) 4 a6_at, aI cy (ad 34) 8 a7_values, aI cy (ad 35) 16 a8_a, aI cy (ad 36) 4 a8_b, aI cy (ad 37) 4 a8_e, aI cy (ad 38) 4 a8_h] sz) t) (va_A [oX4 ad s4_ticks s4_firstBeganWith s4_secondBefore s4_thirdBefore s4_thirdTwoBefore, oX5 ad s5_kind s5_sums, oX6 ad s6_toldTail, oX7 ad s7_over s7_count, oX8 ad s8_sums s8_g, aJ cy (ad 29) 4 a4_sums, aJ cy (ad 30) 4 a5_coming, aI cy (ad 31) 3 a5_picked, aJ cy (ad 32) 4 a6_at, aI cy (ad 34) 8 a7_values, aI cy (ad 35) 16 a8_a, aI cy (ad 36) 4 a8_b, aI cy (ad 37) 4 a8_e, aI cy (ad 38) 4 a8_h] sz)) 0 0 (va_A [oX4 ad s4_ticks s4_firstBeganWith s4_secondBefore s4_thirdBefore s4_thirdTwoBefore, oX5 ad s5_kind s5_sums, oX6 ad s6_toldTail, oX7 ad s7_over s7_count, oX8 ad s8_sums s8_g, aJ cy (ad 29) 4 a4_sums, aJ cy (ad 30) 4 a5_coming, aI cy (ad 31) 3 a5_picked, aJ cy (ad 32) 4 a6_at, aI cy (ad 34) 8 a7_values, aI cy (ad 35) 16 a8_a, aI cy (ad 36) 4 a8_b, aI cy (ad 37) 4 a8_e, aI cy (ad 38) 4 a8_h] sz) := by
  refine k_ofW (cc := cX6_ticksUntilBeyond) (maxL := 5) (ret := (some .int)) (fun A => va_Qi (fun (r : Int32) (u : (Nat → Int64) × (Nat → Int32) × (Nat → Int64)) => K r u.1 u.2.1 u.2.2) (fun u t => we D ((fun u : (Nat → Int64) × (Nat → Int32) × (Nat → Int64) => [oX4 ad s4_ticks s4_firstBeganWith s4_secondBefore s4_thirdBefore s4_thirdTwoBefore, oX5 ad s5_kind s5_sums, oX6 ad s6_toldTail, oX7 ad s7_over s7_count, oX8 ad s8_sums s8_g, aJ cy (ad 29) 4 a4_sums, aJ cy (ad 30) 4 u.1, aI cy (ad 31) 3 u.2.1, aJ cy (ad 32) 4 u.2.2, aI cy (ad 34) 8 a7_values, aI cy (ad 35) 16 a8_a, aI cy (ad 36) 4 a8_b, aI cy (ad 37) 4 a8_e, aI cy (ad 38) 4 a8_h]) u) A t) A) (by decide) rfl (Nat.le_of_ble_eq_true rfl) ?_
  intro p e s m below meth c A ls H locs hx hb hml hr hts hown hlocks hname hK hN hA hP hD hS hl
  have hl : lv_has ls 5 [(0, .ref (ad 6)), (1, .int x1), (2, .long x2)] := hl
  generalize hQ : MQ below _ _ s _ _ A = Q
  unfold v_X6_ticksUntilBeyond at hv
  refine lv_aload_n hx hb dX6_ticksUntilBeyond_0 rfl (lv_at hl 0 rfl) ?_
  refine va_get (D := D) (ci := 6) (v := .ref (ad 4)) (C := RX6) (T := TX6) (N := 4) hx hb hts in_X6_ticksUntilBeyond_6 hown hK hP 2 rfl rfl 0 (by decide) (hts _ lk_X6_ticksUntilBeyond_18) (fun _ h9 => h9) rfl dX6_ticksUntilBeyond_1 ?_
  refine va_getN (D := D) (ci := 4) (v := .ref (ad 29)) (C := RX4) (T := TX4) (N := 9) hx hb hts in_X6_ticksUntilBeyond_4 hown hK hP 0 rfl rfl 3 (by decide) (nz_use hN nzf_X6_34) (fun _ h9 => h9) rfl dX6_ticksUntilBeyond_4 ?_
  refine lv_aload_n hx hb dX6_ticksUntilBeyond_7 rfl (lv_at hl 0 rfl) ?_
  refine va_get (D := D) (ci := 6) (v := .ref (ad 32)) (C := RX6) (T := TX6) (N := 4) hx hb hts in_X6_ticksUntilBeyond_6 hown hK hP 2 rfl rfl 1 (by decide) (hts _ lk_X6_ticksUntilBeyond_9) (fun _ h9 => h9) rfl dX6_ticksUntilBeyond_8 ?_
  have hPc := hP.sub (ws' := [aJ cy (ad 29) 4 a4_sums, aJ cy (ad 32) 4 a6_at]) [5, 8] rfl
  have hDc := hD.sub (ws' := [aJ cy (ad 29) 4 a4_sums, aJ cy (ad 32) 4 a6_at]) [5, 8] (by decide) rfl
  refine k_calv (wc := [aJ cy (ad 29) 4 a4_sums, aJ cy (ad 32) 4 a6_at]) (wr := [oX4 ad s4_ticks s4_firstBeganWith s4_secondBefore s4_thirdBefore s4_thirdTwoBefore, oX5 ad s5_kind s5_sums, oX6 ad s6_toldTail, oX7 ad s7_over s7_count, oX8 ad s8_sums s8_g, aJ cy (ad 30) 4 a5_coming, aI cy (ad 31) 3 a5_picked, aI cy (ad 34) 8 a7_values, aI cy (ad 35) 16 a8_a, aI cy (ad 36) 4 a8_b, aI cy (ad 37) 4 a8_e, aI cy (ad 38) 4 a8_h]) (va_runS (As := [.ref (ad 29), .ref (ad 32)]) (rest := []) ⟨hx, hb, hml, hown, hts⟩ (m_X6_copy l D cy ad a4_sums a6_at (ad 29) (ad 32) H.size hv) (va_cwS 2 hts gX6_ticksUntilBeyond_X6_copy rfl rfl rfl (by decide +kernel) ⟨Nat.le_of_ble_eq_true rfl, Nat.le_of_ble_eq_true rfl⟩) ⟨wd_blind, wd_ok hPc hK hDc hN⟩ rfl rfl hl.1 rfl (lv_room (Nat.le_of_ble_eq_true rfl)) dX6_ticksUntilBeyond_11 ⟨Nat.le_of_ble_eq_true rfl, Nat.le_of_ble_eq_true rfl⟩) hP hD hS hA [5, 8] [0, 1, 2, 3, 4, 6, 7, 9, 10, 11, 12, 13] rfl rfl (by decide) (by decide) (fun a6_at_1 H locs hv hP hD hS => ?_)
  have hP : va_P D vwCl [oX4 ad s4_ticks s4_firstBeganWith s4_secondBefore s4_thirdBefore s4_thirdTwoBefore, oX5 ad s5_kind s5_sums, oX6 ad s6_toldTail, oX7 ad s7_over s7_count, oX8 ad s8_sums s8_g, aJ cy (ad 29) 4 a4_sums, aJ cy (ad 30) 4 a5_coming, aI cy (ad 31) 3 a5_picked, aJ cy (ad 32) 4 a6_at_1, aI cy (ad 34) 8 a7_values, aI cy (ad 35) 16 a8_a, aI cy (ad 36) 4 a8_b, aI cy (ad 37) 4 a8_e, aI cy (ad 38) 4 a8_h] H := hP.sub [0, 1, 2, 3, 4, 12, 5, 6, 13, 7, 8, 9, 10, 11] rfl
  have hD : va_D A [oX4 ad s4_ticks s4_firstBeganWith s4_secondBefore s4_thirdBefore s4_thirdTwoBefore, oX5 ad s5_kind s5_sums, oX6 ad s6_toldTail, oX7 ad s7_over s7_count, oX8 ad s8_sums s8_g, aJ cy (ad 29) 4 a4_sums, aJ cy (ad 30) 4 a5_coming, aI cy (ad 31) 3 a5_picked, aJ cy (ad 32) 4 a6_at_1, aI cy (ad 34) 8 a7_values, aI cy (ad 35) 16 a8_a, aI cy (ad 36) 4 a8_b, aI cy (ad 37) 4 a8_e, aI cy (ad 38) 4 a8_h] := hD.sub [0, 1, 2, 3, 4, 12, 5, 6, 13, 7, 8, 9, 10, 11] (by decide) rfl
  refine lv_iconst (v := 1) hx hb dX6_ticksUntilBeyond_14 (by decide) ?_
  refine lv_istore (lv' := [(4, .int (1 : Int32)), (0, .ref (ad 6)), (1, .int x1), (2, .long x2)]) hx hb dX6_ticksUntilBeyond_15 hl (by decide) rfl (fun ls hl => ?_)
  have lp17 : ∀ (n17 : Nat) (l4_2 : Int32) (a5_coming_3 : Nat → Int64) (a5_picked_4 : Nat → Int32) (a6_at_5 : Nat → Int64) (H : Heap) (locs : List Loc) (ls : Array Slot), vfix (vF_X6_ticksUntilBeyond_17 s5_kind s5_sums s7_over s7_count s8_sums s8_g a7_values a8_a a8_b a8_e a8_h x1 x2 K) n17 (l4_2, a5_coming_3, a5_picked_4, a6_at_5) → lv_has ls 5 [(4, .int l4_2), (0, .ref (ad 6)), (1, .int x1), (2, .long x2)] → va_P D vwCl [oX4 ad s4_ticks s4_firstBeganWith s4_secondBefore s4_thirdBefore s4_thirdTwoBefore, oX5 ad s5_kind s5_sums, oX6 ad s6_toldTail, oX7 ad s7_over s7_count, oX8 ad s8_sums s8_g, aJ cy (ad 29) 4 a4_sums, aJ cy (ad 30) 4 a5_coming_3, aI cy (ad 31) 3 a5_picked_4, aJ cy (ad 32) 4 a6_at_5, aI cy (ad 34) 8 a7_values, aI cy (ad 35) 16 a8_a, aI cy (ad 36) 4 a8_b, aI cy (ad 37) 4 a8_e, aI cy (ad 38) 4 a8_h] H → va_D A [oX4 ad s4_ticks s4_firstBeganWith s4_secondBefore s4_thirdBefore s4_thirdTwoBefore, oX5 ad s5_kind s5_sums, oX6 ad s6_toldTail, oX7 ad s7_over s7_count, oX8 ad s8_sums s8_g, aJ cy (ad 29) 4 a4_sums, aJ cy (ad 30) 4 a5_coming_3, aI cy (ad 31) 3 a5_picked_4, aJ cy (ad 32) 4 a6_at_5, aI cy (ad 34) 8 a7_values, aI cy (ad 35) 16 a8_a, aI cy (ad 36) 4 a8_b, aI cy (ad 37) 4 a8_e, aI cy (ad 38) 4 a8_h] → va_S A s.heap H locs → W p l e rm_X6_ticksUntilBeyond s m ([.ref (ad 6), .int x1, .long x2] : List Value).toArray below meth c H locs 0 0 Q (F0 m 17 ls []) := by
    intro n17
    induction n17 with
    | zero => intro l4_2 a5_coming_3 a5_picked_4 a6_at_5 H locs ls hv; exact hv.elim
    | succ n17 ih17 =>
      intro l4_2 a5_coming_3 a5_picked_4 a6_at_5 H locs ls hv hl hP hD hS
      have hv : vB_X6_ticksUntilBeyond_17 s5_kind s5_sums s7_over s7_count s8_sums s8_g a7_values a8_a a8_b a8_e a8_h x1 x2 K (fun z0 z1 z2 z3 => vfix (vF_X6_ticksUntilBeyond_17 s5_kind s5_sums s7_over s7_count s8_sums s8_g a7_values a8_a a8_b a8_e a8_h x1 x2 K) n17 (z0, z1, z2, z3)) l4_2 a5_coming_3 a5_picked_4 a6_at_5 := hv
      unfold vB_X6_ticksUntilBeyond_17 at hv
      refine lv_iload hx hb dX6_ticksUntilBeyond_17 (lv_at hl 0 rfl) ?_
      refine lv_sipush (v := 4096) hx hb dX6_ticksUntilBeyond_19 (by decide) ?_
      refine lv_icmp_gt (tgt := 60) hx hb dX6_ticksUntilBeyond_22 (by decide) (fun c_22 => ?_) (fun c_22 => ?_)
      · have hv := hv.1 c_22
        refine lv_bipush (v := -2) hx hb dX6_ticksUntilBeyond_60 (by decide) ?_
        rw [← hQ]
        exact k_iret hx hb hr hlocks hS (a5_coming_3, a5_picked_4, a6_at_5) hP hD hv dX6_ticksUntilBeyond_62
      · have hv := hv.2 c_22
        refine lv_aload_n hx hb dX6_ticksUntilBeyond_25 rfl (lv_at hl 1 rfl) ?_
        refine va_get (D := D) (ci := 6) (v := .ref (ad 4)) (C := RX6) (T := TX6) (N := 4) hx hb hts in_X6_ticksUntilBeyond_6 hown hK hP 2 rfl rfl 0 (by decide) (hts _ lk_X6_ticksUntilBeyond_18) (fun _ h9 => h9) rfl dX6_ticksUntilBeyond_26 ?_
        refine va_getN (D := D) (ci := 4) (v := .ref (ad 5)) (C := RX4) (T := TX4) (N := 9) hx hb hts in_X6_ticksUntilBeyond_4 hown hK hP 0 rfl rfl 0 (by decide) (nz_use hN nzf_X6_43) (fun _ h9 => h9) rfl dX6_ticksUntilBeyond_29 ?_
        refine lv_aload_n hx hb dX6_ticksUntilBeyond_32 rfl (lv_at hl 1 rfl) ?_
        refine va_get (D := D) (ci := 6) (v := .ref (ad 32)) (C := RX6) (T := TX6) (N := 4) hx hb hts in_X6_ticksUntilBeyond_6 hown hK hP 2 rfl rfl 1 (by decide) (hts _ lk_X6_ticksUntilBeyond_9) (fun _ h9 => h9) rfl dX6_ticksUntilBeyond_33 ?_
        refine lv_iload_n hx hb dX6_ticksUntilBeyond_36 rfl (lv_at hl 2 rfl) ?_
        have hPc := hP.sub (ws' := [oX5 ad s5_kind s5_sums, oX7 ad s7_over s7_count, oX8 ad s8_sums s8_g, aJ cy (ad 30) 4 a5_coming_3, aI cy (ad 31) 3 a5_picked_4, aI cy (ad 34) 8 a7_values, aI cy (ad 35) 16 a8_a, aI cy (ad 36) 4 a8_b, aI cy (ad 37) 4 a8_e, aI cy (ad 38) 4 a8_h, aJ cy (ad 32) 4 a6_at_5]) [1, 3, 4, 6, 7, 9, 10, 11, 12, 13, 8] rfl
        have hDc := hD.sub (ws' := [oX5 ad s5_kind s5_sums, oX7 ad s7_over s7_count, oX8 ad s8_sums s8_g, aJ cy (ad 30) 4 a5_coming_3, aI cy (ad 31) 3 a5_picked_4, aI cy (ad 34) 8 a7_values, aI cy (ad 35) 16 a8_a, aI cy (ad 36) 4 a8_b, aI cy (ad 37) 4 a8_e, aI cy (ad 38) 4 a8_h, aJ cy (ad 32) 4 a6_at_5]) [1, 3, 4, 6, 7, 9, 10, 11, 12, 13, 8] (by decide) rfl
        refine k_cali (wc := [oX5 ad s5_kind s5_sums, oX7 ad s7_over s7_count, oX8 ad s8_sums s8_g, aJ cy (ad 30) 4 a5_coming_3, aI cy (ad 31) 3 a5_picked_4, aI cy (ad 34) 8 a7_values, aI cy (ad 35) 16 a8_a, aI cy (ad 36) 4 a8_b, aI cy (ad 37) 4 a8_e, aI cy (ad 38) 4 a8_h, aJ cy (ad 32) 4 a6_at_5]) (wr := [oX4 ad s4_ticks s4_firstBeganWith s4_secondBefore s4_thirdBefore s4_thirdTwoBefore, oX6 ad s6_toldTail, aJ cy (ad 29) 4 a4_sums]) (va_runV (As := [.ref (ad 32), .int x1]) (rest := []) ⟨hx, hb, hml, hown, hts⟩ (m_X5_advance l D cy ad s5_kind s5_sums s7_over s7_count s8_sums s8_g a5_coming_3 a5_picked_4 a7_values a8_a a8_b a8_e a8_h a6_at_5 (ad 32) x1 H.size hv) (cwV 2 hts gX6_ticksUntilBeyond_X5_advance rfl rfl rfl (by decide +kernel) ⟨Nat.le_of_ble_eq_true rfl, Nat.le_of_ble_eq_true rfl⟩) ⟨wd_blind, va_recv hK hPc (ci := 5) (q0 := 0) rfl rfl, wd_ok hPc hK hDc hN⟩ rfl rfl hl.1 rfl (lv_room (Nat.le_of_ble_eq_true rfl)) dX6_ticksUntilBeyond_37 ⟨Nat.le_of_ble_eq_true rfl, Nat.le_of_ble_eq_true rfl⟩) hP hD hS hA [1, 3, 4, 6, 7, 9, 10, 11, 12, 13, 8] [0, 2, 5] rfl rfl (by decide) (by decide) (fun r6 u H locs hv hP hD hS => ?_)
        obtain ⟨a5_coming_7, a5_picked_8, a6_at_9⟩ := u
        obtain ⟨hz_r6, hv⟩ := hv
        have hP : va_P D vwCl [oX4 ad s4_ticks s4_firstBeganWith s4_secondBefore s4_thirdBefore s4_thirdTwoBefore, oX5 ad s5_kind s5_sums, oX6 ad s6_toldTail, oX7 ad s7_over s7_count, oX8 ad s8_sums s8_g, aJ cy (ad 29) 4 a4_sums, aJ cy (ad 30) 4 a5_coming_7, aI cy (ad 31) 3 a5_picked_8, aJ cy (ad 32) 4 a6_at_9, aI cy (ad 34) 8 a7_values, aI cy (ad 35) 16 a8_a, aI cy (ad 36) 4 a8_b, aI cy (ad 37) 4 a8_e, aI cy (ad 38) 4 a8_h] H := hP.sub [0, 3, 1, 4, 5, 2, 6, 7, 13, 8, 9, 10, 11, 12] rfl
        have hD : va_D A [oX4 ad s4_ticks s4_firstBeganWith s4_secondBefore s4_thirdBefore s4_thirdTwoBefore, oX5 ad s5_kind s5_sums, oX6 ad s6_toldTail, oX7 ad s7_over s7_count, oX8 ad s8_sums s8_g, aJ cy (ad 29) 4 a4_sums, aJ cy (ad 30) 4 a5_coming_7, aI cy (ad 31) 3 a5_picked_8, aJ cy (ad 32) 4 a6_at_9, aI cy (ad 34) 8 a7_values, aI cy (ad 35) 16 a8_a, aI cy (ad 36) 4 a8_b, aI cy (ad 37) 4 a8_e, aI cy (ad 38) 4 a8_h] := hD.sub [0, 3, 1, 4, 5, 2, 6, 7, 13, 8, 9, 10, 11, 12] (by decide) rfl
        refine lv_if_eq (tgt := 51) hx hb dX6_ticksUntilBeyond_40 (by decide) (fun c_40 => ?_) (fun c_40 => ?_)
        · have hv := hv.1 c_40
          refine lv_iload hx hb dX6_ticksUntilBeyond_51 (lv_at hl 0 rfl) ?_
          rw [← hQ]
          exact k_iret hx hb hr hlocks hS (a5_coming_7, a5_picked_8, a6_at_9) hP hD hv dX6_ticksUntilBeyond_53
        · have hv := hv.2 c_40
          refine lv_aload_n hx hb dX6_ticksUntilBeyond_43 rfl (lv_at hl 1 rfl) ?_
          refine lv_lload_n hx hb dX6_ticksUntilBeyond_44 rfl (lv_at hl 3 rfl) ?_
          have hPc := hP.sub (ws' := [oX4 ad s4_ticks s4_firstBeganWith s4_secondBefore s4_thirdBefore s4_thirdTwoBefore, oX5 ad s5_kind s5_sums, oX6 ad s6_toldTail, aJ cy (ad 32) 4 a6_at_9]) [0, 1, 2, 8] rfl
          have hDc := hD.sub (ws' := [oX4 ad s4_ticks s4_firstBeganWith s4_secondBefore s4_thirdBefore s4_thirdTwoBefore, oX5 ad s5_kind s5_sums, oX6 ad s6_toldTail, aJ cy (ad 32) 4 a6_at_9]) [0, 1, 2, 8] (by decide) rfl
          refine k_cali (wc := [oX4 ad s4_ticks s4_firstBeganWith s4_secondBefore s4_thirdBefore s4_thirdTwoBefore, oX5 ad s5_kind s5_sums, oX6 ad s6_toldTail, aJ cy (ad 32) 4 a6_at_9]) (wr := [oX7 ad s7_over s7_count, oX8 ad s8_sums s8_g, aJ cy (ad 29) 4 a4_sums, aJ cy (ad 30) 4 a5_coming_7, aI cy (ad 31) 3 a5_picked_8, aI cy (ad 34) 8 a7_values, aI cy (ad 35) 16 a8_a, aI cy (ad 36) 4 a8_b, aI cy (ad 37) 4 a8_e, aI cy (ad 38) 4 a8_h]) (va_runV (As := [.long x2]) (rest := []) ⟨hx, hb, hml, hown, hts⟩ (m_X6_isBeyond l D cy ad s4_ticks s4_firstBeganWith s4_secondBefore s4_thirdBefore s4_thirdTwoBefore s5_kind s5_sums s6_toldTail a6_at_9 x2 H.size hv) (cwV 1 hts gX6_ticksUntilBeyond_X6_isBeyond rfl rfl rfl (by decide +kernel) ⟨Nat.le_of_ble_eq_true rfl, Nat.le_of_ble_eq_true rfl⟩) ⟨wd_blind, va_recv hK hPc (ci := 6) (q0 := 2) rfl rfl, wd_ok hPc hK hDc hN⟩ rfl rfl hl.1 rfl (lv_room (Nat.le_of_ble_eq_true rfl)) dX6_ticksUntilBeyond_45 ⟨Nat.le_of_ble_eq_true rfl, Nat.le_of_ble_eq_true rfl⟩) hP hD hS hA [0, 1, 2, 8] [3, 4, 5, 6, 7, 9, 10, 11, 12, 13] rfl rfl (by decide) (by decide) (fun r10 u H locs hv hP hD hS => ?_)
          obtain ⟨hz_r10, hv⟩ := hv
          have hP : va_P D vwCl [oX4 ad s4_ticks s4_firstBeganWith s4_secondBefore s4_thirdBefore s4_thirdTwoBefore, oX5 ad s5_kind s5_sums, oX6 ad s6_toldTail, oX7 ad s7_over s7_count, oX8 ad s8_sums s8_g, aJ cy (ad 29) 4 a4_sums, aJ cy (ad 30) 4 a5_coming_7, aI cy (ad 31) 3 a5_picked_8, aJ cy (ad 32) 4 a6_at_9, aI cy (ad 34) 8 a7_values, aI cy (ad 35) 16 a8_a, aI cy (ad 36) 4 a8_b, aI cy (ad 37) 4 a8_e, aI cy (ad 38) 4 a8_h] H := hP.sub [10, 11, 12, 0, 1, 2, 3, 4, 13, 5, 6, 7, 8, 9] rfl
          have hD : va_D A [oX4 ad s4_ticks s4_firstBeganWith s4_secondBefore s4_thirdBefore s4_thirdTwoBefore, oX5 ad s5_kind s5_sums, oX6 ad s6_toldTail, oX7 ad s7_over s7_count, oX8 ad s8_sums s8_g, aJ cy (ad 29) 4 a4_sums, aJ cy (ad 30) 4 a5_coming_7, aI cy (ad 31) 3 a5_picked_8, aJ cy (ad 32) 4 a6_at_9, aI cy (ad 34) 8 a7_values, aI cy (ad 35) 16 a8_a, aI cy (ad 36) 4 a8_b, aI cy (ad 37) 4 a8_e, aI cy (ad 38) 4 a8_h] := hD.sub [10, 11, 12, 0, 1, 2, 3, 4, 13, 5, 6, 7, 8, 9] (by decide) rfl
          refine lv_if_eq (tgt := 54) hx hb dX6_ticksUntilBeyond_48 (by decide) (fun c_48 => ?_) (fun c_48 => ?_)
          · have hv := hv.1 c_48
            obtain ⟨i11, h_i11⟩ : ∃ y : Int32, y = l4_2 + 1 := ⟨_, rfl⟩
            refine lv_iinc (v := i11) (lv' := [(4, .int i11), (0, .ref (ad 6)), (1, .int x1), (2, .long x2)]) hx hb dX6_ticksUntilBeyond_54 hl (k := 0) rfl (by rw [h_i11]; rfl) (by decide) rfl (fun ls hl => ?_)
            have hv := hv i11 h_i11
            refine lv_goto (tgt := 17) hx hb dX6_ticksUntilBeyond_57 (by decide) ?_
            exact ih17 i11 a5_coming_7 a5_picked_8 a6_at_9 H locs ls hv (lv_sub hl [0, 1, 2, 3] rfl) hP hD hS
          · have hv := hv.2 c_48
            refine lv_iload hx hb dX6_ticksUntilBeyond_51 (lv_at hl 0 rfl) ?_
            rw [← hQ]
            exact k_iret hx hb hr hlocks hS (a5_coming_7, a5_picked_8, a6_at_9) hP hD hv dX6_ticksUntilBeyond_53
  obtain ⟨nn, hv⟩ := hv
  exact lp17 nn (1 : Int32) a5_coming a5_picked a6_at_1 H locs ls hv (lv_sub hl [0, 1, 2, 3] rfl) hP hD hS
abbrev rm_X10_isWithin : Room := { frames := 0, cells := 0, slots := 0, locals := 0 }
set_option maxHeartbeats 4000000 in
set_option maxRecDepth 100000 in
theorem m_X10_isWithin (l : Launch) (D : va_G) (cy : ClassId × ClassId × ClassId) (ad : Nat → Nat) (x0 : Int32) (x1 : Int32) (sz : Nat) {K : Int32 → Prop} (hv : v_X10_isWithin x0 x1 K) : Met l yX10_isWithin wsX10_isWithin rm_X10_isWithin (va_Pc [.int x0, .int x1] (wd D cy [] sz)) (va_Qi (fun (r : Int32) (u : Unit) => (r = 0 ∨ r = 1) ∧ K r) (fun u t => we D ((fun u : Unit => []) u) (va_A [] sz) t) (va_A [] sz)) 0 0 (va_A [] sz) := by
  refine k_ofW (cc := cX10_isWithin) (maxL := 2) (ret := (some .boolean)) (fun A => va_Qi (fun (r : Int32) (u : Unit) => (r = 0 ∨ r = 1) ∧ K r) (fun u t => we D ((fun u : Unit => []) u) A t) A) (by decide) rfl (Nat.le_of_ble_eq_true rfl) ?_
  intro p e s m below meth c A ls H locs hx hb hml hr hts hown hlocks hname hK hN hA hP hD hS hl
  have hl : lv_has ls 2 [(0, .int x0), (1, .int x1)] := hl
  generalize hQ : MQ below _ _ s _ _ A = Q
  unfold v_X10_isWithin at hv
  refine lv_iload_n hx hb dX10_isWithin_0 rfl (lv_at hl 0 rfl) ?_
  refine lv_iload_n hx hb dX10_isWithin_1 rfl (lv_at hl 1 rfl) ?_
  refine lv_ineg hx hb dX10_isWithin_2 ?_
  refine lv_topi (fun e1 h_e1 => ?_)
  have hv := hv e1 h_e1
  refine lv_icmp_lt (tgt := 15) hx hb dX10_isWithin_3 (by decide) (fun c_3 => ?_) (fun c_3 => ?_)
  · have hv := hv.1 c_3
    refine lv_iconst (v := 0) hx hb dX10_isWithin_15 (by decide) ?_
    rw [← hQ]
    exact k_zret hx hb hr hlocks hS () hP hD (by decide) hv dX10_isWithin_16
  · have hv := hv.2 c_3
    refine lv_iload_n hx hb dX10_isWithin_6 rfl (lv_at hl 0 rfl) ?_
    refine lv_iload_n hx hb dX10_isWithin_7 rfl (lv_at hl 1 rfl) ?_
    refine lv_icmp_gt (tgt := 15) hx hb dX10_isWithin_8 (by decide) (fun c_8 => ?_) (fun c_8 => ?_)
    · have hv := hv.1 c_8
      refine lv_iconst (v := 0) hx hb dX10_isWithin_15 (by decide) ?_
      rw [← hQ]
      exact k_zret hx hb hr hlocks hS () hP hD (by decide) hv dX10_isWithin_16
    · have hv := hv.2 c_8
      refine lv_iconst (v := 1) hx hb dX10_isWithin_11 (by decide) ?_
      refine lv_goto (tgt := 16) hx hb dX10_isWithin_12 (by decide) ?_
      rw [← hQ]
      exact k_zret hx hb hr hlocks hS () hP hD (by decide) hv dX10_isWithin_16
theorem li_X7_canTake_X10 : Cond.initialized RX10 ∈ wsX7_canTake := by decide +kernel
theorem ls_X7_canTake_X10_isWithin : Cond.static yX10_isWithin ∈ wsX7_canTake := by decide +kernel
abbrev rm_X7_canTake : Room := { frames := 1, cells := 0, slots := 0, locals := 21 }
set_option maxHeartbeats 4000000 in
set_option maxRecDepth 100000 in
theorem m_X7_canTake (l : Launch) (D : va_G) (cy : ClassId × ClassId × ClassId) (ad : Nat → Nat) (s7_over : Int32) (s7_count : Int32) (p2 : Nat → Int32) (rp2 : Nat) (x1 : Int32) (sz : Nat) {K : Int32 → Prop} (hv : v_X7_canTake p2 x1 K) : Met l yX7_canTake wsX7_canTake rm_X7_canTake (va_Pc [.ref (ad 7), .int x1, .ref rp2] (wd D cy [oX7 ad s7_over s7_count, aI cy rp2 8 p2] sz)) (va_Qi (fun (r : Int32) (u : Unit) => (r = 0 ∨ r = 1) ∧ K r) (fun u t => we D ((fun u : Unit => [oX7 ad s7_over s7_count, aI cy rp2 8 p2]) u) (va_A [oX7 ad s7_over s7_count, aI cy rp2 8 p2] sz) t) (va_A [oX7 ad s7_over s7_count, aI cy rp2 8 p2] sz)) 0 0 (va_A [oX7 ad s7_over s7_count, aI cy rp2 8 p2] sz) := by
  refine k_ofW (cc := cX7_canTake) (maxL := 4) (ret := (some .boolean)) (fun A => va_Qi (fun (r : Int32) (u : Unit) => (r = 0 ∨ r = 1) ∧ K r) (fun u t => we D ((fun u : Unit => [oX7 ad s7_over s7_count, aI cy rp2 8 p2]) u) A t) A) (by decide) rfl (Nat.le_of_ble_eq_true rfl) ?_
  intro p e s m below meth c A ls H locs hx hb hml hr hts hown hlocks hname hK hN hA hP hD hS hl
  have hl : lv_has ls 4 [(0, .ref (ad 7)), (1, .int x1), (2, .ref rp2)] := hl
  generalize hQ : MQ below _ _ s _ _ A = Q
  unfold v_X7_canTake at hv
  refine lv_iload_n hx hb dX7_canTake_0 rfl (lv_at hl 1 rfl) ?_
  refine lv_iconst (v := 2) hx hb dX7_canTake_1 (by decide) ?_
  refine lv_icmp_lt (tgt := 17) hx hb dX7_canTake_2 (by decide) (fun c_2 => ?_) (fun c_2 => ?_)
  · have hv := hv.1 c_2
    refine lv_iconst (v := 0) hx hb dX7_canTake_17 (by decide) ?_
    rw [← hQ]
    exact k_zret hx hb hr hlocks hS () hP hD (by decide) hv dX7_canTake_18
  · have hv := hv.2 c_2
    refine lv_iload_n hx hb dX7_canTake_5 rfl (lv_at hl 1 rfl) ?_
    refine lv_bipush (v := 8) hx hb dX7_canTake_6 (by decide) ?_
    refine lv_icmp_gt (tgt := 17) hx hb dX7_canTake_8 (by decide) (fun c_8 => ?_) (fun c_8 => ?_)
    · have hv := hv.1 c_8
      refine lv_iconst (v := 0) hx hb dX7_canTake_17 (by decide) ?_
      rw [← hQ]
      exact k_zret hx hb hr hlocks hS () hP hD (by decide) hv dX7_canTake_18
    · have hv := hv.2 c_8
      refine lv_iload_n hx hb dX7_canTake_11 rfl (lv_at hl 1 rfl) ?_
      refine lv_aload_n hx hb dX7_canTake_12 rfl (lv_at hl 2 rfl) ?_
      refine va_alen (v := 8) hx hb hK hP 1 0 rfl rfl rfl dX7_canTake_13 ?_
      refine lv_icmp_le (tgt := 19) hx hb dX7_canTake_14 (by decide) (fun c_14 => ?_) (fun c_14 => ?_)
      · have hv := hv.1 c_14
        refine lv_iconst (v := 0) hx hb dX7_canTake_19 (by decide) ?_
        refine lv_istore_n (lv' := [(3, .int (0 : Int32)), (0, .ref (ad 7)), (1, .int x1), (2, .ref rp2)]) hx hb dX7_canTake_20 rfl hl (by decide) rfl (fun ls hl => ?_)
        have lp21 : ∀ (n21 : Nat) (l3_1 : Int32) (H : Heap) (locs : List Loc) (ls : Array Slot), vfix (vF_X7_canTake_21 p2 x1 K) n21 l3_1 → lv_has ls 4 [(3, .int l3_1), (1, .int x1), (2, .ref rp2)] → va_P D vwCl [oX7 ad s7_over s7_count, aI cy rp2 8 p2] H → va_D A [oX7 ad s7_over s7_count, aI cy rp2 8 p2] → va_S A s.heap H locs → W p l e rm_X7_canTake s m ([.ref (ad 7), .int x1, .ref rp2] : List Value).toArray below meth c H locs 0 0 Q (F0 m 21 ls []) := by
          intro n21
          induction n21 with
          | zero => intro l3_1 H locs ls hv; exact hv.elim
          | succ n21 ih21 =>
            intro l3_1 H locs ls hv hl hP hD hS
            have hv : vB_X7_canTake_21 p2 x1 K (fun z0 => vfix (vF_X7_canTake_21 p2 x1 K) n21 z0) l3_1 := hv
            unfold vB_X7_canTake_21 at hv
            refine lv_iload_n hx hb dX7_canTake_21 rfl (lv_at hl 0 rfl) ?_
            refine lv_iload_n hx hb dX7_canTake_22 rfl (lv_at hl 1 rfl) ?_
            refine lv_icmp_ge (tgt := 60) hx hb dX7_canTake_23 (by decide) (fun c_23 => ?_) (fun c_23 => ?_)
            · have hv := hv.1 c_23
              refine lv_iconst (v := 1) hx hb dX7_canTake_60 (by decide) ?_
              rw [← hQ]
              exact k_zret hx hb hr hlocks hS () hP hD (by decide) hv dX7_canTake_61
            · have hv := hv.2 c_23
              refine lv_aload_n hx hb dX7_canTake_26 rfl (lv_at hl 2 rfl) ?_
              refine lv_iload_n hx hb dX7_canTake_27 rfl (lv_at hl 0 rfl) ?_
              refine va_iald hx hb hK hP 1 0 rfl rfl hv.1 dX7_canTake_28 ?_
              refine lv_topi (fun g2 h_g2 => ?_)
              have hv := hv.2 g2 h_g2
              refine lv_bipush (v := 100) hx hb dX7_canTake_29 (by decide) ?_
              have hPc := hP.sub (ws' := []) [] rfl
              have hDc := hD.sub (ws' := []) [] (by decide) rfl
              refine k_cali (wc := []) (wr := [oX7 ad s7_over s7_count, aI cy rp2 8 p2]) (va_runSN (As := [.int g2, .int (100 : Int32)]) (rest := []) ⟨hx, hb, hml, hown, hts⟩ (m_X10_isWithin l D cy ad g2 (100 : Int32) H.size hv) ⟨va_cnB 2 hts gX7_canTake_X10_isWithin_n22 rfl rfl rfl (hN _ nzm_X7_22) (hts _ li_X7_canTake_X10) (by decide +kernel) ⟨Nat.le_of_ble_eq_true rfl, Nat.le_of_ble_eq_true rfl⟩, hts _ ls_X7_canTake_X10_isWithin, trivial⟩ ⟨wd_blind, wd_ok hPc hK hDc hN⟩ rfl rfl hl.1 rfl (lv_room (Nat.le_of_ble_eq_true rfl)) dX7_canTake_31 ⟨Nat.le_of_ble_eq_true rfl, Nat.le_of_ble_eq_true rfl⟩) hP hD hS hA [] [0, 1] rfl rfl (by decide) (by decide) (fun r3 u H locs hv hP hD hS => ?_)
              obtain ⟨hz_r3, hv⟩ := hv
              have hP : va_P D vwCl [oX7 ad s7_over s7_count, aI cy rp2 8 p2] H := hP.sub [0, 1] rfl
              have hD : va_D A [oX7 ad s7_over s7_count, aI cy rp2 8 p2] := hD.sub [0, 1] (by decide) rfl
              refine lv_if_eq (tgt := 52) hx hb dX7_canTake_34 (by decide) (fun c_34 => ?_) (fun c_34 => ?_)
              · have hv := hv.1 c_34
                refine lv_iconst (v := 0) hx hb dX7_canTake_52 (by decide) ?_
                rw [← hQ]
                exact k_zret hx hb hr hlocks hS () hP hD (by decide) hv dX7_canTake_53
              · have hv := hv.2 c_34
                refine lv_iload_n hx hb dX7_canTake_37 rfl (lv_at hl 0 rfl) ?_
                have jn54 : ∀ (H : Heap) (locs : List Loc) (ls : Array Slot), vJ_X7_canTake_54 l3_1 (fun z0 => vfix (vF_X7_canTake_21 p2 x1 K) n21 z0) → lv_has ls 4 [(3, .int l3_1), (1, .int x1), (2, .ref rp2)] → va_P D vwCl [oX7 ad s7_over s7_count, aI cy rp2 8 p2] H → va_D A [oX7 ad s7_over s7_count, aI cy rp2 8 p2] → va_S A s.heap H locs → W p l e rm_X7_canTake s m ([.ref (ad 7), .int x1, .ref rp2] : List Value).toArray below meth c H locs 0 0 Q (F0 m 54 ls []) := by
                  intro H locs ls hv hl hP hD hS
                  unfold vJ_X7_canTake_54 at hv
                  obtain ⟨i4, h_i4⟩ : ∃ y : Int32, y = l3_1 + 1 := ⟨_, rfl⟩
                  refine lv_iinc (v := i4) (lv' := [(3, .int i4), (1, .int x1), (2, .ref rp2)]) hx hb dX7_canTake_54 hl (k := 0) rfl (by rw [h_i4]; rfl) (by decide) rfl (fun ls hl => ?_)
                  have hv := hv i4 h_i4
                  refine lv_goto (tgt := 21) hx hb dX7_canTake_57 (by decide) ?_
                  exact ih21 i4 H locs ls hv (lv_sub hl [0, 1, 2] rfl) hP hD hS
                refine lv_if_le (tgt := 54) hx hb dX7_canTake_38 (by decide) (fun c_38 => ?_) (fun c_38 => ?_)
                · have hv := hv.1 c_38
                  exact jn54  H locs ls hv (lv_sub hl [0, 1, 2] rfl) hP hD hS
                · have hv := hv.2 c_38
                  refine lv_aload_n hx hb dX7_canTake_41 rfl (lv_at hl 2 rfl) ?_
                  refine lv_iload_n hx hb dX7_canTake_42 rfl (lv_at hl 0 rfl) ?_
                  refine va_iald hx hb hK hP 1 0 rfl rfl hv.1 dX7_canTake_43 ?_
                  refine lv_topi (fun g5 h_g5 => ?_)
                  have hv := hv.2 g5 h_g5
                  refine lv_aload_n hx hb dX7_canTake_44 rfl (lv_at hl 2 rfl) ?_
                  refine lv_iload_n hx hb dX7_canTake_45 rfl (lv_at hl 0 rfl) ?_
                  refine lv_iconst (v := 1) hx hb dX7_canTake_46 (by decide) ?_
                  refine lv_isub hx hb dX7_canTake_47 ?_
                  refine lv_topi (fun e6 h_e6 => ?_)
                  have hv := hv e6 h_e6
                  refine va_iald hx hb hK hP 1 0 rfl rfl hv.1 dX7_canTake_48 ?_
                  refine lv_topi (fun g7 h_g7 => ?_)
                  have hv := hv.2 g7 h_g7
                  refine lv_icmp_gt (tgt := 54) hx hb dX7_canTake_49 (by decide) (fun c_49 => ?_) (fun c_49 => ?_)
                  · have hv := hv.1 c_49
                    exact jn54  H locs ls hv (lv_sub hl [0, 1, 2] rfl) hP hD hS
                  · have hv := hv.2 c_49
                    refine lv_iconst (v := 0) hx hb dX7_canTake_52 (by decide) ?_
                    rw [← hQ]
                    exact k_zret hx hb hr hlocks hS () hP hD (by decide) hv dX7_canTake_53
        obtain ⟨nn, hv⟩ := hv
        exact lp21 nn (0 : Int32) H locs ls hv (lv_sub hl [0, 2, 3] rfl) hP hD hS
      · have hv := hv.2 c_14
        refine lv_iconst (v := 0) hx hb dX7_canTake_17 (by decide) ?_
        rw [← hQ]
        exact k_zret hx hb hr hlocks hS () hP hD (by decide) hv dX7_canTake_18
theorem lk_X7_take_15 : Cond.fieldLink RX7 15 "CoarseSteps$Scale" "count" "I" ∈ wsX7_take := by decide +kernel
theorem in_X7_take_7 : ∀ w ∈ wsX70, w ∈ wsX7_take := by decide +kernel
theorem lk_X7_take_18 : Cond.fieldLink RX7 18 "CoarseSteps$Scale" "values" "[I" ∈ wsX7_take := by decide +kernel
abbrev rm_X7_take : Room := { frames := 0, cells := 0, slots := 0, locals := 0 }
set_option maxHeartbeats 4000000 in
set_option maxRecDepth 100000 in
theorem m_X7_take (l : Launch) (D : va_G) (cy : ClassId × ClassId × ClassId) (ad : Nat → Nat) (s7_over : Int32) (s7_count : Int32) (a7_values : Nat → Int32) (p2 : Nat → Int32) (rp2 : Nat) (x1 : Int32) (sz : Nat) {K : Int32 → (Nat → Int32) → Prop} (hv : v_X7_take a7_values p2 x1 K) : Met l yX7_take wsX7_take rm_X7_take (va_Pc [.ref (ad 7), .int x1, .ref rp2] (wd D cy [oX7 ad s7_over s7_count, aI cy (ad 34) 8 a7_values, aI cy rp2 8 p2] sz)) (va_Qv (fun u : Int32 × (Nat → Int32) => K u.1 u.2) (fun u t => we D ((fun u : Int32 × (Nat → Int32) => [oX7 ad s7_over u.1, aI cy (ad 34) 8 u.2, aI cy rp2 8 p2]) u) (va_A [oX7 ad s7_over s7_count, aI cy (ad 34) 8 a7_values, aI cy rp2 8 p2] sz) t) (va_A [oX7 ad s7_over s7_count, aI cy (ad 34) 8 a7_values, aI cy rp2 8 p2] sz)) 0 0 (va_A [oX7 ad s7_over s7_count, aI cy (ad 34) 8 a7_values, aI cy rp2 8 p2] sz) := by
  refine k_ofW (cc := cX7_take) (maxL := 4) (ret := none) (fun A => va_Qv (fun u : Int32 × (Nat → Int32) => K u.1 u.2) (fun u t => we D ((fun u : Int32 × (Nat → Int32) => [oX7 ad s7_over u.1, aI cy (ad 34) 8 u.2, aI cy rp2 8 p2]) u) A t) A) (by decide) rfl (Nat.le_of_ble_eq_true rfl) ?_
  intro p e s m below meth c A ls H locs hx hb hml hr hts hown hlocks hname hK hN hA hP hD hS hl
  have hl : lv_has ls 4 [(0, .ref (ad 7)), (1, .int x1), (2, .ref rp2)] := hl
  generalize hQ : MQ below _ _ s _ _ A = Q
  unfold v_X7_take at hv
  refine lv_aload_n hx hb dX7_take_0 rfl (lv_at hl 0 rfl) ?_
  refine lv_iload_n hx hb dX7_take_1 rfl (lv_at hl 1 rfl) ?_
  refine va_put (D := D) (ci := 7) (v := .int x1) (ty := .int) (C := RX7) (T := TX7) (N := 3) hx hb hts in_X7_take_7 tyX7 tyX7_ok nmX7 hown hK hP hD hS 0 rfl rfl 1 (by decide) (hts _ lk_X7_take_15) (fun _ h9 => h9) rfl (by decide +kernel) rfl rfl (Nat.le_of_ble_eq_true rfl) dX7_take_2 (fun H locs hP hD hS => ?_)
  have hP : va_P D vwCl [oX7 ad s7_over x1, aI cy (ad 34) 8 a7_values, aI cy rp2 8 p2] H := hP
  have hD : va_D A [oX7 ad s7_over x1, aI cy (ad 34) 8 a7_values, aI cy rp2 8 p2] := hD
  refine lv_iconst (v := 0) hx hb dX7_take_5 (by decide) ?_
  refine lv_istore_n (lv' := [(3, .int (0 : Int32)), (0, .ref (ad 7)), (1, .int x1), (2, .ref rp2)]) hx hb dX7_take_6 rfl hl (by decide) rfl (fun ls hl => ?_)
  have lp7 : ∀ (n7 : Nat) (l3_1 : Int32) (a7_values_2 : Nat → Int32) (H : Heap) (locs : List Loc) (ls : Array Slot), vfix (vF_X7_take_7 p2 x1 K) n7 (l3_1, a7_values_2) → lv_has ls 4 [(3, .int l3_1), (0, .ref (ad 7)), (1, .int x1), (2, .ref rp2)] → va_P D vwCl [oX7 ad s7_over x1, aI cy (ad 34) 8 a7_values_2, aI cy rp2 8 p2] H → va_D A [oX7 ad s7_over x1, aI cy (ad 34) 8 a7_values_2, aI cy rp2 8 p2] → va_S A s.heap H locs → W p l e rm_X7_take s m ([.ref (ad 7), .int x1, .ref rp2] : List Value).toArray below meth c H locs 0 0 Q (F0 m 7 ls []) := by
    intro n7
    induction n7 with
    | zero => intro l3_1 a7_values_2 H locs ls hv; exact hv.elim
    | succ n7 ih7 =>
      intro l3_1 a7_values_2 H locs ls hv hl hP hD hS
      have hv : vB_X7_take_7 p2 x1 K (fun z0 z1 => vfix (vF_X7_take_7 p2 x1 K) n7 (z0, z1)) l3_1 a7_values_2 := hv
      unfold vB_X7_take_7 at hv
      refine lv_iload_n hx hb dX7_take_7 rfl (lv_at hl 0 rfl) ?_
      refine lv_iload_n hx hb dX7_take_8 rfl (lv_at hl 2 rfl) ?_
      refine lv_icmp_ge (tgt := 27) hx hb dX7_take_9 (by decide) (fun c_9 => ?_) (fun c_9 => ?_)
      · have hv := hv.1 c_9
        rw [← hQ]
        exact k_vret hx hb hr hlocks hS (x1, a7_values_2) hP hD hv dX7_take_27
      · have hv := hv.2 c_9
        refine lv_aload_n hx hb dX7_take_12 rfl (lv_at hl 1 rfl) ?_
        refine va_get (D := D) (ci := 7) (v := .ref (ad 34)) (C := RX7) (T := TX7) (N := 3) hx hb hts in_X7_take_7 hown hK hP 0 rfl rfl 2 (by decide) (hts _ lk_X7_take_18) (fun _ h9 => h9) rfl dX7_take_13 ?_
        refine lv_iload_n hx hb dX7_take_16 rfl (lv_at hl 0 rfl) ?_
        refine lv_aload_n hx hb dX7_take_17 rfl (lv_at hl 3 rfl) ?_
        refine lv_iload_n hx hb dX7_take_18 rfl (lv_at hl 0 rfl) ?_
        refine va_iald hx hb hK hP 2 0 rfl rfl hv.1 dX7_take_19 ?_
        refine lv_topi (fun g3 h_g3 => ?_)
        have hv := hv.2 g3 h_g3
        refine k_iast hx hb hK hP hD hS 1 0 rfl rfl hv.1 dX7_take_20 (fun a7_values_4 H locs h_a7_values_4 hP hD hS => ?_)
        have hv := hv.2 a7_values_4 h_a7_values_4
        have hP : va_P D vwCl [oX7 ad s7_over x1, aI cy (ad 34) 8 a7_values_4, aI cy rp2 8 p2] H := hP
        have hD : va_D A [oX7 ad s7_over x1, aI cy (ad 34) 8 a7_values_4, aI cy rp2 8 p2] := hD
        obtain ⟨i5, h_i5⟩ : ∃ y : Int32, y = l3_1 + 1 := ⟨_, rfl⟩
        refine lv_iinc (v := i5) (lv' := [(3, .int i5), (0, .ref (ad 7)), (1, .int x1), (2, .ref rp2)]) hx hb dX7_take_21 hl (k := 0) rfl (by rw [h_i5]; rfl) (by decide) rfl (fun ls hl => ?_)
        have hv := hv i5 h_i5
        refine lv_goto (tgt := 7) hx hb dX7_take_24 (by decide) ?_
        exact ih7 i5 a7_values_4 H locs ls hv (lv_sub hl [0, 1, 2, 3] rfl) hP hD hS
  obtain ⟨nn, hv⟩ := hv
  exact lp7 nn (0 : Int32) a7_values H locs ls hv (lv_sub hl [0, 1, 2, 3] rfl) hP hD hS
