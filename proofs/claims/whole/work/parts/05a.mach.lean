theorem lk_X0_empty_9 : Cond.fieldLink RX0 9 "CoarseSteps$Box" "least" "[J" ∈ wsX0_empty := by decide +kernel
theorem in_X0_empty_0 : ∀ w ∈ wsX00, w ∈ wsX0_empty := by decide +kernel
theorem lk_X0_empty_15 : Cond.fieldLink RX0 15 "CoarseSteps$Box" "most" "[J" ∈ wsX0_empty := by decide +kernel
abbrev rm_X0_empty : Room := { frames := 0, cells := 0, slots := 0, locals := 0 }
set_option maxHeartbeats 4000000 in
set_option maxRecDepth 100000 in
theorem m_X0_empty (l : Launch) (D : va_G) (cy : ClassId × ClassId × ClassId) (ad : Nat → Nat) (a0_least : Nat → Int64) (a0_most : Nat → Int64) (sz : Nat) {K : (Nat → Int64) → (Nat → Int64) → Prop} (hv : v_X0_empty a0_least a0_most K) : Met l yX0_empty wsX0_empty rm_X0_empty (va_Pc [.ref (ad 0)] (wd D cy [oX0 ad , aJ cy (ad 20) 4 a0_least, aJ cy (ad 21) 4 a0_most] sz)) (va_Qv (fun u : (Nat → Int64) × (Nat → Int64) => K u.1 u.2) (fun u t => we D ((fun u : (Nat → Int64) × (Nat → Int64) => [oX0 ad , aJ cy (ad 20) 4 u.1, aJ cy (ad 21) 4 u.2]) u) (va_A [oX0 ad , aJ cy (ad 20) 4 a0_least, aJ cy (ad 21) 4 a0_most] sz) t) (va_A [oX0 ad , aJ cy (ad 20) 4 a0_least, aJ cy (ad 21) 4 a0_most] sz)) 0 0 (va_A [oX0 ad , aJ cy (ad 20) 4 a0_least, aJ cy (ad 21) 4 a0_most] sz) := by
  refine k_ofW (cc := cX0_empty) (maxL := 2) (ret := none) (fun A => va_Qv (fun u : (Nat → Int64) × (Nat → Int64) => K u.1 u.2) (fun u t => we D ((fun u : (Nat → Int64) × (Nat → Int64) => [oX0 ad , aJ cy (ad 20) 4 u.1, aJ cy (ad 21) 4 u.2]) u) A t) A) (by decide) rfl (Nat.le_of_ble_eq_true rfl) ?_
  intro p e s m below meth c A ls H locs hx hb hml hr hts hown hlocks hname hK hN hA hP hD hS hl
  have hl : lv_has ls 2 [(0, .ref (ad 0))] := hl
  generalize hQ : MQ below _ _ s _ _ A = Q
  unfold v_X0_empty at hv
  refine lv_iconst (v := 0) hx hb dX0_empty_0 (by decide) ?_
  refine lv_istore_n (lv' := [(1, .int (0 : Int32)), (0, .ref (ad 0))]) hx hb dX0_empty_1 rfl hl (by decide) rfl (fun ls hl => ?_)
  have lp2 : ∀ (n2 : Nat) (l1_1 : Int32) (a0_least_2 : Nat → Int64) (a0_most_3 : Nat → Int64) (H : Heap) (locs : List Loc) (ls : Array Slot), vfix (vF_X0_empty_2 K) n2 (l1_1, a0_least_2, a0_most_3) → lv_has ls 2 [(1, .int l1_1), (0, .ref (ad 0))] → va_P D vwCl [oX0 ad , aJ cy (ad 20) 4 a0_least_2, aJ cy (ad 21) 4 a0_most_3] H → va_D A [oX0 ad , aJ cy (ad 20) 4 a0_least_2, aJ cy (ad 21) 4 a0_most_3] → va_S A s.heap H locs → W p l e rm_X0_empty s m ([.ref (ad 0)] : List Value).toArray below meth c H locs 0 0 Q (F0 m 2 ls []) := by
    intro n2
    induction n2 with
    | zero => intro l1_1 a0_least_2 a0_most_3 H locs ls hv; exact hv.elim
    | succ n2 ih2 =>
      intro l1_1 a0_least_2 a0_most_3 H locs ls hv hl hP hD hS
      have hv : vB_X0_empty_2 K (fun z0 z1 z2 => vfix (vF_X0_empty_2 K) n2 (z0, z1, z2)) l1_1 a0_least_2 a0_most_3 := hv
      unfold vB_X0_empty_2 at hv
      refine lv_iload_n hx hb dX0_empty_2 rfl (lv_at hl 0 rfl) ?_
      refine lv_iconst (v := 4) hx hb dX0_empty_3 (by decide) ?_
      refine lv_icmp_ge (tgt := 27) hx hb dX0_empty_4 (by decide) (fun c_4 => ?_) (fun c_4 => ?_)
      · have hv := hv.1 c_4
        rw [← hQ]
        exact k_vret hx hb hr hlocks hS (a0_least_2, a0_most_3) hP hD hv dX0_empty_27
      · have hv := hv.2 c_4
        refine lv_aload_n hx hb dX0_empty_7 rfl (lv_at hl 1 rfl) ?_
        refine va_get (D := D) (ci := 0) (v := .ref (ad 20)) (C := RX0) (T := TX0) (N := 4) hx hb hts in_X0_empty_0 hown hK hP 0 rfl rfl 0 (by decide) (hts _ lk_X0_empty_9) (fun _ h9 => h9) rfl dX0_empty_8 ?_
        refine lv_iload_n hx hb dX0_empty_11 rfl (lv_at hl 0 rfl) ?_
        refine lv_lconst (v := 0) hx hb dX0_empty_12 (by decide) ?_
        refine k_last hx hb hK hP hD hS 1 1 rfl rfl hv.1 dX0_empty_13 (fun a0_least_4 H locs h_a0_least_4 hP hD hS => ?_)
        have hv := hv.2 a0_least_4 h_a0_least_4
        have hP : va_P D vwCl [oX0 ad , aJ cy (ad 20) 4 a0_least_4, aJ cy (ad 21) 4 a0_most_3] H := hP
        have hD : va_D A [oX0 ad , aJ cy (ad 20) 4 a0_least_4, aJ cy (ad 21) 4 a0_most_3] := hD
        refine lv_aload_n hx hb dX0_empty_14 rfl (lv_at hl 1 rfl) ?_
        refine va_get (D := D) (ci := 0) (v := .ref (ad 21)) (C := RX0) (T := TX0) (N := 4) hx hb hts in_X0_empty_0 hown hK hP 0 rfl rfl 1 (by decide) (hts _ lk_X0_empty_15) (fun _ h9 => h9) rfl dX0_empty_15 ?_
        refine lv_iload_n hx hb dX0_empty_18 rfl (lv_at hl 0 rfl) ?_
        refine lv_lconst (v := 0) hx hb dX0_empty_19 (by decide) ?_
        refine k_last hx hb hK hP hD hS 2 1 rfl rfl hv.1 dX0_empty_20 (fun a0_most_5 H locs h_a0_most_5 hP hD hS => ?_)
        have hv := hv.2 a0_most_5 h_a0_most_5
        have hP : va_P D vwCl [oX0 ad , aJ cy (ad 20) 4 a0_least_4, aJ cy (ad 21) 4 a0_most_5] H := hP
        have hD : va_D A [oX0 ad , aJ cy (ad 20) 4 a0_least_4, aJ cy (ad 21) 4 a0_most_5] := hD
        obtain ⟨i6, h_i6⟩ : ∃ y : Int32, y = l1_1 + 1 := ⟨_, rfl⟩
        refine lv_iinc (v := i6) (lv' := [(1, .int i6), (0, .ref (ad 0))]) hx hb dX0_empty_21 hl (k := 0) rfl (by rw [h_i6]; rfl) (by decide) rfl (fun ls hl => ?_)
        have hv := hv i6 h_i6
        refine lv_goto (tgt := 2) hx hb dX0_empty_24 (by decide) ?_
        exact ih2 i6 a0_least_4 a0_most_5 H locs ls hv (lv_sub hl [0, 1] rfl) hP hD hS
  obtain ⟨nn, hv⟩ := hv
  exact lp2 nn (0 : Int32) a0_least a0_most H locs ls hv (lv_sub hl [0, 1] rfl) hP hD hS
theorem lk_X0_setEnds_9 : Cond.fieldLink RX0 9 "CoarseSteps$Box" "least" "[J" ∈ wsX0_setEnds := by decide +kernel
theorem in_X0_setEnds_0 : ∀ w ∈ wsX00, w ∈ wsX0_setEnds := by decide +kernel
theorem lk_X0_setEnds_15 : Cond.fieldLink RX0 15 "CoarseSteps$Box" "most" "[J" ∈ wsX0_setEnds := by decide +kernel
abbrev rm_X0_setEnds : Room := { frames := 0, cells := 0, slots := 0, locals := 0 }
set_option maxHeartbeats 4000000 in
set_option maxRecDepth 100000 in
theorem m_X0_setEnds (l : Launch) (D : va_G) (cy : ClassId × ClassId × ClassId) (ad : Nat → Nat) (a0_least : Nat → Int64) (a0_most : Nat → Int64) (x1 : Int32) (x2 : Int64) (x4 : Int64) (sz : Nat) {K : (Nat → Int64) → (Nat → Int64) → Prop} (hv : v_X0_setEnds a0_least a0_most x1 x2 x4 K) : Met l yX0_setEnds wsX0_setEnds rm_X0_setEnds (va_Pc [.ref (ad 0), .int x1, .long x2, .long x4] (wd D cy [oX0 ad , aJ cy (ad 20) 4 a0_least, aJ cy (ad 21) 4 a0_most] sz)) (va_Qv (fun u : (Nat → Int64) × (Nat → Int64) => K u.1 u.2) (fun u t => we D ((fun u : (Nat → Int64) × (Nat → Int64) => [oX0 ad , aJ cy (ad 20) 4 u.1, aJ cy (ad 21) 4 u.2]) u) (va_A [oX0 ad , aJ cy (ad 20) 4 a0_least, aJ cy (ad 21) 4 a0_most] sz) t) (va_A [oX0 ad , aJ cy (ad 20) 4 a0_least, aJ cy (ad 21) 4 a0_most] sz)) 0 0 (va_A [oX0 ad , aJ cy (ad 20) 4 a0_least, aJ cy (ad 21) 4 a0_most] sz) := by
  refine k_ofW (cc := cX0_setEnds) (maxL := 6) (ret := none) (fun A => va_Qv (fun u : (Nat → Int64) × (Nat → Int64) => K u.1 u.2) (fun u t => we D ((fun u : (Nat → Int64) × (Nat → Int64) => [oX0 ad , aJ cy (ad 20) 4 u.1, aJ cy (ad 21) 4 u.2]) u) A t) A) (by decide) rfl (Nat.le_of_ble_eq_true rfl) ?_
  intro p e s m below meth c A ls H locs hx hb hml hr hts hown hlocks hname hK hN hA hP hD hS hl
  have hl : lv_has ls 6 [(0, .ref (ad 0)), (1, .int x1), (2, .long x2), (4, .long x4)] := hl
  generalize hQ : MQ below _ _ s _ _ A = Q
  unfold v_X0_setEnds at hv
  refine lv_aload_n hx hb dX0_setEnds_0 rfl (lv_at hl 0 rfl) ?_
  refine va_get (D := D) (ci := 0) (v := .ref (ad 20)) (C := RX0) (T := TX0) (N := 4) hx hb hts in_X0_setEnds_0 hown hK hP 0 rfl rfl 0 (by decide) (hts _ lk_X0_setEnds_9) (fun _ h9 => h9) rfl dX0_setEnds_1 ?_
  refine lv_iload_n hx hb dX0_setEnds_4 rfl (lv_at hl 1 rfl) ?_
  refine lv_lload_n hx hb dX0_setEnds_5 rfl (lv_at hl 2 rfl) ?_
  refine k_last hx hb hK hP hD hS 1 1 rfl rfl hv.1 dX0_setEnds_6 (fun a0_least_1 H locs h_a0_least_1 hP hD hS => ?_)
  have hv := hv.2 a0_least_1 h_a0_least_1
  have hP : va_P D vwCl [oX0 ad , aJ cy (ad 20) 4 a0_least_1, aJ cy (ad 21) 4 a0_most] H := hP
  have hD : va_D A [oX0 ad , aJ cy (ad 20) 4 a0_least_1, aJ cy (ad 21) 4 a0_most] := hD
  refine lv_aload_n hx hb dX0_setEnds_7 rfl (lv_at hl 0 rfl) ?_
  refine va_get (D := D) (ci := 0) (v := .ref (ad 21)) (C := RX0) (T := TX0) (N := 4) hx hb hts in_X0_setEnds_0 hown hK hP 0 rfl rfl 1 (by decide) (hts _ lk_X0_setEnds_15) (fun _ h9 => h9) rfl dX0_setEnds_8 ?_
  refine lv_iload_n hx hb dX0_setEnds_11 rfl (lv_at hl 1 rfl) ?_
  refine lv_lload hx hb dX0_setEnds_12 (lv_at hl 3 rfl) ?_
  refine k_last hx hb hK hP hD hS 2 1 rfl rfl hv.1 dX0_setEnds_14 (fun a0_most_2 H locs h_a0_most_2 hP hD hS => ?_)
  have hv := hv.2 a0_most_2 h_a0_most_2
  have hP : va_P D vwCl [oX0 ad , aJ cy (ad 20) 4 a0_least_1, aJ cy (ad 21) 4 a0_most_2] H := hP
  have hD : va_D A [oX0 ad , aJ cy (ad 20) 4 a0_least_1, aJ cy (ad 21) 4 a0_most_2] := hD
  rw [← hQ]
  exact k_vret hx hb hr hlocks hS (a0_least_1, a0_most_2) hP hD hv dX0_setEnds_15
theorem lk_X0_countPlaces_34 : Cond.constantLong RX0 34 (100000) ∈ wsX0_countPlaces := by decide +kernel
theorem lk_X0_countPlaces_44 : Cond.constantLong RX0 44 (100001) ∈ wsX0_countPlaces := by decide +kernel
theorem lk_X0_countPlaces_15 : Cond.fieldLink RX0 15 "CoarseSteps$Box" "most" "[J" ∈ wsX0_countPlaces := by decide +kernel
theorem in_X0_countPlaces_0 : ∀ w ∈ wsX00, w ∈ wsX0_countPlaces := by decide +kernel
theorem lk_X0_countPlaces_9 : Cond.fieldLink RX0 9 "CoarseSteps$Box" "least" "[J" ∈ wsX0_countPlaces := by decide +kernel
abbrev rm_X0_countPlaces : Room := { frames := 0, cells := 0, slots := 0, locals := 0 }
set_option maxHeartbeats 4000000 in
set_option maxRecDepth 100000 in
theorem m_X0_countPlaces (l : Launch) (D : va_G) (cy : ClassId × ClassId × ClassId) (ad : Nat → Nat) (a0_least : Nat → Int64) (a0_most : Nat → Int64) (x1 : Int32) (x2 : Int64) (sz : Nat) {K : Int64 → Prop} (hv : v_X0_countPlaces a0_least a0_most x1 x2 K) : Met l yX0_countPlaces wsX0_countPlaces rm_X0_countPlaces (va_Pc [.ref (ad 0), .int x1, .long x2] (wd D cy [oX0 ad , aJ cy (ad 20) 4 a0_least, aJ cy (ad 21) 4 a0_most] sz)) (va_Ql (fun (r : Int64) (u : Unit) => K r) (fun u t => we D ((fun u : Unit => [oX0 ad , aJ cy (ad 20) 4 a0_least, aJ cy (ad 21) 4 a0_most]) u) (va_A [oX0 ad , aJ cy (ad 20) 4 a0_least, aJ cy (ad 21) 4 a0_most] sz) t) (va_A [oX0 ad , aJ cy (ad 20) 4 a0_least, aJ cy (ad 21) 4 a0_most] sz)) 0 0 (va_A [oX0 ad , aJ cy (ad 20) 4 a0_least, aJ cy (ad 21) 4 a0_most] sz) := by
  refine k_ofW (cc := cX0_countPlaces) (maxL := 9) (ret := (some .long)) (fun A => va_Ql (fun (r : Int64) (u : Unit) => K r) (fun u t => we D ((fun u : Unit => [oX0 ad , aJ cy (ad 20) 4 a0_least, aJ cy (ad 21) 4 a0_most]) u) A t) A) (by decide) rfl (Nat.le_of_ble_eq_true rfl) ?_
  intro p e s m below meth c A ls H locs hx hb hml hr hts hown hlocks hname hK hN hA hP hD hS hl
  have hl : lv_has ls 9 [(0, .ref (ad 0)), (1, .int x1), (2, .long x2)] := hl
  generalize hQ : MQ below _ _ s _ _ A = Q
  unfold v_X0_countPlaces at hv
  refine lv_lconst (v := 1) hx hb dX0_countPlaces_0 (by decide) ?_
  refine lv_lstore (lv' := [(4, .long (1 : Int64)), (0, .ref (ad 0)), (1, .int x1), (2, .long x2)]) hx hb dX0_countPlaces_1 hl (by decide) rfl (fun ls hl => ?_)
  refine lv_iconst (v := 0) hx hb dX0_countPlaces_3 (by decide) ?_
  refine lv_istore (lv' := [(6, .int (0 : Int32)), (4, .long (1 : Int64)), (0, .ref (ad 0)), (1, .int x1), (2, .long x2)]) hx hb dX0_countPlaces_4 hl (by decide) rfl (fun ls hl => ?_)
  have lp6 : ∀ (n6 : Nat) (l6_1 : Int32) (l4_2 : Int64) (H : Heap) (locs : List Loc) (ls : Array Slot), vfix (vF_X0_countPlaces_6 a0_least a0_most x1 x2 K) n6 (l6_1, l4_2) → lv_has ls 9 [(6, .int l6_1), (4, .long l4_2), (0, .ref (ad 0)), (1, .int x1), (2, .long x2)] → va_P D vwCl [oX0 ad , aJ cy (ad 20) 4 a0_least, aJ cy (ad 21) 4 a0_most] H → va_D A [oX0 ad , aJ cy (ad 20) 4 a0_least, aJ cy (ad 21) 4 a0_most] → va_S A s.heap H locs → W p l e rm_X0_countPlaces s m ([.ref (ad 0), .int x1, .long x2] : List Value).toArray below meth c H locs 0 0 Q (F0 m 6 ls []) := by
    intro n6
    induction n6 with
    | zero => intro l6_1 l4_2 H locs ls hv; exact hv.elim
    | succ n6 ih6 =>
      intro l6_1 l4_2 H locs ls hv hl hP hD hS
      have hv : vB_X0_countPlaces_6 a0_least a0_most x1 x2 K (fun z0 z1 => vfix (vF_X0_countPlaces_6 a0_least a0_most x1 x2 K) n6 (z0, z1)) l6_1 l4_2 := hv
      unfold vB_X0_countPlaces_6 at hv
      refine lv_iload hx hb dX0_countPlaces_6 (lv_at hl 0 rfl) ?_
      refine lv_iload_n hx hb dX0_countPlaces_8 rfl (lv_at hl 3 rfl) ?_
      refine lv_icmp_ge (tgt := 68) hx hb dX0_countPlaces_9 (by decide) (fun c_9 => ?_) (fun c_9 => ?_)
      · have hv := hv.1 c_9
        refine lv_lload hx hb dX0_countPlaces_68 (lv_at hl 1 rfl) ?_
        refine lv_lload_n hx hb dX0_countPlaces_70 rfl (lv_at hl 4 rfl) ?_
        refine lv_lmul hx hb dX0_countPlaces_71 ?_
        refine lv_topl (fun e3 h_e3 => ?_)
        have hv := hv e3 h_e3
        refine lv_ldc2 hx hb hown (hts _ lk_X0_countPlaces_34) dX0_countPlaces_72 ?_
        refine k_lc_le (tgt := 85) hx hb dX0_countPlaces_75 dX0_countPlaces_76 (by decide) (fun c_75 => ?_) (fun c_75 => ?_)
        · have hv := hv.1 c_75
          refine lv_lload hx hb dX0_countPlaces_85 (lv_at hl 1 rfl) ?_
          rw [← hQ]
          exact k_lret hx hb hr hlocks hS () hP hD hv dX0_countPlaces_87
        · have hv := hv.2 c_75
          refine lv_ldc2 hx hb hown (hts _ lk_X0_countPlaces_44) dX0_countPlaces_79 ?_
          refine lv_goto (tgt := 87) hx hb dX0_countPlaces_82 (by decide) ?_
          rw [← hQ]
          exact k_lret hx hb hr hlocks hS () hP hD hv dX0_countPlaces_87
      · have hv := hv.2 c_9
        refine lv_aload_n hx hb dX0_countPlaces_12 rfl (lv_at hl 2 rfl) ?_
        refine va_get (D := D) (ci := 0) (v := .ref (ad 21)) (C := RX0) (T := TX0) (N := 4) hx hb hts in_X0_countPlaces_0 hown hK hP 0 rfl rfl 1 (by decide) (hts _ lk_X0_countPlaces_15) (fun _ h9 => h9) rfl dX0_countPlaces_13 ?_
        refine lv_iload hx hb dX0_countPlaces_16 (lv_at hl 0 rfl) ?_
        refine va_lald hx hb hK hP 2 1 rfl rfl hv.1 dX0_countPlaces_18 ?_
        refine lv_topl (fun g4 h_g4 => ?_)
        have hv := hv.2 g4 h_g4
        refine lv_aload_n hx hb dX0_countPlaces_19 rfl (lv_at hl 2 rfl) ?_
        refine va_get (D := D) (ci := 0) (v := .ref (ad 20)) (C := RX0) (T := TX0) (N := 4) hx hb hts in_X0_countPlaces_0 hown hK hP 0 rfl rfl 0 (by decide) (hts _ lk_X0_countPlaces_9) (fun _ h9 => h9) rfl dX0_countPlaces_20 ?_
        refine lv_iload hx hb dX0_countPlaces_23 (lv_at hl 0 rfl) ?_
        refine va_lald hx hb hK hP 1 1 rfl rfl hv.1 dX0_countPlaces_25 ?_
        refine lv_topl (fun g5 h_g5 => ?_)
        have hv := hv.2 g5 h_g5
        refine lv_lsub hx hb dX0_countPlaces_26 ?_
        refine lv_topl (fun e6 h_e6 => ?_)
        have hv := hv e6 h_e6
        refine lv_lconst (v := 1) hx hb dX0_countPlaces_27 (by decide) ?_
        refine lv_ladd hx hb dX0_countPlaces_28 ?_
        refine lv_topl (fun e7 h_e7 => ?_)
        have hv := hv e7 h_e7
        refine lv_lstore (lv' := [(7, .long e7), (6, .int l6_1), (4, .long l4_2), (0, .ref (ad 0)), (1, .int x1), (2, .long x2)]) hx hb dX0_countPlaces_29 hl (by decide) rfl (fun ls hl => ?_)
        refine lv_lload hx hb dX0_countPlaces_31 (lv_at hl 0 rfl) ?_
        refine lv_ldc2 hx hb hown (hts _ lk_X0_countPlaces_34) dX0_countPlaces_33 ?_
        refine k_lc_le (tgt := 43) hx hb dX0_countPlaces_36 dX0_countPlaces_37 (by decide) (fun c_36 => ?_) (fun c_36 => ?_)
        · have hv := hv.1 c_36
          refine lv_lload hx hb dX0_countPlaces_43 (lv_at hl 2 rfl) ?_
          refine lv_lload hx hb dX0_countPlaces_45 (lv_at hl 0 rfl) ?_
          refine lv_lmul hx hb dX0_countPlaces_47 ?_
          refine lv_topl (fun e8 h_e8 => ?_)
          have hv := hv e8 h_e8
          refine lv_lstore (lv' := [(4, .long e8), (7, .long e7), (6, .int l6_1), (0, .ref (ad 0)), (1, .int x1), (2, .long x2)]) hx hb dX0_countPlaces_48 hl (by decide) rfl (fun ls hl => ?_)
          refine lv_lload hx hb dX0_countPlaces_50 (lv_at hl 0 rfl) ?_
          refine lv_ldc2 hx hb hown (hts _ lk_X0_countPlaces_34) dX0_countPlaces_52 ?_
          refine k_lc_le (tgt := 62) hx hb dX0_countPlaces_55 dX0_countPlaces_56 (by decide) (fun c_55 => ?_) (fun c_55 => ?_)
          · have hv := hv.1 c_55
            obtain ⟨i9, h_i9⟩ : ∃ y : Int32, y = l6_1 + 1 := ⟨_, rfl⟩
            refine lv_iinc (v := i9) (lv' := [(6, .int i9), (4, .long e8), (7, .long e7), (0, .ref (ad 0)), (1, .int x1), (2, .long x2)]) hx hb dX0_countPlaces_62 hl (k := 2) rfl (by rw [h_i9]; rfl) (by decide) rfl (fun ls hl => ?_)
            have hv := hv i9 h_i9
            refine lv_goto (tgt := 6) hx hb dX0_countPlaces_65 (by decide) ?_
            exact ih6 i9 e8 H locs ls hv (lv_sub hl [0, 1, 3, 4, 5] rfl) hP hD hS
          · have hv := hv.2 c_55
            refine lv_lload hx hb dX0_countPlaces_59 (lv_at hl 0 rfl) ?_
            rw [← hQ]
            exact k_lret hx hb hr hlocks hS () hP hD hv dX0_countPlaces_61
        · have hv := hv.2 c_36
          refine lv_lload hx hb dX0_countPlaces_40 (lv_at hl 0 rfl) ?_
          rw [← hQ]
          exact k_lret hx hb hr hlocks hS () hP hD hv dX0_countPlaces_42
  obtain ⟨nn, hv⟩ := hv
  exact lp6 nn (0 : Int32) (1 : Int64) H locs ls hv (lv_sub hl [0, 1, 2, 3, 4] rfl) hP hD hS
theorem lk_X0_isInside_21 : Cond.fieldLink RX0 21 "CoarseSteps$Box" "at" "[J" ∈ wsX0_isInside := by decide +kernel
theorem in_X0_isInside_0 : ∀ w ∈ wsX00, w ∈ wsX0_isInside := by decide +kernel
theorem lk_X0_isInside_9 : Cond.fieldLink RX0 9 "CoarseSteps$Box" "least" "[J" ∈ wsX0_isInside := by decide +kernel
theorem lk_X0_isInside_15 : Cond.fieldLink RX0 15 "CoarseSteps$Box" "most" "[J" ∈ wsX0_isInside := by decide +kernel
abbrev rm_X0_isInside : Room := { frames := 0, cells := 0, slots := 0, locals := 0 }
set_option maxHeartbeats 4000000 in
set_option maxRecDepth 100000 in
theorem m_X0_isInside (l : Launch) (D : va_G) (cy : ClassId × ClassId × ClassId) (ad : Nat → Nat) (a0_least : Nat → Int64) (a0_most : Nat → Int64) (a0_at : Nat → Int64) (x1 : Int32) (sz : Nat) {K : Int32 → Prop} (hv : v_X0_isInside a0_least a0_most a0_at x1 K) : Met l yX0_isInside wsX0_isInside rm_X0_isInside (va_Pc [.ref (ad 0), .int x1] (wd D cy [oX0 ad , aJ cy (ad 20) 4 a0_least, aJ cy (ad 21) 4 a0_most, aJ cy (ad 23) 4 a0_at] sz)) (va_Qi (fun (r : Int32) (u : Unit) => (r = 0 ∨ r = 1) ∧ K r) (fun u t => we D ((fun u : Unit => [oX0 ad , aJ cy (ad 20) 4 a0_least, aJ cy (ad 21) 4 a0_most, aJ cy (ad 23) 4 a0_at]) u) (va_A [oX0 ad , aJ cy (ad 20) 4 a0_least, aJ cy (ad 21) 4 a0_most, aJ cy (ad 23) 4 a0_at] sz) t) (va_A [oX0 ad , aJ cy (ad 20) 4 a0_least, aJ cy (ad 21) 4 a0_most, aJ cy (ad 23) 4 a0_at] sz)) 0 0 (va_A [oX0 ad , aJ cy (ad 20) 4 a0_least, aJ cy (ad 21) 4 a0_most, aJ cy (ad 23) 4 a0_at] sz) := by
  refine k_ofW (cc := cX0_isInside) (maxL := 3) (ret := (some .boolean)) (fun A => va_Qi (fun (r : Int32) (u : Unit) => (r = 0 ∨ r = 1) ∧ K r) (fun u t => we D ((fun u : Unit => [oX0 ad , aJ cy (ad 20) 4 a0_least, aJ cy (ad 21) 4 a0_most, aJ cy (ad 23) 4 a0_at]) u) A t) A) (by decide) rfl (Nat.le_of_ble_eq_true rfl) ?_
  intro p e s m below meth c A ls H locs hx hb hml hr hts hown hlocks hname hK hN hA hP hD hS hl
  have hl : lv_has ls 3 [(0, .ref (ad 0)), (1, .int x1)] := hl
  generalize hQ : MQ below _ _ s _ _ A = Q
  unfold v_X0_isInside at hv
  refine lv_iconst (v := 0) hx hb dX0_isInside_0 (by decide) ?_
  refine lv_istore_n (lv' := [(2, .int (0 : Int32)), (0, .ref (ad 0)), (1, .int x1)]) hx hb dX0_isInside_1 rfl hl (by decide) rfl (fun ls hl => ?_)
  have lp2 : ∀ (n2 : Nat) (l2_1 : Int32) (H : Heap) (locs : List Loc) (ls : Array Slot), vfix (vF_X0_isInside_2 a0_least a0_most a0_at x1 K) n2 l2_1 → lv_has ls 3 [(2, .int l2_1), (0, .ref (ad 0)), (1, .int x1)] → va_P D vwCl [oX0 ad , aJ cy (ad 20) 4 a0_least, aJ cy (ad 21) 4 a0_most, aJ cy (ad 23) 4 a0_at] H → va_D A [oX0 ad , aJ cy (ad 20) 4 a0_least, aJ cy (ad 21) 4 a0_most, aJ cy (ad 23) 4 a0_at] → va_S A s.heap H locs → W p l e rm_X0_isInside s m ([.ref (ad 0), .int x1] : List Value).toArray below meth c H locs 0 0 Q (F0 m 2 ls []) := by
    intro n2
    induction n2 with
    | zero => intro l2_1 H locs ls hv; exact hv.elim
    | succ n2 ih2 =>
      intro l2_1 H locs ls hv hl hP hD hS
      have hv : vB_X0_isInside_2 a0_least a0_most a0_at x1 K (fun z0 => vfix (vF_X0_isInside_2 a0_least a0_most a0_at x1 K) n2 z0) l2_1 := hv
      unfold vB_X0_isInside_2 at hv
      refine lv_iload_n hx hb dX0_isInside_2 rfl (lv_at hl 0 rfl) ?_
      refine lv_iload_n hx hb dX0_isInside_3 rfl (lv_at hl 2 rfl) ?_
      refine lv_icmp_ge (tgt := 47) hx hb dX0_isInside_4 (by decide) (fun c_4 => ?_) (fun c_4 => ?_)
      · have hv := hv.1 c_4
        refine lv_iconst (v := 1) hx hb dX0_isInside_47 (by decide) ?_
        rw [← hQ]
        exact k_zret hx hb hr hlocks hS () hP hD (by decide) hv dX0_isInside_48
      · have hv := hv.2 c_4
        refine lv_aload_n hx hb dX0_isInside_7 rfl (lv_at hl 1 rfl) ?_
        refine va_get (D := D) (ci := 0) (v := .ref (ad 23)) (C := RX0) (T := TX0) (N := 4) hx hb hts in_X0_isInside_0 hown hK hP 0 rfl rfl 3 (by decide) (hts _ lk_X0_isInside_21) (fun _ h9 => h9) rfl dX0_isInside_8 ?_
        refine lv_iload_n hx hb dX0_isInside_11 rfl (lv_at hl 0 rfl) ?_
        refine va_lald hx hb hK hP 3 1 rfl rfl hv.1 dX0_isInside_12 ?_
        refine lv_topl (fun g2 h_g2 => ?_)
        have hv := hv.2 g2 h_g2
        refine lv_aload_n hx hb dX0_isInside_13 rfl (lv_at hl 1 rfl) ?_
        refine va_get (D := D) (ci := 0) (v := .ref (ad 20)) (C := RX0) (T := TX0) (N := 4) hx hb hts in_X0_isInside_0 hown hK hP 0 rfl rfl 0 (by decide) (hts _ lk_X0_isInside_9) (fun _ h9 => h9) rfl dX0_isInside_14 ?_
        refine lv_iload_n hx hb dX0_isInside_17 rfl (lv_at hl 0 rfl) ?_
        refine va_lald hx hb hK hP 1 1 rfl rfl hv.1 dX0_isInside_18 ?_
        refine lv_topl (fun g3 h_g3 => ?_)
        have hv := hv.2 g3 h_g3
        refine k_lc_lt (tgt := 39) hx hb dX0_isInside_19 dX0_isInside_20 (by decide) (fun c_19 => ?_) (fun c_19 => ?_)
        · have hv := hv.1 c_19
          refine lv_iconst (v := 0) hx hb dX0_isInside_39 (by decide) ?_
          rw [← hQ]
          exact k_zret hx hb hr hlocks hS () hP hD (by decide) hv dX0_isInside_40
        · have hv := hv.2 c_19
          refine lv_aload_n hx hb dX0_isInside_23 rfl (lv_at hl 1 rfl) ?_
          refine va_get (D := D) (ci := 0) (v := .ref (ad 23)) (C := RX0) (T := TX0) (N := 4) hx hb hts in_X0_isInside_0 hown hK hP 0 rfl rfl 3 (by decide) (hts _ lk_X0_isInside_21) (fun _ h9 => h9) rfl dX0_isInside_24 ?_
          refine lv_iload_n hx hb dX0_isInside_27 rfl (lv_at hl 0 rfl) ?_
          refine va_lald hx hb hK hP 3 1 rfl rfl hv.1 dX0_isInside_28 ?_
          refine lv_topl (fun g4 h_g4 => ?_)
          have hv := hv.2 g4 h_g4
          refine lv_aload_n hx hb dX0_isInside_29 rfl (lv_at hl 1 rfl) ?_
          refine va_get (D := D) (ci := 0) (v := .ref (ad 21)) (C := RX0) (T := TX0) (N := 4) hx hb hts in_X0_isInside_0 hown hK hP 0 rfl rfl 1 (by decide) (hts _ lk_X0_isInside_15) (fun _ h9 => h9) rfl dX0_isInside_30 ?_
          refine lv_iload_n hx hb dX0_isInside_33 rfl (lv_at hl 0 rfl) ?_
          refine va_lald hx hb hK hP 2 1 rfl rfl hv.1 dX0_isInside_34 ?_
          refine lv_topl (fun g5 h_g5 => ?_)
          have hv := hv.2 g5 h_g5
          refine k_lc_le (tgt := 41) hx hb dX0_isInside_35 dX0_isInside_36 (by decide) (fun c_35 => ?_) (fun c_35 => ?_)
          · have hv := hv.1 c_35
            obtain ⟨i6, h_i6⟩ : ∃ y : Int32, y = l2_1 + 1 := ⟨_, rfl⟩
            refine lv_iinc (v := i6) (lv' := [(2, .int i6), (0, .ref (ad 0)), (1, .int x1)]) hx hb dX0_isInside_41 hl (k := 0) rfl (by rw [h_i6]; rfl) (by decide) rfl (fun ls hl => ?_)
            have hv := hv i6 h_i6
            refine lv_goto (tgt := 2) hx hb dX0_isInside_44 (by decide) ?_
            exact ih2 i6 H locs ls hv (lv_sub hl [0, 1, 2] rfl) hP hD hS
          · have hv := hv.2 c_35
            refine lv_iconst (v := 0) hx hb dX0_isInside_39 (by decide) ?_
            rw [← hQ]
            exact k_zret hx hb hr hlocks hS () hP hD (by decide) hv dX0_isInside_40
  obtain ⟨nn, hv⟩ := hv
  exact lp2 nn (0 : Int32) H locs ls hv (lv_sub hl [0, 1, 2] rfl) hP hD hS
theorem lk_X7_fineAt_18 : Cond.fieldLink RX7 18 "CoarseSteps$Scale" "values" "[I" ∈ wsX7_fineAt := by decide +kernel
theorem in_X7_fineAt_7 : ∀ w ∈ wsX70, w ∈ wsX7_fineAt := by decide +kernel
theorem lk_X7_fineAt_9 : Cond.fieldLink RX7 9 "CoarseSteps$Scale" "over" "I" ∈ wsX7_fineAt := by decide +kernel
abbrev rm_X7_fineAt : Room := { frames := 0, cells := 0, slots := 0, locals := 0 }
set_option maxHeartbeats 4000000 in
set_option maxRecDepth 100000 in
theorem m_X7_fineAt (l : Launch) (D : va_G) (cy : ClassId × ClassId × ClassId) (ad : Nat → Nat) (s7_over : Int32) (s7_count : Int32) (a7_values : Nat → Int32) (x1 : Int32) (sz : Nat) {K : Int64 → Prop} (hv : v_X7_fineAt s7_over a7_values x1 K) : Met l yX7_fineAt wsX7_fineAt rm_X7_fineAt (va_Pc [.ref (ad 7), .int x1] (wd D cy [oX7 ad s7_over s7_count, aI cy (ad 34) 8 a7_values] sz)) (va_Ql (fun (r : Int64) (u : Unit) => K r) (fun u t => we D ((fun u : Unit => [oX7 ad s7_over s7_count, aI cy (ad 34) 8 a7_values]) u) (va_A [oX7 ad s7_over s7_count, aI cy (ad 34) 8 a7_values] sz) t) (va_A [oX7 ad s7_over s7_count, aI cy (ad 34) 8 a7_values] sz)) 0 0 (va_A [oX7 ad s7_over s7_count, aI cy (ad 34) 8 a7_values] sz) := by
  refine k_ofW (cc := cX7_fineAt) (maxL := 2) (ret := (some .long)) (fun A => va_Ql (fun (r : Int64) (u : Unit) => K r) (fun u t => we D ((fun u : Unit => [oX7 ad s7_over s7_count, aI cy (ad 34) 8 a7_values]) u) A t) A) (by decide) rfl (Nat.le_of_ble_eq_true rfl) ?_
  intro p e s m below meth c A ls H locs hx hb hml hr hts hown hlocks hname hK hN hA hP hD hS hl
  have hl : lv_has ls 2 [(0, .ref (ad 7)), (1, .int x1)] := hl
  generalize hQ : MQ below _ _ s _ _ A = Q
  unfold v_X7_fineAt at hv
  refine lv_aload_n hx hb dX7_fineAt_0 rfl (lv_at hl 0 rfl) ?_
  refine va_get (D := D) (ci := 7) (v := .ref (ad 34)) (C := RX7) (T := TX7) (N := 3) hx hb hts in_X7_fineAt_7 hown hK hP 0 rfl rfl 2 (by decide) (hts _ lk_X7_fineAt_18) (fun _ h9 => h9) rfl dX7_fineAt_1 ?_
  refine lv_iload_n hx hb dX7_fineAt_4 rfl (lv_at hl 1 rfl) ?_
  refine va_iald hx hb hK hP 1 0 rfl rfl hv.1 dX7_fineAt_5 ?_
  refine lv_topi (fun g1 h_g1 => ?_)
  have hv := hv.2 g1 h_g1
  refine lv_i2l hx hb dX7_fineAt_6 rfl ?_
  refine lv_aload_n hx hb dX7_fineAt_7 rfl (lv_at hl 0 rfl) ?_
  refine va_get (D := D) (ci := 7) (v := .int s7_over) (C := RX7) (T := TX7) (N := 3) hx hb hts in_X7_fineAt_7 hown hK hP 0 rfl rfl 0 (by decide) (hts _ lk_X7_fineAt_9) (fun _ h9 => h9) rfl dX7_fineAt_8 ?_
  refine lv_i2l hx hb dX7_fineAt_11 rfl ?_
  refine lv_lmul hx hb dX7_fineAt_12 ?_
  refine lv_topl (fun e2 h_e2 => ?_)
  have hv := hv e2 h_e2
  rw [← hQ]
  exact k_lret hx hb hr hlocks hS () hP hD hv dX7_fineAt_13
theorem lk_X7_placeFor_15 : Cond.fieldLink RX7 15 "CoarseSteps$Scale" "count" "I" ∈ wsX7_placeFor := by decide +kernel
theorem in_X7_placeFor_7 : ∀ w ∈ wsX70, w ∈ wsX7_placeFor := by decide +kernel
theorem lk_X7_placeFor_18 : Cond.fieldLink RX7 18 "CoarseSteps$Scale" "values" "[I" ∈ wsX7_placeFor := by decide +kernel
theorem lk_X7_placeFor_9 : Cond.fieldLink RX7 9 "CoarseSteps$Scale" "over" "I" ∈ wsX7_placeFor := by decide +kernel
abbrev rm_X7_placeFor : Room := { frames := 0, cells := 0, slots := 0, locals := 0 }
set_option maxHeartbeats 4000000 in
set_option maxRecDepth 100000 in
theorem m_X7_placeFor (l : Launch) (D : va_G) (cy : ClassId × ClassId × ClassId) (ad : Nat → Nat) (s7_over : Int32) (s7_count : Int32) (a7_values : Nat → Int32) (x1 : Int64) (sz : Nat) {K : Int32 → Prop} (hv : v_X7_placeFor s7_over s7_count a7_values x1 K) : Met l yX7_placeFor wsX7_placeFor rm_X7_placeFor (va_Pc [.ref (ad 7), .long x1] (wd D cy [oX7 ad s7_over s7_count, aI cy (ad 34) 8 a7_values] sz)) (va_Qi (fun (r : Int32) (u : Unit) => K r) (fun u t => we D ((fun u : Unit => [oX7 ad s7_over s7_count, aI cy (ad 34) 8 a7_values]) u) (va_A [oX7 ad s7_over s7_count, aI cy (ad 34) 8 a7_values] sz) t) (va_A [oX7 ad s7_over s7_count, aI cy (ad 34) 8 a7_values] sz)) 0 0 (va_A [oX7 ad s7_over s7_count, aI cy (ad 34) 8 a7_values] sz) := by
  refine k_ofW (cc := cX7_placeFor) (maxL := 4) (ret := (some .int)) (fun A => va_Qi (fun (r : Int32) (u : Unit) => K r) (fun u t => we D ((fun u : Unit => [oX7 ad s7_over s7_count, aI cy (ad 34) 8 a7_values]) u) A t) A) (by decide) rfl (Nat.le_of_ble_eq_true rfl) ?_
  intro p e s m below meth c A ls H locs hx hb hml hr hts hown hlocks hname hK hN hA hP hD hS hl
  have hl : lv_has ls 4 [(0, .ref (ad 7)), (1, .long x1)] := hl
  generalize hQ : MQ below _ _ s _ _ A = Q
  unfold v_X7_placeFor at hv
  refine lv_aload_n hx hb dX7_placeFor_0 rfl (lv_at hl 0 rfl) ?_
  refine va_get (D := D) (ci := 7) (v := .int s7_count) (C := RX7) (T := TX7) (N := 3) hx hb hts in_X7_placeFor_7 hown hK hP 0 rfl rfl 1 (by decide) (hts _ lk_X7_placeFor_15) (fun _ h9 => h9) rfl dX7_placeFor_1 ?_
  refine lv_iconst (v := 1) hx hb dX7_placeFor_4 (by decide) ?_
  refine lv_isub hx hb dX7_placeFor_5 ?_
  refine lv_topi (fun e1 h_e1 => ?_)
  have hv := hv e1 h_e1
  refine lv_istore_n (lv' := [(3, .int e1), (0, .ref (ad 7)), (1, .long x1)]) hx hb dX7_placeFor_6 rfl hl (by decide) rfl (fun ls hl => ?_)
  have lp7 : ∀ (n7 : Nat) (l3_2 : Int32) (H : Heap) (locs : List Loc) (ls : Array Slot), vfix (vF_X7_placeFor_7 s7_over a7_values x1 K) n7 l3_2 → lv_has ls 4 [(3, .int l3_2), (0, .ref (ad 7)), (1, .long x1)] → va_P D vwCl [oX7 ad s7_over s7_count, aI cy (ad 34) 8 a7_values] H → va_D A [oX7 ad s7_over s7_count, aI cy (ad 34) 8 a7_values] → va_S A s.heap H locs → W p l e rm_X7_placeFor s m ([.ref (ad 7), .long x1] : List Value).toArray below meth c H locs 0 0 Q (F0 m 7 ls []) := by
    intro n7
    induction n7 with
    | zero => intro l3_2 H locs ls hv; exact hv.elim
    | succ n7 ih7 =>
      intro l3_2 H locs ls hv hl hP hD hS
      have hv : vB_X7_placeFor_7 s7_over a7_values x1 K (fun z0 => vfix (vF_X7_placeFor_7 s7_over a7_values x1 K) n7 z0) l3_2 := hv
      unfold vB_X7_placeFor_7 at hv
      refine lv_iload_n hx hb dX7_placeFor_7 rfl (lv_at hl 0 rfl) ?_
      refine lv_if_le (tgt := 37) hx hb dX7_placeFor_8 (by decide) (fun c_8 => ?_) (fun c_8 => ?_)
      · have hv := hv.1 c_8
        refine lv_iconst (v := 0) hx hb dX7_placeFor_37 (by decide) ?_
        rw [← hQ]
        exact k_iret hx hb hr hlocks hS () hP hD hv dX7_placeFor_38
      · have hv := hv.2 c_8
        refine lv_aload_n hx hb dX7_placeFor_11 rfl (lv_at hl 1 rfl) ?_
        refine va_get (D := D) (ci := 7) (v := .ref (ad 34)) (C := RX7) (T := TX7) (N := 3) hx hb hts in_X7_placeFor_7 hown hK hP 0 rfl rfl 2 (by decide) (hts _ lk_X7_placeFor_18) (fun _ h9 => h9) rfl dX7_placeFor_12 ?_
        refine lv_iload_n hx hb dX7_placeFor_15 rfl (lv_at hl 0 rfl) ?_
        refine va_iald hx hb hK hP 1 0 rfl rfl hv.1 dX7_placeFor_16 ?_
        refine lv_topi (fun g3 h_g3 => ?_)
        have hv := hv.2 g3 h_g3
        refine lv_i2l hx hb dX7_placeFor_17 rfl ?_
        refine lv_aload_n hx hb dX7_placeFor_18 rfl (lv_at hl 1 rfl) ?_
        refine va_get (D := D) (ci := 7) (v := .int s7_over) (C := RX7) (T := TX7) (N := 3) hx hb hts in_X7_placeFor_7 hown hK hP 0 rfl rfl 0 (by decide) (hts _ lk_X7_placeFor_9) (fun _ h9 => h9) rfl dX7_placeFor_19 ?_
        refine lv_i2l hx hb dX7_placeFor_22 rfl ?_
        refine lv_lmul hx hb dX7_placeFor_23 ?_
        refine lv_topl (fun e4 h_e4 => ?_)
        have hv := hv e4 h_e4
        refine lv_lload_n hx hb dX7_placeFor_24 rfl (lv_at hl 2 rfl) ?_
        refine k_lc_gt (tgt := 31) hx hb dX7_placeFor_25 dX7_placeFor_26 (by decide) (fun c_25 => ?_) (fun c_25 => ?_)
        · have hv := hv.1 c_25
          obtain ⟨i5, h_i5⟩ : ∃ y : Int32, y = l3_2 + (-1) := ⟨_, rfl⟩
          refine lv_iinc (v := i5) (lv' := [(3, .int i5), (0, .ref (ad 7)), (1, .long x1)]) hx hb dX7_placeFor_31 hl (k := 0) rfl (by rw [h_i5]; rfl) (by decide) rfl (fun ls hl => ?_)
          have hv := hv i5 h_i5
          refine lv_goto (tgt := 7) hx hb dX7_placeFor_34 (by decide) ?_
          exact ih7 i5 H locs ls hv (lv_sub hl [0, 1, 2] rfl) hP hD hS
        · have hv := hv.2 c_25
          refine lv_iload_n hx hb dX7_placeFor_29 rfl (lv_at hl 0 rfl) ?_
          rw [← hQ]
          exact k_iret hx hb hr hlocks hS () hP hD hv dX7_placeFor_30
  obtain ⟨nn, hv⟩ := hv
  exact lp7 nn e1 H locs ls hv (lv_sub hl [0, 1, 2] rfl) hP hD hS
theorem lk_X5_takeStep_33 : Cond.fieldLink RX5 33 "CoarseSteps$Mover" "scale" "LCoarseSteps$Scale;" ∈ wsX5_takeStep := by decide +kernel
theorem in_X5_takeStep_5 : ∀ w ∈ wsX50, w ∈ wsX5_takeStep := by decide +kernel
theorem lk_X5_takeStep_22 : Cond.fieldLink RX5 22 "CoarseSteps$Mover" "picked" "[I" ∈ wsX5_takeStep := by decide +kernel
theorem in_X5_takeStep_7 : ∀ w ∈ wsX70, w ∈ wsX5_takeStep := by decide +kernel
abbrev rm_X5_takeStep : Room := { frames := 1, cells := 0, slots := 0, locals := 23 }
set_option maxHeartbeats 4000000 in
set_option maxRecDepth 100000 in
theorem m_X5_takeStep (l : Launch) (D : va_G) (cy : ClassId × ClassId × ClassId) (ad : Nat → Nat) (s5_kind : Int32) (s5_sums : Int32) (s7_over : Int32) (s7_count : Int32) (a5_picked : Nat → Int32) (a7_values : Nat → Int32) (x1 : Int32) (x2 : Int64) (sz : Nat) {K : Int64 → (Nat → Int32) → Prop} (hv : v_X5_takeStep s7_over s7_count a5_picked a7_values x1 x2 K) : Met l yX5_takeStep wsX5_takeStep rm_X5_takeStep (va_Pc [.ref (ad 5), .int x1, .long x2] (wd D cy [oX5 ad s5_kind s5_sums, oX7 ad s7_over s7_count, aI cy (ad 31) 3 a5_picked, aI cy (ad 34) 8 a7_values] sz)) (va_Ql (fun (r : Int64) (u : (Nat → Int32)) => K r u) (fun u t => we D ((fun u : (Nat → Int32) => [oX5 ad s5_kind s5_sums, oX7 ad s7_over s7_count, aI cy (ad 31) 3 u, aI cy (ad 34) 8 a7_values]) u) (va_A [oX5 ad s5_kind s5_sums, oX7 ad s7_over s7_count, aI cy (ad 31) 3 a5_picked, aI cy (ad 34) 8 a7_values] sz) t) (va_A [oX5 ad s5_kind s5_sums, oX7 ad s7_over s7_count, aI cy (ad 31) 3 a5_picked, aI cy (ad 34) 8 a7_values] sz)) 0 0 (va_A [oX5 ad s5_kind s5_sums, oX7 ad s7_over s7_count, aI cy (ad 31) 3 a5_picked, aI cy (ad 34) 8 a7_values] sz) := by
  refine k_ofW (cc := cX5_takeStep) (maxL := 5) (ret := (some .long)) (fun A => va_Ql (fun (r : Int64) (u : (Nat → Int32)) => K r u) (fun u t => we D ((fun u : (Nat → Int32) => [oX5 ad s5_kind s5_sums, oX7 ad s7_over s7_count, aI cy (ad 31) 3 u, aI cy (ad 34) 8 a7_values]) u) A t) A) (by decide) rfl (Nat.le_of_ble_eq_true rfl) ?_
  intro p e s m below meth c A ls H locs hx hb hml hr hts hown hlocks hname hK hN hA hP hD hS hl
  have hl : lv_has ls 5 [(0, .ref (ad 5)), (1, .int x1), (2, .long x2)] := hl
  generalize hQ : MQ below _ _ s _ _ A = Q
  unfold v_X5_takeStep at hv
  refine lv_aload_n hx hb dX5_takeStep_0 rfl (lv_at hl 0 rfl) ?_
  refine va_get (D := D) (ci := 5) (v := .ref (ad 7)) (C := RX5) (T := TX5) (N := 6) hx hb hts in_X5_takeStep_5 hown hK hP 0 rfl rfl 0 (by decide) (hts _ lk_X5_takeStep_33) (fun _ h9 => h9) rfl dX5_takeStep_1 ?_
  refine lv_lload_n hx hb dX5_takeStep_4 rfl (lv_at hl 2 rfl) ?_
  have hPc := hP.sub (ws' := [oX7 ad s7_over s7_count, aI cy (ad 34) 8 a7_values]) [1, 3] rfl
  have hDc := hD.sub (ws' := [oX7 ad s7_over s7_count, aI cy (ad 34) 8 a7_values]) [1, 3] (by decide) rfl
  refine k_cali (wc := [oX7 ad s7_over s7_count, aI cy (ad 34) 8 a7_values]) (wr := [oX5 ad s5_kind s5_sums, aI cy (ad 31) 3 a5_picked]) (va_runV (As := [.long x2]) (rest := []) ⟨hx, hb, hml, hown, hts⟩ (m_X7_placeFor l D cy ad s7_over s7_count a7_values x2 H.size hv) (cwV 1 hts gX5_takeStep_X7_placeFor rfl rfl rfl (by decide +kernel) ⟨Nat.le_of_ble_eq_true rfl, Nat.le_of_ble_eq_true rfl⟩) ⟨wd_blind, va_recv hK hPc (ci := 7) (q0 := 0) rfl rfl, wd_ok hPc hK hDc hN⟩ rfl rfl hl.1 rfl (lv_room (Nat.le_of_ble_eq_true rfl)) dX5_takeStep_5 ⟨Nat.le_of_ble_eq_true rfl, Nat.le_of_ble_eq_true rfl⟩) hP hD hS hA [1, 3] [0, 2] rfl rfl (by decide) (by decide) (fun r1 u H locs hv hP hD hS => ?_)
  have hP : va_P D vwCl [oX5 ad s5_kind s5_sums, oX7 ad s7_over s7_count, aI cy (ad 31) 3 a5_picked, aI cy (ad 34) 8 a7_values] H := hP.sub [0, 2, 1, 3] rfl
  have hD : va_D A [oX5 ad s5_kind s5_sums, oX7 ad s7_over s7_count, aI cy (ad 31) 3 a5_picked, aI cy (ad 34) 8 a7_values] := hD.sub [0, 2, 1, 3] (by decide) rfl
  refine lv_istore (lv' := [(4, .int r1), (0, .ref (ad 5)), (1, .int x1), (2, .long x2)]) hx hb dX5_takeStep_8 hl (by decide) rfl (fun ls hl => ?_)
  refine lv_aload_n hx hb dX5_takeStep_10 rfl (lv_at hl 1 rfl) ?_
  refine va_get (D := D) (ci := 5) (v := .ref (ad 31)) (C := RX5) (T := TX5) (N := 6) hx hb hts in_X5_takeStep_5 hown hK hP 0 rfl rfl 3 (by decide) (hts _ lk_X5_takeStep_22) (fun _ h9 => h9) rfl dX5_takeStep_11 ?_
  refine lv_iload_n hx hb dX5_takeStep_14 rfl (lv_at hl 2 rfl) ?_
  refine lv_aload_n hx hb dX5_takeStep_15 rfl (lv_at hl 1 rfl) ?_
  refine va_get (D := D) (ci := 5) (v := .ref (ad 7)) (C := RX5) (T := TX5) (N := 6) hx hb hts in_X5_takeStep_5 hown hK hP 0 rfl rfl 0 (by decide) (hts _ lk_X5_takeStep_33) (fun _ h9 => h9) rfl dX5_takeStep_16 ?_
  refine va_getN (D := D) (ci := 7) (v := .ref (ad 34)) (C := RX7) (T := TX7) (N := 3) hx hb hts in_X5_takeStep_7 hown hK hP 1 rfl rfl 2 (by decide) (nz_use hN nzf_X5_79) (fun _ h9 => h9) rfl dX5_takeStep_19 ?_
  refine lv_iload hx hb dX5_takeStep_22 (lv_at hl 0 rfl) ?_
  refine va_iald hx hb hK hP 3 0 rfl rfl hv.1 dX5_takeStep_24 ?_
  refine lv_topi (fun g2 h_g2 => ?_)
  have hv := hv.2 g2 h_g2
  refine k_iast hx hb hK hP hD hS 2 0 rfl rfl hv.1 dX5_takeStep_25 (fun a5_picked_3 H locs h_a5_picked_3 hP hD hS => ?_)
  have hv := hv.2 a5_picked_3 h_a5_picked_3
  have hP : va_P D vwCl [oX5 ad s5_kind s5_sums, oX7 ad s7_over s7_count, aI cy (ad 31) 3 a5_picked_3, aI cy (ad 34) 8 a7_values] H := hP
  have hD : va_D A [oX5 ad s5_kind s5_sums, oX7 ad s7_over s7_count, aI cy (ad 31) 3 a5_picked_3, aI cy (ad 34) 8 a7_values] := hD
  refine lv_lload_n hx hb dX5_takeStep_26 rfl (lv_at hl 3 rfl) ?_
  refine lv_aload_n hx hb dX5_takeStep_27 rfl (lv_at hl 1 rfl) ?_
  refine va_get (D := D) (ci := 5) (v := .ref (ad 7)) (C := RX5) (T := TX5) (N := 6) hx hb hts in_X5_takeStep_5 hown hK hP 0 rfl rfl 0 (by decide) (hts _ lk_X5_takeStep_33) (fun _ h9 => h9) rfl dX5_takeStep_28 ?_
  refine lv_iload hx hb dX5_takeStep_31 (lv_at hl 0 rfl) ?_
  have hPc := hP.sub (ws' := [oX7 ad s7_over s7_count, aI cy (ad 34) 8 a7_values]) [1, 3] rfl
  have hDc := hD.sub (ws' := [oX7 ad s7_over s7_count, aI cy (ad 34) 8 a7_values]) [1, 3] (by decide) rfl
  refine k_call (wc := [oX7 ad s7_over s7_count, aI cy (ad 34) 8 a7_values]) (wr := [oX5 ad s5_kind s5_sums, aI cy (ad 31) 3 a5_picked_3]) (va_runV (As := [.int r1]) (rest := [.long x2]) ⟨hx, hb, hml, hown, hts⟩ (m_X7_fineAt l D cy ad s7_over s7_count a7_values r1 H.size hv) (cwV 1 hts gX5_takeStep_X7_fineAt rfl rfl rfl (by decide +kernel) ⟨Nat.le_of_ble_eq_true rfl, Nat.le_of_ble_eq_true rfl⟩) ⟨wd_blind, va_recv hK hPc (ci := 7) (q0 := 0) rfl rfl, wd_ok hPc hK hDc hN⟩ rfl rfl hl.1 rfl (lv_room (Nat.le_of_ble_eq_true rfl)) dX5_takeStep_33 ⟨Nat.le_of_ble_eq_true rfl, Nat.le_of_ble_eq_true rfl⟩) hP hD hS hA [1, 3] [0, 2] rfl rfl (by decide) (by decide) (fun r4 u H locs hv hP hD hS => ?_)
  have hP : va_P D vwCl [oX5 ad s5_kind s5_sums, oX7 ad s7_over s7_count, aI cy (ad 31) 3 a5_picked_3, aI cy (ad 34) 8 a7_values] H := hP.sub [0, 2, 1, 3] rfl
  have hD : va_D A [oX5 ad s5_kind s5_sums, oX7 ad s7_over s7_count, aI cy (ad 31) 3 a5_picked_3, aI cy (ad 34) 8 a7_values] := hD.sub [0, 2, 1, 3] (by decide) rfl
  refine lv_lsub hx hb dX5_takeStep_36 ?_
  refine lv_topl (fun e5 h_e5 => ?_)
  have hv := hv e5 h_e5
  rw [← hQ]
  exact k_lret hx hb hr hlocks hS (a5_picked_3) hP hD hv dX5_takeStep_37
theorem lk_X5_reckonRow_30 : Cond.fieldLink RX5 30 "CoarseSteps$Mover" "sums" "I" ∈ wsX5_reckonRow := by decide +kernel
theorem in_X5_reckonRow_5 : ∀ w ∈ wsX50, w ∈ wsX5_reckonRow := by decide +kernel
theorem lk_X5_reckonRow_18 : Cond.fieldLink RX5 18 "CoarseSteps$Mover" "coming" "[J" ∈ wsX5_reckonRow := by decide +kernel
abbrev rm_X5_reckonRow : Room := { frames := 2, cells := 0, slots := 0, locals := 47 }
set_option maxHeartbeats 4000000 in
set_option maxRecDepth 100000 in
theorem m_X5_reckonRow (l : Launch) (D : va_G) (cy : ClassId × ClassId × ClassId) (ad : Nat → Nat) (s5_kind : Int32) (s5_sums : Int32) (s7_over : Int32) (s7_count : Int32) (a5_coming : Nat → Int64) (a5_picked : Nat → Int32) (a7_values : Nat → Int32) (p1 : Nat → Int64) (rp1 : Nat) (x2 : Int32) (sz : Nat) {K : (Nat → Int64) → (Nat → Int32) → Prop} (hv : v_X5_reckonRow s5_sums s7_over s7_count a5_coming a5_picked a7_values p1 x2 K) : Met l yX5_reckonRow wsX5_reckonRow rm_X5_reckonRow (va_Pc [.ref (ad 5), .ref rp1, .int x2] (wd D cy [oX5 ad s5_kind s5_sums, oX7 ad s7_over s7_count, aJ cy (ad 30) 4 a5_coming, aI cy (ad 31) 3 a5_picked, aI cy (ad 34) 8 a7_values, aJ cy rp1 4 p1] sz)) (va_Qv (fun u : (Nat → Int64) × (Nat → Int32) => K u.1 u.2) (fun u t => we D ((fun u : (Nat → Int64) × (Nat → Int32) => [oX5 ad s5_kind s5_sums, oX7 ad s7_over s7_count, aJ cy (ad 30) 4 u.1, aI cy (ad 31) 3 u.2, aI cy (ad 34) 8 a7_values, aJ cy rp1 4 p1]) u) (va_A [oX5 ad s5_kind s5_sums, oX7 ad s7_over s7_count, aJ cy (ad 30) 4 a5_coming, aI cy (ad 31) 3 a5_picked, aI cy (ad 34) 8 a7_values, aJ cy rp1 4 p1] sz) t) (va_A [oX5 ad s5_kind s5_sums, oX7 ad s7_over s7_count, aJ cy (ad 30) 4 a5_coming, aI cy (ad 31) 3 a5_picked, aI cy (ad 34) 8 a7_values, aJ cy rp1 4 p1] sz)) 0 0 (va_A [oX5 ad s5_kind s5_sums, oX7 ad s7_over s7_count, aJ cy (ad 30) 4 a5_coming, aI cy (ad 31) 3 a5_picked, aI cy (ad 34) 8 a7_values, aJ cy rp1 4 p1] sz) := by
  refine k_ofW (cc := cX5_reckonRow) (maxL := 6) (ret := none) (fun A => va_Qv (fun u : (Nat → Int64) × (Nat → Int32) => K u.1 u.2) (fun u t => we D ((fun u : (Nat → Int64) × (Nat → Int32) => [oX5 ad s5_kind s5_sums, oX7 ad s7_over s7_count, aJ cy (ad 30) 4 u.1, aI cy (ad 31) 3 u.2, aI cy (ad 34) 8 a7_values, aJ cy rp1 4 p1]) u) A t) A) (by decide) rfl (Nat.le_of_ble_eq_true rfl) ?_
  intro p e s m below meth c A ls H locs hx hb hml hr hts hown hlocks hname hK hN hA hP hD hS hl
  have hl : lv_has ls 6 [(0, .ref (ad 5)), (1, .ref rp1), (2, .int x2)] := hl
  generalize hQ : MQ below _ _ s _ _ A = Q
  unfold v_X5_reckonRow at hv
  refine lv_iload_n hx hb dX5_reckonRow_0 rfl (lv_at hl 2 rfl) ?_
  refine lv_i2l hx hb dX5_reckonRow_1 rfl ?_
  refine lv_lstore_n (lv' := [(3, .long x2.toInt64), (0, .ref (ad 5)), (1, .ref rp1), (2, .int x2)]) hx hb dX5_reckonRow_2 rfl hl (by decide) rfl (fun ls hl => ?_)
  refine lv_iconst (v := 0) hx hb dX5_reckonRow_3 (by decide) ?_
  refine lv_istore (lv' := [(5, .int (0 : Int32)), (3, .long x2.toInt64), (0, .ref (ad 5)), (1, .ref rp1), (2, .int x2)]) hx hb dX5_reckonRow_4 hl (by decide) rfl (fun ls hl => ?_)
  have lp6 : ∀ (n6 : Nat) (l5_1 : Int32) (l3_2 : Int64) (a5_coming_3 : Nat → Int64) (a5_picked_4 : Nat → Int32) (H : Heap) (locs : List Loc) (ls : Array Slot), vfix (vF_X5_reckonRow_6 s5_sums s7_over s7_count a7_values p1 K) n6 (l5_1, l3_2, a5_coming_3, a5_picked_4) → lv_has ls 6 [(5, .int l5_1), (3, .long l3_2), (0, .ref (ad 5)), (1, .ref rp1)] → va_P D vwCl [oX5 ad s5_kind s5_sums, oX7 ad s7_over s7_count, aJ cy (ad 30) 4 a5_coming_3, aI cy (ad 31) 3 a5_picked_4, aI cy (ad 34) 8 a7_values, aJ cy rp1 4 p1] H → va_D A [oX5 ad s5_kind s5_sums, oX7 ad s7_over s7_count, aJ cy (ad 30) 4 a5_coming_3, aI cy (ad 31) 3 a5_picked_4, aI cy (ad 34) 8 a7_values, aJ cy rp1 4 p1] → va_S A s.heap H locs → W p l e rm_X5_reckonRow s m ([.ref (ad 5), .ref rp1, .int x2] : List Value).toArray below meth c H locs 0 0 Q (F0 m 6 ls []) := by
    intro n6
    induction n6 with
    | zero => intro l5_1 l3_2 a5_coming_3 a5_picked_4 H locs ls hv; exact hv.elim
    | succ n6 ih6 =>
      intro l5_1 l3_2 a5_coming_3 a5_picked_4 H locs ls hv hl hP hD hS
      have hv : vB_X5_reckonRow_6 s5_sums s7_over s7_count a7_values p1 K (fun z0 z1 z2 z3 => vfix (vF_X5_reckonRow_6 s5_sums s7_over s7_count a7_values p1 K) n6 (z0, z1, z2, z3)) l5_1 l3_2 a5_coming_3 a5_picked_4 := hv
      unfold vB_X5_reckonRow_6 at hv
      refine lv_iload hx hb dX5_reckonRow_6 (lv_at hl 0 rfl) ?_
      refine lv_aload_n hx hb dX5_reckonRow_8 rfl (lv_at hl 2 rfl) ?_
      refine va_get (D := D) (ci := 5) (v := .int s5_sums) (C := RX5) (T := TX5) (N := 6) hx hb hts in_X5_reckonRow_5 hown hK hP 0 rfl rfl 5 (by decide) (hts _ lk_X5_reckonRow_30) (fun _ h9 => h9) rfl dX5_reckonRow_9 ?_
      refine lv_icmp_ge (tgt := 48) hx hb dX5_reckonRow_12 (by decide) (fun c_12 => ?_) (fun c_12 => ?_)
      · have hv := hv.1 c_12
        rw [← hQ]
        exact k_vret hx hb hr hlocks hS (a5_coming_3, a5_picked_4) hP hD hv dX5_reckonRow_48
      · have hv := hv.2 c_12
        refine lv_iload hx hb dX5_reckonRow_15 (lv_at hl 0 rfl) ?_
        refine lv_iconst (v := 3) hx hb dX5_reckonRow_17 (by decide) ?_
        refine lv_icmp_ge (tgt := 48) hx hb dX5_reckonRow_18 (by decide) (fun c_18 => ?_) (fun c_18 => ?_)
        · have hv := hv.1 c_18
          rw [← hQ]
          exact k_vret hx hb hr hlocks hS (a5_coming_3, a5_picked_4) hP hD hv dX5_reckonRow_48
        · have hv := hv.2 c_18
          refine lv_aload_n hx hb dX5_reckonRow_21 rfl (lv_at hl 2 rfl) ?_
          refine lv_iload hx hb dX5_reckonRow_22 (lv_at hl 0 rfl) ?_
          refine lv_aload_n hx hb dX5_reckonRow_24 rfl (lv_at hl 3 rfl) ?_
          refine lv_iload hx hb dX5_reckonRow_25 (lv_at hl 0 rfl) ?_
          refine va_lald hx hb hK hP 5 1 rfl rfl hv.1 dX5_reckonRow_27 ?_
          refine lv_topl (fun g5 h_g5 => ?_)
          have hv := hv.2 g5 h_g5
          refine lv_lload_n hx hb dX5_reckonRow_28 rfl (lv_at hl 1 rfl) ?_
          refine lv_ladd hx hb dX5_reckonRow_29 ?_
          refine lv_topl (fun e6 h_e6 => ?_)
          have hv := hv e6 h_e6
          have hPc := hP.sub (ws' := [oX5 ad s5_kind s5_sums, oX7 ad s7_over s7_count, aI cy (ad 31) 3 a5_picked_4, aI cy (ad 34) 8 a7_values]) [0, 1, 3, 4] rfl
          have hDc := hD.sub (ws' := [oX5 ad s5_kind s5_sums, oX7 ad s7_over s7_count, aI cy (ad 31) 3 a5_picked_4, aI cy (ad 34) 8 a7_values]) [0, 1, 3, 4] (by decide) rfl
          refine k_call (wc := [oX5 ad s5_kind s5_sums, oX7 ad s7_over s7_count, aI cy (ad 31) 3 a5_picked_4, aI cy (ad 34) 8 a7_values]) (wr := [aJ cy (ad 30) 4 a5_coming_3, aJ cy rp1 4 p1]) (va_runV (As := [.int l5_1, .long e6]) (rest := []) ⟨hx, hb, hml, hown, hts⟩ (m_X5_takeStep l D cy ad s5_kind s5_sums s7_over s7_count a5_picked_4 a7_values l5_1 e6 H.size hv) (cwV 2 hts gX5_reckonRow_X5_takeStep rfl rfl rfl (by decide +kernel) ⟨Nat.le_of_ble_eq_true rfl, Nat.le_of_ble_eq_true rfl⟩) ⟨wd_blind, va_recv hK hPc (ci := 5) (q0 := 0) rfl rfl, wd_ok hPc hK hDc hN⟩ rfl rfl hl.1 rfl (lv_room (Nat.le_of_ble_eq_true rfl)) dX5_reckonRow_30 ⟨Nat.le_of_ble_eq_true rfl, Nat.le_of_ble_eq_true rfl⟩) hP hD hS hA [0, 1, 3, 4] [2, 5] rfl rfl (by decide) (by decide) (fun r7 a5_picked_8 H locs hv hP hD hS => ?_)
          have hP : va_P D vwCl [oX5 ad s5_kind s5_sums, oX7 ad s7_over s7_count, aJ cy (ad 30) 4 a5_coming_3, aI cy (ad 31) 3 a5_picked_8, aI cy (ad 34) 8 a7_values, aJ cy rp1 4 p1] H := hP.sub [2, 3, 0, 4, 5, 1] rfl
          have hD : va_D A [oX5 ad s5_kind s5_sums, oX7 ad s7_over s7_count, aJ cy (ad 30) 4 a5_coming_3, aI cy (ad 31) 3 a5_picked_8, aI cy (ad 34) 8 a7_values, aJ cy rp1 4 p1] := hD.sub [2, 3, 0, 4, 5, 1] (by decide) rfl
          refine lv_lstore_n (lv' := [(3, .long r7), (5, .int l5_1), (0, .ref (ad 5)), (1, .ref rp1)]) hx hb dX5_reckonRow_33 rfl hl (by decide) rfl (fun ls hl => ?_)
          refine lv_aload_n hx hb dX5_reckonRow_34 rfl (lv_at hl 2 rfl) ?_
          refine va_get (D := D) (ci := 5) (v := .ref (ad 30)) (C := RX5) (T := TX5) (N := 6) hx hb hts in_X5_reckonRow_5 hown hK hP 0 rfl rfl 2 (by decide) (hts _ lk_X5_reckonRow_18) (fun _ h9 => h9) rfl dX5_reckonRow_35 ?_
          refine lv_iload hx hb dX5_reckonRow_38 (lv_at hl 1 rfl) ?_
          refine lv_lload_n hx hb dX5_reckonRow_40 rfl (lv_at hl 0 rfl) ?_
          refine k_last hx hb hK hP hD hS 2 1 rfl rfl hv.1 dX5_reckonRow_41 (fun a5_coming_9 H locs h_a5_coming_9 hP hD hS => ?_)
          have hv := hv.2 a5_coming_9 h_a5_coming_9
          have hP : va_P D vwCl [oX5 ad s5_kind s5_sums, oX7 ad s7_over s7_count, aJ cy (ad 30) 4 a5_coming_9, aI cy (ad 31) 3 a5_picked_8, aI cy (ad 34) 8 a7_values, aJ cy rp1 4 p1] H := hP
          have hD : va_D A [oX5 ad s5_kind s5_sums, oX7 ad s7_over s7_count, aJ cy (ad 30) 4 a5_coming_9, aI cy (ad 31) 3 a5_picked_8, aI cy (ad 34) 8 a7_values, aJ cy rp1 4 p1] := hD
          obtain ⟨i10, h_i10⟩ : ∃ y : Int32, y = l5_1 + 1 := ⟨_, rfl⟩
          refine lv_iinc (v := i10) (lv' := [(5, .int i10), (3, .long r7), (0, .ref (ad 5)), (1, .ref rp1)]) hx hb dX5_reckonRow_42 hl (k := 1) rfl (by rw [h_i10]; rfl) (by decide) rfl (fun ls hl => ?_)
          have hv := hv i10 h_i10
          refine lv_goto (tgt := 6) hx hb dX5_reckonRow_45 (by decide) ?_
          exact ih6 i10 r7 a5_coming_9 a5_picked_8 H locs ls hv (lv_sub hl [0, 1, 2, 3] rfl) hP hD hS
  obtain ⟨nn, hv⟩ := hv
  exact lp6 nn (0 : Int32) x2.toInt64 a5_coming a5_picked H locs ls hv (lv_sub hl [0, 1, 2, 3] rfl) hP hD hS
theorem lk_X8_measure_28 : Cond.fieldLink RX8 28 "CoarseSteps$Tables" "g" "I" ∈ wsX8_measure := by decide +kernel
theorem in_X8_measure_8 : ∀ w ∈ wsX80, w ∈ wsX8_measure := by decide +kernel
theorem lk_X8_measure_9 : Cond.fieldLink RX8 9 "CoarseSteps$Tables" "sums" "I" ∈ wsX8_measure := by decide +kernel
theorem lk_X8_measure_25 : Cond.fieldLink RX8 25 "CoarseSteps$Tables" "h" "[I" ∈ wsX8_measure := by decide +kernel
abbrev rm_X8_measure : Room := { frames := 0, cells := 0, slots := 0, locals := 0 }
set_option maxHeartbeats 4000000 in
set_option maxRecDepth 100000 in
theorem m_X8_measure (l : Launch) (D : va_G) (cy : ClassId × ClassId × ClassId) (ad : Nat → Nat) (s8_sums : Int32) (s8_g : Int32) (a8_h : Nat → Int32) (p1 : Nat → Int64) (rp1 : Nat) (x2 : Int32) (sz : Nat) {K : Int64 → Prop} (hv : v_X8_measure s8_sums s8_g a8_h p1 x2 K) : Met l yX8_measure wsX8_measure rm_X8_measure (va_Pc [.ref (ad 8), .ref rp1, .int x2] (wd D cy [oX8 ad s8_sums s8_g, aI cy (ad 38) 4 a8_h, aJ cy rp1 4 p1] sz)) (va_Ql (fun (r : Int64) (u : Unit) => K r) (fun u t => we D ((fun u : Unit => [oX8 ad s8_sums s8_g, aI cy (ad 38) 4 a8_h, aJ cy rp1 4 p1]) u) (va_A [oX8 ad s8_sums s8_g, aI cy (ad 38) 4 a8_h, aJ cy rp1 4 p1] sz) t) (va_A [oX8 ad s8_sums s8_g, aI cy (ad 38) 4 a8_h, aJ cy rp1 4 p1] sz)) 0 0 (va_A [oX8 ad s8_sums s8_g, aI cy (ad 38) 4 a8_h, aJ cy rp1 4 p1] sz) := by
  refine k_ofW (cc := cX8_measure) (maxL := 6) (ret := (some .long)) (fun A => va_Ql (fun (r : Int64) (u : Unit) => K r) (fun u t => we D ((fun u : Unit => [oX8 ad s8_sums s8_g, aI cy (ad 38) 4 a8_h, aJ cy rp1 4 p1]) u) A t) A) (by decide) rfl (Nat.le_of_ble_eq_true rfl) ?_
  intro p e s m below meth c A ls H locs hx hb hml hr hts hown hlocks hname hK hN hA hP hD hS hl
  have hl : lv_has ls 6 [(0, .ref (ad 8)), (1, .ref rp1), (2, .int x2)] := hl
  generalize hQ : MQ below _ _ s _ _ A = Q
  unfold v_X8_measure at hv
  refine lv_aload_n hx hb dX8_measure_0 rfl (lv_at hl 0 rfl) ?_
  refine va_get (D := D) (ci := 8) (v := .int s8_g) (C := RX8) (T := TX8) (N := 6) hx hb hts in_X8_measure_8 hown hK hP 0 rfl rfl 1 (by decide) (hts _ lk_X8_measure_28) (fun _ h9 => h9) rfl dX8_measure_1 ?_
  refine lv_i2l hx hb dX8_measure_4 rfl ?_
  refine lv_iload_n hx hb dX8_measure_5 rfl (lv_at hl 2 rfl) ?_
  refine lv_i2l hx hb dX8_measure_6 rfl ?_
  refine lv_lmul hx hb dX8_measure_7 ?_
  refine lv_topl (fun e1 h_e1 => ?_)
  have hv := hv e1 h_e1
  refine lv_lstore_n (lv' := [(3, .long e1), (0, .ref (ad 8)), (1, .ref rp1), (2, .int x2)]) hx hb dX8_measure_8 rfl hl (by decide) rfl (fun ls hl => ?_)
  refine lv_iconst (v := 0) hx hb dX8_measure_9 (by decide) ?_
  refine lv_istore (lv' := [(5, .int (0 : Int32)), (3, .long e1), (0, .ref (ad 8)), (1, .ref rp1), (2, .int x2)]) hx hb dX8_measure_10 hl (by decide) rfl (fun ls hl => ?_)
  have lp12 : ∀ (n12 : Nat) (l5_2 : Int32) (l3_3 : Int64) (H : Heap) (locs : List Loc) (ls : Array Slot), vfix (vF_X8_measure_12 s8_sums a8_h p1 K) n12 (l5_2, l3_3) → lv_has ls 6 [(5, .int l5_2), (3, .long l3_3), (0, .ref (ad 8)), (1, .ref rp1)] → va_P D vwCl [oX8 ad s8_sums s8_g, aI cy (ad 38) 4 a8_h, aJ cy rp1 4 p1] H → va_D A [oX8 ad s8_sums s8_g, aI cy (ad 38) 4 a8_h, aJ cy rp1 4 p1] → va_S A s.heap H locs → W p l e rm_X8_measure s m ([.ref (ad 8), .ref rp1, .int x2] : List Value).toArray below meth c H locs 0 0 Q (F0 m 12 ls []) := by
    intro n12
    induction n12 with
    | zero => intro l5_2 l3_3 H locs ls hv; exact hv.elim
    | succ n12 ih12 =>
      intro l5_2 l3_3 H locs ls hv hl hP hD hS
      have hv : vB_X8_measure_12 s8_sums a8_h p1 K (fun z0 z1 => vfix (vF_X8_measure_12 s8_sums a8_h p1 K) n12 (z0, z1)) l5_2 l3_3 := hv
      unfold vB_X8_measure_12 at hv
      refine lv_iload hx hb dX8_measure_12 (lv_at hl 0 rfl) ?_
      refine lv_aload_n hx hb dX8_measure_14 rfl (lv_at hl 2 rfl) ?_
      refine va_get (D := D) (ci := 8) (v := .int s8_sums) (C := RX8) (T := TX8) (N := 6) hx hb hts in_X8_measure_8 hown hK hP 0 rfl rfl 0 (by decide) (hts _ lk_X8_measure_9) (fun _ h9 => h9) rfl dX8_measure_15 ?_
      refine lv_icmp_ge (tgt := 43) hx hb dX8_measure_18 (by decide) (fun c_18 => ?_) (fun c_18 => ?_)
      · have hv := hv.1 c_18
        refine lv_lload_n hx hb dX8_measure_43 rfl (lv_at hl 1 rfl) ?_
        rw [← hQ]
        exact k_lret hx hb hr hlocks hS () hP hD hv dX8_measure_44
      · have hv := hv.2 c_18
        refine lv_lload_n hx hb dX8_measure_21 rfl (lv_at hl 1 rfl) ?_
        refine lv_aload_n hx hb dX8_measure_22 rfl (lv_at hl 2 rfl) ?_
        refine va_get (D := D) (ci := 8) (v := .ref (ad 38)) (C := RX8) (T := TX8) (N := 6) hx hb hts in_X8_measure_8 hown hK hP 0 rfl rfl 5 (by decide) (hts _ lk_X8_measure_25) (fun _ h9 => h9) rfl dX8_measure_23 ?_
        refine lv_iload hx hb dX8_measure_26 (lv_at hl 0 rfl) ?_
        refine va_iald hx hb hK hP 1 0 rfl rfl hv.1 dX8_measure_28 ?_
        refine lv_topi (fun g4 h_g4 => ?_)
        have hv := hv.2 g4 h_g4
        refine lv_i2l hx hb dX8_measure_29 rfl ?_
        refine lv_aload_n hx hb dX8_measure_30 rfl (lv_at hl 3 rfl) ?_
        refine lv_iload hx hb dX8_measure_31 (lv_at hl 0 rfl) ?_
        refine va_lald hx hb hK hP 2 1 rfl rfl hv.1 dX8_measure_33 ?_
        refine lv_topl (fun g5 h_g5 => ?_)
        have hv := hv.2 g5 h_g5
        refine lv_lmul hx hb dX8_measure_34 ?_
        refine lv_topl (fun e6 h_e6 => ?_)
        have hv := hv e6 h_e6
        refine lv_ladd hx hb dX8_measure_35 ?_
        refine lv_topl (fun e7 h_e7 => ?_)
        have hv := hv e7 h_e7
        refine lv_lstore_n (lv' := [(3, .long e7), (5, .int l5_2), (0, .ref (ad 8)), (1, .ref rp1)]) hx hb dX8_measure_36 rfl hl (by decide) rfl (fun ls hl => ?_)
        obtain ⟨i8, h_i8⟩ : ∃ y : Int32, y = l5_2 + 1 := ⟨_, rfl⟩
        refine lv_iinc (v := i8) (lv' := [(5, .int i8), (3, .long e7), (0, .ref (ad 8)), (1, .ref rp1)]) hx hb dX8_measure_37 hl (k := 1) rfl (by rw [h_i8]; rfl) (by decide) rfl (fun ls hl => ?_)
        have hv := hv i8 h_i8
        refine lv_goto (tgt := 12) hx hb dX8_measure_40 (by decide) ?_
        exact ih12 i8 e7 H locs ls hv (lv_sub hl [0, 1, 2, 3] rfl) hP hD hS
  obtain ⟨nn, hv⟩ := hv
  exact lp12 nn (0 : Int32) e1 H locs ls hv (lv_sub hl [0, 1, 2, 3] rfl) hP hD hS
theorem lk_X8_next_19 : Cond.fieldLink RX8 19 "CoarseSteps$Tables" "b" "[I" ∈ wsX8_next := by decide +kernel
theorem in_X8_next_8 : ∀ w ∈ wsX80, w ∈ wsX8_next := by decide +kernel
theorem lk_X8_next_22 : Cond.fieldLink RX8 22 "CoarseSteps$Tables" "e" "[I" ∈ wsX8_next := by decide +kernel
theorem lk_X8_next_9 : Cond.fieldLink RX8 9 "CoarseSteps$Tables" "sums" "I" ∈ wsX8_next := by decide +kernel
theorem lk_X8_next_15 : Cond.fieldLink RX8 15 "CoarseSteps$Tables" "a" "[I" ∈ wsX8_next := by decide +kernel
abbrev rm_X8_next : Room := { frames := 0, cells := 0, slots := 0, locals := 0 }
set_option maxHeartbeats 4000000 in
set_option maxRecDepth 100000 in
theorem m_X8_next (l : Launch) (D : va_G) (cy : ClassId × ClassId × ClassId) (ad : Nat → Nat) (s8_sums : Int32) (s8_g : Int32) (a8_a : Nat → Int32) (a8_b : Nat → Int32) (a8_e : Nat → Int32) (p2 : Nat → Int64) (rp2 : Nat) (x1 : Int32) (x3 : Int32) (x4 : Int64) (sz : Nat) {K : Int64 → Prop} (hv : v_X8_next s8_sums a8_a a8_b a8_e p2 x1 x3 x4 K) : Met l yX8_next wsX8_next rm_X8_next (va_Pc [.ref (ad 8), .int x1, .ref rp2, .int x3, .long x4] (wd D cy [oX8 ad s8_sums s8_g, aI cy (ad 35) 16 a8_a, aI cy (ad 36) 4 a8_b, aI cy (ad 37) 4 a8_e, aJ cy rp2 4 p2] sz)) (va_Ql (fun (r : Int64) (u : Unit) => K r) (fun u t => we D ((fun u : Unit => [oX8 ad s8_sums s8_g, aI cy (ad 35) 16 a8_a, aI cy (ad 36) 4 a8_b, aI cy (ad 37) 4 a8_e, aJ cy rp2 4 p2]) u) (va_A [oX8 ad s8_sums s8_g, aI cy (ad 35) 16 a8_a, aI cy (ad 36) 4 a8_b, aI cy (ad 37) 4 a8_e, aJ cy rp2 4 p2] sz) t) (va_A [oX8 ad s8_sums s8_g, aI cy (ad 35) 16 a8_a, aI cy (ad 36) 4 a8_b, aI cy (ad 37) 4 a8_e, aJ cy rp2 4 p2] sz)) 0 0 (va_A [oX8 ad s8_sums s8_g, aI cy (ad 35) 16 a8_a, aI cy (ad 36) 4 a8_b, aI cy (ad 37) 4 a8_e, aJ cy rp2 4 p2] sz) := by
  refine k_ofW (cc := cX8_next) (maxL := 9) (ret := (some .long)) (fun A => va_Ql (fun (r : Int64) (u : Unit) => K r) (fun u t => we D ((fun u : Unit => [oX8 ad s8_sums s8_g, aI cy (ad 35) 16 a8_a, aI cy (ad 36) 4 a8_b, aI cy (ad 37) 4 a8_e, aJ cy rp2 4 p2]) u) A t) A) (by decide) rfl (Nat.le_of_ble_eq_true rfl) ?_
  intro p e s m below meth c A ls H locs hx hb hml hr hts hown hlocks hname hK hN hA hP hD hS hl
  have hl : lv_has ls 9 [(0, .ref (ad 8)), (1, .int x1), (2, .ref rp2), (3, .int x3), (4, .long x4)] := hl
  generalize hQ : MQ below _ _ s _ _ A = Q
  unfold v_X8_next at hv
  refine lv_aload_n hx hb dX8_next_0 rfl (lv_at hl 0 rfl) ?_
  refine va_get (D := D) (ci := 8) (v := .ref (ad 36)) (C := RX8) (T := TX8) (N := 6) hx hb hts in_X8_next_8 hown hK hP 0 rfl rfl 3 (by decide) (hts _ lk_X8_next_19) (fun _ h9 => h9) rfl dX8_next_1 ?_
  refine lv_iload_n hx hb dX8_next_4 rfl (lv_at hl 1 rfl) ?_
  refine va_iald hx hb hK hP 2 0 rfl rfl hv.1 dX8_next_5 ?_
  refine lv_topi (fun g1 h_g1 => ?_)
  have hv := hv.2 g1 h_g1
  refine lv_i2l hx hb dX8_next_6 rfl ?_
  refine lv_iload_n hx hb dX8_next_7 rfl (lv_at hl 3 rfl) ?_
  refine lv_i2l hx hb dX8_next_8 rfl ?_
  refine lv_lmul hx hb dX8_next_9 ?_
  refine lv_topl (fun e2 h_e2 => ?_)
  have hv := hv e2 h_e2
  refine lv_aload_n hx hb dX8_next_10 rfl (lv_at hl 0 rfl) ?_
  refine va_get (D := D) (ci := 8) (v := .ref (ad 37)) (C := RX8) (T := TX8) (N := 6) hx hb hts in_X8_next_8 hown hK hP 0 rfl rfl 4 (by decide) (hts _ lk_X8_next_22) (fun _ h9 => h9) rfl dX8_next_11 ?_
  refine lv_iload_n hx hb dX8_next_14 rfl (lv_at hl 1 rfl) ?_
  refine va_iald hx hb hK hP 3 0 rfl rfl hv.1 dX8_next_15 ?_
  refine lv_topi (fun g3 h_g3 => ?_)
  have hv := hv.2 g3 h_g3
  refine lv_i2l hx hb dX8_next_16 rfl ?_
  refine lv_lload hx hb dX8_next_17 (lv_at hl 4 rfl) ?_
  refine lv_lmul hx hb dX8_next_19 ?_
  refine lv_topl (fun e4 h_e4 => ?_)
  have hv := hv e4 h_e4
  refine lv_ladd hx hb dX8_next_20 ?_
  refine lv_topl (fun e5 h_e5 => ?_)
  have hv := hv e5 h_e5
  refine lv_lstore (lv' := [(6, .long e5), (0, .ref (ad 8)), (1, .int x1), (2, .ref rp2), (3, .int x3), (4, .long x4)]) hx hb dX8_next_21 hl (by decide) rfl (fun ls hl => ?_)
  refine lv_iconst (v := 0) hx hb dX8_next_23 (by decide) ?_
  refine lv_istore (lv' := [(8, .int (0 : Int32)), (6, .long e5), (0, .ref (ad 8)), (1, .int x1), (2, .ref rp2), (3, .int x3), (4, .long x4)]) hx hb dX8_next_24 hl (by decide) rfl (fun ls hl => ?_)
  have lp26 : ∀ (n26 : Nat) (l8_6 : Int32) (l6_7 : Int64) (H : Heap) (locs : List Loc) (ls : Array Slot), vfix (vF_X8_next_26 s8_sums a8_a p2 x1 K) n26 (l8_6, l6_7) → lv_has ls 9 [(8, .int l8_6), (6, .long l6_7), (0, .ref (ad 8)), (1, .int x1), (2, .ref rp2)] → va_P D vwCl [oX8 ad s8_sums s8_g, aI cy (ad 35) 16 a8_a, aI cy (ad 36) 4 a8_b, aI cy (ad 37) 4 a8_e, aJ cy rp2 4 p2] H → va_D A [oX8 ad s8_sums s8_g, aI cy (ad 35) 16 a8_a, aI cy (ad 36) 4 a8_b, aI cy (ad 37) 4 a8_e, aJ cy rp2 4 p2] → va_S A s.heap H locs → W p l e rm_X8_next s m ([.ref (ad 8), .int x1, .ref rp2, .int x3, .long x4] : List Value).toArray below meth c H locs 0 0 Q (F0 m 26 ls []) := by
    intro n26
    induction n26 with
    | zero => intro l8_6 l6_7 H locs ls hv; exact hv.elim
    | succ n26 ih26 =>
      intro l8_6 l6_7 H locs ls hv hl hP hD hS
      have hv : vB_X8_next_26 s8_sums a8_a p2 x1 K (fun z0 z1 => vfix (vF_X8_next_26 s8_sums a8_a p2 x1 K) n26 (z0, z1)) l8_6 l6_7 := hv
      unfold vB_X8_next_26 at hv
      refine lv_iload hx hb dX8_next_26 (lv_at hl 0 rfl) ?_
      refine lv_aload_n hx hb dX8_next_28 rfl (lv_at hl 2 rfl) ?_
      refine va_get (D := D) (ci := 8) (v := .int s8_sums) (C := RX8) (T := TX8) (N := 6) hx hb hts in_X8_next_8 hown hK hP 0 rfl rfl 0 (by decide) (hts _ lk_X8_next_9) (fun _ h9 => h9) rfl dX8_next_29 ?_
      refine lv_icmp_ge (tgt := 63) hx hb dX8_next_32 (by decide) (fun c_32 => ?_) (fun c_32 => ?_)
      · have hv := hv.1 c_32
        refine lv_lload hx hb dX8_next_63 (lv_at hl 1 rfl) ?_
        rw [← hQ]
        exact k_lret hx hb hr hlocks hS () hP hD hv dX8_next_65
      · have hv := hv.2 c_32
        refine lv_lload hx hb dX8_next_35 (lv_at hl 1 rfl) ?_
        refine lv_aload_n hx hb dX8_next_37 rfl (lv_at hl 2 rfl) ?_
        refine va_get (D := D) (ci := 8) (v := .ref (ad 35)) (C := RX8) (T := TX8) (N := 6) hx hb hts in_X8_next_8 hown hK hP 0 rfl rfl 2 (by decide) (hts _ lk_X8_next_15) (fun _ h9 => h9) rfl dX8_next_38 ?_
        refine lv_iload_n hx hb dX8_next_41 rfl (lv_at hl 3 rfl) ?_
        refine lv_iconst (v := 4) hx hb dX8_next_42 (by decide) ?_
        refine lv_imul hx hb dX8_next_43 ?_
        refine lv_topi (fun e8 h_e8 => ?_)
        have hv := hv e8 h_e8
        refine lv_iload hx hb dX8_next_44 (lv_at hl 0 rfl) ?_
        refine lv_iadd hx hb dX8_next_46 ?_
        refine lv_topi (fun e9 h_e9 => ?_)
        have hv := hv e9 h_e9
        refine va_iald hx hb hK hP 1 0 rfl rfl hv.1 dX8_next_47 ?_
        refine lv_topi (fun g10 h_g10 => ?_)
        have hv := hv.2 g10 h_g10
        refine lv_i2l hx hb dX8_next_48 rfl ?_
        refine lv_aload_n hx hb dX8_next_49 rfl (lv_at hl 4 rfl) ?_
        refine lv_iload hx hb dX8_next_50 (lv_at hl 0 rfl) ?_
        refine va_lald hx hb hK hP 4 1 rfl rfl hv.1 dX8_next_52 ?_
        refine lv_topl (fun g11 h_g11 => ?_)
        have hv := hv.2 g11 h_g11
        refine lv_lmul hx hb dX8_next_53 ?_
        refine lv_topl (fun e12 h_e12 => ?_)
        have hv := hv e12 h_e12
        refine lv_ladd hx hb dX8_next_54 ?_
        refine lv_topl (fun e13 h_e13 => ?_)
        have hv := hv e13 h_e13
        refine lv_lstore (lv' := [(6, .long e13), (8, .int l8_6), (0, .ref (ad 8)), (1, .int x1), (2, .ref rp2)]) hx hb dX8_next_55 hl (by decide) rfl (fun ls hl => ?_)
        obtain ⟨i14, h_i14⟩ : ∃ y : Int32, y = l8_6 + 1 := ⟨_, rfl⟩
        refine lv_iinc (v := i14) (lv' := [(8, .int i14), (6, .long e13), (0, .ref (ad 8)), (1, .int x1), (2, .ref rp2)]) hx hb dX8_next_57 hl (k := 1) rfl (by rw [h_i14]; rfl) (by decide) rfl (fun ls hl => ?_)
        have hv := hv i14 h_i14
        refine lv_goto (tgt := 26) hx hb dX8_next_60 (by decide) ?_
        exact ih26 i14 e13 H locs ls hv (lv_sub hl [0, 1, 2, 3, 4] rfl) hP hD hS
  obtain ⟨nn, hv⟩ := hv
  exact lp26 nn (0 : Int32) e5 H locs ls hv (lv_sub hl [0, 1, 2, 3, 4] rfl) hP hD hS
theorem lk_X5_reckonTables_12 : Cond.fieldLink RX5 12 "CoarseSteps$Mover" "tables" "LCoarseSteps$Tables;" ∈ wsX5_reckonTables := by decide +kernel
theorem in_X5_reckonTables_5 : ∀ w ∈ wsX50, w ∈ wsX5_reckonTables := by decide +kernel
theorem lk_X5_reckonTables_30 : Cond.fieldLink RX5 30 "CoarseSteps$Mover" "sums" "I" ∈ wsX5_reckonTables := by decide +kernel
theorem lk_X5_reckonTables_18 : Cond.fieldLink RX5 18 "CoarseSteps$Mover" "coming" "[J" ∈ wsX5_reckonTables := by decide +kernel
abbrev rm_X5_reckonTables : Room := { frames := 2, cells := 0, slots := 0, locals := 47 }
set_option maxHeartbeats 4000000 in
set_option maxRecDepth 100000 in
theorem m_X5_reckonTables (l : Launch) (D : va_G) (cy : ClassId × ClassId × ClassId) (ad : Nat → Nat) (s5_kind : Int32) (s5_sums : Int32) (s7_over : Int32) (s7_count : Int32) (s8_sums : Int32) (s8_g : Int32) (a5_coming : Nat → Int64) (a5_picked : Nat → Int32) (a7_values : Nat → Int32) (a8_a : Nat → Int32) (a8_b : Nat → Int32) (a8_e : Nat → Int32) (a8_h : Nat → Int32) (p1 : Nat → Int64) (rp1 : Nat) (x2 : Int32) (sz : Nat) {K : (Nat → Int64) → (Nat → Int32) → Prop} (hv : v_X5_reckonTables s5_sums s7_over s7_count s8_sums s8_g a5_coming a5_picked a7_values a8_a a8_b a8_e a8_h p1 x2 K) : Met l yX5_reckonTables wsX5_reckonTables rm_X5_reckonTables (va_Pc [.ref (ad 5), .ref rp1, .int x2] (wd D cy [oX5 ad s5_kind s5_sums, oX7 ad s7_over s7_count, oX8 ad s8_sums s8_g, aJ cy (ad 30) 4 a5_coming, aI cy (ad 31) 3 a5_picked, aI cy (ad 34) 8 a7_values, aI cy (ad 35) 16 a8_a, aI cy (ad 36) 4 a8_b, aI cy (ad 37) 4 a8_e, aI cy (ad 38) 4 a8_h, aJ cy rp1 4 p1] sz)) (va_Qv (fun u : (Nat → Int64) × (Nat → Int32) => K u.1 u.2) (fun u t => we D ((fun u : (Nat → Int64) × (Nat → Int32) => [oX5 ad s5_kind s5_sums, oX7 ad s7_over s7_count, oX8 ad s8_sums s8_g, aJ cy (ad 30) 4 u.1, aI cy (ad 31) 3 u.2, aI cy (ad 34) 8 a7_values, aI cy (ad 35) 16 a8_a, aI cy (ad 36) 4 a8_b, aI cy (ad 37) 4 a8_e, aI cy (ad 38) 4 a8_h, aJ cy rp1 4 p1]) u) (va_A [oX5 ad s5_kind s5_sums, oX7 ad s7_over s7_count, oX8 ad s8_sums s8_g, aJ cy (ad 30) 4 a5_coming, aI cy (ad 31) 3 a5_picked, aI cy (ad 34) 8 a7_values, aI cy (ad 35) 16 a8_a, aI cy (ad 36) 4 a8_b, aI cy (ad 37) 4 a8_e, aI cy (ad 38) 4 a8_h, aJ cy rp1 4 p1] sz) t) (va_A [oX5 ad s5_kind s5_sums, oX7 ad s7_over s7_count, oX8 ad s8_sums s8_g, aJ cy (ad 30) 4 a5_coming, aI cy (ad 31) 3 a5_picked, aI cy (ad 34) 8 a7_values, aI cy (ad 35) 16 a8_a, aI cy (ad 36) 4 a8_b, aI cy (ad 37) 4 a8_e, aI cy (ad 38) 4 a8_h, aJ cy rp1 4 p1] sz)) 0 0 (va_A [oX5 ad s5_kind s5_sums, oX7 ad s7_over s7_count, oX8 ad s8_sums s8_g, aJ cy (ad 30) 4 a5_coming, aI cy (ad 31) 3 a5_picked, aI cy (ad 34) 8 a7_values, aI cy (ad 35) 16 a8_a, aI cy (ad 36) 4 a8_b, aI cy (ad 37) 4 a8_e, aI cy (ad 38) 4 a8_h, aJ cy rp1 4 p1] sz) := by
  refine k_ofW (cc := cX5_reckonTables) (maxL := 8) (ret := none) (fun A => va_Qv (fun u : (Nat → Int64) × (Nat → Int32) => K u.1 u.2) (fun u t => we D ((fun u : (Nat → Int64) × (Nat → Int32) => [oX5 ad s5_kind s5_sums, oX7 ad s7_over s7_count, oX8 ad s8_sums s8_g, aJ cy (ad 30) 4 u.1, aI cy (ad 31) 3 u.2, aI cy (ad 34) 8 a7_values, aI cy (ad 35) 16 a8_a, aI cy (ad 36) 4 a8_b, aI cy (ad 37) 4 a8_e, aI cy (ad 38) 4 a8_h, aJ cy rp1 4 p1]) u) A t) A) (by decide) rfl (Nat.le_of_ble_eq_true rfl) ?_
  intro p e s m below meth c A ls H locs hx hb hml hr hts hown hlocks hname hK hN hA hP hD hS hl
  have hl : lv_has ls 8 [(0, .ref (ad 5)), (1, .ref rp1), (2, .int x2)] := hl
  generalize hQ : MQ below _ _ s _ _ A = Q
  unfold v_X5_reckonTables at hv
  refine lv_aload_n hx hb dX5_reckonTables_0 rfl (lv_at hl 0 rfl) ?_
  refine va_get (D := D) (ci := 5) (v := .ref (ad 8)) (C := RX5) (T := TX5) (N := 6) hx hb hts in_X5_reckonTables_5 hown hK hP 0 rfl rfl 1 (by decide) (hts _ lk_X5_reckonTables_12) (fun _ h9 => h9) rfl dX5_reckonTables_1 ?_
  refine lv_aload_n hx hb dX5_reckonTables_4 rfl (lv_at hl 1 rfl) ?_
  refine lv_iload_n hx hb dX5_reckonTables_5 rfl (lv_at hl 2 rfl) ?_
  have hPc := hP.sub (ws' := [oX8 ad s8_sums s8_g, aI cy (ad 38) 4 a8_h, aJ cy rp1 4 p1]) [2, 9, 10] rfl
  have hDc := hD.sub (ws' := [oX8 ad s8_sums s8_g, aI cy (ad 38) 4 a8_h, aJ cy rp1 4 p1]) [2, 9, 10] (by decide) rfl
  refine k_call (wc := [oX8 ad s8_sums s8_g, aI cy (ad 38) 4 a8_h, aJ cy rp1 4 p1]) (wr := [oX5 ad s5_kind s5_sums, oX7 ad s7_over s7_count, aJ cy (ad 30) 4 a5_coming, aI cy (ad 31) 3 a5_picked, aI cy (ad 34) 8 a7_values, aI cy (ad 35) 16 a8_a, aI cy (ad 36) 4 a8_b, aI cy (ad 37) 4 a8_e]) (va_runV (As := [.ref rp1, .int x2]) (rest := []) ⟨hx, hb, hml, hown, hts⟩ (m_X8_measure l D cy ad s8_sums s8_g a8_h p1 rp1 x2 H.size hv) (cwV 2 hts gX5_reckonTables_X8_measure rfl rfl rfl (by decide +kernel) ⟨Nat.le_of_ble_eq_true rfl, Nat.le_of_ble_eq_true rfl⟩) ⟨wd_blind, va_recv hK hPc (ci := 8) (q0 := 0) rfl rfl, wd_ok hPc hK hDc hN⟩ rfl rfl hl.1 rfl (lv_room (Nat.le_of_ble_eq_true rfl)) dX5_reckonTables_6 ⟨Nat.le_of_ble_eq_true rfl, Nat.le_of_ble_eq_true rfl⟩) hP hD hS hA [2, 9, 10] [0, 1, 3, 4, 5, 6, 7, 8] rfl rfl (by decide) (by decide) (fun r1 u H locs hv hP hD hS => ?_)
  have hP : va_P D vwCl [oX5 ad s5_kind s5_sums, oX7 ad s7_over s7_count, oX8 ad s8_sums s8_g, aJ cy (ad 30) 4 a5_coming, aI cy (ad 31) 3 a5_picked, aI cy (ad 34) 8 a7_values, aI cy (ad 35) 16 a8_a, aI cy (ad 36) 4 a8_b, aI cy (ad 37) 4 a8_e, aI cy (ad 38) 4 a8_h, aJ cy rp1 4 p1] H := hP.sub [0, 1, 8, 2, 3, 4, 5, 6, 7, 9, 10] rfl
  have hD : va_D A [oX5 ad s5_kind s5_sums, oX7 ad s7_over s7_count, oX8 ad s8_sums s8_g, aJ cy (ad 30) 4 a5_coming, aI cy (ad 31) 3 a5_picked, aI cy (ad 34) 8 a7_values, aI cy (ad 35) 16 a8_a, aI cy (ad 36) 4 a8_b, aI cy (ad 37) 4 a8_e, aI cy (ad 38) 4 a8_h, aJ cy rp1 4 p1] := hD.sub [0, 1, 8, 2, 3, 4, 5, 6, 7, 9, 10] (by decide) rfl
  refine lv_lstore_n (lv' := [(3, .long r1), (0, .ref (ad 5)), (1, .ref rp1), (2, .int x2)]) hx hb dX5_reckonTables_9 rfl hl (by decide) rfl (fun ls hl => ?_)
  refine lv_lload_n hx hb dX5_reckonTables_10 rfl (lv_at hl 0 rfl) ?_
  refine lv_aload_n hx hb dX5_reckonTables_11 rfl (lv_at hl 1 rfl) ?_
  refine lv_iconst (v := 0) hx hb dX5_reckonTables_12 (by decide) ?_
  refine lv_lload_n hx hb dX5_reckonTables_13 rfl (lv_at hl 0 rfl) ?_
  have hPc := hP.sub (ws' := [oX5 ad s5_kind s5_sums, oX7 ad s7_over s7_count, aI cy (ad 31) 3 a5_picked, aI cy (ad 34) 8 a7_values]) [0, 1, 4, 5] rfl
  have hDc := hD.sub (ws' := [oX5 ad s5_kind s5_sums, oX7 ad s7_over s7_count, aI cy (ad 31) 3 a5_picked, aI cy (ad 34) 8 a7_values]) [0, 1, 4, 5] (by decide) rfl
  refine k_call (wc := [oX5 ad s5_kind s5_sums, oX7 ad s7_over s7_count, aI cy (ad 31) 3 a5_picked, aI cy (ad 34) 8 a7_values]) (wr := [oX8 ad s8_sums s8_g, aJ cy (ad 30) 4 a5_coming, aI cy (ad 35) 16 a8_a, aI cy (ad 36) 4 a8_b, aI cy (ad 37) 4 a8_e, aI cy (ad 38) 4 a8_h, aJ cy rp1 4 p1]) (va_runV (As := [.int (0 : Int32), .long r1]) (rest := [.long r1]) ⟨hx, hb, hml, hown, hts⟩ (m_X5_takeStep l D cy ad s5_kind s5_sums s7_over s7_count a5_picked a7_values (0 : Int32) r1 H.size hv) (cwV 2 hts gX5_reckonTables_X5_takeStep rfl rfl rfl (by decide +kernel) ⟨Nat.le_of_ble_eq_true rfl, Nat.le_of_ble_eq_true rfl⟩) ⟨wd_blind, va_recv hK hPc (ci := 5) (q0 := 0) rfl rfl, wd_ok hPc hK hDc hN⟩ rfl rfl hl.1 rfl (lv_room (Nat.le_of_ble_eq_true rfl)) dX5_reckonTables_14 ⟨Nat.le_of_ble_eq_true rfl, Nat.le_of_ble_eq_true rfl⟩) hP hD hS hA [0, 1, 4, 5] [2, 3, 6, 7, 8, 9, 10] rfl rfl (by decide) (by decide) (fun r2 a5_picked_3 H locs hv hP hD hS => ?_)
  have hP : va_P D vwCl [oX5 ad s5_kind s5_sums, oX7 ad s7_over s7_count, oX8 ad s8_sums s8_g, aJ cy (ad 30) 4 a5_coming, aI cy (ad 31) 3 a5_picked_3, aI cy (ad 34) 8 a7_values, aI cy (ad 35) 16 a8_a, aI cy (ad 36) 4 a8_b, aI cy (ad 37) 4 a8_e, aI cy (ad 38) 4 a8_h, aJ cy rp1 4 p1] H := hP.sub [7, 8, 0, 1, 9, 10, 2, 3, 4, 5, 6] rfl
  have hD : va_D A [oX5 ad s5_kind s5_sums, oX7 ad s7_over s7_count, oX8 ad s8_sums s8_g, aJ cy (ad 30) 4 a5_coming, aI cy (ad 31) 3 a5_picked_3, aI cy (ad 34) 8 a7_values, aI cy (ad 35) 16 a8_a, aI cy (ad 36) 4 a8_b, aI cy (ad 37) 4 a8_e, aI cy (ad 38) 4 a8_h, aJ cy rp1 4 p1] := hD.sub [7, 8, 0, 1, 9, 10, 2, 3, 4, 5, 6] (by decide) rfl
  refine lv_lsub hx hb dX5_reckonTables_17 ?_
  refine lv_topl (fun e4 h_e4 => ?_)
  have hv := hv e4 h_e4
  refine lv_lstore (lv' := [(5, .long e4), (3, .long r1), (0, .ref (ad 5)), (1, .ref rp1), (2, .int x2)]) hx hb dX5_reckonTables_18 hl (by decide) rfl (fun ls hl => ?_)
  refine lv_iconst (v := 0) hx hb dX5_reckonTables_20 (by decide) ?_
  refine lv_istore (lv' := [(7, .int (0 : Int32)), (5, .long e4), (3, .long r1), (0, .ref (ad 5)), (1, .ref rp1), (2, .int x2)]) hx hb dX5_reckonTables_21 hl (by decide) rfl (fun ls hl => ?_)
  have lp23 : ∀ (n23 : Nat) (l7_5 : Int32) (a5_coming_6 : Nat → Int64) (H : Heap) (locs : List Loc) (ls : Array Slot), vfix (vF_X5_reckonTables_23 s5_sums s8_sums a8_a a8_b a8_e p1 x2 K a5_picked_3 e4) n23 (l7_5, a5_coming_6) → lv_has ls 8 [(7, .int l7_5), (5, .long e4), (0, .ref (ad 5)), (1, .ref rp1), (2, .int x2)] → va_P D vwCl [oX5 ad s5_kind s5_sums, oX7 ad s7_over s7_count, oX8 ad s8_sums s8_g, aJ cy (ad 30) 4 a5_coming_6, aI cy (ad 31) 3 a5_picked_3, aI cy (ad 34) 8 a7_values, aI cy (ad 35) 16 a8_a, aI cy (ad 36) 4 a8_b, aI cy (ad 37) 4 a8_e, aI cy (ad 38) 4 a8_h, aJ cy rp1 4 p1] H → va_D A [oX5 ad s5_kind s5_sums, oX7 ad s7_over s7_count, oX8 ad s8_sums s8_g, aJ cy (ad 30) 4 a5_coming_6, aI cy (ad 31) 3 a5_picked_3, aI cy (ad 34) 8 a7_values, aI cy (ad 35) 16 a8_a, aI cy (ad 36) 4 a8_b, aI cy (ad 37) 4 a8_e, aI cy (ad 38) 4 a8_h, aJ cy rp1 4 p1] → va_S A s.heap H locs → W p l e rm_X5_reckonTables s m ([.ref (ad 5), .ref rp1, .int x2] : List Value).toArray below meth c H locs 0 0 Q (F0 m 23 ls []) := by
    intro n23
    induction n23 with
    | zero => intro l7_5 a5_coming_6 H locs ls hv; exact hv.elim
    | succ n23 ih23 =>
      intro l7_5 a5_coming_6 H locs ls hv hl hP hD hS
      have hv : vB_X5_reckonTables_23 s5_sums s8_sums a8_a a8_b a8_e p1 x2 K a5_picked_3 e4 (fun z0 z1 => vfix (vF_X5_reckonTables_23 s5_sums s8_sums a8_a a8_b a8_e p1 x2 K a5_picked_3 e4) n23 (z0, z1)) l7_5 a5_coming_6 := hv
      unfold vB_X5_reckonTables_23 at hv
      refine lv_iload hx hb dX5_reckonTables_23 (lv_at hl 0 rfl) ?_
      refine lv_aload_n hx hb dX5_reckonTables_25 rfl (lv_at hl 2 rfl) ?_
      refine va_get (D := D) (ci := 5) (v := .int s5_sums) (C := RX5) (T := TX5) (N := 6) hx hb hts in_X5_reckonTables_5 hown hK hP 0 rfl rfl 5 (by decide) (hts _ lk_X5_reckonTables_30) (fun _ h9 => h9) rfl dX5_reckonTables_26 ?_
      refine lv_icmp_ge (tgt := 58) hx hb dX5_reckonTables_29 (by decide) (fun c_29 => ?_) (fun c_29 => ?_)
      · have hv := hv.1 c_29
        rw [← hQ]
        exact k_vret hx hb hr hlocks hS (a5_coming_6, a5_picked_3) hP hD hv dX5_reckonTables_58
      · have hv := hv.2 c_29
        refine lv_aload_n hx hb dX5_reckonTables_32 rfl (lv_at hl 2 rfl) ?_
        refine va_get (D := D) (ci := 5) (v := .ref (ad 30)) (C := RX5) (T := TX5) (N := 6) hx hb hts in_X5_reckonTables_5 hown hK hP 0 rfl rfl 2 (by decide) (hts _ lk_X5_reckonTables_18) (fun _ h9 => h9) rfl dX5_reckonTables_33 ?_
        refine lv_iload hx hb dX5_reckonTables_36 (lv_at hl 0 rfl) ?_
        refine lv_aload_n hx hb dX5_reckonTables_38 rfl (lv_at hl 2 rfl) ?_
        refine va_get (D := D) (ci := 5) (v := .ref (ad 8)) (C := RX5) (T := TX5) (N := 6) hx hb hts in_X5_reckonTables_5 hown hK hP 0 rfl rfl 1 (by decide) (hts _ lk_X5_reckonTables_12) (fun _ h9 => h9) rfl dX5_reckonTables_39 ?_
        refine lv_iload hx hb dX5_reckonTables_42 (lv_at hl 0 rfl) ?_
        refine lv_aload_n hx hb dX5_reckonTables_44 rfl (lv_at hl 3 rfl) ?_
        refine lv_iload_n hx hb dX5_reckonTables_45 rfl (lv_at hl 4 rfl) ?_
        refine lv_lload hx hb dX5_reckonTables_46 (lv_at hl 1 rfl) ?_
        have hPc := hP.sub (ws' := [oX8 ad s8_sums s8_g, aI cy (ad 35) 16 a8_a, aI cy (ad 36) 4 a8_b, aI cy (ad 37) 4 a8_e, aJ cy rp1 4 p1]) [2, 6, 7, 8, 10] rfl
        have hDc := hD.sub (ws' := [oX8 ad s8_sums s8_g, aI cy (ad 35) 16 a8_a, aI cy (ad 36) 4 a8_b, aI cy (ad 37) 4 a8_e, aJ cy rp1 4 p1]) [2, 6, 7, 8, 10] (by decide) rfl
        refine k_call (wc := [oX8 ad s8_sums s8_g, aI cy (ad 35) 16 a8_a, aI cy (ad 36) 4 a8_b, aI cy (ad 37) 4 a8_e, aJ cy rp1 4 p1]) (wr := [oX5 ad s5_kind s5_sums, oX7 ad s7_over s7_count, aJ cy (ad 30) 4 a5_coming_6, aI cy (ad 31) 3 a5_picked_3, aI cy (ad 34) 8 a7_values, aI cy (ad 38) 4 a8_h]) (va_runV (As := [.int l7_5, .ref rp1, .int x2, .long e4]) (rest := [.int l7_5, .ref (ad 30)]) ⟨hx, hb, hml, hown, hts⟩ (m_X8_next l D cy ad s8_sums s8_g a8_a a8_b a8_e p1 rp1 l7_5 x2 e4 H.size hv) (cwV 4 hts gX5_reckonTables_X8_next rfl rfl rfl (by decide +kernel) ⟨Nat.le_of_ble_eq_true rfl, Nat.le_of_ble_eq_true rfl⟩) ⟨wd_blind, va_recv hK hPc (ci := 8) (q0 := 0) rfl rfl, wd_ok hPc hK hDc hN⟩ rfl rfl hl.1 rfl (lv_room (Nat.le_of_ble_eq_true rfl)) dX5_reckonTables_48 ⟨Nat.le_of_ble_eq_true rfl, Nat.le_of_ble_eq_true rfl⟩) hP hD hS hA [2, 6, 7, 8, 10] [0, 1, 3, 4, 5, 9] rfl rfl (by decide) (by decide) (fun r7 u H locs hv hP hD hS => ?_)
        have hP : va_P D vwCl [oX5 ad s5_kind s5_sums, oX7 ad s7_over s7_count, oX8 ad s8_sums s8_g, aJ cy (ad 30) 4 a5_coming_6, aI cy (ad 31) 3 a5_picked_3, aI cy (ad 34) 8 a7_values, aI cy (ad 35) 16 a8_a, aI cy (ad 36) 4 a8_b, aI cy (ad 37) 4 a8_e, aI cy (ad 38) 4 a8_h, aJ cy rp1 4 p1] H := hP.sub [0, 1, 6, 2, 3, 4, 7, 8, 9, 5, 10] rfl
        have hD : va_D A [oX5 ad s5_kind s5_sums, oX7 ad s7_over s7_count, oX8 ad s8_sums s8_g, aJ cy (ad 30) 4 a5_coming_6, aI cy (ad 31) 3 a5_picked_3, aI cy (ad 34) 8 a7_values, aI cy (ad 35) 16 a8_a, aI cy (ad 36) 4 a8_b, aI cy (ad 37) 4 a8_e, aI cy (ad 38) 4 a8_h, aJ cy rp1 4 p1] := hD.sub [0, 1, 6, 2, 3, 4, 7, 8, 9, 5, 10] (by decide) rfl
        refine k_last hx hb hK hP hD hS 3 1 rfl rfl hv.1 dX5_reckonTables_51 (fun a5_coming_8 H locs h_a5_coming_8 hP hD hS => ?_)
        have hv := hv.2 a5_coming_8 h_a5_coming_8
        have hP : va_P D vwCl [oX5 ad s5_kind s5_sums, oX7 ad s7_over s7_count, oX8 ad s8_sums s8_g, aJ cy (ad 30) 4 a5_coming_8, aI cy (ad 31) 3 a5_picked_3, aI cy (ad 34) 8 a7_values, aI cy (ad 35) 16 a8_a, aI cy (ad 36) 4 a8_b, aI cy (ad 37) 4 a8_e, aI cy (ad 38) 4 a8_h, aJ cy rp1 4 p1] H := hP
        have hD : va_D A [oX5 ad s5_kind s5_sums, oX7 ad s7_over s7_count, oX8 ad s8_sums s8_g, aJ cy (ad 30) 4 a5_coming_8, aI cy (ad 31) 3 a5_picked_3, aI cy (ad 34) 8 a7_values, aI cy (ad 35) 16 a8_a, aI cy (ad 36) 4 a8_b, aI cy (ad 37) 4 a8_e, aI cy (ad 38) 4 a8_h, aJ cy rp1 4 p1] := hD
        obtain ⟨i9, h_i9⟩ : ∃ y : Int32, y = l7_5 + 1 := ⟨_, rfl⟩
        refine lv_iinc (v := i9) (lv' := [(7, .int i9), (5, .long e4), (0, .ref (ad 5)), (1, .ref rp1), (2, .int x2)]) hx hb dX5_reckonTables_52 hl (k := 0) rfl (by rw [h_i9]; rfl) (by decide) rfl (fun ls hl => ?_)
        have hv := hv i9 h_i9
        refine lv_goto (tgt := 23) hx hb dX5_reckonTables_55 (by decide) ?_
        exact ih23 i9 a5_coming_8 H locs ls hv (lv_sub hl [0, 1, 2, 3, 4] rfl) hP hD hS
  obtain ⟨nn, hv⟩ := hv
  exact lp23 nn (0 : Int32) a5_coming H locs ls hv (lv_sub hl [0, 1, 3, 4, 5] rfl) hP hD hS
theorem lk_X5_reckonTwo_18 : Cond.fieldLink RX5 18 "CoarseSteps$Mover" "coming" "[J" ∈ wsX5_reckonTwo := by decide +kernel
theorem in_X5_reckonTwo_5 : ∀ w ∈ wsX50, w ∈ wsX5_reckonTwo := by decide +kernel
theorem lk_X5_reckonTwo_59 : Cond.constantLong RX5 59 (2) ∈ wsX5_reckonTwo := by decide +kernel
abbrev rm_X5_reckonTwo : Room := { frames := 2, cells := 0, slots := 0, locals := 47 }
set_option maxHeartbeats 4000000 in
set_option maxRecDepth 100000 in
theorem m_X5_reckonTwo (l : Launch) (D : va_G) (cy : ClassId × ClassId × ClassId) (ad : Nat → Nat) (s5_kind : Int32) (s5_sums : Int32) (s7_over : Int32) (s7_count : Int32) (a5_coming : Nat → Int64) (a5_picked : Nat → Int32) (a7_values : Nat → Int32) (p1 : Nat → Int64) (rp1 : Nat) (x2 : Int32) (sz : Nat) {K : (Nat → Int64) → (Nat → Int32) → Prop} (hv : v_X5_reckonTwo s7_over s7_count a5_coming a5_picked a7_values p1 x2 K) : Met l yX5_reckonTwo wsX5_reckonTwo rm_X5_reckonTwo (va_Pc [.ref (ad 5), .ref rp1, .int x2] (wd D cy [oX5 ad s5_kind s5_sums, oX7 ad s7_over s7_count, aJ cy (ad 30) 4 a5_coming, aI cy (ad 31) 3 a5_picked, aI cy (ad 34) 8 a7_values, aJ cy rp1 4 p1] sz)) (va_Qv (fun u : (Nat → Int64) × (Nat → Int32) => K u.1 u.2) (fun u t => we D ((fun u : (Nat → Int64) × (Nat → Int32) => [oX5 ad s5_kind s5_sums, oX7 ad s7_over s7_count, aJ cy (ad 30) 4 u.1, aI cy (ad 31) 3 u.2, aI cy (ad 34) 8 a7_values, aJ cy rp1 4 p1]) u) (va_A [oX5 ad s5_kind s5_sums, oX7 ad s7_over s7_count, aJ cy (ad 30) 4 a5_coming, aI cy (ad 31) 3 a5_picked, aI cy (ad 34) 8 a7_values, aJ cy rp1 4 p1] sz) t) (va_A [oX5 ad s5_kind s5_sums, oX7 ad s7_over s7_count, aJ cy (ad 30) 4 a5_coming, aI cy (ad 31) 3 a5_picked, aI cy (ad 34) 8 a7_values, aJ cy rp1 4 p1] sz)) 0 0 (va_A [oX5 ad s5_kind s5_sums, oX7 ad s7_over s7_count, aJ cy (ad 30) 4 a5_coming, aI cy (ad 31) 3 a5_picked, aI cy (ad 34) 8 a7_values, aJ cy rp1 4 p1] sz) := by
  refine k_ofW (cc := cX5_reckonTwo) (maxL := 3) (ret := none) (fun A => va_Qv (fun u : (Nat → Int64) × (Nat → Int32) => K u.1 u.2) (fun u t => we D ((fun u : (Nat → Int64) × (Nat → Int32) => [oX5 ad s5_kind s5_sums, oX7 ad s7_over s7_count, aJ cy (ad 30) 4 u.1, aI cy (ad 31) 3 u.2, aI cy (ad 34) 8 a7_values, aJ cy rp1 4 p1]) u) A t) A) (by decide) rfl (Nat.le_of_ble_eq_true rfl) ?_
  intro p e s m below meth c A ls H locs hx hb hml hr hts hown hlocks hname hK hN hA hP hD hS hl
  have hl : lv_has ls 3 [(0, .ref (ad 5)), (1, .ref rp1), (2, .int x2)] := hl
  generalize hQ : MQ below _ _ s _ _ A = Q
  unfold v_X5_reckonTwo at hv
  refine lv_aload_n hx hb dX5_reckonTwo_0 rfl (lv_at hl 0 rfl) ?_
  refine va_get (D := D) (ci := 5) (v := .ref (ad 30)) (C := RX5) (T := TX5) (N := 6) hx hb hts in_X5_reckonTwo_5 hown hK hP 0 rfl rfl 2 (by decide) (hts _ lk_X5_reckonTwo_18) (fun _ h9 => h9) rfl dX5_reckonTwo_1 ?_
  refine lv_iconst (v := 0) hx hb dX5_reckonTwo_4 (by decide) ?_
  refine lv_aload_n hx hb dX5_reckonTwo_5 rfl (lv_at hl 0 rfl) ?_
  refine lv_iconst (v := 0) hx hb dX5_reckonTwo_6 (by decide) ?_
  refine lv_iload_n hx hb dX5_reckonTwo_7 rfl (lv_at hl 2 rfl) ?_
  refine lv_i2l hx hb dX5_reckonTwo_8 rfl ?_
  refine lv_ldc2 hx hb hown (hts _ lk_X5_reckonTwo_59) dX5_reckonTwo_9 ?_
  refine lv_aload_n hx hb dX5_reckonTwo_12 rfl (lv_at hl 1 rfl) ?_
  refine lv_iconst (v := 0) hx hb dX5_reckonTwo_13 (by decide) ?_
  refine va_lald hx hb hK hP 5 1 rfl rfl hv.1 dX5_reckonTwo_14 ?_
  refine lv_topl (fun g1 h_g1 => ?_)
  have hv := hv.2 g1 h_g1
  refine lv_lmul hx hb dX5_reckonTwo_15 ?_
  refine lv_topl (fun e2 h_e2 => ?_)
  have hv := hv e2 h_e2
  refine lv_ladd hx hb dX5_reckonTwo_16 ?_
  refine lv_topl (fun e3 h_e3 => ?_)
  have hv := hv e3 h_e3
  refine lv_aload_n hx hb dX5_reckonTwo_17 rfl (lv_at hl 1 rfl) ?_
  refine lv_iconst (v := 1) hx hb dX5_reckonTwo_18 (by decide) ?_
  refine va_lald hx hb hK hP 5 1 rfl rfl hv.1 dX5_reckonTwo_19 ?_
  refine lv_topl (fun g4 h_g4 => ?_)
  have hv := hv.2 g4 h_g4
  refine lv_lsub hx hb dX5_reckonTwo_20 ?_
  refine lv_topl (fun e5 h_e5 => ?_)
  have hv := hv e5 h_e5
  have hPc := hP.sub (ws' := [oX5 ad s5_kind s5_sums, oX7 ad s7_over s7_count, aI cy (ad 31) 3 a5_picked, aI cy (ad 34) 8 a7_values]) [0, 1, 3, 4] rfl
  have hDc := hD.sub (ws' := [oX5 ad s5_kind s5_sums, oX7 ad s7_over s7_count, aI cy (ad 31) 3 a5_picked, aI cy (ad 34) 8 a7_values]) [0, 1, 3, 4] (by decide) rfl
  refine k_call (wc := [oX5 ad s5_kind s5_sums, oX7 ad s7_over s7_count, aI cy (ad 31) 3 a5_picked, aI cy (ad 34) 8 a7_values]) (wr := [aJ cy (ad 30) 4 a5_coming, aJ cy rp1 4 p1]) (va_runV (As := [.int (0 : Int32), .long e5]) (rest := [.int (0 : Int32), .ref (ad 30)]) ⟨hx, hb, hml, hown, hts⟩ (m_X5_takeStep l D cy ad s5_kind s5_sums s7_over s7_count a5_picked a7_values (0 : Int32) e5 H.size hv) (cwV 2 hts gX5_reckonTwo_X5_takeStep rfl rfl rfl (by decide +kernel) ⟨Nat.le_of_ble_eq_true rfl, Nat.le_of_ble_eq_true rfl⟩) ⟨wd_blind, va_recv hK hPc (ci := 5) (q0 := 0) rfl rfl, wd_ok hPc hK hDc hN⟩ rfl rfl hl.1 rfl (lv_room (Nat.le_of_ble_eq_true rfl)) dX5_reckonTwo_21 ⟨Nat.le_of_ble_eq_true rfl, Nat.le_of_ble_eq_true rfl⟩) hP hD hS hA [0, 1, 3, 4] [2, 5] rfl rfl (by decide) (by decide) (fun r6 a5_picked_7 H locs hv hP hD hS => ?_)
  have hP : va_P D vwCl [oX5 ad s5_kind s5_sums, oX7 ad s7_over s7_count, aJ cy (ad 30) 4 a5_coming, aI cy (ad 31) 3 a5_picked_7, aI cy (ad 34) 8 a7_values, aJ cy rp1 4 p1] H := hP.sub [2, 3, 0, 4, 5, 1] rfl
  have hD : va_D A [oX5 ad s5_kind s5_sums, oX7 ad s7_over s7_count, aJ cy (ad 30) 4 a5_coming, aI cy (ad 31) 3 a5_picked_7, aI cy (ad 34) 8 a7_values, aJ cy rp1 4 p1] := hD.sub [2, 3, 0, 4, 5, 1] (by decide) rfl
  refine k_last hx hb hK hP hD hS 2 1 rfl rfl hv.1 dX5_reckonTwo_24 (fun a5_coming_8 H locs h_a5_coming_8 hP hD hS => ?_)
  have hv := hv.2 a5_coming_8 h_a5_coming_8
  have hP : va_P D vwCl [oX5 ad s5_kind s5_sums, oX7 ad s7_over s7_count, aJ cy (ad 30) 4 a5_coming_8, aI cy (ad 31) 3 a5_picked_7, aI cy (ad 34) 8 a7_values, aJ cy rp1 4 p1] H := hP
  have hD : va_D A [oX5 ad s5_kind s5_sums, oX7 ad s7_over s7_count, aJ cy (ad 30) 4 a5_coming_8, aI cy (ad 31) 3 a5_picked_7, aI cy (ad 34) 8 a7_values, aJ cy rp1 4 p1] := hD
  refine lv_aload_n hx hb dX5_reckonTwo_25 rfl (lv_at hl 0 rfl) ?_
  refine va_get (D := D) (ci := 5) (v := .ref (ad 30)) (C := RX5) (T := TX5) (N := 6) hx hb hts in_X5_reckonTwo_5 hown hK hP 0 rfl rfl 2 (by decide) (hts _ lk_X5_reckonTwo_18) (fun _ h9 => h9) rfl dX5_reckonTwo_26 ?_
  refine lv_iconst (v := 1) hx hb dX5_reckonTwo_29 (by decide) ?_
  refine lv_aload_n hx hb dX5_reckonTwo_30 rfl (lv_at hl 1 rfl) ?_
  refine lv_iconst (v := 0) hx hb dX5_reckonTwo_31 (by decide) ?_
  refine va_lald hx hb hK hP 5 1 rfl rfl hv.1 dX5_reckonTwo_32 ?_
  refine lv_topl (fun g9 h_g9 => ?_)
  have hv := hv.2 g9 h_g9
  refine k_last hx hb hK hP hD hS 2 1 rfl rfl hv.1 dX5_reckonTwo_33 (fun a5_coming_10 H locs h_a5_coming_10 hP hD hS => ?_)
  have hv := hv.2 a5_coming_10 h_a5_coming_10
  have hP : va_P D vwCl [oX5 ad s5_kind s5_sums, oX7 ad s7_over s7_count, aJ cy (ad 30) 4 a5_coming_10, aI cy (ad 31) 3 a5_picked_7, aI cy (ad 34) 8 a7_values, aJ cy rp1 4 p1] H := hP
  have hD : va_D A [oX5 ad s5_kind s5_sums, oX7 ad s7_over s7_count, aJ cy (ad 30) 4 a5_coming_10, aI cy (ad 31) 3 a5_picked_7, aI cy (ad 34) 8 a7_values, aJ cy rp1 4 p1] := hD
  rw [← hQ]
  exact k_vret hx hb hr hlocks hS (a5_coming_10, a5_picked_7) hP hD hv dX5_reckonTwo_34
theorem lk_X10_isSum_247 : Cond.constantLong RX10 247 (-1000000000000) ∈ wsX10_isSum := by decide +kernel
theorem lk_X10_isSum_249 : Cond.constantLong RX10 249 (1000000000000) ∈ wsX10_isSum := by decide +kernel
abbrev rm_X10_isSum : Room := { frames := 0, cells := 0, slots := 0, locals := 0 }
set_option maxHeartbeats 4000000 in
set_option maxRecDepth 100000 in
theorem m_X10_isSum (l : Launch) (D : va_G) (cy : ClassId × ClassId × ClassId) (ad : Nat → Nat) (x0 : Int64) (sz : Nat) {K : Int32 → Prop} (hv : v_X10_isSum x0 K) : Met l yX10_isSum wsX10_isSum rm_X10_isSum (va_Pc [.long x0] (wd D cy [] sz)) (va_Qi (fun (r : Int32) (u : Unit) => (r = 0 ∨ r = 1) ∧ K r) (fun u t => we D ((fun u : Unit => []) u) (va_A [] sz) t) (va_A [] sz)) 0 0 (va_A [] sz) := by
  refine k_ofW (cc := cX10_isSum) (maxL := 2) (ret := (some .boolean)) (fun A => va_Qi (fun (r : Int32) (u : Unit) => (r = 0 ∨ r = 1) ∧ K r) (fun u t => we D ((fun u : Unit => []) u) A t) A) (by decide) rfl (Nat.le_of_ble_eq_true rfl) ?_
  intro p e s m below meth c A ls H locs hx hb hml hr hts hown hlocks hname hK hN hA hP hD hS hl
  have hl : lv_has ls 2 [(0, .long x0)] := hl
  generalize hQ : MQ below _ _ s _ _ A = Q
  unfold v_X10_isSum at hv
  refine lv_lload_n hx hb dX10_isSum_0 rfl (lv_at hl 0 rfl) ?_
  refine lv_ldc2 hx hb hown (hts _ lk_X10_isSum_247) dX10_isSum_1 ?_
  refine k_lc_lt (tgt := 20) hx hb dX10_isSum_4 dX10_isSum_5 (by decide) (fun c_4 => ?_) (fun c_4 => ?_)
  · have hv := hv.1 c_4
    refine lv_iconst (v := 0) hx hb dX10_isSum_20 (by decide) ?_
    rw [← hQ]
    exact k_zret hx hb hr hlocks hS () hP hD (by decide) hv dX10_isSum_21
  · have hv := hv.2 c_4
    refine lv_lload_n hx hb dX10_isSum_8 rfl (lv_at hl 0 rfl) ?_
    refine lv_ldc2 hx hb hown (hts _ lk_X10_isSum_249) dX10_isSum_9 ?_
    refine k_lc_gt (tgt := 20) hx hb dX10_isSum_12 dX10_isSum_13 (by decide) (fun c_12 => ?_) (fun c_12 => ?_)
    · have hv := hv.1 c_12
      refine lv_iconst (v := 0) hx hb dX10_isSum_20 (by decide) ?_
      rw [← hQ]
      exact k_zret hx hb hr hlocks hS () hP hD (by decide) hv dX10_isSum_21
    · have hv := hv.2 c_12
      refine lv_iconst (v := 1) hx hb dX10_isSum_16 (by decide) ?_
      refine lv_goto (tgt := 21) hx hb dX10_isSum_17 (by decide) ?_
      rw [← hQ]
      exact k_zret hx hb hr hlocks hS () hP hD (by decide) hv dX10_isSum_21
theorem lk_X5_settle_30 : Cond.fieldLink RX5 30 "CoarseSteps$Mover" "sums" "I" ∈ wsX5_settle := by decide +kernel
theorem in_X5_settle_5 : ∀ w ∈ wsX50, w ∈ wsX5_settle := by decide +kernel
theorem lk_X5_settle_18 : Cond.fieldLink RX5 18 "CoarseSteps$Mover" "coming" "[J" ∈ wsX5_settle := by decide +kernel
theorem li_X5_settle_X10 : Cond.initialized RX10 ∈ wsX5_settle := by decide +kernel
theorem ls_X5_settle_X10_isSum : Cond.static yX10_isSum ∈ wsX5_settle := by decide +kernel
abbrev rm_X5_settle : Room := { frames := 1, cells := 0, slots := 0, locals := 21 }
set_option maxHeartbeats 4000000 in
set_option maxRecDepth 100000 in
theorem m_X5_settle (l : Launch) (D : va_G) (cy : ClassId × ClassId × ClassId) (ad : Nat → Nat) (s5_kind : Int32) (s5_sums : Int32) (a5_coming : Nat → Int64) (p1 : Nat → Int64) (rp1 : Nat) (sz : Nat) {K : Int32 → (Nat → Int64) → Prop} (hv : v_X5_settle s5_sums a5_coming p1 K) : Met l yX5_settle wsX5_settle rm_X5_settle (va_Pc [.ref (ad 5), .ref rp1] (wd D cy [oX5 ad s5_kind s5_sums, aJ cy (ad 30) 4 a5_coming, aJ cy rp1 4 p1] sz)) (va_Qi (fun (r : Int32) (u : (Nat → Int64)) => (r = 0 ∨ r = 1) ∧ K r u) (fun u t => we D ((fun u : (Nat → Int64) => [oX5 ad s5_kind s5_sums, aJ cy (ad 30) 4 a5_coming, aJ cy rp1 4 u]) u) (va_A [oX5 ad s5_kind s5_sums, aJ cy (ad 30) 4 a5_coming, aJ cy rp1 4 p1] sz) t) (va_A [oX5 ad s5_kind s5_sums, aJ cy (ad 30) 4 a5_coming, aJ cy rp1 4 p1] sz)) 0 0 (va_A [oX5 ad s5_kind s5_sums, aJ cy (ad 30) 4 a5_coming, aJ cy rp1 4 p1] sz) := by
  refine k_ofW (cc := cX5_settle) (maxL := 3) (ret := (some .boolean)) (fun A => va_Qi (fun (r : Int32) (u : (Nat → Int64)) => (r = 0 ∨ r = 1) ∧ K r u) (fun u t => we D ((fun u : (Nat → Int64) => [oX5 ad s5_kind s5_sums, aJ cy (ad 30) 4 a5_coming, aJ cy rp1 4 u]) u) A t) A) (by decide) rfl (Nat.le_of_ble_eq_true rfl) ?_
  intro p e s m below meth c A ls H locs hx hb hml hr hts hown hlocks hname hK hN hA hP hD hS hl
  have hl : lv_has ls 3 [(0, .ref (ad 5)), (1, .ref rp1)] := hl
  generalize hQ : MQ below _ _ s _ _ A = Q
  unfold v_X5_settle at hv
  refine lv_iconst (v := 0) hx hb dX5_settle_0 (by decide) ?_
  refine lv_istore_n (lv' := [(2, .int (0 : Int32)), (0, .ref (ad 5)), (1, .ref rp1)]) hx hb dX5_settle_1 rfl hl (by decide) rfl (fun ls hl => ?_)
  have lp2 : ∀ (n2 : Nat) (l2_1 : Int32) (H : Heap) (locs : List Loc) (ls : Array Slot), vfix (vF_X5_settle_2 s5_sums a5_coming p1 K) n2 l2_1 → lv_has ls 3 [(2, .int l2_1), (0, .ref (ad 5)), (1, .ref rp1)] → va_P D vwCl [oX5 ad s5_kind s5_sums, aJ cy (ad 30) 4 a5_coming, aJ cy rp1 4 p1] H → va_D A [oX5 ad s5_kind s5_sums, aJ cy (ad 30) 4 a5_coming, aJ cy rp1 4 p1] → va_S A s.heap H locs → W p l e rm_X5_settle s m ([.ref (ad 5), .ref rp1] : List Value).toArray below meth c H locs 0 0 Q (F0 m 2 ls []) := by
    intro n2
    induction n2 with
    | zero => intro l2_1 H locs ls hv; exact hv.elim
    | succ n2 ih2 =>
      intro l2_1 H locs ls hv hl hP hD hS
      have hv : vB_X5_settle_2 s5_sums a5_coming p1 K (fun z0 => vfix (vF_X5_settle_2 s5_sums a5_coming p1 K) n2 z0) l2_1 := hv
      unfold vB_X5_settle_2 at hv
      refine lv_iload_n hx hb dX5_settle_2 rfl (lv_at hl 0 rfl) ?_
      refine lv_aload_n hx hb dX5_settle_3 rfl (lv_at hl 1 rfl) ?_
      refine va_get (D := D) (ci := 5) (v := .int s5_sums) (C := RX5) (T := TX5) (N := 6) hx hb hts in_X5_settle_5 hown hK hP 0 rfl rfl 5 (by decide) (hts _ lk_X5_settle_30) (fun _ h9 => h9) rfl dX5_settle_4 ?_
      refine lv_icmp_ge (tgt := 30) hx hb dX5_settle_7 (by decide) (fun c_7 => ?_) (fun c_7 => ?_)
      · have hv := hv.1 c_7
        refine lv_iconst (v := 0) hx hb dX5_settle_30 (by decide) ?_
        refine lv_istore_n (lv' := [(2, .int (0 : Int32)), (0, .ref (ad 5)), (1, .ref rp1)]) hx hb dX5_settle_31 rfl hl (by decide) rfl (fun ls hl => ?_)
        have lp32 : ∀ (n32 : Nat) (l2_2 : Int32) (p1_3 : Nat → Int64) (H : Heap) (locs : List Loc) (ls : Array Slot), vfix (vF_X5_settle_32 s5_sums a5_coming K) n32 (l2_2, p1_3) → lv_has ls 3 [(2, .int l2_2), (0, .ref (ad 5)), (1, .ref rp1)] → va_P D vwCl [oX5 ad s5_kind s5_sums, aJ cy (ad 30) 4 a5_coming, aJ cy rp1 4 p1_3] H → va_D A [oX5 ad s5_kind s5_sums, aJ cy (ad 30) 4 a5_coming, aJ cy rp1 4 p1_3] → va_S A s.heap H locs → W p l e rm_X5_settle s m ([.ref (ad 5), .ref rp1] : List Value).toArray below meth c H locs 0 0 Q (F0 m 32 ls []) := by
          intro n32
          induction n32 with
          | zero => intro l2_2 p1_3 H locs ls hv; exact hv.elim
          | succ n32 ih32 =>
            intro l2_2 p1_3 H locs ls hv hl hP hD hS
            have hv : vB_X5_settle_32 s5_sums a5_coming K (fun z0 z1 => vfix (vF_X5_settle_32 s5_sums a5_coming K) n32 (z0, z1)) l2_2 p1_3 := hv
            unfold vB_X5_settle_32 at hv
            refine lv_iload_n hx hb dX5_settle_32 rfl (lv_at hl 0 rfl) ?_
            refine lv_aload_n hx hb dX5_settle_33 rfl (lv_at hl 1 rfl) ?_
            refine va_get (D := D) (ci := 5) (v := .int s5_sums) (C := RX5) (T := TX5) (N := 6) hx hb hts in_X5_settle_5 hown hK hP 0 rfl rfl 5 (by decide) (hts _ lk_X5_settle_30) (fun _ h9 => h9) rfl dX5_settle_34 ?_
            refine lv_icmp_ge (tgt := 55) hx hb dX5_settle_37 (by decide) (fun c_37 => ?_) (fun c_37 => ?_)
            · have hv := hv.1 c_37
              refine lv_iconst (v := 1) hx hb dX5_settle_55 (by decide) ?_
              rw [← hQ]
              exact k_zret hx hb hr hlocks hS (p1_3) hP hD (by decide) hv dX5_settle_56
            · have hv := hv.2 c_37
              refine lv_aload_n hx hb dX5_settle_40 rfl (lv_at hl 2 rfl) ?_
              refine lv_iload_n hx hb dX5_settle_41 rfl (lv_at hl 0 rfl) ?_
              refine lv_aload_n hx hb dX5_settle_42 rfl (lv_at hl 1 rfl) ?_
              refine va_get (D := D) (ci := 5) (v := .ref (ad 30)) (C := RX5) (T := TX5) (N := 6) hx hb hts in_X5_settle_5 hown hK hP 0 rfl rfl 2 (by decide) (hts _ lk_X5_settle_18) (fun _ h9 => h9) rfl dX5_settle_43 ?_
              refine lv_iload_n hx hb dX5_settle_46 rfl (lv_at hl 0 rfl) ?_
              refine va_lald hx hb hK hP 1 1 rfl rfl hv.1 dX5_settle_47 ?_
              refine lv_topl (fun g4 h_g4 => ?_)
              have hv := hv.2 g4 h_g4
              refine k_last hx hb hK hP hD hS 2 1 rfl rfl hv.1 dX5_settle_48 (fun p1_5 H locs h_p1_5 hP hD hS => ?_)
              have hv := hv.2 p1_5 h_p1_5
              have hP : va_P D vwCl [oX5 ad s5_kind s5_sums, aJ cy (ad 30) 4 a5_coming, aJ cy rp1 4 p1_5] H := hP
              have hD : va_D A [oX5 ad s5_kind s5_sums, aJ cy (ad 30) 4 a5_coming, aJ cy rp1 4 p1_5] := hD
              obtain ⟨i6, h_i6⟩ : ∃ y : Int32, y = l2_2 + 1 := ⟨_, rfl⟩
              refine lv_iinc (v := i6) (lv' := [(2, .int i6), (0, .ref (ad 5)), (1, .ref rp1)]) hx hb dX5_settle_49 hl (k := 0) rfl (by rw [h_i6]; rfl) (by decide) rfl (fun ls hl => ?_)
              have hv := hv i6 h_i6
              refine lv_goto (tgt := 32) hx hb dX5_settle_52 (by decide) ?_
              exact ih32 i6 p1_5 H locs ls hv (lv_sub hl [0, 1, 2] rfl) hP hD hS
        obtain ⟨nn, hv⟩ := hv
        exact lp32 nn (0 : Int32) p1 H locs ls hv (lv_sub hl [0, 1, 2] rfl) hP hD hS
      · have hv := hv.2 c_7
        refine lv_aload_n hx hb dX5_settle_10 rfl (lv_at hl 1 rfl) ?_
        refine va_get (D := D) (ci := 5) (v := .ref (ad 30)) (C := RX5) (T := TX5) (N := 6) hx hb hts in_X5_settle_5 hown hK hP 0 rfl rfl 2 (by decide) (hts _ lk_X5_settle_18) (fun _ h9 => h9) rfl dX5_settle_11 ?_
        refine lv_iload_n hx hb dX5_settle_14 rfl (lv_at hl 0 rfl) ?_
        refine va_lald hx hb hK hP 1 1 rfl rfl hv.1 dX5_settle_15 ?_
        refine lv_topl (fun g7 h_g7 => ?_)
        have hv := hv.2 g7 h_g7
        have hPc := hP.sub (ws' := []) [] rfl
        have hDc := hD.sub (ws' := []) [] (by decide) rfl
        refine k_cali (wc := []) (wr := [oX5 ad s5_kind s5_sums, aJ cy (ad 30) 4 a5_coming, aJ cy rp1 4 p1]) (va_runSN (As := [.long g7]) (rest := []) ⟨hx, hb, hml, hown, hts⟩ (m_X10_isSum l D cy ad g7 H.size hv) ⟨va_cnB 1 hts gX5_settle_X10_isSum_n55 rfl rfl rfl (hN _ nzm_X5_55) (hts _ li_X5_settle_X10) (by decide +kernel) ⟨Nat.le_of_ble_eq_true rfl, Nat.le_of_ble_eq_true rfl⟩, hts _ ls_X5_settle_X10_isSum, trivial⟩ ⟨wd_blind, wd_ok hPc hK hDc hN⟩ rfl rfl hl.1 rfl (lv_room (Nat.le_of_ble_eq_true rfl)) dX5_settle_16 ⟨Nat.le_of_ble_eq_true rfl, Nat.le_of_ble_eq_true rfl⟩) hP hD hS hA [] [0, 1, 2] rfl rfl (by decide) (by decide) (fun r8 u H locs hv hP hD hS => ?_)
        obtain ⟨hz_r8, hv⟩ := hv
        have hP : va_P D vwCl [oX5 ad s5_kind s5_sums, aJ cy (ad 30) 4 a5_coming, aJ cy rp1 4 p1] H := hP.sub [0, 1, 2] rfl
        have hD : va_D A [oX5 ad s5_kind s5_sums, aJ cy (ad 30) 4 a5_coming, aJ cy rp1 4 p1] := hD.sub [0, 1, 2] (by decide) rfl
        refine lv_if_ne (tgt := 24) hx hb dX5_settle_19 (by decide) (fun c_19 => ?_) (fun c_19 => ?_)
        · have hv := hv.1 c_19
          obtain ⟨i9, h_i9⟩ : ∃ y : Int32, y = l2_1 + 1 := ⟨_, rfl⟩
          refine lv_iinc (v := i9) (lv' := [(2, .int i9), (0, .ref (ad 5)), (1, .ref rp1)]) hx hb dX5_settle_24 hl (k := 0) rfl (by rw [h_i9]; rfl) (by decide) rfl (fun ls hl => ?_)
          have hv := hv i9 h_i9
          refine lv_goto (tgt := 2) hx hb dX5_settle_27 (by decide) ?_
          exact ih2 i9 H locs ls hv (lv_sub hl [0, 1, 2] rfl) hP hD hS
        · have hv := hv.2 c_19
          refine lv_iconst (v := 0) hx hb dX5_settle_22 (by decide) ?_
          rw [← hQ]
          exact k_zret hx hb hr hlocks hS (p1) hP hD (by decide) hv dX5_settle_23
  obtain ⟨nn, hv⟩ := hv
  exact lp2 nn (0 : Int32) H locs ls hv (lv_sub hl [0, 1, 2] rfl) hP hD hS
theorem lk_X5_advance_26 : Cond.fieldLink RX5 26 "CoarseSteps$Mover" "kind" "I" ∈ wsX5_advance := by decide +kernel
theorem in_X5_advance_5 : ∀ w ∈ wsX50, w ∈ wsX5_advance := by decide +kernel
abbrev rm_X5_advance : Room := { frames := 3, cells := 0, slots := 0, locals := 74 }
set_option maxHeartbeats 4000000 in
set_option maxRecDepth 100000 in
theorem m_X5_advance (l : Launch) (D : va_G) (cy : ClassId × ClassId × ClassId) (ad : Nat → Nat) (s5_kind : Int32) (s5_sums : Int32) (s7_over : Int32) (s7_count : Int32) (s8_sums : Int32) (s8_g : Int32) (a5_coming : Nat → Int64) (a5_picked : Nat → Int32) (a7_values : Nat → Int32) (a8_a : Nat → Int32) (a8_b : Nat → Int32) (a8_e : Nat → Int32) (a8_h : Nat → Int32) (p1 : Nat → Int64) (rp1 : Nat) (x2 : Int32) (sz : Nat) {K : Int32 → (Nat → Int64) → (Nat → Int32) → (Nat → Int64) → Prop} (hv : v_X5_advance s5_kind s5_sums s7_over s7_count s8_sums s8_g a5_coming a5_picked a7_values a8_a a8_b a8_e a8_h p1 x2 K) : Met l yX5_advance wsX5_advance rm_X5_advance (va_Pc [.ref (ad 5), .ref rp1, .int x2] (wd D cy [oX5 ad s5_kind s5_sums, oX7 ad s7_over s7_count, oX8 ad s8_sums s8_g, aJ cy (ad 30) 4 a5_coming, aI cy (ad 31) 3 a5_picked, aI cy (ad 34) 8 a7_values, aI cy (ad 35) 16 a8_a, aI cy (ad 36) 4 a8_b, aI cy (ad 37) 4 a8_e, aI cy (ad 38) 4 a8_h, aJ cy rp1 4 p1] sz)) (va_Qi (fun (r : Int32) (u : (Nat → Int64) × (Nat → Int32) × (Nat → Int64)) => (r = 0 ∨ r = 1) ∧ K r u.1 u.2.1 u.2.2) (fun u t => we D ((fun u : (Nat → Int64) × (Nat → Int32) × (Nat → Int64) => [oX5 ad s5_kind s5_sums, oX7 ad s7_over s7_count, oX8 ad s8_sums s8_g, aJ cy (ad 30) 4 u.1, aI cy (ad 31) 3 u.2.1, aI cy (ad 34) 8 a7_values, aI cy (ad 35) 16 a8_a, aI cy (ad 36) 4 a8_b, aI cy (ad 37) 4 a8_e, aI cy (ad 38) 4 a8_h, aJ cy rp1 4 u.2.2]) u) (va_A [oX5 ad s5_kind s5_sums, oX7 ad s7_over s7_count, oX8 ad s8_sums s8_g, aJ cy (ad 30) 4 a5_coming, aI cy (ad 31) 3 a5_picked, aI cy (ad 34) 8 a7_values, aI cy (ad 35) 16 a8_a, aI cy (ad 36) 4 a8_b, aI cy (ad 37) 4 a8_e, aI cy (ad 38) 4 a8_h, aJ cy rp1 4 p1] sz) t) (va_A [oX5 ad s5_kind s5_sums, oX7 ad s7_over s7_count, oX8 ad s8_sums s8_g, aJ cy (ad 30) 4 a5_coming, aI cy (ad 31) 3 a5_picked, aI cy (ad 34) 8 a7_values, aI cy (ad 35) 16 a8_a, aI cy (ad 36) 4 a8_b, aI cy (ad 37) 4 a8_e, aI cy (ad 38) 4 a8_h, aJ cy rp1 4 p1] sz)) 0 0 (va_A [oX5 ad s5_kind s5_sums, oX7 ad s7_over s7_count, oX8 ad s8_sums s8_g, aJ cy (ad 30) 4 a5_coming, aI cy (ad 31) 3 a5_picked, aI cy (ad 34) 8 a7_values, aI cy (ad 35) 16 a8_a, aI cy (ad 36) 4 a8_b, aI cy (ad 37) 4 a8_e, aI cy (ad 38) 4 a8_h, aJ cy rp1 4 p1] sz) := by
  refine k_ofW (cc := cX5_advance) (maxL := 3) (ret := (some .boolean)) (fun A => va_Qi (fun (r : Int32) (u : (Nat → Int64) × (Nat → Int32) × (Nat → Int64)) => (r = 0 ∨ r = 1) ∧ K r u.1 u.2.1 u.2.2) (fun u t => we D ((fun u : (Nat → Int64) × (Nat → Int32) × (Nat → Int64) => [oX5 ad s5_kind s5_sums, oX7 ad s7_over s7_count, oX8 ad s8_sums s8_g, aJ cy (ad 30) 4 u.1, aI cy (ad 31) 3 u.2.1, aI cy (ad 34) 8 a7_values, aI cy (ad 35) 16 a8_a, aI cy (ad 36) 4 a8_b, aI cy (ad 37) 4 a8_e, aI cy (ad 38) 4 a8_h, aJ cy rp1 4 u.2.2]) u) A t) A) (by decide) rfl (Nat.le_of_ble_eq_true rfl) ?_
  intro p e s m below meth c A ls H locs hx hb hml hr hts hown hlocks hname hK hN hA hP hD hS hl
  have hl : lv_has ls 3 [(0, .ref (ad 5)), (1, .ref rp1), (2, .int x2)] := hl
  generalize hQ : MQ below _ _ s _ _ A = Q
  unfold v_X5_advance at hv
  refine lv_aload_n hx hb dX5_advance_0 rfl (lv_at hl 0 rfl) ?_
  refine va_get (D := D) (ci := 5) (v := .int s5_kind) (C := RX5) (T := TX5) (N := 6) hx hb hts in_X5_advance_5 hown hK hP 0 rfl rfl 4 (by decide) (hts _ lk_X5_advance_26) (fun _ h9 => h9) rfl dX5_advance_1 ?_
  by_cases c_4_0 : s5_kind = 1
  · refine lv_lookup (tgt := 32) (off := 28) hx hb dX5_advance_4 (by decide) (by rw [c_4_0] <;> rfl) (by decide) ?_
    have hv := hv.1 c_4_0
    refine lv_aload_n hx hb dX5_advance_32 rfl (lv_at hl 0 rfl) ?_
    refine lv_aload_n hx hb dX5_advance_33 rfl (lv_at hl 1 rfl) ?_
    refine lv_iload_n hx hb dX5_advance_34 rfl (lv_at hl 2 rfl) ?_
    have hPc := hP.sub (ws' := [oX5 ad s5_kind s5_sums, oX7 ad s7_over s7_count, aJ cy (ad 30) 4 a5_coming, aI cy (ad 31) 3 a5_picked, aI cy (ad 34) 8 a7_values, aJ cy rp1 4 p1]) [0, 1, 3, 4, 5, 10] rfl
    have hDc := hD.sub (ws' := [oX5 ad s5_kind s5_sums, oX7 ad s7_over s7_count, aJ cy (ad 30) 4 a5_coming, aI cy (ad 31) 3 a5_picked, aI cy (ad 34) 8 a7_values, aJ cy rp1 4 p1]) [0, 1, 3, 4, 5, 10] (by decide) rfl
    refine k_calv (wc := [oX5 ad s5_kind s5_sums, oX7 ad s7_over s7_count, aJ cy (ad 30) 4 a5_coming, aI cy (ad 31) 3 a5_picked, aI cy (ad 34) 8 a7_values, aJ cy rp1 4 p1]) (wr := [oX8 ad s8_sums s8_g, aI cy (ad 35) 16 a8_a, aI cy (ad 36) 4 a8_b, aI cy (ad 37) 4 a8_e, aI cy (ad 38) 4 a8_h]) (va_runV (As := [.ref rp1, .int x2]) (rest := []) ⟨hx, hb, hml, hown, hts⟩ (m_X5_reckonTwo l D cy ad s5_kind s5_sums s7_over s7_count a5_coming a5_picked a7_values p1 rp1 x2 H.size hv) (cwV 2 hts gX5_advance_X5_reckonTwo rfl rfl rfl (by decide +kernel) ⟨Nat.le_of_ble_eq_true rfl, Nat.le_of_ble_eq_true rfl⟩) ⟨wd_blind, va_recv hK hPc (ci := 5) (q0 := 0) rfl rfl, wd_ok hPc hK hDc hN⟩ rfl rfl hl.1 rfl (lv_room (Nat.le_of_ble_eq_true rfl)) dX5_advance_35 ⟨Nat.le_of_ble_eq_true rfl, Nat.le_of_ble_eq_true rfl⟩) hP hD hS hA [0, 1, 3, 4, 5, 10] [2, 6, 7, 8, 9] rfl rfl (by decide) (by decide) (fun u H locs hv hP hD hS => ?_)
    obtain ⟨a5_coming_1, a5_picked_2⟩ := u
    have hP : va_P D vwCl [oX5 ad s5_kind s5_sums, oX7 ad s7_over s7_count, oX8 ad s8_sums s8_g, aJ cy (ad 30) 4 a5_coming_1, aI cy (ad 31) 3 a5_picked_2, aI cy (ad 34) 8 a7_values, aI cy (ad 35) 16 a8_a, aI cy (ad 36) 4 a8_b, aI cy (ad 37) 4 a8_e, aI cy (ad 38) 4 a8_h, aJ cy rp1 4 p1] H := hP.sub [5, 6, 0, 7, 8, 9, 1, 2, 3, 4, 10] rfl
    have hD : va_D A [oX5 ad s5_kind s5_sums, oX7 ad s7_over s7_count, oX8 ad s8_sums s8_g, aJ cy (ad 30) 4 a5_coming_1, aI cy (ad 31) 3 a5_picked_2, aI cy (ad 34) 8 a7_values, aI cy (ad 35) 16 a8_a, aI cy (ad 36) 4 a8_b, aI cy (ad 37) 4 a8_e, aI cy (ad 38) 4 a8_h, aJ cy rp1 4 p1] := hD.sub [5, 6, 0, 7, 8, 9, 1, 2, 3, 4, 10] (by decide) rfl
    refine lv_goto (tgt := 56) hx hb dX5_advance_38 (by decide) ?_
    refine lv_aload_n hx hb dX5_advance_56 rfl (lv_at hl 0 rfl) ?_
    refine lv_aload_n hx hb dX5_advance_57 rfl (lv_at hl 1 rfl) ?_
    have hPc := hP.sub (ws' := [oX5 ad s5_kind s5_sums, aJ cy (ad 30) 4 a5_coming_1, aJ cy rp1 4 p1]) [0, 3, 10] rfl
    have hDc := hD.sub (ws' := [oX5 ad s5_kind s5_sums, aJ cy (ad 30) 4 a5_coming_1, aJ cy rp1 4 p1]) [0, 3, 10] (by decide) rfl
    refine k_cali (wc := [oX5 ad s5_kind s5_sums, aJ cy (ad 30) 4 a5_coming_1, aJ cy rp1 4 p1]) (wr := [oX7 ad s7_over s7_count, oX8 ad s8_sums s8_g, aI cy (ad 31) 3 a5_picked_2, aI cy (ad 34) 8 a7_values, aI cy (ad 35) 16 a8_a, aI cy (ad 36) 4 a8_b, aI cy (ad 37) 4 a8_e, aI cy (ad 38) 4 a8_h]) (va_runV (As := [.ref rp1]) (rest := []) ⟨hx, hb, hml, hown, hts⟩ (m_X5_settle l D cy ad s5_kind s5_sums a5_coming_1 p1 rp1 H.size hv) (cwV 1 hts gX5_advance_X5_settle rfl rfl rfl (by decide +kernel) ⟨Nat.le_of_ble_eq_true rfl, Nat.le_of_ble_eq_true rfl⟩) ⟨wd_blind, va_recv hK hPc (ci := 5) (q0 := 0) rfl rfl, wd_ok hPc hK hDc hN⟩ rfl rfl hl.1 rfl (lv_room (Nat.le_of_ble_eq_true rfl)) dX5_advance_58 ⟨Nat.le_of_ble_eq_true rfl, Nat.le_of_ble_eq_true rfl⟩) hP hD hS hA [0, 3, 10] [1, 2, 4, 5, 6, 7, 8, 9] rfl rfl (by decide) (by decide) (fun r3 p1_4 H locs hv hP hD hS => ?_)
    obtain ⟨hz_r3, hv⟩ := hv
    have hP : va_P D vwCl [oX5 ad s5_kind s5_sums, oX7 ad s7_over s7_count, oX8 ad s8_sums s8_g, aJ cy (ad 30) 4 a5_coming_1, aI cy (ad 31) 3 a5_picked_2, aI cy (ad 34) 8 a7_values, aI cy (ad 35) 16 a8_a, aI cy (ad 36) 4 a8_b, aI cy (ad 37) 4 a8_e, aI cy (ad 38) 4 a8_h, aJ cy rp1 4 p1_4] H := hP.sub [8, 0, 1, 9, 2, 3, 4, 5, 6, 7, 10] rfl
    have hD : va_D A [oX5 ad s5_kind s5_sums, oX7 ad s7_over s7_count, oX8 ad s8_sums s8_g, aJ cy (ad 30) 4 a5_coming_1, aI cy (ad 31) 3 a5_picked_2, aI cy (ad 34) 8 a7_values, aI cy (ad 35) 16 a8_a, aI cy (ad 36) 4 a8_b, aI cy (ad 37) 4 a8_e, aI cy (ad 38) 4 a8_h, aJ cy rp1 4 p1_4] := hD.sub [8, 0, 1, 9, 2, 3, 4, 5, 6, 7, 10] (by decide) rfl
    rw [← hQ]
    exact k_zret hx hb hr hlocks hS (a5_coming_1, a5_picked_2, p1_4) hP hD hz_r3 hv dX5_advance_61
  have hv := hv.2
  by_cases c_4_1 : s5_kind = 2
  · refine lv_lookup (tgt := 41) (off := 37) hx hb dX5_advance_4 (by decide) (by rw [c_4_1] <;> rfl) (by decide) ?_
    have hv := hv.1 c_4_1
    refine lv_aload_n hx hb dX5_advance_41 rfl (lv_at hl 0 rfl) ?_
    refine lv_aload_n hx hb dX5_advance_42 rfl (lv_at hl 1 rfl) ?_
    refine lv_iload_n hx hb dX5_advance_43 rfl (lv_at hl 2 rfl) ?_
    have hPc := hP.sub (ws' := [oX5 ad s5_kind s5_sums, oX7 ad s7_over s7_count, oX8 ad s8_sums s8_g, aJ cy (ad 30) 4 a5_coming, aI cy (ad 31) 3 a5_picked, aI cy (ad 34) 8 a7_values, aI cy (ad 35) 16 a8_a, aI cy (ad 36) 4 a8_b, aI cy (ad 37) 4 a8_e, aI cy (ad 38) 4 a8_h, aJ cy rp1 4 p1]) [0, 1, 2, 3, 4, 5, 6, 7, 8, 9, 10] rfl
    have hDc := hD.sub (ws' := [oX5 ad s5_kind s5_sums, oX7 ad s7_over s7_count, oX8 ad s8_sums s8_g, aJ cy (ad 30) 4 a5_coming, aI cy (ad 31) 3 a5_picked, aI cy (ad 34) 8 a7_values, aI cy (ad 35) 16 a8_a, aI cy (ad 36) 4 a8_b, aI cy (ad 37) 4 a8_e, aI cy (ad 38) 4 a8_h, aJ cy rp1 4 p1]) [0, 1, 2, 3, 4, 5, 6, 7, 8, 9, 10] (by decide) rfl
    refine k_calv (wc := [oX5 ad s5_kind s5_sums, oX7 ad s7_over s7_count, oX8 ad s8_sums s8_g, aJ cy (ad 30) 4 a5_coming, aI cy (ad 31) 3 a5_picked, aI cy (ad 34) 8 a7_values, aI cy (ad 35) 16 a8_a, aI cy (ad 36) 4 a8_b, aI cy (ad 37) 4 a8_e, aI cy (ad 38) 4 a8_h, aJ cy rp1 4 p1]) (wr := []) (va_runV (As := [.ref rp1, .int x2]) (rest := []) ⟨hx, hb, hml, hown, hts⟩ (m_X5_reckonTables l D cy ad s5_kind s5_sums s7_over s7_count s8_sums s8_g a5_coming a5_picked a7_values a8_a a8_b a8_e a8_h p1 rp1 x2 H.size hv) (cwV 2 hts gX5_advance_X5_reckonTables rfl rfl rfl (by decide +kernel) ⟨Nat.le_of_ble_eq_true rfl, Nat.le_of_ble_eq_true rfl⟩) ⟨wd_blind, va_recv hK hPc (ci := 5) (q0 := 0) rfl rfl, wd_ok hPc hK hDc hN⟩ rfl rfl hl.1 rfl (lv_room (Nat.le_of_ble_eq_true rfl)) dX5_advance_44 ⟨Nat.le_of_ble_eq_true rfl, Nat.le_of_ble_eq_true rfl⟩) hP hD hS hA [0, 1, 2, 3, 4, 5, 6, 7, 8, 9, 10] [] rfl rfl (by decide) (by decide) (fun u H locs hv hP hD hS => ?_)
    obtain ⟨a5_coming_5, a5_picked_6⟩ := u
    have hP : va_P D vwCl [oX5 ad s5_kind s5_sums, oX7 ad s7_over s7_count, oX8 ad s8_sums s8_g, aJ cy (ad 30) 4 a5_coming_5, aI cy (ad 31) 3 a5_picked_6, aI cy (ad 34) 8 a7_values, aI cy (ad 35) 16 a8_a, aI cy (ad 36) 4 a8_b, aI cy (ad 37) 4 a8_e, aI cy (ad 38) 4 a8_h, aJ cy rp1 4 p1] H := hP.sub [0, 1, 2, 3, 4, 5, 6, 7, 8, 9, 10] rfl
    have hD : va_D A [oX5 ad s5_kind s5_sums, oX7 ad s7_over s7_count, oX8 ad s8_sums s8_g, aJ cy (ad 30) 4 a5_coming_5, aI cy (ad 31) 3 a5_picked_6, aI cy (ad 34) 8 a7_values, aI cy (ad 35) 16 a8_a, aI cy (ad 36) 4 a8_b, aI cy (ad 37) 4 a8_e, aI cy (ad 38) 4 a8_h, aJ cy rp1 4 p1] := hD.sub [0, 1, 2, 3, 4, 5, 6, 7, 8, 9, 10] (by decide) rfl
    refine lv_goto (tgt := 56) hx hb dX5_advance_47 (by decide) ?_
    refine lv_aload_n hx hb dX5_advance_56 rfl (lv_at hl 0 rfl) ?_
    refine lv_aload_n hx hb dX5_advance_57 rfl (lv_at hl 1 rfl) ?_
    have hPc := hP.sub (ws' := [oX5 ad s5_kind s5_sums, aJ cy (ad 30) 4 a5_coming_5, aJ cy rp1 4 p1]) [0, 3, 10] rfl
    have hDc := hD.sub (ws' := [oX5 ad s5_kind s5_sums, aJ cy (ad 30) 4 a5_coming_5, aJ cy rp1 4 p1]) [0, 3, 10] (by decide) rfl
    refine k_cali (wc := [oX5 ad s5_kind s5_sums, aJ cy (ad 30) 4 a5_coming_5, aJ cy rp1 4 p1]) (wr := [oX7 ad s7_over s7_count, oX8 ad s8_sums s8_g, aI cy (ad 31) 3 a5_picked_6, aI cy (ad 34) 8 a7_values, aI cy (ad 35) 16 a8_a, aI cy (ad 36) 4 a8_b, aI cy (ad 37) 4 a8_e, aI cy (ad 38) 4 a8_h]) (va_runV (As := [.ref rp1]) (rest := []) ⟨hx, hb, hml, hown, hts⟩ (m_X5_settle l D cy ad s5_kind s5_sums a5_coming_5 p1 rp1 H.size hv) (cwV 1 hts gX5_advance_X5_settle rfl rfl rfl (by decide +kernel) ⟨Nat.le_of_ble_eq_true rfl, Nat.le_of_ble_eq_true rfl⟩) ⟨wd_blind, va_recv hK hPc (ci := 5) (q0 := 0) rfl rfl, wd_ok hPc hK hDc hN⟩ rfl rfl hl.1 rfl (lv_room (Nat.le_of_ble_eq_true rfl)) dX5_advance_58 ⟨Nat.le_of_ble_eq_true rfl, Nat.le_of_ble_eq_true rfl⟩) hP hD hS hA [0, 3, 10] [1, 2, 4, 5, 6, 7, 8, 9] rfl rfl (by decide) (by decide) (fun r7 p1_8 H locs hv hP hD hS => ?_)
    obtain ⟨hz_r7, hv⟩ := hv
    have hP : va_P D vwCl [oX5 ad s5_kind s5_sums, oX7 ad s7_over s7_count, oX8 ad s8_sums s8_g, aJ cy (ad 30) 4 a5_coming_5, aI cy (ad 31) 3 a5_picked_6, aI cy (ad 34) 8 a7_values, aI cy (ad 35) 16 a8_a, aI cy (ad 36) 4 a8_b, aI cy (ad 37) 4 a8_e, aI cy (ad 38) 4 a8_h, aJ cy rp1 4 p1_8] H := hP.sub [8, 0, 1, 9, 2, 3, 4, 5, 6, 7, 10] rfl
    have hD : va_D A [oX5 ad s5_kind s5_sums, oX7 ad s7_over s7_count, oX8 ad s8_sums s8_g, aJ cy (ad 30) 4 a5_coming_5, aI cy (ad 31) 3 a5_picked_6, aI cy (ad 34) 8 a7_values, aI cy (ad 35) 16 a8_a, aI cy (ad 36) 4 a8_b, aI cy (ad 37) 4 a8_e, aI cy (ad 38) 4 a8_h, aJ cy rp1 4 p1_8] := hD.sub [8, 0, 1, 9, 2, 3, 4, 5, 6, 7, 10] (by decide) rfl
    rw [← hQ]
    exact k_zret hx hb hr hlocks hS (a5_coming_5, a5_picked_6, p1_8) hP hD hz_r7 hv dX5_advance_61
  have hv := hv.2
  refine lv_lookup (tgt := 50) (off := 46) hx hb dX5_advance_4 (by decide) ((lv_osw c_4_0 (by decide)).trans ((lv_osw c_4_1 (by decide)).trans rfl)) (by decide) ?_
  have hv := hv c_4_0 c_4_1
  refine lv_aload_n hx hb dX5_advance_50 rfl (lv_at hl 0 rfl) ?_
  refine lv_aload_n hx hb dX5_advance_51 rfl (lv_at hl 1 rfl) ?_
  refine lv_iload_n hx hb dX5_advance_52 rfl (lv_at hl 2 rfl) ?_
  have hPc := hP.sub (ws' := [oX5 ad s5_kind s5_sums, oX7 ad s7_over s7_count, aJ cy (ad 30) 4 a5_coming, aI cy (ad 31) 3 a5_picked, aI cy (ad 34) 8 a7_values, aJ cy rp1 4 p1]) [0, 1, 3, 4, 5, 10] rfl
  have hDc := hD.sub (ws' := [oX5 ad s5_kind s5_sums, oX7 ad s7_over s7_count, aJ cy (ad 30) 4 a5_coming, aI cy (ad 31) 3 a5_picked, aI cy (ad 34) 8 a7_values, aJ cy rp1 4 p1]) [0, 1, 3, 4, 5, 10] (by decide) rfl
  refine k_calv (wc := [oX5 ad s5_kind s5_sums, oX7 ad s7_over s7_count, aJ cy (ad 30) 4 a5_coming, aI cy (ad 31) 3 a5_picked, aI cy (ad 34) 8 a7_values, aJ cy rp1 4 p1]) (wr := [oX8 ad s8_sums s8_g, aI cy (ad 35) 16 a8_a, aI cy (ad 36) 4 a8_b, aI cy (ad 37) 4 a8_e, aI cy (ad 38) 4 a8_h]) (va_runV (As := [.ref rp1, .int x2]) (rest := []) ⟨hx, hb, hml, hown, hts⟩ (m_X5_reckonRow l D cy ad s5_kind s5_sums s7_over s7_count a5_coming a5_picked a7_values p1 rp1 x2 H.size hv) (cwV 2 hts gX5_advance_X5_reckonRow rfl rfl rfl (by decide +kernel) ⟨Nat.le_of_ble_eq_true rfl, Nat.le_of_ble_eq_true rfl⟩) ⟨wd_blind, va_recv hK hPc (ci := 5) (q0 := 0) rfl rfl, wd_ok hPc hK hDc hN⟩ rfl rfl hl.1 rfl (lv_room (Nat.le_of_ble_eq_true rfl)) dX5_advance_53 ⟨Nat.le_of_ble_eq_true rfl, Nat.le_of_ble_eq_true rfl⟩) hP hD hS hA [0, 1, 3, 4, 5, 10] [2, 6, 7, 8, 9] rfl rfl (by decide) (by decide) (fun u H locs hv hP hD hS => ?_)
  obtain ⟨a5_coming_9, a5_picked_10⟩ := u
  have hP : va_P D vwCl [oX5 ad s5_kind s5_sums, oX7 ad s7_over s7_count, oX8 ad s8_sums s8_g, aJ cy (ad 30) 4 a5_coming_9, aI cy (ad 31) 3 a5_picked_10, aI cy (ad 34) 8 a7_values, aI cy (ad 35) 16 a8_a, aI cy (ad 36) 4 a8_b, aI cy (ad 37) 4 a8_e, aI cy (ad 38) 4 a8_h, aJ cy rp1 4 p1] H := hP.sub [5, 6, 0, 7, 8, 9, 1, 2, 3, 4, 10] rfl
  have hD : va_D A [oX5 ad s5_kind s5_sums, oX7 ad s7_over s7_count, oX8 ad s8_sums s8_g, aJ cy (ad 30) 4 a5_coming_9, aI cy (ad 31) 3 a5_picked_10, aI cy (ad 34) 8 a7_values, aI cy (ad 35) 16 a8_a, aI cy (ad 36) 4 a8_b, aI cy (ad 37) 4 a8_e, aI cy (ad 38) 4 a8_h, aJ cy rp1 4 p1] := hD.sub [5, 6, 0, 7, 8, 9, 1, 2, 3, 4, 10] (by decide) rfl
  refine lv_aload_n hx hb dX5_advance_56 rfl (lv_at hl 0 rfl) ?_
  refine lv_aload_n hx hb dX5_advance_57 rfl (lv_at hl 1 rfl) ?_
  have hPc := hP.sub (ws' := [oX5 ad s5_kind s5_sums, aJ cy (ad 30) 4 a5_coming_9, aJ cy rp1 4 p1]) [0, 3, 10] rfl
  have hDc := hD.sub (ws' := [oX5 ad s5_kind s5_sums, aJ cy (ad 30) 4 a5_coming_9, aJ cy rp1 4 p1]) [0, 3, 10] (by decide) rfl
  refine k_cali (wc := [oX5 ad s5_kind s5_sums, aJ cy (ad 30) 4 a5_coming_9, aJ cy rp1 4 p1]) (wr := [oX7 ad s7_over s7_count, oX8 ad s8_sums s8_g, aI cy (ad 31) 3 a5_picked_10, aI cy (ad 34) 8 a7_values, aI cy (ad 35) 16 a8_a, aI cy (ad 36) 4 a8_b, aI cy (ad 37) 4 a8_e, aI cy (ad 38) 4 a8_h]) (va_runV (As := [.ref rp1]) (rest := []) ⟨hx, hb, hml, hown, hts⟩ (m_X5_settle l D cy ad s5_kind s5_sums a5_coming_9 p1 rp1 H.size hv) (cwV 1 hts gX5_advance_X5_settle rfl rfl rfl (by decide +kernel) ⟨Nat.le_of_ble_eq_true rfl, Nat.le_of_ble_eq_true rfl⟩) ⟨wd_blind, va_recv hK hPc (ci := 5) (q0 := 0) rfl rfl, wd_ok hPc hK hDc hN⟩ rfl rfl hl.1 rfl (lv_room (Nat.le_of_ble_eq_true rfl)) dX5_advance_58 ⟨Nat.le_of_ble_eq_true rfl, Nat.le_of_ble_eq_true rfl⟩) hP hD hS hA [0, 3, 10] [1, 2, 4, 5, 6, 7, 8, 9] rfl rfl (by decide) (by decide) (fun r11 p1_12 H locs hv hP hD hS => ?_)
  obtain ⟨hz_r11, hv⟩ := hv
  have hP : va_P D vwCl [oX5 ad s5_kind s5_sums, oX7 ad s7_over s7_count, oX8 ad s8_sums s8_g, aJ cy (ad 30) 4 a5_coming_9, aI cy (ad 31) 3 a5_picked_10, aI cy (ad 34) 8 a7_values, aI cy (ad 35) 16 a8_a, aI cy (ad 36) 4 a8_b, aI cy (ad 37) 4 a8_e, aI cy (ad 38) 4 a8_h, aJ cy rp1 4 p1_12] H := hP.sub [8, 0, 1, 9, 2, 3, 4, 5, 6, 7, 10] rfl
  have hD : va_D A [oX5 ad s5_kind s5_sums, oX7 ad s7_over s7_count, oX8 ad s8_sums s8_g, aJ cy (ad 30) 4 a5_coming_9, aI cy (ad 31) 3 a5_picked_10, aI cy (ad 34) 8 a7_values, aI cy (ad 35) 16 a8_a, aI cy (ad 36) 4 a8_b, aI cy (ad 37) 4 a8_e, aI cy (ad 38) 4 a8_h, aJ cy rp1 4 p1_12] := hD.sub [8, 0, 1, 9, 2, 3, 4, 5, 6, 7, 10] (by decide) rfl
  rw [← hQ]
  exact k_zret hx hb hr hlocks hS (a5_coming_9, a5_picked_10, p1_12) hP hD hz_r11 hv dX5_advance_61
theorem in_X0_staysFromPlace_5 : ∀ w ∈ wsX50, w ∈ wsX0_staysFromPlace := by decide +kernel
theorem lk_X0_staysFromPlace_21 : Cond.fieldLink RX0 21 "CoarseSteps$Box" "at" "[J" ∈ wsX0_staysFromPlace := by decide +kernel
theorem in_X0_staysFromPlace_0 : ∀ w ∈ wsX00, w ∈ wsX0_staysFromPlace := by decide +kernel
theorem lk_X0_staysFromPlace_18 : Cond.fieldLink RX0 18 "CoarseSteps$Box" "place" "[J" ∈ wsX0_staysFromPlace := by decide +kernel
abbrev rm_X0_staysFromPlace : Room := { frames := 4, cells := 0, slots := 0, locals := 96 }
set_option maxHeartbeats 4000000 in
set_option maxRecDepth 100000 in
theorem m_X0_staysFromPlace (l : Launch) (D : va_G) (cy : ClassId × ClassId × ClassId) (ad : Nat → Nat) (s5_kind : Int32) (s5_sums : Int32) (s7_over : Int32) (s7_count : Int32) (s8_sums : Int32) (s8_g : Int32) (a0_least : Nat → Int64) (a0_most : Nat → Int64) (a0_place : Nat → Int64) (a0_at : Nat → Int64) (a5_coming : Nat → Int64) (a5_picked : Nat → Int32) (a7_values : Nat → Int32) (a8_a : Nat → Int32) (a8_b : Nat → Int32) (a8_e : Nat → Int32) (a8_h : Nat → Int32) (x2 : Int32) (x3 : Int32) (sz : Nat) {K : Int32 → (Nat → Int64) → (Nat → Int64) → (Nat → Int32) → Prop} (hv : v_X0_staysFromPlace s5_kind s5_sums s7_over s7_count s8_sums s8_g a0_least a0_most a0_place a0_at a5_coming a5_picked a7_values a8_a a8_b a8_e a8_h x2 x3 K) : Met l yX0_staysFromPlace wsX0_staysFromPlace rm_X0_staysFromPlace (va_Pc [.ref (ad 0), .ref (ad 5), .int x2, .int x3] (wd D cy [oX0 ad , oX5 ad s5_kind s5_sums, oX7 ad s7_over s7_count, oX8 ad s8_sums s8_g, aJ cy (ad 20) 4 a0_least, aJ cy (ad 21) 4 a0_most, aJ cy (ad 22) 4 a0_place, aJ cy (ad 23) 4 a0_at, aJ cy (ad 30) 4 a5_coming, aI cy (ad 31) 3 a5_picked, aI cy (ad 34) 8 a7_values, aI cy (ad 35) 16 a8_a, aI cy (ad 36) 4 a8_b, aI cy (ad 37) 4 a8_e, aI cy (ad 38) 4 a8_h] sz)) (va_Qi (fun (r : Int32) (u : (Nat → Int64) × (Nat → Int64) × (Nat → Int32)) => (r = 0 ∨ r = 1) ∧ K r u.1 u.2.1 u.2.2) (fun u t => we D ((fun u : (Nat → Int64) × (Nat → Int64) × (Nat → Int32) => [oX0 ad , oX5 ad s5_kind s5_sums, oX7 ad s7_over s7_count, oX8 ad s8_sums s8_g, aJ cy (ad 20) 4 a0_least, aJ cy (ad 21) 4 a0_most, aJ cy (ad 22) 4 a0_place, aJ cy (ad 23) 4 u.1, aJ cy (ad 30) 4 u.2.1, aI cy (ad 31) 3 u.2.2, aI cy (ad 34) 8 a7_values, aI cy (ad 35) 16 a8_a, aI cy (ad 36) 4 a8_b, aI cy (ad 37) 4 a8_e, aI cy (ad 38) 4 a8_h]) u) (va_A [oX0 ad , oX5 ad s5_kind s5_sums, oX7 ad s7_over s7_count, oX8 ad s8_sums s8_g, aJ cy (ad 20) 4 a0_least, aJ cy (ad 21) 4 a0_most, aJ cy (ad 22) 4 a0_place, aJ cy (ad 23) 4 a0_at, aJ cy (ad 30) 4 a5_coming, aI cy (ad 31) 3 a5_picked, aI cy (ad 34) 8 a7_values, aI cy (ad 35) 16 a8_a, aI cy (ad 36) 4 a8_b, aI cy (ad 37) 4 a8_e, aI cy (ad 38) 4 a8_h] sz) t) (va_A [oX0 ad , oX5 ad s5_kind s5_sums, oX7 ad s7_over s7_count, oX8 ad s8_sums s8_g, aJ cy (ad 20) 4 a0_least, aJ cy (ad 21) 4 a0_most, aJ cy (ad 22) 4 a0_place, aJ cy (ad 23) 4 a0_at, aJ cy (ad 30) 4 a5_coming, aI cy (ad 31) 3 a5_picked, aI cy (ad 34) 8 a7_values, aI cy (ad 35) 16 a8_a, aI cy (ad 36) 4 a8_b, aI cy (ad 37) 4 a8_e, aI cy (ad 38) 4 a8_h] sz)) 0 0 (va_A [oX0 ad , oX5 ad s5_kind s5_sums, oX7 ad s7_over s7_count, oX8 ad s8_sums s8_g, aJ cy (ad 20) 4 a0_least, aJ cy (ad 21) 4 a0_most, aJ cy (ad 22) 4 a0_place, aJ cy (ad 23) 4 a0_at, aJ cy (ad 30) 4 a5_coming, aI cy (ad 31) 3 a5_picked, aI cy (ad 34) 8 a7_values, aI cy (ad 35) 16 a8_a, aI cy (ad 36) 4 a8_b, aI cy (ad 37) 4 a8_e, aI cy (ad 38) 4 a8_h] sz) := by
  refine k_ofW (cc := cX0_staysFromPlace) (maxL := 6) (ret := (some .boolean)) (fun A => va_Qi (fun (r : Int32) (u : (Nat → Int64) × (Nat → Int64) × (Nat → Int32)) => (r = 0 ∨ r = 1) ∧ K r u.1 u.2.1 u.2.2) (fun u t => we D ((fun u : (Nat → Int64) × (Nat → Int64) × (Nat → Int32) => [oX0 ad , oX5 ad s5_kind s5_sums, oX7 ad s7_over s7_count, oX8 ad s8_sums s8_g, aJ cy (ad 20) 4 a0_least, aJ cy (ad 21) 4 a0_most, aJ cy (ad 22) 4 a0_place, aJ cy (ad 23) 4 u.1, aJ cy (ad 30) 4 u.2.1, aI cy (ad 31) 3 u.2.2, aI cy (ad 34) 8 a7_values, aI cy (ad 35) 16 a8_a, aI cy (ad 36) 4 a8_b, aI cy (ad 37) 4 a8_e, aI cy (ad 38) 4 a8_h]) u) A t) A) (by decide) rfl (Nat.le_of_ble_eq_true rfl) ?_
  intro p e s m below meth c A ls H locs hx hb hml hr hts hown hlocks hname hK hN hA hP hD hS hl
  have hl : lv_has ls 6 [(0, .ref (ad 0)), (1, .ref (ad 5)), (2, .int x2), (3, .int x3)] := hl
  generalize hQ : MQ below _ _ s _ _ A = Q
  unfold v_X0_staysFromPlace at hv
  refine lv_iload_n hx hb dX0_staysFromPlace_0 rfl (lv_at hl 2 rfl) ?_
  refine lv_istore (lv' := [(4, .int x2), (0, .ref (ad 0)), (1, .ref (ad 5)), (2, .int x2), (3, .int x3)]) hx hb dX0_staysFromPlace_1 hl (by decide) rfl (fun ls hl => ?_)
  have lp3 : ∀ (n3 : Nat) (l4_1 : Int32) (a0_at_2 : Nat → Int64) (a5_coming_3 : Nat → Int64) (a5_picked_4 : Nat → Int32) (H : Heap) (locs : List Loc) (ls : Array Slot), vfix (vF_X0_staysFromPlace_3 s5_kind s5_sums s7_over s7_count s8_sums s8_g a0_least a0_most a0_place a7_values a8_a a8_b a8_e a8_h x3 K) n3 (l4_1, a0_at_2, a5_coming_3, a5_picked_4) → lv_has ls 6 [(4, .int l4_1), (0, .ref (ad 0)), (1, .ref (ad 5)), (3, .int x3)] → va_P D vwCl [oX0 ad , oX5 ad s5_kind s5_sums, oX7 ad s7_over s7_count, oX8 ad s8_sums s8_g, aJ cy (ad 20) 4 a0_least, aJ cy (ad 21) 4 a0_most, aJ cy (ad 22) 4 a0_place, aJ cy (ad 23) 4 a0_at_2, aJ cy (ad 30) 4 a5_coming_3, aI cy (ad 31) 3 a5_picked_4, aI cy (ad 34) 8 a7_values, aI cy (ad 35) 16 a8_a, aI cy (ad 36) 4 a8_b, aI cy (ad 37) 4 a8_e, aI cy (ad 38) 4 a8_h] H → va_D A [oX0 ad , oX5 ad s5_kind s5_sums, oX7 ad s7_over s7_count, oX8 ad s8_sums s8_g, aJ cy (ad 20) 4 a0_least, aJ cy (ad 21) 4 a0_most, aJ cy (ad 22) 4 a0_place, aJ cy (ad 23) 4 a0_at_2, aJ cy (ad 30) 4 a5_coming_3, aI cy (ad 31) 3 a5_picked_4, aI cy (ad 34) 8 a7_values, aI cy (ad 35) 16 a8_a, aI cy (ad 36) 4 a8_b, aI cy (ad 37) 4 a8_e, aI cy (ad 38) 4 a8_h] → va_S A s.heap H locs → W p l e rm_X0_staysFromPlace s m ([.ref (ad 0), .ref (ad 5), .int x2, .int x3] : List Value).toArray below meth c H locs 0 0 Q (F0 m 3 ls []) := by
    intro n3
    induction n3 with
    | zero => intro l4_1 a0_at_2 a5_coming_3 a5_picked_4 H locs ls hv; exact hv.elim
    | succ n3 ih3 =>
      intro l4_1 a0_at_2 a5_coming_3 a5_picked_4 H locs ls hv hl hP hD hS
      have hv : vB_X0_staysFromPlace_3 s5_kind s5_sums s7_over s7_count s8_sums s8_g a0_least a0_most a0_place a7_values a8_a a8_b a8_e a8_h x3 K (fun z0 z1 z2 z3 => vfix (vF_X0_staysFromPlace_3 s5_kind s5_sums s7_over s7_count s8_sums s8_g a0_least a0_most a0_place a7_values a8_a a8_b a8_e a8_h x3 K) n3 (z0, z1, z2, z3)) l4_1 a0_at_2 a5_coming_3 a5_picked_4 := hv
      unfold vB_X0_staysFromPlace_3 at hv
      refine lv_iload hx hb dX0_staysFromPlace_3 (lv_at hl 0 rfl) ?_
      refine lv_iload_n hx hb dX0_staysFromPlace_5 rfl (lv_at hl 3 rfl) ?_
      refine lv_icmp_gt (tgt := 73) hx hb dX0_staysFromPlace_6 (by decide) (fun c_6 => ?_) (fun c_6 => ?_)
      · have hv := hv.1 c_6
        refine lv_iconst (v := 1) hx hb dX0_staysFromPlace_73 (by decide) ?_
        rw [← hQ]
        exact k_zret hx hb hr hlocks hS (a0_at_2, a5_coming_3, a5_picked_4) hP hD (by decide) hv dX0_staysFromPlace_74
      · have hv := hv.2 c_6
        refine lv_iconst (v := 0) hx hb dX0_staysFromPlace_9 (by decide) ?_
        refine lv_istore (lv' := [(5, .int (0 : Int32)), (4, .int l4_1), (0, .ref (ad 0)), (1, .ref (ad 5)), (3, .int x3)]) hx hb dX0_staysFromPlace_10 hl (by decide) rfl (fun ls hl => ?_)
        have lp12 : ∀ (n12 : Nat) (l5_5 : Int32) (a0_at_6 : Nat → Int64) (H : Heap) (locs : List Loc) (ls : Array Slot), vfix (vF_X0_staysFromPlace_12 s5_kind s5_sums s7_over s7_count s8_sums s8_g a0_least a0_most a0_place a7_values a8_a a8_b a8_e a8_h K l4_1 a5_coming_3 a5_picked_4 (fun z0 z1 z2 z3 => vfix (vF_X0_staysFromPlace_3 s5_kind s5_sums s7_over s7_count s8_sums s8_g a0_least a0_most a0_place a7_values a8_a a8_b a8_e a8_h x3 K) n3 (z0, z1, z2, z3))) n12 (l5_5, a0_at_6) → lv_has ls 6 [(5, .int l5_5), (4, .int l4_1), (0, .ref (ad 0)), (1, .ref (ad 5)), (3, .int x3)] → va_P D vwCl [oX0 ad , oX5 ad s5_kind s5_sums, oX7 ad s7_over s7_count, oX8 ad s8_sums s8_g, aJ cy (ad 20) 4 a0_least, aJ cy (ad 21) 4 a0_most, aJ cy (ad 22) 4 a0_place, aJ cy (ad 23) 4 a0_at_6, aJ cy (ad 30) 4 a5_coming_3, aI cy (ad 31) 3 a5_picked_4, aI cy (ad 34) 8 a7_values, aI cy (ad 35) 16 a8_a, aI cy (ad 36) 4 a8_b, aI cy (ad 37) 4 a8_e, aI cy (ad 38) 4 a8_h] H → va_D A [oX0 ad , oX5 ad s5_kind s5_sums, oX7 ad s7_over s7_count, oX8 ad s8_sums s8_g, aJ cy (ad 20) 4 a0_least, aJ cy (ad 21) 4 a0_most, aJ cy (ad 22) 4 a0_place, aJ cy (ad 23) 4 a0_at_6, aJ cy (ad 30) 4 a5_coming_3, aI cy (ad 31) 3 a5_picked_4, aI cy (ad 34) 8 a7_values, aI cy (ad 35) 16 a8_a, aI cy (ad 36) 4 a8_b, aI cy (ad 37) 4 a8_e, aI cy (ad 38) 4 a8_h] → va_S A s.heap H locs → W p l e rm_X0_staysFromPlace s m ([.ref (ad 0), .ref (ad 5), .int x2, .int x3] : List Value).toArray below meth c H locs 0 0 Q (F0 m 12 ls []) := by
          intro n12
          induction n12 with
          | zero => intro l5_5 a0_at_6 H locs ls hv; exact hv.elim
          | succ n12 ih12 =>
            intro l5_5 a0_at_6 H locs ls hv hl hP hD hS
            have hv : vB_X0_staysFromPlace_12 s5_kind s5_sums s7_over s7_count s8_sums s8_g a0_least a0_most a0_place a7_values a8_a a8_b a8_e a8_h K l4_1 a5_coming_3 a5_picked_4 (fun z0 z1 z2 z3 => vfix (vF_X0_staysFromPlace_3 s5_kind s5_sums s7_over s7_count s8_sums s8_g a0_least a0_most a0_place a7_values a8_a a8_b a8_e a8_h x3 K) n3 (z0, z1, z2, z3)) (fun z0 z1 => vfix (vF_X0_staysFromPlace_12 s5_kind s5_sums s7_over s7_count s8_sums s8_g a0_least a0_most a0_place a7_values a8_a a8_b a8_e a8_h K l4_1 a5_coming_3 a5_picked_4 (fun z0 z1 z2 z3 => vfix (vF_X0_staysFromPlace_3 s5_kind s5_sums s7_over s7_count s8_sums s8_g a0_least a0_most a0_place a7_values a8_a a8_b a8_e a8_h x3 K) n3 (z0, z1, z2, z3))) n12 (z0, z1)) l5_5 a0_at_6 := hv
            unfold vB_X0_staysFromPlace_12 at hv
            refine lv_iload hx hb dX0_staysFromPlace_12 (lv_at hl 0 rfl) ?_
            refine lv_aload_n hx hb dX0_staysFromPlace_14 rfl (lv_at hl 3 rfl) ?_
            refine va_getN (D := D) (ci := 5) (v := .int s5_sums) (C := RX5) (T := TX5) (N := 6) hx hb hts in_X0_staysFromPlace_5 hown hK hP 1 rfl rfl 5 (by decide) (nz_use hN nzf_X0_24) (fun _ h9 => h9) rfl dX0_staysFromPlace_15 ?_
            refine lv_icmp_ge (tgt := 41) hx hb dX0_staysFromPlace_18 (by decide) (fun c_18 => ?_) (fun c_18 => ?_)
            · have hv := hv.1 c_18
              refine lv_aload_n hx hb dX0_staysFromPlace_41 rfl (lv_at hl 3 rfl) ?_
              refine lv_aload_n hx hb dX0_staysFromPlace_42 rfl (lv_at hl 2 rfl) ?_
              refine va_get (D := D) (ci := 0) (v := .ref (ad 23)) (C := RX0) (T := TX0) (N := 4) hx hb hts in_X0_staysFromPlace_0 hown hK hP 0 rfl rfl 3 (by decide) (hts _ lk_X0_staysFromPlace_21) (fun _ h9 => h9) rfl dX0_staysFromPlace_43 ?_
              refine lv_iload hx hb dX0_staysFromPlace_46 (lv_at hl 1 rfl) ?_
              have hPc := hP.sub (ws' := [oX5 ad s5_kind s5_sums, oX7 ad s7_over s7_count, oX8 ad s8_sums s8_g, aJ cy (ad 30) 4 a5_coming_3, aI cy (ad 31) 3 a5_picked_4, aI cy (ad 34) 8 a7_values, aI cy (ad 35) 16 a8_a, aI cy (ad 36) 4 a8_b, aI cy (ad 37) 4 a8_e, aI cy (ad 38) 4 a8_h, aJ cy (ad 23) 4 a0_at_6]) [1, 2, 3, 8, 9, 10, 11, 12, 13, 14, 7] rfl
              have hDc := hD.sub (ws' := [oX5 ad s5_kind s5_sums, oX7 ad s7_over s7_count, oX8 ad s8_sums s8_g, aJ cy (ad 30) 4 a5_coming_3, aI cy (ad 31) 3 a5_picked_4, aI cy (ad 34) 8 a7_values, aI cy (ad 35) 16 a8_a, aI cy (ad 36) 4 a8_b, aI cy (ad 37) 4 a8_e, aI cy (ad 38) 4 a8_h, aJ cy (ad 23) 4 a0_at_6]) [1, 2, 3, 8, 9, 10, 11, 12, 13, 14, 7] (by decide) rfl
              refine k_cali (wc := [oX5 ad s5_kind s5_sums, oX7 ad s7_over s7_count, oX8 ad s8_sums s8_g, aJ cy (ad 30) 4 a5_coming_3, aI cy (ad 31) 3 a5_picked_4, aI cy (ad 34) 8 a7_values, aI cy (ad 35) 16 a8_a, aI cy (ad 36) 4 a8_b, aI cy (ad 37) 4 a8_e, aI cy (ad 38) 4 a8_h, aJ cy (ad 23) 4 a0_at_6]) (wr := [oX0 ad , aJ cy (ad 20) 4 a0_least, aJ cy (ad 21) 4 a0_most, aJ cy (ad 22) 4 a0_place]) (va_runV (As := [.ref (ad 23), .int l4_1]) (rest := []) ⟨hx, hb, hml, hown, hts⟩ (m_X5_advance l D cy ad s5_kind s5_sums s7_over s7_count s8_sums s8_g a5_coming_3 a5_picked_4 a7_values a8_a a8_b a8_e a8_h a0_at_6 (ad 23) l4_1 H.size hv) (cwV 2 hts gX0_staysFromPlace_X5_advance rfl rfl rfl (by decide +kernel) ⟨Nat.le_of_ble_eq_true rfl, Nat.le_of_ble_eq_true rfl⟩) ⟨wd_blind, va_recv hK hPc (ci := 5) (q0 := 0) rfl rfl, wd_ok hPc hK hDc hN⟩ rfl rfl hl.1 rfl (lv_room (Nat.le_of_ble_eq_true rfl)) dX0_staysFromPlace_48 ⟨Nat.le_of_ble_eq_true rfl, Nat.le_of_ble_eq_true rfl⟩) hP hD hS hA [1, 2, 3, 8, 9, 10, 11, 12, 13, 14, 7] [0, 4, 5, 6] rfl rfl (by decide) (by decide) (fun r7 u H locs hv hP hD hS => ?_)
              obtain ⟨a5_coming_8, a5_picked_9, a0_at_10⟩ := u
              obtain ⟨hz_r7, hv⟩ := hv
              have hP : va_P D vwCl [oX0 ad , oX5 ad s5_kind s5_sums, oX7 ad s7_over s7_count, oX8 ad s8_sums s8_g, aJ cy (ad 20) 4 a0_least, aJ cy (ad 21) 4 a0_most, aJ cy (ad 22) 4 a0_place, aJ cy (ad 23) 4 a0_at_10, aJ cy (ad 30) 4 a5_coming_8, aI cy (ad 31) 3 a5_picked_9, aI cy (ad 34) 8 a7_values, aI cy (ad 35) 16 a8_a, aI cy (ad 36) 4 a8_b, aI cy (ad 37) 4 a8_e, aI cy (ad 38) 4 a8_h] H := hP.sub [0, 4, 5, 6, 1, 2, 3, 14, 7, 8, 9, 10, 11, 12, 13] rfl
              have hD : va_D A [oX0 ad , oX5 ad s5_kind s5_sums, oX7 ad s7_over s7_count, oX8 ad s8_sums s8_g, aJ cy (ad 20) 4 a0_least, aJ cy (ad 21) 4 a0_most, aJ cy (ad 22) 4 a0_place, aJ cy (ad 23) 4 a0_at_10, aJ cy (ad 30) 4 a5_coming_8, aI cy (ad 31) 3 a5_picked_9, aI cy (ad 34) 8 a7_values, aI cy (ad 35) 16 a8_a, aI cy (ad 36) 4 a8_b, aI cy (ad 37) 4 a8_e, aI cy (ad 38) 4 a8_h] := hD.sub [0, 4, 5, 6, 1, 2, 3, 14, 7, 8, 9, 10, 11, 12, 13] (by decide) rfl
              refine lv_if_eq (tgt := 65) hx hb dX0_staysFromPlace_51 (by decide) (fun c_51 => ?_) (fun c_51 => ?_)
              · have hv := hv.1 c_51
                refine lv_iconst (v := 0) hx hb dX0_staysFromPlace_65 (by decide) ?_
                rw [← hQ]
                exact k_zret hx hb hr hlocks hS (a0_at_10, a5_coming_8, a5_picked_9) hP hD (by decide) hv dX0_staysFromPlace_66
              · have hv := hv.2 c_51
                refine lv_aload_n hx hb dX0_staysFromPlace_54 rfl (lv_at hl 2 rfl) ?_
                refine lv_aload_n hx hb dX0_staysFromPlace_55 rfl (lv_at hl 3 rfl) ?_
                refine va_getN (D := D) (ci := 5) (v := .int s5_sums) (C := RX5) (T := TX5) (N := 6) hx hb hts in_X0_staysFromPlace_5 hown hK hP 1 rfl rfl 5 (by decide) (nz_use hN nzf_X0_24) (fun _ h9 => h9) rfl dX0_staysFromPlace_56 ?_
                have hPc := hP.sub (ws' := [oX0 ad , aJ cy (ad 20) 4 a0_least, aJ cy (ad 21) 4 a0_most, aJ cy (ad 23) 4 a0_at_10]) [0, 4, 5, 7] rfl
                have hDc := hD.sub (ws' := [oX0 ad , aJ cy (ad 20) 4 a0_least, aJ cy (ad 21) 4 a0_most, aJ cy (ad 23) 4 a0_at_10]) [0, 4, 5, 7] (by decide) rfl
                refine k_cali (wc := [oX0 ad , aJ cy (ad 20) 4 a0_least, aJ cy (ad 21) 4 a0_most, aJ cy (ad 23) 4 a0_at_10]) (wr := [oX5 ad s5_kind s5_sums, oX7 ad s7_over s7_count, oX8 ad s8_sums s8_g, aJ cy (ad 22) 4 a0_place, aJ cy (ad 30) 4 a5_coming_8, aI cy (ad 31) 3 a5_picked_9, aI cy (ad 34) 8 a7_values, aI cy (ad 35) 16 a8_a, aI cy (ad 36) 4 a8_b, aI cy (ad 37) 4 a8_e, aI cy (ad 38) 4 a8_h]) (va_runV (As := [.int s5_sums]) (rest := []) ⟨hx, hb, hml, hown, hts⟩ (m_X0_isInside l D cy ad a0_least a0_most a0_at_10 s5_sums H.size hv) (cwV 1 hts gX0_staysFromPlace_X0_isInside rfl rfl rfl (by decide +kernel) ⟨Nat.le_of_ble_eq_true rfl, Nat.le_of_ble_eq_true rfl⟩) ⟨wd_blind, va_recv hK hPc (ci := 0) (q0 := 0) rfl rfl, wd_ok hPc hK hDc hN⟩ rfl rfl hl.1 rfl (lv_room (Nat.le_of_ble_eq_true rfl)) dX0_staysFromPlace_59 ⟨Nat.le_of_ble_eq_true rfl, Nat.le_of_ble_eq_true rfl⟩) hP hD hS hA [0, 4, 5, 7] [1, 2, 3, 6, 8, 9, 10, 11, 12, 13, 14] rfl rfl (by decide) (by decide) (fun r11 u H locs hv hP hD hS => ?_)
                obtain ⟨hz_r11, hv⟩ := hv
                have hP : va_P D vwCl [oX0 ad , oX5 ad s5_kind s5_sums, oX7 ad s7_over s7_count, oX8 ad s8_sums s8_g, aJ cy (ad 20) 4 a0_least, aJ cy (ad 21) 4 a0_most, aJ cy (ad 22) 4 a0_place, aJ cy (ad 23) 4 a0_at_10, aJ cy (ad 30) 4 a5_coming_8, aI cy (ad 31) 3 a5_picked_9, aI cy (ad 34) 8 a7_values, aI cy (ad 35) 16 a8_a, aI cy (ad 36) 4 a8_b, aI cy (ad 37) 4 a8_e, aI cy (ad 38) 4 a8_h] H := hP.sub [11, 0, 1, 2, 12, 13, 3, 14, 4, 5, 6, 7, 8, 9, 10] rfl
                have hD : va_D A [oX0 ad , oX5 ad s5_kind s5_sums, oX7 ad s7_over s7_count, oX8 ad s8_sums s8_g, aJ cy (ad 20) 4 a0_least, aJ cy (ad 21) 4 a0_most, aJ cy (ad 22) 4 a0_place, aJ cy (ad 23) 4 a0_at_10, aJ cy (ad 30) 4 a5_coming_8, aI cy (ad 31) 3 a5_picked_9, aI cy (ad 34) 8 a7_values, aI cy (ad 35) 16 a8_a, aI cy (ad 36) 4 a8_b, aI cy (ad 37) 4 a8_e, aI cy (ad 38) 4 a8_h] := hD.sub [11, 0, 1, 2, 12, 13, 3, 14, 4, 5, 6, 7, 8, 9, 10] (by decide) rfl
                refine lv_if_ne (tgt := 67) hx hb dX0_staysFromPlace_62 (by decide) (fun c_62 => ?_) (fun c_62 => ?_)
                · have hv := hv.1 c_62
                  obtain ⟨i12, h_i12⟩ : ∃ y : Int32, y = l4_1 + 1 := ⟨_, rfl⟩
                  refine lv_iinc (v := i12) (lv' := [(4, .int i12), (5, .int l5_5), (0, .ref (ad 0)), (1, .ref (ad 5)), (3, .int x3)]) hx hb dX0_staysFromPlace_67 hl (k := 1) rfl (by rw [h_i12]; rfl) (by decide) rfl (fun ls hl => ?_)
                  have hv := hv i12 h_i12
                  refine lv_goto (tgt := 3) hx hb dX0_staysFromPlace_70 (by decide) ?_
                  exact ih3 i12 a0_at_10 a5_coming_8 a5_picked_9 H locs ls hv (lv_sub hl [0, 2, 3, 4] rfl) hP hD hS
                · have hv := hv.2 c_62
                  refine lv_iconst (v := 0) hx hb dX0_staysFromPlace_65 (by decide) ?_
                  rw [← hQ]
                  exact k_zret hx hb hr hlocks hS (a0_at_10, a5_coming_8, a5_picked_9) hP hD (by decide) hv dX0_staysFromPlace_66
            · have hv := hv.2 c_18
              refine lv_aload_n hx hb dX0_staysFromPlace_21 rfl (lv_at hl 2 rfl) ?_
              refine va_get (D := D) (ci := 0) (v := .ref (ad 23)) (C := RX0) (T := TX0) (N := 4) hx hb hts in_X0_staysFromPlace_0 hown hK hP 0 rfl rfl 3 (by decide) (hts _ lk_X0_staysFromPlace_21) (fun _ h9 => h9) rfl dX0_staysFromPlace_22 ?_
              refine lv_iload hx hb dX0_staysFromPlace_25 (lv_at hl 0 rfl) ?_
              refine lv_aload_n hx hb dX0_staysFromPlace_27 rfl (lv_at hl 2 rfl) ?_
              refine va_get (D := D) (ci := 0) (v := .ref (ad 22)) (C := RX0) (T := TX0) (N := 4) hx hb hts in_X0_staysFromPlace_0 hown hK hP 0 rfl rfl 2 (by decide) (hts _ lk_X0_staysFromPlace_18) (fun _ h9 => h9) rfl dX0_staysFromPlace_28 ?_
              refine lv_iload hx hb dX0_staysFromPlace_31 (lv_at hl 0 rfl) ?_
              refine va_lald hx hb hK hP 6 1 rfl rfl hv.1 dX0_staysFromPlace_33 ?_
              refine lv_topl (fun g13 h_g13 => ?_)
              have hv := hv.2 g13 h_g13
              refine k_last hx hb hK hP hD hS 7 1 rfl rfl hv.1 dX0_staysFromPlace_34 (fun a0_at_14 H locs h_a0_at_14 hP hD hS => ?_)
              have hv := hv.2 a0_at_14 h_a0_at_14
              have hP : va_P D vwCl [oX0 ad , oX5 ad s5_kind s5_sums, oX7 ad s7_over s7_count, oX8 ad s8_sums s8_g, aJ cy (ad 20) 4 a0_least, aJ cy (ad 21) 4 a0_most, aJ cy (ad 22) 4 a0_place, aJ cy (ad 23) 4 a0_at_14, aJ cy (ad 30) 4 a5_coming_3, aI cy (ad 31) 3 a5_picked_4, aI cy (ad 34) 8 a7_values, aI cy (ad 35) 16 a8_a, aI cy (ad 36) 4 a8_b, aI cy (ad 37) 4 a8_e, aI cy (ad 38) 4 a8_h] H := hP
              have hD : va_D A [oX0 ad , oX5 ad s5_kind s5_sums, oX7 ad s7_over s7_count, oX8 ad s8_sums s8_g, aJ cy (ad 20) 4 a0_least, aJ cy (ad 21) 4 a0_most, aJ cy (ad 22) 4 a0_place, aJ cy (ad 23) 4 a0_at_14, aJ cy (ad 30) 4 a5_coming_3, aI cy (ad 31) 3 a5_picked_4, aI cy (ad 34) 8 a7_values, aI cy (ad 35) 16 a8_a, aI cy (ad 36) 4 a8_b, aI cy (ad 37) 4 a8_e, aI cy (ad 38) 4 a8_h] := hD
              obtain ⟨i15, h_i15⟩ : ∃ y : Int32, y = l5_5 + 1 := ⟨_, rfl⟩
              refine lv_iinc (v := i15) (lv' := [(5, .int i15), (4, .int l4_1), (0, .ref (ad 0)), (1, .ref (ad 5)), (3, .int x3)]) hx hb dX0_staysFromPlace_35 hl (k := 0) rfl (by rw [h_i15]; rfl) (by decide) rfl (fun ls hl => ?_)
              have hv := hv i15 h_i15
              refine lv_goto (tgt := 12) hx hb dX0_staysFromPlace_38 (by decide) ?_
              exact ih12 i15 a0_at_14 H locs ls hv (lv_sub hl [0, 1, 2, 3, 4] rfl) hP hD hS
        obtain ⟨nn, hv⟩ := hv
        exact lp12 nn (0 : Int32) a0_at_2 H locs ls hv (lv_sub hl [0, 1, 2, 3, 4] rfl) hP hD hS
  obtain ⟨nn, hv⟩ := hv
  exact lp3 nn x2 a0_at a5_coming a5_picked H locs ls hv (lv_sub hl [0, 1, 2, 4] rfl) hP hD hS
theorem lk_X0_toNextPlace_18 : Cond.fieldLink RX0 18 "CoarseSteps$Box" "place" "[J" ∈ wsX0_toNextPlace := by decide +kernel
theorem in_X0_toNextPlace_0 : ∀ w ∈ wsX00, w ∈ wsX0_toNextPlace := by decide +kernel
theorem lk_X0_toNextPlace_15 : Cond.fieldLink RX0 15 "CoarseSteps$Box" "most" "[J" ∈ wsX0_toNextPlace := by decide +kernel
theorem lk_X0_toNextPlace_9 : Cond.fieldLink RX0 9 "CoarseSteps$Box" "least" "[J" ∈ wsX0_toNextPlace := by decide +kernel
abbrev rm_X0_toNextPlace : Room := { frames := 0, cells := 0, slots := 0, locals := 0 }
set_option maxHeartbeats 4000000 in
set_option maxRecDepth 100000 in
theorem m_X0_toNextPlace (l : Launch) (D : va_G) (cy : ClassId × ClassId × ClassId) (ad : Nat → Nat) (a0_least : Nat → Int64) (a0_most : Nat → Int64) (a0_place : Nat → Int64) (x1 : Int32) (sz : Nat) {K : (Nat → Int64) → Prop} (hv : v_X0_toNextPlace a0_least a0_most a0_place x1 K) : Met l yX0_toNextPlace wsX0_toNextPlace rm_X0_toNextPlace (va_Pc [.ref (ad 0), .int x1] (wd D cy [oX0 ad , aJ cy (ad 20) 4 a0_least, aJ cy (ad 21) 4 a0_most, aJ cy (ad 22) 4 a0_place] sz)) (va_Qv (fun u : (Nat → Int64) => K u) (fun u t => we D ((fun u : (Nat → Int64) => [oX0 ad , aJ cy (ad 20) 4 a0_least, aJ cy (ad 21) 4 a0_most, aJ cy (ad 22) 4 u]) u) (va_A [oX0 ad , aJ cy (ad 20) 4 a0_least, aJ cy (ad 21) 4 a0_most, aJ cy (ad 22) 4 a0_place] sz) t) (va_A [oX0 ad , aJ cy (ad 20) 4 a0_least, aJ cy (ad 21) 4 a0_most, aJ cy (ad 22) 4 a0_place] sz)) 0 0 (va_A [oX0 ad , aJ cy (ad 20) 4 a0_least, aJ cy (ad 21) 4 a0_most, aJ cy (ad 22) 4 a0_place] sz) := by
  refine k_ofW (cc := cX0_toNextPlace) (maxL := 3) (ret := none) (fun A => va_Qv (fun u : (Nat → Int64) => K u) (fun u t => we D ((fun u : (Nat → Int64) => [oX0 ad , aJ cy (ad 20) 4 a0_least, aJ cy (ad 21) 4 a0_most, aJ cy (ad 22) 4 u]) u) A t) A) (by decide) rfl (Nat.le_of_ble_eq_true rfl) ?_
  intro p e s m below meth c A ls H locs hx hb hml hr hts hown hlocks hname hK hN hA hP hD hS hl
  have hl : lv_has ls 3 [(0, .ref (ad 0)), (1, .int x1)] := hl
  generalize hQ : MQ below _ _ s _ _ A = Q
  unfold v_X0_toNextPlace at hv
  refine lv_iconst (v := 0) hx hb dX0_toNextPlace_0 (by decide) ?_
  refine lv_istore_n (lv' := [(2, .int (0 : Int32)), (0, .ref (ad 0)), (1, .int x1)]) hx hb dX0_toNextPlace_1 rfl hl (by decide) rfl (fun ls hl => ?_)
  have lp2 : ∀ (n2 : Nat) (l2_1 : Int32) (a0_place_2 : Nat → Int64) (H : Heap) (locs : List Loc) (ls : Array Slot), vfix (vF_X0_toNextPlace_2 a0_least a0_most x1 K) n2 (l2_1, a0_place_2) → lv_has ls 3 [(2, .int l2_1), (0, .ref (ad 0)), (1, .int x1)] → va_P D vwCl [oX0 ad , aJ cy (ad 20) 4 a0_least, aJ cy (ad 21) 4 a0_most, aJ cy (ad 22) 4 a0_place_2] H → va_D A [oX0 ad , aJ cy (ad 20) 4 a0_least, aJ cy (ad 21) 4 a0_most, aJ cy (ad 22) 4 a0_place_2] → va_S A s.heap H locs → W p l e rm_X0_toNextPlace s m ([.ref (ad 0), .int x1] : List Value).toArray below meth c H locs 0 0 Q (F0 m 2 ls []) := by
    intro n2
    induction n2 with
    | zero => intro l2_1 a0_place_2 H locs ls hv; exact hv.elim
    | succ n2 ih2 =>
      intro l2_1 a0_place_2 H locs ls hv hl hP hD hS
      have hv : vB_X0_toNextPlace_2 a0_least a0_most x1 K (fun z0 z1 => vfix (vF_X0_toNextPlace_2 a0_least a0_most x1 K) n2 (z0, z1)) l2_1 a0_place_2 := hv
      unfold vB_X0_toNextPlace_2 at hv
      refine lv_iload_n hx hb dX0_toNextPlace_2 rfl (lv_at hl 0 rfl) ?_
      refine lv_iload_n hx hb dX0_toNextPlace_3 rfl (lv_at hl 2 rfl) ?_
      refine lv_icmp_ge (tgt := 52) hx hb dX0_toNextPlace_4 (by decide) (fun c_4 => ?_) (fun c_4 => ?_)
      · have hv := hv.1 c_4
        rw [← hQ]
        exact k_vret hx hb hr hlocks hS (a0_place_2) hP hD hv dX0_toNextPlace_52
      · have hv := hv.2 c_4
        refine lv_aload_n hx hb dX0_toNextPlace_7 rfl (lv_at hl 1 rfl) ?_
        refine va_get (D := D) (ci := 0) (v := .ref (ad 22)) (C := RX0) (T := TX0) (N := 4) hx hb hts in_X0_toNextPlace_0 hown hK hP 0 rfl rfl 2 (by decide) (hts _ lk_X0_toNextPlace_18) (fun _ h9 => h9) rfl dX0_toNextPlace_8 ?_
        refine lv_iload_n hx hb dX0_toNextPlace_11 rfl (lv_at hl 0 rfl) ?_
        refine va_lald hx hb hK hP 3 1 rfl rfl hv.1 dX0_toNextPlace_12 ?_
        refine lv_topl (fun g3 h_g3 => ?_)
        have hv := hv.2 g3 h_g3
        refine lv_aload_n hx hb dX0_toNextPlace_13 rfl (lv_at hl 1 rfl) ?_
        refine va_get (D := D) (ci := 0) (v := .ref (ad 21)) (C := RX0) (T := TX0) (N := 4) hx hb hts in_X0_toNextPlace_0 hown hK hP 0 rfl rfl 1 (by decide) (hts _ lk_X0_toNextPlace_15) (fun _ h9 => h9) rfl dX0_toNextPlace_14 ?_
        refine lv_iload_n hx hb dX0_toNextPlace_17 rfl (lv_at hl 0 rfl) ?_
        refine va_lald hx hb hK hP 2 1 rfl rfl hv.1 dX0_toNextPlace_18 ?_
        refine lv_topl (fun g4 h_g4 => ?_)
        have hv := hv.2 g4 h_g4
        refine k_lc_ge (tgt := 34) hx hb dX0_toNextPlace_19 dX0_toNextPlace_20 (by decide) (fun c_19 => ?_) (fun c_19 => ?_)
        · have hv := hv.1 c_19
          refine lv_aload_n hx hb dX0_toNextPlace_34 rfl (lv_at hl 1 rfl) ?_
          refine va_get (D := D) (ci := 0) (v := .ref (ad 22)) (C := RX0) (T := TX0) (N := 4) hx hb hts in_X0_toNextPlace_0 hown hK hP 0 rfl rfl 2 (by decide) (hts _ lk_X0_toNextPlace_18) (fun _ h9 => h9) rfl dX0_toNextPlace_35 ?_
          refine lv_iload_n hx hb dX0_toNextPlace_38 rfl (lv_at hl 0 rfl) ?_
          refine lv_aload_n hx hb dX0_toNextPlace_39 rfl (lv_at hl 1 rfl) ?_
          refine va_get (D := D) (ci := 0) (v := .ref (ad 20)) (C := RX0) (T := TX0) (N := 4) hx hb hts in_X0_toNextPlace_0 hown hK hP 0 rfl rfl 0 (by decide) (hts _ lk_X0_toNextPlace_9) (fun _ h9 => h9) rfl dX0_toNextPlace_40 ?_
          refine lv_iload_n hx hb dX0_toNextPlace_43 rfl (lv_at hl 0 rfl) ?_
          refine va_lald hx hb hK hP 1 1 rfl rfl hv.1 dX0_toNextPlace_44 ?_
          refine lv_topl (fun g5 h_g5 => ?_)
          have hv := hv.2 g5 h_g5
          refine k_last hx hb hK hP hD hS 3 1 rfl rfl hv.1 dX0_toNextPlace_45 (fun a0_place_6 H locs h_a0_place_6 hP hD hS => ?_)
          have hv := hv.2 a0_place_6 h_a0_place_6
          have hP : va_P D vwCl [oX0 ad , aJ cy (ad 20) 4 a0_least, aJ cy (ad 21) 4 a0_most, aJ cy (ad 22) 4 a0_place_6] H := hP
          have hD : va_D A [oX0 ad , aJ cy (ad 20) 4 a0_least, aJ cy (ad 21) 4 a0_most, aJ cy (ad 22) 4 a0_place_6] := hD
          obtain ⟨i7, h_i7⟩ : ∃ y : Int32, y = l2_1 + 1 := ⟨_, rfl⟩
          refine lv_iinc (v := i7) (lv' := [(2, .int i7), (0, .ref (ad 0)), (1, .int x1)]) hx hb dX0_toNextPlace_46 hl (k := 0) rfl (by rw [h_i7]; rfl) (by decide) rfl (fun ls hl => ?_)
          have hv := hv i7 h_i7
          refine lv_goto (tgt := 2) hx hb dX0_toNextPlace_49 (by decide) ?_
          exact ih2 i7 a0_place_6 H locs ls hv (lv_sub hl [0, 1, 2] rfl) hP hD hS
        · have hv := hv.2 c_19
          refine lv_aload_n hx hb dX0_toNextPlace_23 rfl (lv_at hl 1 rfl) ?_
          refine va_get (D := D) (ci := 0) (v := .ref (ad 22)) (C := RX0) (T := TX0) (N := 4) hx hb hts in_X0_toNextPlace_0 hown hK hP 0 rfl rfl 2 (by decide) (hts _ lk_X0_toNextPlace_18) (fun _ h9 => h9) rfl dX0_toNextPlace_24 ?_
          refine lv_iload_n hx hb dX0_toNextPlace_27 rfl (lv_at hl 0 rfl) ?_
          refine lv_dup2_11 hx hb dX0_toNextPlace_28 rfl rfl ?_
          refine va_lald hx hb hK hP 3 1 rfl rfl hv.1 dX0_toNextPlace_29 ?_
          refine lv_topl (fun g8 h_g8 => ?_)
          have hv := hv.2 g8 h_g8
          refine lv_lconst (v := 1) hx hb dX0_toNextPlace_30 (by decide) ?_
          refine lv_ladd hx hb dX0_toNextPlace_31 ?_
          refine lv_topl (fun e9 h_e9 => ?_)
          have hv := hv e9 h_e9
          refine k_last hx hb hK hP hD hS 3 1 rfl rfl hv.1 dX0_toNextPlace_32 (fun a0_place_10 H locs h_a0_place_10 hP hD hS => ?_)
          have hv := hv.2 a0_place_10 h_a0_place_10
          have hP : va_P D vwCl [oX0 ad , aJ cy (ad 20) 4 a0_least, aJ cy (ad 21) 4 a0_most, aJ cy (ad 22) 4 a0_place_10] H := hP
          have hD : va_D A [oX0 ad , aJ cy (ad 20) 4 a0_least, aJ cy (ad 21) 4 a0_most, aJ cy (ad 22) 4 a0_place_10] := hD
          rw [← hQ]
          exact k_vret hx hb hr hlocks hS (a0_place_10) hP hD hv dX0_toNextPlace_33
  obtain ⟨nn, hv⟩ := hv
  exact lp2 nn (0 : Int32) a0_place H locs ls hv (lv_sub hl [0, 1, 2] rfl) hP hD hS
