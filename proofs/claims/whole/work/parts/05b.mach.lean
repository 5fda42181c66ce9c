theorem in_X0_tellKept_5 : ∀ w ∈ wsX50, w ∈ wsX0_tellKept := by decide +kernel
theorem lk_X0_tellKept_34 : Cond.constantLong RX0 34 (100000) ∈ wsX0_tellKept := by decide +kernel
theorem lk_X0_tellKept_18 : Cond.fieldLink RX0 18 "CoarseSteps$Box" "place" "[J" ∈ wsX0_tellKept := by decide +kernel
theorem in_X0_tellKept_0 : ∀ w ∈ wsX00, w ∈ wsX0_tellKept := by decide +kernel
theorem lk_X0_tellKept_9 : Cond.fieldLink RX0 9 "CoarseSteps$Box" "least" "[J" ∈ wsX0_tellKept := by decide +kernel
abbrev rm_X0_tellKept : Room := { frames := 5, cells := 0, slots := 0, locals := 121 }
set_option maxHeartbeats 4000000 in
set_option maxRecDepth 100000 in
theorem m_X0_tellKept (l : Launch) (D : va_G) (cy : ClassId × ClassId × ClassId) (ad : Nat → Nat) (s5_kind : Int32) (s5_sums : Int32) (s7_over : Int32) (s7_count : Int32) (s8_sums : Int32) (s8_g : Int32) (a0_least : Nat → Int64) (a0_most : Nat → Int64) (a0_place : Nat → Int64) (a0_at : Nat → Int64) (a5_coming : Nat → Int64) (a5_picked : Nat → Int32) (a7_values : Nat → Int32) (a8_a : Nat → Int32) (a8_b : Nat → Int32) (a8_e : Nat → Int32) (a8_h : Nat → Int32) (x2 : Int32) (x3 : Int32) (sz : Nat) {K : Int32 → (Nat → Int64) → (Nat → Int64) → (Nat → Int64) → (Nat → Int32) → Prop} (hv : v_X0_tellKept s5_kind s5_sums s7_over s7_count s8_sums s8_g a0_least a0_most a0_place a0_at a5_coming a5_picked a7_values a8_a a8_b a8_e a8_h x2 x3 K) : Met l yX0_tellKept wsX0_tellKept rm_X0_tellKept (va_Pc [.ref (ad 0), .ref (ad 5), .int x2, .int x3] (wd D cy [oX0 ad , oX5 ad s5_kind s5_sums, oX7 ad s7_over s7_count, oX8 ad s8_sums s8_g, aJ cy (ad 20) 4 a0_least, aJ cy (ad 21) 4 a0_most, aJ cy (ad 22) 4 a0_place, aJ cy (ad 23) 4 a0_at, aJ cy (ad 30) 4 a5_coming, aI cy (ad 31) 3 a5_picked, aI cy (ad 34) 8 a7_values, aI cy (ad 35) 16 a8_a, aI cy (ad 36) 4 a8_b, aI cy (ad 37) 4 a8_e, aI cy (ad 38) 4 a8_h] sz)) (va_Qi (fun (r : Int32) (u : (Nat → Int64) × (Nat → Int64) × (Nat → Int64) × (Nat → Int32)) => K r u.1 u.2.1 u.2.2.1 u.2.2.2) (fun u t => we D ((fun u : (Nat → Int64) × (Nat → Int64) × (Nat → Int64) × (Nat → Int32) => [oX0 ad , oX5 ad s5_kind s5_sums, oX7 ad s7_over s7_count, oX8 ad s8_sums s8_g, aJ cy (ad 20) 4 a0_least, aJ cy (ad 21) 4 a0_most, aJ cy (ad 22) 4 u.1, aJ cy (ad 23) 4 u.2.1, aJ cy (ad 30) 4 u.2.2.1, aI cy (ad 31) 3 u.2.2.2, aI cy (ad 34) 8 a7_values, aI cy (ad 35) 16 a8_a, aI cy (ad 36) 4 a8_b, aI cy (ad 37) 4 a8_e, aI cy (ad 38) 4 a8_h]) u) (va_A [oX0 ad , oX5 ad s5_kind s5_sums, oX7 ad s7_over s7_count, oX8 ad s8_sums s8_g, aJ cy (ad 20) 4 a0_least, aJ cy (ad 21) 4 a0_most, aJ cy (ad 22) 4 a0_place, aJ cy (ad 23) 4 a0_at, aJ cy (ad 30) 4 a5_coming, aI cy (ad 31) 3 a5_picked, aI cy (ad 34) 8 a7_values, aI cy (ad 35) 16 a8_a, aI cy (ad 36) 4 a8_b, aI cy (ad 37) 4 a8_e, aI cy (ad 38) 4 a8_h] sz) t) (va_A [oX0 ad , oX5 ad s5_kind s5_sums, oX7 ad s7_over s7_count, oX8 ad s8_sums s8_g, aJ cy (ad 20) 4 a0_least, aJ cy (ad 21) 4 a0_most, aJ cy (ad 22) 4 a0_place, aJ cy (ad 23) 4 a0_at, aJ cy (ad 30) 4 a5_coming, aI cy (ad 31) 3 a5_picked, aI cy (ad 34) 8 a7_values, aI cy (ad 35) 16 a8_a, aI cy (ad 36) 4 a8_b, aI cy (ad 37) 4 a8_e, aI cy (ad 38) 4 a8_h] sz)) 0 0 (va_A [oX0 ad , oX5 ad s5_kind s5_sums, oX7 ad s7_over s7_count, oX8 ad s8_sums s8_g, aJ cy (ad 20) 4 a0_least, aJ cy (ad 21) 4 a0_most, aJ cy (ad 22) 4 a0_place, aJ cy (ad 23) 4 a0_at, aJ cy (ad 30) 4 a5_coming, aI cy (ad 31) 3 a5_picked, aI cy (ad 34) 8 a7_values, aI cy (ad 35) 16 a8_a, aI cy (ad 36) 4 a8_b, aI cy (ad 37) 4 a8_e, aI cy (ad 38) 4 a8_h] sz) := by
  refine k_ofW (cc := cX0_tellKept) (maxL := 7) (ret := (some .int)) (fun A => va_Qi (fun (r : Int32) (u : (Nat → Int64) × (Nat → Int64) × (Nat → Int64) × (Nat → Int32)) => K r u.1 u.2.1 u.2.2.1 u.2.2.2) (fun u t => we D ((fun u : (Nat → Int64) × (Nat → Int64) × (Nat → Int64) × (Nat → Int32) => [oX0 ad , oX5 ad s5_kind s5_sums, oX7 ad s7_over s7_count, oX8 ad s8_sums s8_g, aJ cy (ad 20) 4 a0_least, aJ cy (ad 21) 4 a0_most, aJ cy (ad 22) 4 u.1, aJ cy (ad 23) 4 u.2.1, aJ cy (ad 30) 4 u.2.2.1, aI cy (ad 31) 3 u.2.2.2, aI cy (ad 34) 8 a7_values, aI cy (ad 35) 16 a8_a, aI cy (ad 36) 4 a8_b, aI cy (ad 37) 4 a8_e, aI cy (ad 38) 4 a8_h]) u) A t) A) (by decide) rfl (Nat.le_of_ble_eq_true rfl) ?_
  intro p e s m below meth c A ls H locs hx hb hml hr hts hown hlocks hname hK hN hA hP hD hS hl
  have hl : lv_has ls 7 [(0, .ref (ad 0)), (1, .ref (ad 5)), (2, .int x2), (3, .int x3)] := hl
  generalize hQ : MQ below _ _ s _ _ A = Q
  unfold v_X0_tellKept at hv
  refine lv_aload_n hx hb dX0_tellKept_0 rfl (lv_at hl 0 rfl) ?_
  refine lv_aload_n hx hb dX0_tellKept_1 rfl (lv_at hl 1 rfl) ?_
  refine va_getN (D := D) (ci := 5) (v := .int s5_sums) (C := RX5) (T := TX5) (N := 6) hx hb hts in_X0_tellKept_5 hown hK hP 1 rfl rfl 5 (by decide) (nz_use hN nzf_X0_24) (fun _ h9 => h9) rfl dX0_tellKept_2 ?_
  refine lv_iload_n hx hb dX0_tellKept_5 rfl (lv_at hl 3 rfl) ?_
  refine lv_iload_n hx hb dX0_tellKept_6 rfl (lv_at hl 2 rfl) ?_
  refine lv_isub hx hb dX0_tellKept_7 ?_
  refine lv_topi (fun e1 h_e1 => ?_)
  have hv := hv e1 h_e1
  refine lv_i2l hx hb dX0_tellKept_8 rfl ?_
  refine lv_lconst (v := 1) hx hb dX0_tellKept_9 (by decide) ?_
  refine lv_ladd hx hb dX0_tellKept_10 ?_
  refine lv_topl (fun e2 h_e2 => ?_)
  have hv := hv e2 h_e2
  have hPc := hP.sub (ws' := [oX0 ad , aJ cy (ad 20) 4 a0_least, aJ cy (ad 21) 4 a0_most]) [0, 4, 5] rfl
  have hDc := hD.sub (ws' := [oX0 ad , aJ cy (ad 20) 4 a0_least, aJ cy (ad 21) 4 a0_most]) [0, 4, 5] (by decide) rfl
  refine k_call (wc := [oX0 ad , aJ cy (ad 20) 4 a0_least, aJ cy (ad 21) 4 a0_most]) (wr := [oX5 ad s5_kind s5_sums, oX7 ad s7_over s7_count, oX8 ad s8_sums s8_g, aJ cy (ad 22) 4 a0_place, aJ cy (ad 23) 4 a0_at, aJ cy (ad 30) 4 a5_coming, aI cy (ad 31) 3 a5_picked, aI cy (ad 34) 8 a7_values, aI cy (ad 35) 16 a8_a, aI cy (ad 36) 4 a8_b, aI cy (ad 37) 4 a8_e, aI cy (ad 38) 4 a8_h]) (va_runV (As := [.int s5_sums, .long e2]) (rest := []) ⟨hx, hb, hml, hown, hts⟩ (m_X0_countPlaces l D cy ad a0_least a0_most s5_sums e2 H.size hv) (cwV 2 hts gX0_tellKept_X0_countPlaces rfl rfl rfl (by decide +kernel) ⟨Nat.le_of_ble_eq_true rfl, Nat.le_of_ble_eq_true rfl⟩) ⟨wd_blind, va_recv hK hPc (ci := 0) (q0 := 0) rfl rfl, wd_ok hPc hK hDc hN⟩ rfl rfl hl.1 rfl (lv_room (Nat.le_of_ble_eq_true rfl)) dX0_tellKept_11 ⟨Nat.le_of_ble_eq_true rfl, Nat.le_of_ble_eq_true rfl⟩) hP hD hS hA [0, 4, 5] [1, 2, 3, 6, 7, 8, 9, 10, 11, 12, 13, 14] rfl rfl (by decide) (by decide) (fun r3 u H locs hv hP hD hS => ?_)
  have hP : va_P D vwCl [oX0 ad , oX5 ad s5_kind s5_sums, oX7 ad s7_over s7_count, oX8 ad s8_sums s8_g, aJ cy (ad 20) 4 a0_least, aJ cy (ad 21) 4 a0_most, aJ cy (ad 22) 4 a0_place, aJ cy (ad 23) 4 a0_at, aJ cy (ad 30) 4 a5_coming, aI cy (ad 31) 3 a5_picked, aI cy (ad 34) 8 a7_values, aI cy (ad 35) 16 a8_a, aI cy (ad 36) 4 a8_b, aI cy (ad 37) 4 a8_e, aI cy (ad 38) 4 a8_h] H := hP.sub [12, 0, 1, 2, 13, 14, 3, 4, 5, 6, 7, 8, 9, 10, 11] rfl
  have hD : va_D A [oX0 ad , oX5 ad s5_kind s5_sums, oX7 ad s7_over s7_count, oX8 ad s8_sums s8_g, aJ cy (ad 20) 4 a0_least, aJ cy (ad 21) 4 a0_most, aJ cy (ad 22) 4 a0_place, aJ cy (ad 23) 4 a0_at, aJ cy (ad 30) 4 a5_coming, aI cy (ad 31) 3 a5_picked, aI cy (ad 34) 8 a7_values, aI cy (ad 35) 16 a8_a, aI cy (ad 36) 4 a8_b, aI cy (ad 37) 4 a8_e, aI cy (ad 38) 4 a8_h] := hD.sub [12, 0, 1, 2, 13, 14, 3, 4, 5, 6, 7, 8, 9, 10, 11] (by decide) rfl
  refine lv_lstore (lv' := [(4, .long r3), (0, .ref (ad 0)), (1, .ref (ad 5)), (2, .int x2), (3, .int x3)]) hx hb dX0_tellKept_14 hl (by decide) rfl (fun ls hl => ?_)
  refine lv_lload hx hb dX0_tellKept_16 (lv_at hl 0 rfl) ?_
  refine lv_ldc2 hx hb hown (hts _ lk_X0_tellKept_34) dX0_tellKept_18 ?_
  refine k_lc_le (tgt := 28) hx hb dX0_tellKept_21 dX0_tellKept_22 (by decide) (fun c_21 => ?_) (fun c_21 => ?_)
  · have hv := hv.1 c_21
    refine lv_iconst (v := 0) hx hb dX0_tellKept_28 (by decide) ?_
    refine lv_istore (lv' := [(6, .int (0 : Int32)), (4, .long r3), (0, .ref (ad 0)), (1, .ref (ad 5)), (2, .int x2), (3, .int x3)]) hx hb dX0_tellKept_29 hl (by decide) rfl (fun ls hl => ?_)
    have lp31 : ∀ (n31 : Nat) (l6_4 : Int32) (a0_place_5 : Nat → Int64) (H : Heap) (locs : List Loc) (ls : Array Slot), vfix (vF_X0_tellKept_31 s5_kind s5_sums s7_over s7_count s8_sums s8_g a0_least a0_most a0_at a5_coming a5_picked a7_values a8_a a8_b a8_e a8_h x2 x3 K r3) n31 (l6_4, a0_place_5) → lv_has ls 7 [(6, .int l6_4), (4, .long r3), (0, .ref (ad 0)), (1, .ref (ad 5)), (2, .int x2), (3, .int x3)] → va_P D vwCl [oX0 ad , oX5 ad s5_kind s5_sums, oX7 ad s7_over s7_count, oX8 ad s8_sums s8_g, aJ cy (ad 20) 4 a0_least, aJ cy (ad 21) 4 a0_most, aJ cy (ad 22) 4 a0_place_5, aJ cy (ad 23) 4 a0_at, aJ cy (ad 30) 4 a5_coming, aI cy (ad 31) 3 a5_picked, aI cy (ad 34) 8 a7_values, aI cy (ad 35) 16 a8_a, aI cy (ad 36) 4 a8_b, aI cy (ad 37) 4 a8_e, aI cy (ad 38) 4 a8_h] H → va_D A [oX0 ad , oX5 ad s5_kind s5_sums, oX7 ad s7_over s7_count, oX8 ad s8_sums s8_g, aJ cy (ad 20) 4 a0_least, aJ cy (ad 21) 4 a0_most, aJ cy (ad 22) 4 a0_place_5, aJ cy (ad 23) 4 a0_at, aJ cy (ad 30) 4 a5_coming, aI cy (ad 31) 3 a5_picked, aI cy (ad 34) 8 a7_values, aI cy (ad 35) 16 a8_a, aI cy (ad 36) 4 a8_b, aI cy (ad 37) 4 a8_e, aI cy (ad 38) 4 a8_h] → va_S A s.heap H locs → W p l e rm_X0_tellKept s m ([.ref (ad 0), .ref (ad 5), .int x2, .int x3] : List Value).toArray below meth c H locs 0 0 Q (F0 m 31 ls []) := by
      intro n31
      induction n31 with
      | zero => intro l6_4 a0_place_5 H locs ls hv; exact hv.elim
      | succ n31 ih31 =>
        intro l6_4 a0_place_5 H locs ls hv hl hP hD hS
        have hv : vB_X0_tellKept_31 s5_kind s5_sums s7_over s7_count s8_sums s8_g a0_least a0_most a0_at a5_coming a5_picked a7_values a8_a a8_b a8_e a8_h x2 x3 K r3 (fun z0 z1 => vfix (vF_X0_tellKept_31 s5_kind s5_sums s7_over s7_count s8_sums s8_g a0_least a0_most a0_at a5_coming a5_picked a7_values a8_a a8_b a8_e a8_h x2 x3 K r3) n31 (z0, z1)) l6_4 a0_place_5 := hv
        unfold vB_X0_tellKept_31 at hv
        refine lv_iload hx hb dX0_tellKept_31 (lv_at hl 0 rfl) ?_
        refine lv_aload_n hx hb dX0_tellKept_33 rfl (lv_at hl 3 rfl) ?_
        refine va_getN (D := D) (ci := 5) (v := .int s5_sums) (C := RX5) (T := TX5) (N := 6) hx hb hts in_X0_tellKept_5 hown hK hP 1 rfl rfl 5 (by decide) (nz_use hN nzf_X0_24) (fun _ h9 => h9) rfl dX0_tellKept_34 ?_
        refine lv_icmp_ge (tgt := 60) hx hb dX0_tellKept_37 (by decide) (fun c_37 => ?_) (fun c_37 => ?_)
        · have hv := hv.1 c_37
          refine lv_iconst (v := 0) hx hb dX0_tellKept_60 (by decide) ?_
          refine lv_istore (lv' := [(6, .int (0 : Int32)), (4, .long r3), (0, .ref (ad 0)), (1, .ref (ad 5)), (2, .int x2), (3, .int x3)]) hx hb dX0_tellKept_61 hl (by decide) rfl (fun ls hl => ?_)
          have lp63 : ∀ (n63 : Nat) (l6_6 : Int32) (a0_place_7 : Nat → Int64) (a0_at_8 : Nat → Int64) (a5_coming_9 : Nat → Int64) (a5_picked_10 : Nat → Int32) (H : Heap) (locs : List Loc) (ls : Array Slot), vfix (vF_X0_tellKept_63 s5_kind s5_sums s7_over s7_count s8_sums s8_g a0_least a0_most a7_values a8_a a8_b a8_e a8_h x2 x3 K r3) n63 (l6_6, a0_place_7, a0_at_8, a5_coming_9, a5_picked_10) → lv_has ls 7 [(6, .int l6_6), (4, .long r3), (0, .ref (ad 0)), (1, .ref (ad 5)), (2, .int x2), (3, .int x3)] → va_P D vwCl [oX0 ad , oX5 ad s5_kind s5_sums, oX7 ad s7_over s7_count, oX8 ad s8_sums s8_g, aJ cy (ad 20) 4 a0_least, aJ cy (ad 21) 4 a0_most, aJ cy (ad 22) 4 a0_place_7, aJ cy (ad 23) 4 a0_at_8, aJ cy (ad 30) 4 a5_coming_9, aI cy (ad 31) 3 a5_picked_10, aI cy (ad 34) 8 a7_values, aI cy (ad 35) 16 a8_a, aI cy (ad 36) 4 a8_b, aI cy (ad 37) 4 a8_e, aI cy (ad 38) 4 a8_h] H → va_D A [oX0 ad , oX5 ad s5_kind s5_sums, oX7 ad s7_over s7_count, oX8 ad s8_sums s8_g, aJ cy (ad 20) 4 a0_least, aJ cy (ad 21) 4 a0_most, aJ cy (ad 22) 4 a0_place_7, aJ cy (ad 23) 4 a0_at_8, aJ cy (ad 30) 4 a5_coming_9, aI cy (ad 31) 3 a5_picked_10, aI cy (ad 34) 8 a7_values, aI cy (ad 35) 16 a8_a, aI cy (ad 36) 4 a8_b, aI cy (ad 37) 4 a8_e, aI cy (ad 38) 4 a8_h] → va_S A s.heap H locs → W p l e rm_X0_tellKept s m ([.ref (ad 0), .ref (ad 5), .int x2, .int x3] : List Value).toArray below meth c H locs 0 0 Q (F0 m 63 ls []) := by
            intro n63
            induction n63 with
            | zero => intro l6_6 a0_place_7 a0_at_8 a5_coming_9 a5_picked_10 H locs ls hv; exact hv.elim
            | succ n63 ih63 =>
              intro l6_6 a0_place_7 a0_at_8 a5_coming_9 a5_picked_10 H locs ls hv hl hP hD hS
              have hv : vB_X0_tellKept_63 s5_kind s5_sums s7_over s7_count s8_sums s8_g a0_least a0_most a7_values a8_a a8_b a8_e a8_h x2 x3 K r3 (fun z0 z1 z2 z3 z4 => vfix (vF_X0_tellKept_63 s5_kind s5_sums s7_over s7_count s8_sums s8_g a0_least a0_most a7_values a8_a a8_b a8_e a8_h x2 x3 K r3) n63 (z0, z1, z2, z3, z4)) l6_6 a0_place_7 a0_at_8 a5_coming_9 a5_picked_10 := hv
              unfold vB_X0_tellKept_63 at hv
              refine lv_iload hx hb dX0_tellKept_63 (lv_at hl 0 rfl) ?_
              refine lv_i2l hx hb dX0_tellKept_65 rfl ?_
              refine lv_lload hx hb dX0_tellKept_66 (lv_at hl 1 rfl) ?_
              refine k_lc_ge (tgt := 98) hx hb dX0_tellKept_68 dX0_tellKept_69 (by decide) (fun c_68 => ?_) (fun c_68 => ?_)
              · have hv := hv.1 c_68
                refine lv_iconst (v := 1) hx hb dX0_tellKept_98 (by decide) ?_
                rw [← hQ]
                exact k_iret hx hb hr hlocks hS (a0_place_7, a0_at_8, a5_coming_9, a5_picked_10) hP hD hv dX0_tellKept_99
              · have hv := hv.2 c_68
                refine lv_aload_n hx hb dX0_tellKept_72 rfl (lv_at hl 2 rfl) ?_
                refine lv_aload_n hx hb dX0_tellKept_73 rfl (lv_at hl 3 rfl) ?_
                refine lv_iload_n hx hb dX0_tellKept_74 rfl (lv_at hl 4 rfl) ?_
                refine lv_iload_n hx hb dX0_tellKept_75 rfl (lv_at hl 5 rfl) ?_
                have hPc := hP.sub (ws' := [oX0 ad , oX5 ad s5_kind s5_sums, oX7 ad s7_over s7_count, oX8 ad s8_sums s8_g, aJ cy (ad 20) 4 a0_least, aJ cy (ad 21) 4 a0_most, aJ cy (ad 22) 4 a0_place_7, aJ cy (ad 23) 4 a0_at_8, aJ cy (ad 30) 4 a5_coming_9, aI cy (ad 31) 3 a5_picked_10, aI cy (ad 34) 8 a7_values, aI cy (ad 35) 16 a8_a, aI cy (ad 36) 4 a8_b, aI cy (ad 37) 4 a8_e, aI cy (ad 38) 4 a8_h]) [0, 1, 2, 3, 4, 5, 6, 7, 8, 9, 10, 11, 12, 13, 14] rfl
                have hDc := hD.sub (ws' := [oX0 ad , oX5 ad s5_kind s5_sums, oX7 ad s7_over s7_count, oX8 ad s8_sums s8_g, aJ cy (ad 20) 4 a0_least, aJ cy (ad 21) 4 a0_most, aJ cy (ad 22) 4 a0_place_7, aJ cy (ad 23) 4 a0_at_8, aJ cy (ad 30) 4 a5_coming_9, aI cy (ad 31) 3 a5_picked_10, aI cy (ad 34) 8 a7_values, aI cy (ad 35) 16 a8_a, aI cy (ad 36) 4 a8_b, aI cy (ad 37) 4 a8_e, aI cy (ad 38) 4 a8_h]) [0, 1, 2, 3, 4, 5, 6, 7, 8, 9, 10, 11, 12, 13, 14] (by decide) rfl
                refine k_cali (wc := [oX0 ad , oX5 ad s5_kind s5_sums, oX7 ad s7_over s7_count, oX8 ad s8_sums s8_g, aJ cy (ad 20) 4 a0_least, aJ cy (ad 21) 4 a0_most, aJ cy (ad 22) 4 a0_place_7, aJ cy (ad 23) 4 a0_at_8, aJ cy (ad 30) 4 a5_coming_9, aI cy (ad 31) 3 a5_picked_10, aI cy (ad 34) 8 a7_values, aI cy (ad 35) 16 a8_a, aI cy (ad 36) 4 a8_b, aI cy (ad 37) 4 a8_e, aI cy (ad 38) 4 a8_h]) (wr := []) (va_runV (As := [.ref (ad 5), .int x2, .int x3]) (rest := []) ⟨hx, hb, hml, hown, hts⟩ (m_X0_staysFromPlace l D cy ad s5_kind s5_sums s7_over s7_count s8_sums s8_g a0_least a0_most a0_place_7 a0_at_8 a5_coming_9 a5_picked_10 a7_values a8_a a8_b a8_e a8_h x2 x3 H.size hv) (cwV 3 hts gX0_tellKept_X0_staysFromPlace rfl rfl rfl (by decide +kernel) ⟨Nat.le_of_ble_eq_true rfl, Nat.le_of_ble_eq_true rfl⟩) ⟨wd_blind, va_recv hK hPc (ci := 0) (q0 := 0) rfl rfl, wd_ok hPc hK hDc hN⟩ rfl rfl hl.1 rfl (lv_room (Nat.le_of_ble_eq_true rfl)) dX0_tellKept_76 ⟨Nat.le_of_ble_eq_true rfl, Nat.le_of_ble_eq_true rfl⟩) hP hD hS hA [0, 1, 2, 3, 4, 5, 6, 7, 8, 9, 10, 11, 12, 13, 14] [] rfl rfl (by decide) (by decide) (fun r11 u H locs hv hP hD hS => ?_)
                obtain ⟨a0_at_12, a5_coming_13, a5_picked_14⟩ := u
                obtain ⟨hz_r11, hv⟩ := hv
                have hP : va_P D vwCl [oX0 ad , oX5 ad s5_kind s5_sums, oX7 ad s7_over s7_count, oX8 ad s8_sums s8_g, aJ cy (ad 20) 4 a0_least, aJ cy (ad 21) 4 a0_most, aJ cy (ad 22) 4 a0_place_7, aJ cy (ad 23) 4 a0_at_12, aJ cy (ad 30) 4 a5_coming_13, aI cy (ad 31) 3 a5_picked_14, aI cy (ad 34) 8 a7_values, aI cy (ad 35) 16 a8_a, aI cy (ad 36) 4 a8_b, aI cy (ad 37) 4 a8_e, aI cy (ad 38) 4 a8_h] H := hP.sub [0, 1, 2, 3, 4, 5, 6, 7, 8, 9, 10, 11, 12, 13, 14] rfl
                have hD : va_D A [oX0 ad , oX5 ad s5_kind s5_sums, oX7 ad s7_over s7_count, oX8 ad s8_sums s8_g, aJ cy (ad 20) 4 a0_least, aJ cy (ad 21) 4 a0_most, aJ cy (ad 22) 4 a0_place_7, aJ cy (ad 23) 4 a0_at_12, aJ cy (ad 30) 4 a5_coming_13, aI cy (ad 31) 3 a5_picked_14, aI cy (ad 34) 8 a7_values, aI cy (ad 35) 16 a8_a, aI cy (ad 36) 4 a8_b, aI cy (ad 37) 4 a8_e, aI cy (ad 38) 4 a8_h] := hD.sub [0, 1, 2, 3, 4, 5, 6, 7, 8, 9, 10, 11, 12, 13, 14] (by decide) rfl
                refine lv_if_ne (tgt := 84) hx hb dX0_tellKept_79 (by decide) (fun c_79 => ?_) (fun c_79 => ?_)
                · have hv := hv.1 c_79
                  refine lv_aload_n hx hb dX0_tellKept_84 rfl (lv_at hl 2 rfl) ?_
                  refine lv_aload_n hx hb dX0_tellKept_85 rfl (lv_at hl 3 rfl) ?_
                  refine va_getN (D := D) (ci := 5) (v := .int s5_sums) (C := RX5) (T := TX5) (N := 6) hx hb hts in_X0_tellKept_5 hown hK hP 1 rfl rfl 5 (by decide) (nz_use hN nzf_X0_24) (fun _ h9 => h9) rfl dX0_tellKept_86 ?_
                  have hPc := hP.sub (ws' := [oX0 ad , aJ cy (ad 20) 4 a0_least, aJ cy (ad 21) 4 a0_most, aJ cy (ad 22) 4 a0_place_7]) [0, 4, 5, 6] rfl
                  have hDc := hD.sub (ws' := [oX0 ad , aJ cy (ad 20) 4 a0_least, aJ cy (ad 21) 4 a0_most, aJ cy (ad 22) 4 a0_place_7]) [0, 4, 5, 6] (by decide) rfl
                  refine k_calv (wc := [oX0 ad , aJ cy (ad 20) 4 a0_least, aJ cy (ad 21) 4 a0_most, aJ cy (ad 22) 4 a0_place_7]) (wr := [oX5 ad s5_kind s5_sums, oX7 ad s7_over s7_count, oX8 ad s8_sums s8_g, aJ cy (ad 23) 4 a0_at_12, aJ cy (ad 30) 4 a5_coming_13, aI cy (ad 31) 3 a5_picked_14, aI cy (ad 34) 8 a7_values, aI cy (ad 35) 16 a8_a, aI cy (ad 36) 4 a8_b, aI cy (ad 37) 4 a8_e, aI cy (ad 38) 4 a8_h]) (va_runV (As := [.int s5_sums]) (rest := []) ⟨hx, hb, hml, hown, hts⟩ (m_X0_toNextPlace l D cy ad a0_least a0_most a0_place_7 s5_sums H.size hv) (cwV 1 hts gX0_tellKept_X0_toNextPlace rfl rfl rfl (by decide +kernel) ⟨Nat.le_of_ble_eq_true rfl, Nat.le_of_ble_eq_true rfl⟩) ⟨wd_blind, va_recv hK hPc (ci := 0) (q0 := 0) rfl rfl, wd_ok hPc hK hDc hN⟩ rfl rfl hl.1 rfl (lv_room (Nat.le_of_ble_eq_true rfl)) dX0_tellKept_89 ⟨Nat.le_of_ble_eq_true rfl, Nat.le_of_ble_eq_true rfl⟩) hP hD hS hA [0, 4, 5, 6] [1, 2, 3, 7, 8, 9, 10, 11, 12, 13, 14] rfl rfl (by decide) (by decide) (fun a0_place_15 H locs hv hP hD hS => ?_)
                  have hP : va_P D vwCl [oX0 ad , oX5 ad s5_kind s5_sums, oX7 ad s7_over s7_count, oX8 ad s8_sums s8_g, aJ cy (ad 20) 4 a0_least, aJ cy (ad 21) 4 a0_most, aJ cy (ad 22) 4 a0_place_15, aJ cy (ad 23) 4 a0_at_12, aJ cy (ad 30) 4 a5_coming_13, aI cy (ad 31) 3 a5_picked_14, aI cy (ad 34) 8 a7_values, aI cy (ad 35) 16 a8_a, aI cy (ad 36) 4 a8_b, aI cy (ad 37) 4 a8_e, aI cy (ad 38) 4 a8_h] H := hP.sub [11, 0, 1, 2, 12, 13, 14, 3, 4, 5, 6, 7, 8, 9, 10] rfl
                  have hD : va_D A [oX0 ad , oX5 ad s5_kind s5_sums, oX7 ad s7_over s7_count, oX8 ad s8_sums s8_g, aJ cy (ad 20) 4 a0_least, aJ cy (ad 21) 4 a0_most, aJ cy (ad 22) 4 a0_place_15, aJ cy (ad 23) 4 a0_at_12, aJ cy (ad 30) 4 a5_coming_13, aI cy (ad 31) 3 a5_picked_14, aI cy (ad 34) 8 a7_values, aI cy (ad 35) 16 a8_a, aI cy (ad 36) 4 a8_b, aI cy (ad 37) 4 a8_e, aI cy (ad 38) 4 a8_h] := hD.sub [11, 0, 1, 2, 12, 13, 14, 3, 4, 5, 6, 7, 8, 9, 10] (by decide) rfl
                  obtain ⟨i16, h_i16⟩ : ∃ y : Int32, y = l6_6 + 1 := ⟨_, rfl⟩
                  refine lv_iinc (v := i16) (lv' := [(6, .int i16), (4, .long r3), (0, .ref (ad 0)), (1, .ref (ad 5)), (2, .int x2), (3, .int x3)]) hx hb dX0_tellKept_92 hl (k := 0) rfl (by rw [h_i16]; rfl) (by decide) rfl (fun ls hl => ?_)
                  have hv := hv i16 h_i16
                  refine lv_goto (tgt := 63) hx hb dX0_tellKept_95 (by decide) ?_
                  exact ih63 i16 a0_place_15 a0_at_12 a5_coming_13 a5_picked_14 H locs ls hv (lv_sub hl [0, 1, 2, 3, 4, 5] rfl) hP hD hS
                · have hv := hv.2 c_79
                  refine lv_iconst (v := 0) hx hb dX0_tellKept_82 (by decide) ?_
                  rw [← hQ]
                  exact k_iret hx hb hr hlocks hS (a0_place_7, a0_at_12, a5_coming_13, a5_picked_14) hP hD hv dX0_tellKept_83
          obtain ⟨nn, hv⟩ := hv
          exact lp63 nn (0 : Int32) a0_place_5 a0_at a5_coming a5_picked H locs ls hv (lv_sub hl [0, 1, 2, 3, 4, 5] rfl) hP hD hS
        · have hv := hv.2 c_37
          refine lv_aload_n hx hb dX0_tellKept_40 rfl (lv_at hl 2 rfl) ?_
          refine va_get (D := D) (ci := 0) (v := .ref (ad 22)) (C := RX0) (T := TX0) (N := 4) hx hb hts in_X0_tellKept_0 hown hK hP 0 rfl rfl 2 (by decide) (hts _ lk_X0_tellKept_18) (fun _ h9 => h9) rfl dX0_tellKept_41 ?_
          refine lv_iload hx hb dX0_tellKept_44 (lv_at hl 0 rfl) ?_
          refine lv_aload_n hx hb dX0_tellKept_46 rfl (lv_at hl 2 rfl) ?_
          refine va_get (D := D) (ci := 0) (v := .ref (ad 20)) (C := RX0) (T := TX0) (N := 4) hx hb hts in_X0_tellKept_0 hown hK hP 0 rfl rfl 0 (by decide) (hts _ lk_X0_tellKept_9) (fun _ h9 => h9) rfl dX0_tellKept_47 ?_
          refine lv_iload hx hb dX0_tellKept_50 (lv_at hl 0 rfl) ?_
          refine va_lald hx hb hK hP 4 1 rfl rfl hv.1 dX0_tellKept_52 ?_
          refine lv_topl (fun g17 h_g17 => ?_)
          have hv := hv.2 g17 h_g17
          refine k_last hx hb hK hP hD hS 6 1 rfl rfl hv.1 dX0_tellKept_53 (fun a0_place_18 H locs h_a0_place_18 hP hD hS => ?_)
          have hv := hv.2 a0_place_18 h_a0_place_18
          have hP : va_P D vwCl [oX0 ad , oX5 ad s5_kind s5_sums, oX7 ad s7_over s7_count, oX8 ad s8_sums s8_g, aJ cy (ad 20) 4 a0_least, aJ cy (ad 21) 4 a0_most, aJ cy (ad 22) 4 a0_place_18, aJ cy (ad 23) 4 a0_at, aJ cy (ad 30) 4 a5_coming, aI cy (ad 31) 3 a5_picked, aI cy (ad 34) 8 a7_values, aI cy (ad 35) 16 a8_a, aI cy (ad 36) 4 a8_b, aI cy (ad 37) 4 a8_e, aI cy (ad 38) 4 a8_h] H := hP
          have hD : va_D A [oX0 ad , oX5 ad s5_kind s5_sums, oX7 ad s7_over s7_count, oX8 ad s8_sums s8_g, aJ cy (ad 20) 4 a0_least, aJ cy (ad 21) 4 a0_most, aJ cy (ad 22) 4 a0_place_18, aJ cy (ad 23) 4 a0_at, aJ cy (ad 30) 4 a5_coming, aI cy (ad 31) 3 a5_picked, aI cy (ad 34) 8 a7_values, aI cy (ad 35) 16 a8_a, aI cy (ad 36) 4 a8_b, aI cy (ad 37) 4 a8_e, aI cy (ad 38) 4 a8_h] := hD
          obtain ⟨i19, h_i19⟩ : ∃ y : Int32, y = l6_4 + 1 := ⟨_, rfl⟩
          refine lv_iinc (v := i19) (lv' := [(6, .int i19), (4, .long r3), (0, .ref (ad 0)), (1, .ref (ad 5)), (2, .int x2), (3, .int x3)]) hx hb dX0_tellKept_54 hl (k := 0) rfl (by rw [h_i19]; rfl) (by decide) rfl (fun ls hl => ?_)
          have hv := hv i19 h_i19
          refine lv_goto (tgt := 31) hx hb dX0_tellKept_57 (by decide) ?_
          exact ih31 i19 a0_place_18 H locs ls hv (lv_sub hl [0, 1, 2, 3, 4, 5] rfl) hP hD hS
    obtain ⟨nn, hv⟩ := hv
    exact lp31 nn (0 : Int32) a0_place H locs ls hv (lv_sub hl [0, 1, 2, 3, 4, 5] rfl) hP hD hS
  · have hv := hv.2 c_21
    refine lv_bipush (v := -2) hx hb dX0_tellKept_25 (by decide) ?_
    rw [← hQ]
    exact k_iret hx hb hr hlocks hS (a0_place, a0_at, a5_coming, a5_picked) hP hD hv dX0_tellKept_27
abbrev rm_J9_floorDiv_f86c9 : Room := { frames := 0, cells := 0, slots := 0, locals := 0 }
set_option maxHeartbeats 4000000 in
set_option maxRecDepth 100000 in
theorem m_J9_floorDiv_f86c9 (l : Launch) (D : va_G) (cy : ClassId × ClassId × ClassId) (ad : Nat → Nat) (x0 : Int64) (x2 : Int64) (sz : Nat) {K : Int64 → Prop} (hv : v_J9_floorDiv_f86c9 x0 x2 K) : Met l yJ9_floorDiv_f86c9 wsJ9_floorDiv_f86c9 rm_J9_floorDiv_f86c9 (va_Pc [.long x0, .long x2] (wd D cy [] sz)) (va_Ql (fun (r : Int64) (u : Unit) => K r) (fun u t => we D ((fun u : Unit => []) u) (va_A [] sz) t) (va_A [] sz)) 0 0 (va_A [] sz) := by
  refine k_ofWF (cc := cJ9_floorDiv_f86c9) (maxL := 6) (ret := (some .long)) (fun A => va_Ql (fun (r : Int64) (u : Unit) => K r) (fun u t => we D ((fun u : Unit => []) u) A t) A) (by decide +kernel) rfl (Nat.le_of_ble_eq_true rfl) ?_
  intro p e s m below meth c A ls H locs hx hb hml hr hts hown hlocks hname hK hN hA hP hD hS hl
  have hl : lv_has ls 6 [(0, .long x0), (2, .long x2)] := hl
  generalize hQ : MQ below _ _ s _ _ A = Q
  unfold v_J9_floorDiv_f86c9 at hv
  refine lv_lload_n hx hb dJ9_floorDiv_f86c9_0 rfl (lv_at hl 0 rfl) ?_
  refine lv_lload_n hx hb dJ9_floorDiv_f86c9_1 rfl (lv_at hl 1 rfl) ?_
  have hne := hv.1
  have hv := hv.2
  refine lv_ldiv hx hb dJ9_floorDiv_f86c9_2 hne ?_
  refine lv_topl (fun e1 h_e1 => ?_)
  have hv := hv e1 h_e1
  refine lv_lstore (lv' := [(4, .long e1), (0, .long x0), (2, .long x2)]) hx hb dJ9_floorDiv_f86c9_3 hl (by decide) rfl (fun ls hl => ?_)
  refine lv_lload_n hx hb dJ9_floorDiv_f86c9_5 rfl (lv_at hl 1 rfl) ?_
  refine lv_lload_n hx hb dJ9_floorDiv_f86c9_6 rfl (lv_at hl 2 rfl) ?_
  refine lv_lxor hx hb dJ9_floorDiv_f86c9_7 ?_
  refine lv_topl (fun e2 h_e2 => ?_)
  have hv := hv e2 h_e2
  refine lv_lconst (v := 0) hx hb dJ9_floorDiv_f86c9_8 (by decide) ?_
  refine k_lc_ge (tgt := 27) hx hb dJ9_floorDiv_f86c9_9 dJ9_floorDiv_f86c9_10 (by decide) (fun c_9 => ?_) (fun c_9 => ?_)
  · have hv := hv.1 c_9
    refine lv_lload hx hb dJ9_floorDiv_f86c9_27 (lv_at hl 0 rfl) ?_
    rw [← hQ]
    exact k_lret hx hb hr hlocks hS () hP hD hv dJ9_floorDiv_f86c9_29
  · have hv := hv.2 c_9
    refine lv_lload hx hb dJ9_floorDiv_f86c9_13 (lv_at hl 0 rfl) ?_
    refine lv_lload_n hx hb dJ9_floorDiv_f86c9_15 rfl (lv_at hl 2 rfl) ?_
    refine lv_lmul hx hb dJ9_floorDiv_f86c9_16 ?_
    refine lv_topl (fun e3 h_e3 => ?_)
    have hv := hv e3 h_e3
    refine lv_lload_n hx hb dJ9_floorDiv_f86c9_17 rfl (lv_at hl 1 rfl) ?_
    refine k_lc_eq (tgt := 27) hx hb dJ9_floorDiv_f86c9_18 dJ9_floorDiv_f86c9_19 (by decide) (fun c_18 => ?_) (fun c_18 => ?_)
    · have hv := hv.1 c_18
      refine lv_lload hx hb dJ9_floorDiv_f86c9_27 (lv_at hl 0 rfl) ?_
      rw [← hQ]
      exact k_lret hx hb hr hlocks hS () hP hD hv dJ9_floorDiv_f86c9_29
    · have hv := hv.2 c_18
      refine lv_lload hx hb dJ9_floorDiv_f86c9_22 (lv_at hl 0 rfl) ?_
      refine lv_lconst (v := 1) hx hb dJ9_floorDiv_f86c9_24 (by decide) ?_
      refine lv_lsub hx hb dJ9_floorDiv_f86c9_25 ?_
      refine lv_topl (fun e4 h_e4 => ?_)
      have hv := hv e4 h_e4
      rw [← hQ]
      exact k_lret hx hb hr hlocks hS () hP hD hv dJ9_floorDiv_f86c9_26
theorem lk_X3_givenAt_15 : Cond.fieldLink RX3 15 "CoarseSteps$History" "givens" "[I" ∈ wsX3_givenAt := by decide +kernel
theorem in_X3_givenAt_3 : ∀ w ∈ wsX30, w ∈ wsX3_givenAt := by decide +kernel
theorem lk_X3_givenAt_25 : Cond.fieldLink RX3 25 "CoarseSteps$History" "next" "I" ∈ wsX3_givenAt := by decide +kernel
abbrev rm_X3_givenAt : Room := { frames := 0, cells := 0, slots := 0, locals := 0 }
set_option maxHeartbeats 4000000 in
set_option maxRecDepth 100000 in
theorem m_X3_givenAt (l : Launch) (D : va_G) (cy : ClassId × ClassId × ClassId) (ad : Nat → Nat) (s3_next : Int32) (s3_kept : Int32) (a3_givens : Nat → Int32) (x1 : Int32) (sz : Nat) {K : Int32 → Prop} (hv : v_X3_givenAt s3_next a3_givens x1 K) : Met l yX3_givenAt wsX3_givenAt rm_X3_givenAt (va_Pc [.ref (ad 3), .int x1] (wd D cy [oX3 ad s3_next s3_kept, aI cy (ad 26) 256 a3_givens] sz)) (va_Qi (fun (r : Int32) (u : Unit) => K r) (fun u t => we D ((fun u : Unit => [oX3 ad s3_next s3_kept, aI cy (ad 26) 256 a3_givens]) u) (va_A [oX3 ad s3_next s3_kept, aI cy (ad 26) 256 a3_givens] sz) t) (va_A [oX3 ad s3_next s3_kept, aI cy (ad 26) 256 a3_givens] sz)) 0 0 (va_A [oX3 ad s3_next s3_kept, aI cy (ad 26) 256 a3_givens] sz) := by
  refine k_ofW (cc := cX3_givenAt) (maxL := 2) (ret := (some .int)) (fun A => va_Qi (fun (r : Int32) (u : Unit) => K r) (fun u t => we D ((fun u : Unit => [oX3 ad s3_next s3_kept, aI cy (ad 26) 256 a3_givens]) u) A t) A) (by decide) rfl (Nat.le_of_ble_eq_true rfl) ?_
  intro p e s m below meth c A ls H locs hx hb hml hr hts hown hlocks hname hK hN hA hP hD hS hl
  have hl : lv_has ls 2 [(0, .ref (ad 3)), (1, .int x1)] := hl
  generalize hQ : MQ below _ _ s _ _ A = Q
  unfold v_X3_givenAt at hv
  refine lv_aload_n hx hb dX3_givenAt_0 rfl (lv_at hl 0 rfl) ?_
  refine va_get (D := D) (ci := 3) (v := .ref (ad 26)) (C := RX3) (T := TX3) (N := 6) hx hb hts in_X3_givenAt_3 hown hK hP 0 rfl rfl 1 (by decide) (hts _ lk_X3_givenAt_15) (fun _ h9 => h9) rfl dX3_givenAt_1 ?_
  refine lv_aload_n hx hb dX3_givenAt_4 rfl (lv_at hl 0 rfl) ?_
  refine va_get (D := D) (ci := 3) (v := .int s3_next) (C := RX3) (T := TX3) (N := 6) hx hb hts in_X3_givenAt_3 hown hK hP 0 rfl rfl 4 (by decide) (hts _ lk_X3_givenAt_25) (fun _ h9 => h9) rfl dX3_givenAt_5 ?_
  refine lv_iconst (v := 1) hx hb dX3_givenAt_8 (by decide) ?_
  refine lv_isub hx hb dX3_givenAt_9 ?_
  refine lv_topi (fun e1 h_e1 => ?_)
  have hv := hv e1 h_e1
  refine lv_iload_n hx hb dX3_givenAt_10 rfl (lv_at hl 1 rfl) ?_
  refine lv_isub hx hb dX3_givenAt_11 ?_
  refine lv_topi (fun e2 h_e2 => ?_)
  have hv := hv e2 h_e2
  refine lv_sipush (v := 255) hx hb dX3_givenAt_12 (by decide) ?_
  refine lv_iand hx hb dX3_givenAt_15 ?_
  refine lv_topi (fun e3 h_e3 => ?_)
  have hv := hv e3 h_e3
  refine va_iald hx hb hK hP 1 0 rfl rfl hv.1 dX3_givenAt_16 ?_
  refine lv_topi (fun g4 h_g4 => ?_)
  have hv := hv.2 g4 h_g4
  rw [← hQ]
  exact k_iret hx hb hr hlocks hS () hP hD hv dX3_givenAt_17
theorem lk_X1_narrow_15 : Cond.constantLong RX1 15 (-1000000) ∈ wsX1_narrow := by decide +kernel
theorem lk_X1_narrow_17 : Cond.fieldLink RX1 17 "CoarseSteps$Claim" "low" "J" ∈ wsX1_narrow := by decide +kernel
theorem in_X1_narrow_1 : ∀ w ∈ wsX10, w ∈ wsX1_narrow := by decide +kernel
theorem lk_X1_narrow_21 : Cond.constantLong RX1 21 (1000000) ∈ wsX1_narrow := by decide +kernel
theorem lk_X1_narrow_23 : Cond.fieldLink RX1 23 "CoarseSteps$Claim" "high" "J" ∈ wsX1_narrow := by decide +kernel
theorem in_X1_narrow_3 : ∀ w ∈ wsX30, w ∈ wsX1_narrow := by decide +kernel
theorem lk_X1_narrow_9 : Cond.fieldLink RX1 9 "CoarseSteps$Claim" "scale" "LCoarseSteps$Scale;" ∈ wsX1_narrow := by decide +kernel
theorem in_X1_narrow_7 : ∀ w ∈ wsX70, w ∈ wsX1_narrow := by decide +kernel
theorem lm1_X1_narrow_minL : Cond.methodLink RX1 61 Lib.MathLoose.min_long.x ∈ wsX1_narrow := by decide +kernel
theorem lm2_X1_narrow_minL : Cond.static Lib.MathLoose.min_long.x ∈ wsX1_narrow := by decide +kernel
theorem lm3_X1_narrow : Cond.initialized "java/lang/Math" ∈ wsX1_narrow := by decide +kernel
theorem lm4_X1_narrow_minL : Cond.code Lib.MathLoose.min_long.x Lib.MathLoose.min_long.code 4 (some .long) ∈ wsX1_narrow := by decide +kernel
theorem lm1_X1_narrow_maxL : Cond.methodLink RX1 51 Lib.MathLoose.max_long.x ∈ wsX1_narrow := by decide +kernel
theorem lm2_X1_narrow_maxL : Cond.static Lib.MathLoose.max_long.x ∈ wsX1_narrow := by decide +kernel
theorem lm4_X1_narrow_maxL : Cond.code Lib.MathLoose.max_long.x Lib.MathLoose.max_long.code 4 (some .long) ∈ wsX1_narrow := by decide +kernel
abbrev rm_X1_narrow : Room := { frames := 1, cells := 0, slots := 0, locals := 25 }
set_option maxHeartbeats 4000000 in
set_option maxRecDepth 100000 in
theorem m_X1_narrow (l : Launch) (D : va_G) (cy : ClassId × ClassId × ClassId) (ad : Nat → Nat) (s1_low : Int64) (s1_high : Int64) (s3_next : Int32) (s3_kept : Int32) (s7_over : Int32) (s7_count : Int32) (a3_givens : Nat → Int32) (a7_values : Nat → Int32) (x2 : Int32) (sz : Nat) {K : Int64 → Int64 → Prop} (hv : v_X1_narrow s3_next s3_kept s7_over s7_count a3_givens a7_values x2 K) : Met l yX1_narrow wsX1_narrow rm_X1_narrow (va_Pc [.ref (ad 1), .ref (ad 3), .int x2] (wd D cy [oX1 ad s1_low s1_high, oX3 ad s3_next s3_kept, oX7 ad s7_over s7_count, aI cy (ad 26) 256 a3_givens, aI cy (ad 34) 8 a7_values] sz)) (va_Qv (fun u : Int64 × Int64 => K u.1 u.2) (fun u t => we D ((fun u : Int64 × Int64 => [oX1 ad u.1 u.2, oX3 ad s3_next s3_kept, oX7 ad s7_over s7_count, aI cy (ad 26) 256 a3_givens, aI cy (ad 34) 8 a7_values]) u) (va_A [oX1 ad s1_low s1_high, oX3 ad s3_next s3_kept, oX7 ad s7_over s7_count, aI cy (ad 26) 256 a3_givens, aI cy (ad 34) 8 a7_values] sz) t) (va_A [oX1 ad s1_low s1_high, oX3 ad s3_next s3_kept, oX7 ad s7_over s7_count, aI cy (ad 26) 256 a3_givens, aI cy (ad 34) 8 a7_values] sz)) 0 0 (va_A [oX1 ad s1_low s1_high, oX3 ad s3_next s3_kept, oX7 ad s7_over s7_count, aI cy (ad 26) 256 a3_givens, aI cy (ad 34) 8 a7_values] sz) := by
  refine k_ofW (cc := cX1_narrow) (maxL := 9) (ret := none) (fun A => va_Qv (fun u : Int64 × Int64 => K u.1 u.2) (fun u t => we D ((fun u : Int64 × Int64 => [oX1 ad u.1 u.2, oX3 ad s3_next s3_kept, oX7 ad s7_over s7_count, aI cy (ad 26) 256 a3_givens, aI cy (ad 34) 8 a7_values]) u) A t) A) (by decide) rfl (Nat.le_of_ble_eq_true rfl) ?_
  intro p e s m below meth c A ls H locs hx hb hml hr hts hown hlocks hname hK hN hA hP hD hS hl
  have hl : lv_has ls 9 [(0, .ref (ad 1)), (1, .ref (ad 3)), (2, .int x2)] := hl
  generalize hQ : MQ below _ _ s _ _ A = Q
  unfold v_X1_narrow at hv
  refine lv_aload_n hx hb dX1_narrow_0 rfl (lv_at hl 0 rfl) ?_
  refine lv_ldc2 hx hb hown (hts _ lk_X1_narrow_15) dX1_narrow_1 ?_
  refine va_put (D := D) (ci := 1) (v := .long (-1000000 : Int64)) (ty := .long) (C := RX1) (T := TX1) (N := 3) hx hb hts in_X1_narrow_1 tyX1 tyX1_ok nmX1 hown hK hP hD hS 0 rfl rfl 1 (by decide) (hts _ lk_X1_narrow_17) (fun _ h9 => h9) rfl (by decide +kernel) rfl rfl (Nat.le_of_ble_eq_true rfl) dX1_narrow_4 (fun H locs hP hD hS => ?_)
  have hP : va_P D vwCl [oX1 ad (-1000000 : Int64) s1_high, oX3 ad s3_next s3_kept, oX7 ad s7_over s7_count, aI cy (ad 26) 256 a3_givens, aI cy (ad 34) 8 a7_values] H := hP
  have hD : va_D A [oX1 ad (-1000000 : Int64) s1_high, oX3 ad s3_next s3_kept, oX7 ad s7_over s7_count, aI cy (ad 26) 256 a3_givens, aI cy (ad 34) 8 a7_values] := hD
  refine lv_aload_n hx hb dX1_narrow_7 rfl (lv_at hl 0 rfl) ?_
  refine lv_ldc2 hx hb hown (hts _ lk_X1_narrow_21) dX1_narrow_8 ?_
  refine va_put (D := D) (ci := 1) (v := .long (1000000 : Int64)) (ty := .long) (C := RX1) (T := TX1) (N := 3) hx hb hts in_X1_narrow_1 tyX1 tyX1_ok nmX1 hown hK hP hD hS 0 rfl rfl 2 (by decide) (hts _ lk_X1_narrow_23) (fun _ h9 => h9) rfl (by decide +kernel) rfl rfl (Nat.le_of_ble_eq_true rfl) dX1_narrow_11 (fun H locs hP hD hS => ?_)
  have hP : va_P D vwCl [oX1 ad (-1000000 : Int64) (1000000 : Int64), oX3 ad s3_next s3_kept, oX7 ad s7_over s7_count, aI cy (ad 26) 256 a3_givens, aI cy (ad 34) 8 a7_values] H := hP
  have hD : va_D A [oX1 ad (-1000000 : Int64) (1000000 : Int64), oX3 ad s3_next s3_kept, oX7 ad s7_over s7_count, aI cy (ad 26) 256 a3_givens, aI cy (ad 34) 8 a7_values] := hD
  refine lv_lconst (v := 0) hx hb dX1_narrow_14 (by decide) ?_
  refine lv_lstore_n (lv' := [(3, .long (0 : Int64)), (0, .ref (ad 1)), (1, .ref (ad 3)), (2, .int x2)]) hx hb dX1_narrow_15 rfl hl (by decide) rfl (fun ls hl => ?_)
  refine lv_iconst (v := 1) hx hb dX1_narrow_16 (by decide) ?_
  refine lv_istore (lv' := [(5, .int (1 : Int32)), (3, .long (0 : Int64)), (0, .ref (ad 1)), (1, .ref (ad 3)), (2, .int x2)]) hx hb dX1_narrow_17 hl (by decide) rfl (fun ls hl => ?_)
  have lp19 : ∀ (n19 : Nat) (l5_1 : Int32) (l3_2 : Int64) (s1_low_3 : Int64) (s1_high_4 : Int64) (H : Heap) (locs : List Loc) (ls : Array Slot), vfix (vF_X1_narrow_19 s3_next s3_kept s7_over s7_count a3_givens a7_values x2 K) n19 (l5_1, l3_2, s1_low_3, s1_high_4) → lv_has ls 9 [(5, .int l5_1), (3, .long l3_2), (0, .ref (ad 1)), (1, .ref (ad 3)), (2, .int x2)] → va_P D vwCl [oX1 ad s1_low_3 s1_high_4, oX3 ad s3_next s3_kept, oX7 ad s7_over s7_count, aI cy (ad 26) 256 a3_givens, aI cy (ad 34) 8 a7_values] H → va_D A [oX1 ad s1_low_3 s1_high_4, oX3 ad s3_next s3_kept, oX7 ad s7_over s7_count, aI cy (ad 26) 256 a3_givens, aI cy (ad 34) 8 a7_values] → va_S A s.heap H locs → W p l e rm_X1_narrow s m ([.ref (ad 1), .ref (ad 3), .int x2] : List Value).toArray below meth c H locs 0 0 Q (F0 m 19 ls []) := by
    intro n19
    induction n19 with
    | zero => intro l5_1 l3_2 s1_low_3 s1_high_4 H locs ls hv; exact hv.elim
    | succ n19 ih19 =>
      intro l5_1 l3_2 s1_low_3 s1_high_4 H locs ls hv hl hP hD hS
      have hv : vB_X1_narrow_19 s3_next s3_kept s7_over s7_count a3_givens a7_values x2 K (fun z0 z1 z2 z3 => vfix (vF_X1_narrow_19 s3_next s3_kept s7_over s7_count a3_givens a7_values x2 K) n19 (z0, z1, z2, z3)) l5_1 l3_2 s1_low_3 s1_high_4 := hv
      unfold vB_X1_narrow_19 at hv
      refine lv_iload hx hb dX1_narrow_19 (lv_at hl 0 rfl) ?_
      refine lv_iload_n hx hb dX1_narrow_21 rfl (lv_at hl 4 rfl) ?_
      refine lv_icmp_gt (tgt := 144) hx hb dX1_narrow_22 (by decide) (fun c_22 => ?_) (fun c_22 => ?_)
      · have hv := hv.1 c_22
        rw [← hQ]
        exact k_vret hx hb hr hlocks hS (s1_low_3, s1_high_4) hP hD hv dX1_narrow_144
      · have hv := hv.2 c_22
        refine lv_aload_n hx hb dX1_narrow_25 rfl (lv_at hl 3 rfl) ?_
        refine lv_aload_n hx hb dX1_narrow_26 rfl (lv_at hl 3 rfl) ?_
        refine va_getN (D := D) (ci := 3) (v := .int s3_kept) (C := RX3) (T := TX3) (N := 6) hx hb hts in_X1_narrow_3 hown hK hP 1 rfl rfl 5 (by decide) (nz_use hN nzf_X1_26) (fun _ h9 => h9) rfl dX1_narrow_27 ?_
        refine lv_iload hx hb dX1_narrow_30 (lv_at hl 0 rfl) ?_
        refine lv_isub hx hb dX1_narrow_32 ?_
        refine lv_topi (fun e5 h_e5 => ?_)
        have hv := hv e5 h_e5
        have hPc := hP.sub (ws' := [oX3 ad s3_next s3_kept, aI cy (ad 26) 256 a3_givens]) [1, 3] rfl
        have hDc := hD.sub (ws' := [oX3 ad s3_next s3_kept, aI cy (ad 26) 256 a3_givens]) [1, 3] (by decide) rfl
        refine k_cali (wc := [oX3 ad s3_next s3_kept, aI cy (ad 26) 256 a3_givens]) (wr := [oX1 ad s1_low_3 s1_high_4, oX7 ad s7_over s7_count, aI cy (ad 34) 8 a7_values]) (va_runV (As := [.int e5]) (rest := []) ⟨hx, hb, hml, hown, hts⟩ (m_X3_givenAt l D cy ad s3_next s3_kept a3_givens e5 H.size hv) (cwV 1 hts gX1_narrow_X3_givenAt rfl rfl rfl (by decide +kernel) ⟨Nat.le_of_ble_eq_true rfl, Nat.le_of_ble_eq_true rfl⟩) ⟨wd_blind, va_recv hK hPc (ci := 3) (q0 := 0) rfl rfl, wd_ok hPc hK hDc hN⟩ rfl rfl hl.1 rfl (lv_room (Nat.le_of_ble_eq_true rfl)) dX1_narrow_33 ⟨Nat.le_of_ble_eq_true rfl, Nat.le_of_ble_eq_true rfl⟩) hP hD hS hA [1, 3] [0, 2, 4] rfl rfl (by decide) (by decide) (fun r6 u H locs hv hP hD hS => ?_)
        have hP : va_P D vwCl [oX1 ad s1_low_3 s1_high_4, oX3 ad s3_next s3_kept, oX7 ad s7_over s7_count, aI cy (ad 26) 256 a3_givens, aI cy (ad 34) 8 a7_values] H := hP.sub [0, 3, 1, 4, 2] rfl
        have hD : va_D A [oX1 ad s1_low_3 s1_high_4, oX3 ad s3_next s3_kept, oX7 ad s7_over s7_count, aI cy (ad 26) 256 a3_givens, aI cy (ad 34) 8 a7_values] := hD.sub [0, 3, 1, 4, 2] (by decide) rfl
        refine lv_i2l hx hb dX1_narrow_36 rfl ?_
        refine lv_aload_n hx hb dX1_narrow_37 rfl (lv_at hl 2 rfl) ?_
        refine va_get (D := D) (ci := 1) (v := .ref (ad 7)) (C := RX1) (T := TX1) (N := 3) hx hb hts in_X1_narrow_1 hown hK hP 0 rfl rfl 0 (by decide) (hts _ lk_X1_narrow_9) (fun _ h9 => h9) rfl dX1_narrow_38 ?_
        refine va_getN (D := D) (ci := 7) (v := .int s7_over) (C := RX7) (T := TX7) (N := 3) hx hb hts in_X1_narrow_7 hown hK hP 2 rfl rfl 0 (by decide) (nz_use hN nzf_X1_36) (fun _ h9 => h9) rfl dX1_narrow_41 ?_
        refine lv_i2l hx hb dX1_narrow_44 rfl ?_
        refine lv_lmul hx hb dX1_narrow_45 ?_
        refine lv_topl (fun e7 h_e7 => ?_)
        have hv := hv e7 h_e7
        refine lv_lstore (lv' := [(6, .long e7), (5, .int l5_1), (3, .long l3_2), (0, .ref (ad 1)), (1, .ref (ad 3)), (2, .int x2)]) hx hb dX1_narrow_46 hl (by decide) rfl (fun ls hl => ?_)
        refine lv_aload_n hx hb dX1_narrow_48 rfl (lv_at hl 3 rfl) ?_
        refine va_get (D := D) (ci := 1) (v := .ref (ad 7)) (C := RX1) (T := TX1) (N := 3) hx hb hts in_X1_narrow_1 hown hK hP 0 rfl rfl 0 (by decide) (hts _ lk_X1_narrow_9) (fun _ h9 => h9) rfl dX1_narrow_49 ?_
        refine lv_lload hx hb dX1_narrow_52 (lv_at hl 0 rfl) ?_
        have hPc := hP.sub (ws' := [oX7 ad s7_over s7_count, aI cy (ad 34) 8 a7_values]) [2, 4] rfl
        have hDc := hD.sub (ws' := [oX7 ad s7_over s7_count, aI cy (ad 34) 8 a7_values]) [2, 4] (by decide) rfl
        refine k_cali (wc := [oX7 ad s7_over s7_count, aI cy (ad 34) 8 a7_values]) (wr := [oX1 ad s1_low_3 s1_high_4, oX3 ad s3_next s3_kept, aI cy (ad 26) 256 a3_givens]) (va_runV (As := [.long e7]) (rest := []) ⟨hx, hb, hml, hown, hts⟩ (m_X7_placeFor l D cy ad s7_over s7_count a7_values e7 H.size hv) (cwV 1 hts gX1_narrow_X7_placeFor rfl rfl rfl (by decide +kernel) ⟨Nat.le_of_ble_eq_true rfl, Nat.le_of_ble_eq_true rfl⟩) ⟨wd_blind, va_recv hK hPc (ci := 7) (q0 := 0) rfl rfl, wd_ok hPc hK hDc hN⟩ rfl rfl hl.1 rfl (lv_room (Nat.le_of_ble_eq_true rfl)) dX1_narrow_54 ⟨Nat.le_of_ble_eq_true rfl, Nat.le_of_ble_eq_true rfl⟩) hP hD hS hA [2, 4] [0, 1, 3] rfl rfl (by decide) (by decide) (fun r8 u H locs hv hP hD hS => ?_)
        have hP : va_P D vwCl [oX1 ad s1_low_3 s1_high_4, oX3 ad s3_next s3_kept, oX7 ad s7_over s7_count, aI cy (ad 26) 256 a3_givens, aI cy (ad 34) 8 a7_values] H := hP.sub [0, 1, 3, 2, 4] rfl
        have hD : va_D A [oX1 ad s1_low_3 s1_high_4, oX3 ad s3_next s3_kept, oX7 ad s7_over s7_count, aI cy (ad 26) 256 a3_givens, aI cy (ad 34) 8 a7_values] := hD.sub [0, 1, 3, 2, 4] (by decide) rfl
        refine lv_istore (lv' := [(8, .int r8), (6, .long e7), (5, .int l5_1), (3, .long l3_2), (0, .ref (ad 1)), (1, .ref (ad 3)), (2, .int x2)]) hx hb dX1_narrow_57 hl (by decide) rfl (fun ls hl => ?_)
        refine lv_iload hx hb dX1_narrow_59 (lv_at hl 0 rfl) ?_
        have jn87 : ∀ (s1_low_9 : Int64) (H : Heap) (locs : List Loc) (ls : Array Slot), vJ_X1_narrow_87 s7_over s7_count a7_values l5_1 l3_2 s1_high_4 (fun z0 z1 z2 z3 => vfix (vF_X1_narrow_19 s3_next s3_kept s7_over s7_count a3_givens a7_values x2 K) n19 (z0, z1, z2, z3)) e7 r8 s1_low_9 → lv_has ls 9 [(8, .int r8), (6, .long e7), (5, .int l5_1), (3, .long l3_2), (0, .ref (ad 1)), (1, .ref (ad 3)), (2, .int x2)] → va_P D vwCl [oX1 ad s1_low_9 s1_high_4, oX3 ad s3_next s3_kept, oX7 ad s7_over s7_count, aI cy (ad 26) 256 a3_givens, aI cy (ad 34) 8 a7_values] H → va_D A [oX1 ad s1_low_9 s1_high_4, oX3 ad s3_next s3_kept, oX7 ad s7_over s7_count, aI cy (ad 26) 256 a3_givens, aI cy (ad 34) 8 a7_values] → va_S A s.heap H locs → W p l e rm_X1_narrow s m ([.ref (ad 1), .ref (ad 3), .int x2] : List Value).toArray below meth c H locs 0 0 Q (F0 m 87 ls []) := by
          intro s1_low_9 H locs ls hv hl hP hD hS
          unfold vJ_X1_narrow_87 at hv
          refine lv_iload hx hb dX1_narrow_87 (lv_at hl 0 rfl) ?_
          refine lv_iconst (v := 1) hx hb dX1_narrow_89 (by decide) ?_
          refine lv_iadd hx hb dX1_narrow_90 ?_
          refine lv_topi (fun e10 h_e10 => ?_)
          have hv := hv e10 h_e10
          refine lv_aload_n hx hb dX1_narrow_91 rfl (lv_at hl 4 rfl) ?_
          refine va_get (D := D) (ci := 1) (v := .ref (ad 7)) (C := RX1) (T := TX1) (N := 3) hx hb hts in_X1_narrow_1 hown hK hP 0 rfl rfl 0 (by decide) (hts _ lk_X1_narrow_9) (fun _ h9 => h9) rfl dX1_narrow_92 ?_
          refine va_getN (D := D) (ci := 7) (v := .int s7_count) (C := RX7) (T := TX7) (N := 3) hx hb hts in_X1_narrow_7 hown hK hP 2 rfl rfl 1 (by decide) (nz_use hN nzf_X1_54) (fun _ h9 => h9) rfl dX1_narrow_95 ?_
          have jn133 : ∀ (s1_high_11 : Int64) (H : Heap) (locs : List Loc) (ls : Array Slot), vJ_X1_narrow_133 l5_1 l3_2 (fun z0 z1 z2 z3 => vfix (vF_X1_narrow_19 s3_next s3_kept s7_over s7_count a3_givens a7_values x2 K) n19 (z0, z1, z2, z3)) e7 s1_low_9 s1_high_11 → lv_has ls 9 [(6, .long e7), (5, .int l5_1), (3, .long l3_2), (0, .ref (ad 1)), (1, .ref (ad 3)), (2, .int x2)] → va_P D vwCl [oX1 ad s1_low_9 s1_high_11, oX3 ad s3_next s3_kept, oX7 ad s7_over s7_count, aI cy (ad 26) 256 a3_givens, aI cy (ad 34) 8 a7_values] H → va_D A [oX1 ad s1_low_9 s1_high_11, oX3 ad s3_next s3_kept, oX7 ad s7_over s7_count, aI cy (ad 26) 256 a3_givens, aI cy (ad 34) 8 a7_values] → va_S A s.heap H locs → W p l e rm_X1_narrow s m ([.ref (ad 1), .ref (ad 3), .int x2] : List Value).toArray below meth c H locs 0 0 Q (F0 m 133 ls []) := by
            intro s1_high_11 H locs ls hv hl hP hD hS
            unfold vJ_X1_narrow_133 at hv
            refine lv_lload_n hx hb dX1_narrow_133 rfl (lv_at hl 2 rfl) ?_
            refine lv_lload hx hb dX1_narrow_134 (lv_at hl 0 rfl) ?_
            refine lv_ladd hx hb dX1_narrow_136 ?_
            refine lv_topl (fun e12 h_e12 => ?_)
            have hv := hv e12 h_e12
            refine lv_lstore_n (lv' := [(3, .long e12), (6, .long e7), (5, .int l5_1), (0, .ref (ad 1)), (1, .ref (ad 3)), (2, .int x2)]) hx hb dX1_narrow_137 rfl hl (by decide) rfl (fun ls hl => ?_)
            obtain ⟨i13, h_i13⟩ : ∃ y : Int32, y = l5_1 + 1 := ⟨_, rfl⟩
            refine lv_iinc (v := i13) (lv' := [(5, .int i13), (3, .long e12), (6, .long e7), (0, .ref (ad 1)), (1, .ref (ad 3)), (2, .int x2)]) hx hb dX1_narrow_138 hl (k := 2) rfl (by rw [h_i13]; rfl) (by decide) rfl (fun ls hl => ?_)
            have hv := hv i13 h_i13
            refine lv_goto (tgt := 19) hx hb dX1_narrow_141 (by decide) ?_
            exact ih19 i13 e12 s1_low_9 s1_high_11 H locs ls hv (lv_sub hl [0, 1, 3, 4, 5] rfl) hP hD hS
          refine lv_icmp_ge (tgt := 133) hx hb dX1_narrow_98 (by decide) (fun c_98 => ?_) (fun c_98 => ?_)
          · have hv := hv.1 c_98
            exact jn133 s1_high_4 H locs ls hv (lv_sub hl [1, 2, 3, 4, 5, 6] rfl) hP hD hS
          · have hv := hv.2 c_98
            refine lv_aload_n hx hb dX1_narrow_101 rfl (lv_at hl 4 rfl) ?_
            refine lv_aload_n hx hb dX1_narrow_102 rfl (lv_at hl 4 rfl) ?_
            refine va_get (D := D) (ci := 1) (v := .long s1_high_4) (C := RX1) (T := TX1) (N := 3) hx hb hts in_X1_narrow_1 hown hK hP 0 rfl rfl 2 (by decide) (hts _ lk_X1_narrow_23) (fun _ h9 => h9) rfl dX1_narrow_103 ?_
            refine lv_lload_n hx hb dX1_narrow_106 rfl (lv_at hl 3 rfl) ?_
            refine lv_aload_n hx hb dX1_narrow_107 rfl (lv_at hl 4 rfl) ?_
            refine va_get (D := D) (ci := 1) (v := .ref (ad 7)) (C := RX1) (T := TX1) (N := 3) hx hb hts in_X1_narrow_1 hown hK hP 0 rfl rfl 0 (by decide) (hts _ lk_X1_narrow_9) (fun _ h9 => h9) rfl dX1_narrow_108 ?_
            refine lv_iload hx hb dX1_narrow_111 (lv_at hl 0 rfl) ?_
            refine lv_iconst (v := 1) hx hb dX1_narrow_113 (by decide) ?_
            refine lv_iadd hx hb dX1_narrow_114 ?_
            refine lv_topi (fun e14 h_e14 => ?_)
            have hv := hv e14 h_e14
            have hPc := hP.sub (ws' := [oX7 ad s7_over s7_count, aI cy (ad 34) 8 a7_values]) [2, 4] rfl
            have hDc := hD.sub (ws' := [oX7 ad s7_over s7_count, aI cy (ad 34) 8 a7_values]) [2, 4] (by decide) rfl
            refine k_call (wc := [oX7 ad s7_over s7_count, aI cy (ad 34) 8 a7_values]) (wr := [oX1 ad s1_low_9 s1_high_4, oX3 ad s3_next s3_kept, aI cy (ad 26) 256 a3_givens]) (va_runV (As := [.int e14]) (rest := [.long l3_2, .long s1_high_4, .ref (ad 1)]) ⟨hx, hb, hml, hown, hts⟩ (m_X7_fineAt l D cy ad s7_over s7_count a7_values e14 H.size hv) (cwV 1 hts gX1_narrow_X7_fineAt rfl rfl rfl (by decide +kernel) ⟨Nat.le_of_ble_eq_true rfl, Nat.le_of_ble_eq_true rfl⟩) ⟨wd_blind, va_recv hK hPc (ci := 7) (q0 := 0) rfl rfl, wd_ok hPc hK hDc hN⟩ rfl rfl hl.1 rfl (lv_room (Nat.le_of_ble_eq_true rfl)) dX1_narrow_115 ⟨Nat.le_of_ble_eq_true rfl, Nat.le_of_ble_eq_true rfl⟩) hP hD hS hA [2, 4] [0, 1, 3] rfl rfl (by decide) (by decide) (fun r15 u H locs hv hP hD hS => ?_)
            have hP : va_P D vwCl [oX1 ad s1_low_9 s1_high_4, oX3 ad s3_next s3_kept, oX7 ad s7_over s7_count, aI cy (ad 26) 256 a3_givens, aI cy (ad 34) 8 a7_values] H := hP.sub [0, 1, 3, 2, 4] rfl
            have hD : va_D A [oX1 ad s1_low_9 s1_high_4, oX3 ad s3_next s3_kept, oX7 ad s7_over s7_count, aI cy (ad 26) 256 a3_givens, aI cy (ad 34) 8 a7_values] := hD.sub [0, 1, 3, 2, 4] (by decide) rfl
            refine lv_ladd hx hb dX1_narrow_118 ?_
            refine lv_topl (fun e16 h_e16 => ?_)
            have hv := hv e16 h_e16
            refine lv_lconst (v := 1) hx hb dX1_narrow_119 (by decide) ?_
            refine lv_lsub hx hb dX1_narrow_120 ?_
            refine lv_topl (fun e17 h_e17 => ?_)
            have hv := hv e17 h_e17
            refine lv_iload hx hb dX1_narrow_121 (lv_at hl 2 rfl) ?_
            refine lv_i2l hx hb dX1_narrow_123 rfl ?_
            have hPc := hP.sub (ws' := []) [] rfl
            have hDc := hD.sub (ws' := []) [] (by decide) rfl
            refine k_call (wc := []) (wr := [oX1 ad s1_low_9 s1_high_4, oX3 ad s3_next s3_kept, oX7 ad s7_over s7_count, aI cy (ad 26) 256 a3_givens, aI cy (ad 34) 8 a7_values]) (va_runS (As := [.long e17, .long l5_1.toInt64]) (rest := [.long s1_high_4, .ref (ad 1)]) ⟨hx, hb, hml, hown, hts⟩ (m_J9_floorDiv_f86c9 l D cy ad e17 (l5_1.toInt64) H.size hv) (va_cwS 2 hts gX1_narrow_J9_floorDiv_f86c9 rfl rfl rfl (by decide +kernel) ⟨Nat.le_of_ble_eq_true rfl, Nat.le_of_ble_eq_true rfl⟩) ⟨wd_blind, wd_ok hPc hK hDc hN⟩ rfl rfl hl.1 rfl (lv_room (Nat.le_of_ble_eq_true rfl)) dX1_narrow_124 ⟨Nat.le_of_ble_eq_true rfl, Nat.le_of_ble_eq_true rfl⟩) hP hD hS hA [] [0, 1, 2, 3, 4] rfl rfl (by decide) (by decide) (fun r18 u H locs hv hP hD hS => ?_)
            have hP : va_P D vwCl [oX1 ad s1_low_9 s1_high_4, oX3 ad s3_next s3_kept, oX7 ad s7_over s7_count, aI cy (ad 26) 256 a3_givens, aI cy (ad 34) 8 a7_values] H := hP.sub [0, 1, 2, 3, 4] rfl
            have hD : va_D A [oX1 ad s1_low_9 s1_high_4, oX3 ad s3_next s3_kept, oX7 ad s7_over s7_count, aI cy (ad 26) 256 a3_givens, aI cy (ad 34) 8 a7_values] := hD.sub [0, 1, 2, 3, 4] (by decide) rfl
            refine va_mmin_long hx hb (hml.trans hl.1.symm) hown (hts _ lm1_X1_narrow_minL) (hts _ lm2_X1_narrow_minL) (hts _ lm3_X1_narrow) (hts _ lm4_X1_narrow_minL) (Nat.le_of_ble_eq_true rfl) (Nat.le_of_ble_eq_true rfl) (Nat.le_of_ble_eq_true rfl) (Nat.le_of_ble_eq_true rfl) dX1_narrow_127 ?_
            refine lv_topl (fun e19 h_e19 => ?_)
            have hv := hv e19 h_e19
            refine va_put (D := D) (ci := 1) (v := .long e19) (ty := .long) (C := RX1) (T := TX1) (N := 3) hx hb hts in_X1_narrow_1 tyX1 tyX1_ok nmX1 hown hK hP hD hS 0 rfl rfl 2 (by decide) (hts _ lk_X1_narrow_23) (fun _ h9 => h9) rfl (by decide +kernel) rfl rfl (Nat.le_of_ble_eq_true rfl) dX1_narrow_130 (fun H locs hP hD hS => ?_)
            have hP : va_P D vwCl [oX1 ad s1_low_9 e19, oX3 ad s3_next s3_kept, oX7 ad s7_over s7_count, aI cy (ad 26) 256 a3_givens, aI cy (ad 34) 8 a7_values] H := hP
            have hD : va_D A [oX1 ad s1_low_9 e19, oX3 ad s3_next s3_kept, oX7 ad s7_over s7_count, aI cy (ad 26) 256 a3_givens, aI cy (ad 34) 8 a7_values] := hD
            exact jn133 e19 H locs ls hv (lv_sub hl [1, 2, 3, 4, 5, 6] rfl) hP hD hS
        refine lv_if_le (tgt := 87) hx hb dX1_narrow_61 (by decide) (fun c_61 => ?_) (fun c_61 => ?_)
        · have hv := hv.1 c_61
          exact jn87 s1_low_3 H locs ls hv (lv_sub hl [0, 1, 2, 3, 4, 5, 6] rfl) hP hD hS
        · have hv := hv.2 c_61
          refine lv_aload_n hx hb dX1_narrow_64 rfl (lv_at hl 4 rfl) ?_
          refine lv_aload_n hx hb dX1_narrow_65 rfl (lv_at hl 4 rfl) ?_
          refine va_get (D := D) (ci := 1) (v := .long s1_low_3) (C := RX1) (T := TX1) (N := 3) hx hb hts in_X1_narrow_1 hown hK hP 0 rfl rfl 1 (by decide) (hts _ lk_X1_narrow_17) (fun _ h9 => h9) rfl dX1_narrow_66 ?_
          refine lv_lload_n hx hb dX1_narrow_69 rfl (lv_at hl 3 rfl) ?_
          refine lv_lload hx hb dX1_narrow_70 (lv_at hl 1 rfl) ?_
          refine lv_ladd hx hb dX1_narrow_72 ?_
          refine lv_topl (fun e20 h_e20 => ?_)
          have hv := hv e20 h_e20
          refine lv_lneg hx hb dX1_narrow_73 ?_
          refine lv_topl (fun e21 h_e21 => ?_)
          have hv := hv e21 h_e21
          refine lv_iload hx hb dX1_narrow_74 (lv_at hl 2 rfl) ?_
          refine lv_i2l hx hb dX1_narrow_76 rfl ?_
          have hPc := hP.sub (ws' := []) [] rfl
          have hDc := hD.sub (ws' := []) [] (by decide) rfl
          refine k_call (wc := []) (wr := [oX1 ad s1_low_3 s1_high_4, oX3 ad s3_next s3_kept, oX7 ad s7_over s7_count, aI cy (ad 26) 256 a3_givens, aI cy (ad 34) 8 a7_values]) (va_runS (As := [.long e21, .long l5_1.toInt64]) (rest := [.long s1_low_3, .ref (ad 1)]) ⟨hx, hb, hml, hown, hts⟩ (m_J9_floorDiv_f86c9 l D cy ad e21 (l5_1.toInt64) H.size hv) (va_cwS 2 hts gX1_narrow_J9_floorDiv_f86c9 rfl rfl rfl (by decide +kernel) ⟨Nat.le_of_ble_eq_true rfl, Nat.le_of_ble_eq_true rfl⟩) ⟨wd_blind, wd_ok hPc hK hDc hN⟩ rfl rfl hl.1 rfl (lv_room (Nat.le_of_ble_eq_true rfl)) dX1_narrow_77 ⟨Nat.le_of_ble_eq_true rfl, Nat.le_of_ble_eq_true rfl⟩) hP hD hS hA [] [0, 1, 2, 3, 4] rfl rfl (by decide) (by decide) (fun r22 u H locs hv hP hD hS => ?_)
          have hP : va_P D vwCl [oX1 ad s1_low_3 s1_high_4, oX3 ad s3_next s3_kept, oX7 ad s7_over s7_count, aI cy (ad 26) 256 a3_givens, aI cy (ad 34) 8 a7_values] H := hP.sub [0, 1, 2, 3, 4] rfl
          have hD : va_D A [oX1 ad s1_low_3 s1_high_4, oX3 ad s3_next s3_kept, oX7 ad s7_over s7_count, aI cy (ad 26) 256 a3_givens, aI cy (ad 34) 8 a7_values] := hD.sub [0, 1, 2, 3, 4] (by decide) rfl
          refine lv_lneg hx hb dX1_narrow_80 ?_
          refine lv_topl (fun e23 h_e23 => ?_)
          have hv := hv e23 h_e23
          refine va_mmax_long hx hb (hml.trans hl.1.symm) hown (hts _ lm1_X1_narrow_maxL) (hts _ lm2_X1_narrow_maxL) (hts _ lm3_X1_narrow) (hts _ lm4_X1_narrow_maxL) (Nat.le_of_ble_eq_true rfl) (Nat.le_of_ble_eq_true rfl) (Nat.le_of_ble_eq_true rfl) (Nat.le_of_ble_eq_true rfl) dX1_narrow_81 ?_
          refine lv_topl (fun e24 h_e24 => ?_)
          have hv := hv e24 h_e24
          refine va_put (D := D) (ci := 1) (v := .long e24) (ty := .long) (C := RX1) (T := TX1) (N := 3) hx hb hts in_X1_narrow_1 tyX1 tyX1_ok nmX1 hown hK hP hD hS 0 rfl rfl 1 (by decide) (hts _ lk_X1_narrow_17) (fun _ h9 => h9) rfl (by decide +kernel) rfl rfl (Nat.le_of_ble_eq_true rfl) dX1_narrow_84 (fun H locs hP hD hS => ?_)
          have hP : va_P D vwCl [oX1 ad e24 s1_high_4, oX3 ad s3_next s3_kept, oX7 ad s7_over s7_count, aI cy (ad 26) 256 a3_givens, aI cy (ad 34) 8 a7_values] H := hP
          have hD : va_D A [oX1 ad e24 s1_high_4, oX3 ad s3_next s3_kept, oX7 ad s7_over s7_count, aI cy (ad 26) 256 a3_givens, aI cy (ad 34) 8 a7_values] := hD
          exact jn87 e24 H locs ls hv (lv_sub hl [0, 1, 2, 3, 4, 5, 6] rfl) hP hD hS
  obtain ⟨nn, hv⟩ := hv
  exact lp19 nn (1 : Int32) (0 : Int64) (-1000000 : Int64) (1000000 : Int64) H locs ls hv (lv_sub hl [0, 1, 2, 3, 4] rfl) hP hD hS
theorem lk_X1_roomAbove_68 : Cond.constantLong RX1 68 (2000) ∈ wsX1_roomAbove := by decide +kernel
theorem lk_X1_roomAbove_9 : Cond.fieldLink RX1 9 "CoarseSteps$Claim" "scale" "LCoarseSteps$Scale;" ∈ wsX1_roomAbove := by decide +kernel
theorem in_X1_roomAbove_1 : ∀ w ∈ wsX10, w ∈ wsX1_roomAbove := by decide +kernel
theorem in_X1_roomAbove_7 : ∀ w ∈ wsX70, w ∈ wsX1_roomAbove := by decide +kernel
theorem lm1_X1_roomAbove_minL : Cond.methodLink RX1 61 Lib.MathLoose.min_long.x ∈ wsX1_roomAbove := by decide +kernel
theorem lm2_X1_roomAbove_minL : Cond.static Lib.MathLoose.min_long.x ∈ wsX1_roomAbove := by decide +kernel
theorem lm3_X1_roomAbove : Cond.initialized "java/lang/Math" ∈ wsX1_roomAbove := by decide +kernel
theorem lm4_X1_roomAbove_minL : Cond.code Lib.MathLoose.min_long.x Lib.MathLoose.min_long.code 4 (some .long) ∈ wsX1_roomAbove := by decide +kernel
abbrev rm_X1_roomAbove : Room := { frames := 1, cells := 0, slots := 0, locals := 25 }
set_option maxHeartbeats 4000000 in
set_option maxRecDepth 100000 in
theorem m_X1_roomAbove (l : Launch) (D : va_G) (cy : ClassId × ClassId × ClassId) (ad : Nat → Nat) (s1_low : Int64) (s1_high : Int64) (s7_over : Int32) (s7_count : Int32) (a7_values : Nat → Int32) (x1 : Int64) (x3 : Int32) (sz : Nat) {K : Int64 → Prop} (hv : v_X1_roomAbove s7_over s7_count a7_values x1 x3 K) : Met l yX1_roomAbove wsX1_roomAbove rm_X1_roomAbove (va_Pc [.ref (ad 1), .long x1, .int x3] (wd D cy [oX1 ad s1_low s1_high, oX7 ad s7_over s7_count, aI cy (ad 34) 8 a7_values] sz)) (va_Ql (fun (r : Int64) (u : Unit) => K r) (fun u t => we D ((fun u : Unit => [oX1 ad s1_low s1_high, oX7 ad s7_over s7_count, aI cy (ad 34) 8 a7_values]) u) (va_A [oX1 ad s1_low s1_high, oX7 ad s7_over s7_count, aI cy (ad 34) 8 a7_values] sz) t) (va_A [oX1 ad s1_low s1_high, oX7 ad s7_over s7_count, aI cy (ad 34) 8 a7_values] sz)) 0 0 (va_A [oX1 ad s1_low s1_high, oX7 ad s7_over s7_count, aI cy (ad 34) 8 a7_values] sz) := by
  refine k_ofW (cc := cX1_roomAbove) (maxL := 12) (ret := (some .long)) (fun A => va_Ql (fun (r : Int64) (u : Unit) => K r) (fun u t => we D ((fun u : Unit => [oX1 ad s1_low s1_high, oX7 ad s7_over s7_count, aI cy (ad 34) 8 a7_values]) u) A t) A) (by decide) rfl (Nat.le_of_ble_eq_true rfl) ?_
  intro p e s m below meth c A ls H locs hx hb hml hr hts hown hlocks hname hK hN hA hP hD hS hl
  have hl : lv_has ls 12 [(0, .ref (ad 1)), (1, .long x1), (3, .int x3)] := hl
  generalize hQ : MQ below _ _ s _ _ A = Q
  unfold v_X1_roomAbove at hv
  refine lv_ldc2 hx hb hown (hts _ lk_X1_roomAbove_68) dX1_roomAbove_0 ?_
  refine lv_lstore (lv' := [(4, .long (2000 : Int64)), (0, .ref (ad 1)), (1, .long x1), (3, .int x3)]) hx hb dX1_roomAbove_3 hl (by decide) rfl (fun ls hl => ?_)
  refine lv_lconst (v := 0) hx hb dX1_roomAbove_5 (by decide) ?_
  refine lv_lstore (lv' := [(6, .long (0 : Int64)), (4, .long (2000 : Int64)), (0, .ref (ad 1)), (1, .long x1), (3, .int x3)]) hx hb dX1_roomAbove_6 hl (by decide) rfl (fun ls hl => ?_)
  refine lv_iconst (v := 1) hx hb dX1_roomAbove_8 (by decide) ?_
  refine lv_istore (lv' := [(8, .int (1 : Int32)), (6, .long (0 : Int64)), (4, .long (2000 : Int64)), (0, .ref (ad 1)), (1, .long x1), (3, .int x3)]) hx hb dX1_roomAbove_9 hl (by decide) rfl (fun ls hl => ?_)
  have lp11 : ∀ (n11 : Nat) (l8_1 : Int32) (l6_2 : Int64) (l4_3 : Int64) (H : Heap) (locs : List Loc) (ls : Array Slot), vfix (vF_X1_roomAbove_11 s7_over s7_count a7_values x1 x3 K) n11 (l8_1, l6_2, l4_3) → lv_has ls 12 [(8, .int l8_1), (6, .long l6_2), (4, .long l4_3), (0, .ref (ad 1)), (1, .long x1), (3, .int x3)] → va_P D vwCl [oX1 ad s1_low s1_high, oX7 ad s7_over s7_count, aI cy (ad 34) 8 a7_values] H → va_D A [oX1 ad s1_low s1_high, oX7 ad s7_over s7_count, aI cy (ad 34) 8 a7_values] → va_S A s.heap H locs → W p l e rm_X1_roomAbove s m ([.ref (ad 1), .long x1, .int x3] : List Value).toArray below meth c H locs 0 0 Q (F0 m 11 ls []) := by
    intro n11
    induction n11 with
    | zero => intro l8_1 l6_2 l4_3 H locs ls hv; exact hv.elim
    | succ n11 ih11 =>
      intro l8_1 l6_2 l4_3 H locs ls hv hl hP hD hS
      have hv : vB_X1_roomAbove_11 s7_over s7_count a7_values x1 x3 K (fun z0 z1 z2 => vfix (vF_X1_roomAbove_11 s7_over s7_count a7_values x1 x3 K) n11 (z0, z1, z2)) l8_1 l6_2 l4_3 := hv
      unfold vB_X1_roomAbove_11 at hv
      refine lv_iload hx hb dX1_roomAbove_11 (lv_at hl 0 rfl) ?_
      refine lv_iload_n hx hb dX1_roomAbove_13 rfl (lv_at hl 5 rfl) ?_
      refine lv_icmp_gt (tgt := 97) hx hb dX1_roomAbove_14 (by decide) (fun c_14 => ?_) (fun c_14 => ?_)
      · have hv := hv.1 c_14
        refine lv_lload hx hb dX1_roomAbove_97 (lv_at hl 2 rfl) ?_
        rw [← hQ]
        exact k_lret hx hb hr hlocks hS () hP hD hv dX1_roomAbove_99
      · have hv := hv.2 c_14
        refine lv_lload hx hb dX1_roomAbove_17 (lv_at hl 1 rfl) ?_
        refine lv_lload_n hx hb dX1_roomAbove_19 rfl (lv_at hl 4 rfl) ?_
        refine lv_ladd hx hb dX1_roomAbove_20 ?_
        refine lv_topl (fun e4 h_e4 => ?_)
        have hv := hv e4 h_e4
        refine lv_lstore (lv' := [(9, .long e4), (8, .int l8_1), (6, .long l6_2), (4, .long l4_3), (0, .ref (ad 1)), (1, .long x1), (3, .int x3)]) hx hb dX1_roomAbove_21 hl (by decide) rfl (fun ls hl => ?_)
        refine lv_aload_n hx hb dX1_roomAbove_23 rfl (lv_at hl 4 rfl) ?_
        refine va_get (D := D) (ci := 1) (v := .ref (ad 7)) (C := RX1) (T := TX1) (N := 3) hx hb hts in_X1_roomAbove_1 hown hK hP 0 rfl rfl 0 (by decide) (hts _ lk_X1_roomAbove_9) (fun _ h9 => h9) rfl dX1_roomAbove_24 ?_
        refine lv_lload hx hb dX1_roomAbove_27 (lv_at hl 0 rfl) ?_
        have hPc := hP.sub (ws' := [oX7 ad s7_over s7_count, aI cy (ad 34) 8 a7_values]) [1, 2] rfl
        have hDc := hD.sub (ws' := [oX7 ad s7_over s7_count, aI cy (ad 34) 8 a7_values]) [1, 2] (by decide) rfl
        refine k_cali (wc := [oX7 ad s7_over s7_count, aI cy (ad 34) 8 a7_values]) (wr := [oX1 ad s1_low s1_high]) (va_runV (As := [.long e4]) (rest := []) ⟨hx, hb, hml, hown, hts⟩ (m_X7_placeFor l D cy ad s7_over s7_count a7_values e4 H.size hv) (cwV 1 hts gX1_roomAbove_X7_placeFor rfl rfl rfl (by decide +kernel) ⟨Nat.le_of_ble_eq_true rfl, Nat.le_of_ble_eq_true rfl⟩) ⟨wd_blind, va_recv hK hPc (ci := 7) (q0 := 0) rfl rfl, wd_ok hPc hK hDc hN⟩ rfl rfl hl.1 rfl (lv_room (Nat.le_of_ble_eq_true rfl)) dX1_roomAbove_29 ⟨Nat.le_of_ble_eq_true rfl, Nat.le_of_ble_eq_true rfl⟩) hP hD hS hA [1, 2] [0] rfl rfl (by decide) (by decide) (fun r5 u H locs hv hP hD hS => ?_)
        have hP : va_P D vwCl [oX1 ad s1_low s1_high, oX7 ad s7_over s7_count, aI cy (ad 34) 8 a7_values] H := hP.sub [0, 1, 2] rfl
        have hD : va_D A [oX1 ad s1_low s1_high, oX7 ad s7_over s7_count, aI cy (ad 34) 8 a7_values] := hD.sub [0, 1, 2] (by decide) rfl
        refine lv_istore (lv' := [(11, .int r5), (9, .long e4), (8, .int l8_1), (6, .long l6_2), (4, .long l4_3), (0, .ref (ad 1)), (1, .long x1), (3, .int x3)]) hx hb dX1_roomAbove_32 hl (by decide) rfl (fun ls hl => ?_)
        refine lv_iload hx hb dX1_roomAbove_34 (lv_at hl 0 rfl) ?_
        refine lv_iconst (v := 1) hx hb dX1_roomAbove_36 (by decide) ?_
        refine lv_iadd hx hb dX1_roomAbove_37 ?_
        refine lv_topi (fun e6 h_e6 => ?_)
        have hv := hv e6 h_e6
        refine lv_aload_n hx hb dX1_roomAbove_38 rfl (lv_at hl 5 rfl) ?_
        refine va_get (D := D) (ci := 1) (v := .ref (ad 7)) (C := RX1) (T := TX1) (N := 3) hx hb hts in_X1_roomAbove_1 hown hK hP 0 rfl rfl 0 (by decide) (hts _ lk_X1_roomAbove_9) (fun _ h9 => h9) rfl dX1_roomAbove_39 ?_
        refine va_getN (D := D) (ci := 7) (v := .int s7_count) (C := RX7) (T := TX7) (N := 3) hx hb hts in_X1_roomAbove_7 hown hK hP 1 rfl rfl 1 (by decide) (nz_use hN nzf_X1_54) (fun _ h9 => h9) rfl dX1_roomAbove_42 ?_
        have jn77 : ∀ (l4_7 : Int64) (H : Heap) (locs : List Loc) (ls : Array Slot), vJ_X1_roomAbove_77 s7_over a7_values l8_1 (fun z0 z1 z2 => vfix (vF_X1_roomAbove_11 s7_over s7_count a7_values x1 x3 K) n11 (z0, z1, z2)) e4 r5 l4_7 → lv_has ls 12 [(11, .int r5), (9, .long e4), (8, .int l8_1), (4, .long l4_7), (0, .ref (ad 1)), (1, .long x1), (3, .int x3)] → va_P D vwCl [oX1 ad s1_low s1_high, oX7 ad s7_over s7_count, aI cy (ad 34) 8 a7_values] H → va_D A [oX1 ad s1_low s1_high, oX7 ad s7_over s7_count, aI cy (ad 34) 8 a7_values] → va_S A s.heap H locs → W p l e rm_X1_roomAbove s m ([.ref (ad 1), .long x1, .int x3] : List Value).toArray below meth c H locs 0 0 Q (F0 m 77 ls []) := by
          intro l4_7 H locs ls hv hl hP hD hS
          unfold vJ_X1_roomAbove_77 at hv
          refine lv_lload hx hb dX1_roomAbove_77 (lv_at hl 1 rfl) ?_
          refine lv_aload_n hx hb dX1_roomAbove_79 rfl (lv_at hl 4 rfl) ?_
          refine va_get (D := D) (ci := 1) (v := .ref (ad 7)) (C := RX1) (T := TX1) (N := 3) hx hb hts in_X1_roomAbove_1 hown hK hP 0 rfl rfl 0 (by decide) (hts _ lk_X1_roomAbove_9) (fun _ h9 => h9) rfl dX1_roomAbove_80 ?_
          refine lv_iload hx hb dX1_roomAbove_83 (lv_at hl 0 rfl) ?_
          have hPc := hP.sub (ws' := [oX7 ad s7_over s7_count, aI cy (ad 34) 8 a7_values]) [1, 2] rfl
          have hDc := hD.sub (ws' := [oX7 ad s7_over s7_count, aI cy (ad 34) 8 a7_values]) [1, 2] (by decide) rfl
          refine k_call (wc := [oX7 ad s7_over s7_count, aI cy (ad 34) 8 a7_values]) (wr := [oX1 ad s1_low s1_high]) (va_runV (As := [.int r5]) (rest := [.long e4]) ⟨hx, hb, hml, hown, hts⟩ (m_X7_fineAt l D cy ad s7_over s7_count a7_values r5 H.size hv) (cwV 1 hts gX1_roomAbove_X7_fineAt rfl rfl rfl (by decide +kernel) ⟨Nat.le_of_ble_eq_true rfl, Nat.le_of_ble_eq_true rfl⟩) ⟨wd_blind, va_recv hK hPc (ci := 7) (q0 := 0) rfl rfl, wd_ok hPc hK hDc hN⟩ rfl rfl hl.1 rfl (lv_room (Nat.le_of_ble_eq_true rfl)) dX1_roomAbove_85 ⟨Nat.le_of_ble_eq_true rfl, Nat.le_of_ble_eq_true rfl⟩) hP hD hS hA [1, 2] [0] rfl rfl (by decide) (by decide) (fun r8 u H locs hv hP hD hS => ?_)
          have hP : va_P D vwCl [oX1 ad s1_low s1_high, oX7 ad s7_over s7_count, aI cy (ad 34) 8 a7_values] H := hP.sub [0, 1, 2] rfl
          have hD : va_D A [oX1 ad s1_low s1_high, oX7 ad s7_over s7_count, aI cy (ad 34) 8 a7_values] := hD.sub [0, 1, 2] (by decide) rfl
          refine lv_lsub hx hb dX1_roomAbove_88 ?_
          refine lv_topl (fun e9 h_e9 => ?_)
          have hv := hv e9 h_e9
          refine lv_lstore (lv' := [(6, .long e9), (11, .int r5), (9, .long e4), (8, .int l8_1), (4, .long l4_7), (0, .ref (ad 1)), (1, .long x1), (3, .int x3)]) hx hb dX1_roomAbove_89 hl (by decide) rfl (fun ls hl => ?_)
          obtain ⟨i10, h_i10⟩ : ∃ y : Int32, y = l8_1 + 1 := ⟨_, rfl⟩
          refine lv_iinc (v := i10) (lv' := [(8, .int i10), (6, .long e9), (11, .int r5), (9, .long e4), (4, .long l4_7), (0, .ref (ad 1)), (1, .long x1), (3, .int x3)]) hx hb dX1_roomAbove_91 hl (k := 3) rfl (by rw [h_i10]; rfl) (by decide) rfl (fun ls hl => ?_)
          have hv := hv i10 h_i10
          refine lv_goto (tgt := 11) hx hb dX1_roomAbove_94 (by decide) ?_
          exact ih11 i10 e9 l4_7 H locs ls hv (lv_sub hl [0, 1, 4, 5, 6, 7] rfl) hP hD hS
        refine lv_icmp_ge (tgt := 77) hx hb dX1_roomAbove_45 (by decide) (fun c_45 => ?_) (fun c_45 => ?_)
        · have hv := hv.1 c_45
          exact jn77 l4_3 H locs ls hv (lv_sub hl [0, 1, 2, 4, 5, 6, 7] rfl) hP hD hS
        · have hv := hv.2 c_45
          refine lv_lload hx hb dX1_roomAbove_48 (lv_at hl 4 rfl) ?_
          refine lv_aload_n hx hb dX1_roomAbove_50 rfl (lv_at hl 5 rfl) ?_
          refine va_get (D := D) (ci := 1) (v := .ref (ad 7)) (C := RX1) (T := TX1) (N := 3) hx hb hts in_X1_roomAbove_1 hown hK hP 0 rfl rfl 0 (by decide) (hts _ lk_X1_roomAbove_9) (fun _ h9 => h9) rfl dX1_roomAbove_51 ?_
          refine lv_iload hx hb dX1_roomAbove_54 (lv_at hl 0 rfl) ?_
          refine lv_iconst (v := 1) hx hb dX1_roomAbove_56 (by decide) ?_
          refine lv_iadd hx hb dX1_roomAbove_57 ?_
          refine lv_topi (fun e11 h_e11 => ?_)
          have hv := hv e11 h_e11
          have hPc := hP.sub (ws' := [oX7 ad s7_over s7_count, aI cy (ad 34) 8 a7_values]) [1, 2] rfl
          have hDc := hD.sub (ws' := [oX7 ad s7_over s7_count, aI cy (ad 34) 8 a7_values]) [1, 2] (by decide) rfl
          refine k_call (wc := [oX7 ad s7_over s7_count, aI cy (ad 34) 8 a7_values]) (wr := [oX1 ad s1_low s1_high]) (va_runV (As := [.int e11]) (rest := [.long l4_3]) ⟨hx, hb, hml, hown, hts⟩ (m_X7_fineAt l D cy ad s7_over s7_count a7_values e11 H.size hv) (cwV 1 hts gX1_roomAbove_X7_fineAt rfl rfl rfl (by decide +kernel) ⟨Nat.le_of_ble_eq_true rfl, Nat.le_of_ble_eq_true rfl⟩) ⟨wd_blind, va_recv hK hPc (ci := 7) (q0 := 0) rfl rfl, wd_ok hPc hK hDc hN⟩ rfl rfl hl.1 rfl (lv_room (Nat.le_of_ble_eq_true rfl)) dX1_roomAbove_58 ⟨Nat.le_of_ble_eq_true rfl, Nat.le_of_ble_eq_true rfl⟩) hP hD hS hA [1, 2] [0] rfl rfl (by decide) (by decide) (fun r12 u H locs hv hP hD hS => ?_)
          have hP : va_P D vwCl [oX1 ad s1_low s1_high, oX7 ad s7_over s7_count, aI cy (ad 34) 8 a7_values] H := hP.sub [0, 1, 2] rfl
          have hD : va_D A [oX1 ad s1_low s1_high, oX7 ad s7_over s7_count, aI cy (ad 34) 8 a7_values] := hD.sub [0, 1, 2] (by decide) rfl
          refine lv_lconst (v := 1) hx hb dX1_roomAbove_61 (by decide) ?_
          refine lv_lsub hx hb dX1_roomAbove_62 ?_
          refine lv_topl (fun e13 h_e13 => ?_)
          have hv := hv e13 h_e13
          refine lv_lload hx hb dX1_roomAbove_63 (lv_at hl 1 rfl) ?_
          refine lv_lsub hx hb dX1_roomAbove_65 ?_
          refine lv_topl (fun e14 h_e14 => ?_)
          have hv := hv e14 h_e14
          refine lv_iload hx hb dX1_roomAbove_66 (lv_at hl 2 rfl) ?_
          refine lv_i2l hx hb dX1_roomAbove_68 rfl ?_
          have hPc := hP.sub (ws' := []) [] rfl
          have hDc := hD.sub (ws' := []) [] (by decide) rfl
          refine k_call (wc := []) (wr := [oX1 ad s1_low s1_high, oX7 ad s7_over s7_count, aI cy (ad 34) 8 a7_values]) (va_runS (As := [.long e14, .long l8_1.toInt64]) (rest := [.long l4_3]) ⟨hx, hb, hml, hown, hts⟩ (m_J9_floorDiv_f86c9 l D cy ad e14 (l8_1.toInt64) H.size hv) (va_cwS 2 hts gX1_roomAbove_J9_floorDiv_f86c9 rfl rfl rfl (by decide +kernel) ⟨Nat.le_of_ble_eq_true rfl, Nat.le_of_ble_eq_true rfl⟩) ⟨wd_blind, wd_ok hPc hK hDc hN⟩ rfl rfl hl.1 rfl (lv_room (Nat.le_of_ble_eq_true rfl)) dX1_roomAbove_69 ⟨Nat.le_of_ble_eq_true rfl, Nat.le_of_ble_eq_true rfl⟩) hP hD hS hA [] [0, 1, 2] rfl rfl (by decide) (by decide) (fun r15 u H locs hv hP hD hS => ?_)
          have hP : va_P D vwCl [oX1 ad s1_low s1_high, oX7 ad s7_over s7_count, aI cy (ad 34) 8 a7_values] H := hP.sub [0, 1, 2] rfl
          have hD : va_D A [oX1 ad s1_low s1_high, oX7 ad s7_over s7_count, aI cy (ad 34) 8 a7_values] := hD.sub [0, 1, 2] (by decide) rfl
          refine va_mmin_long hx hb (hml.trans hl.1.symm) hown (hts _ lm1_X1_roomAbove_minL) (hts _ lm2_X1_roomAbove_minL) (hts _ lm3_X1_roomAbove) (hts _ lm4_X1_roomAbove_minL) (Nat.le_of_ble_eq_true rfl) (Nat.le_of_ble_eq_true rfl) (Nat.le_of_ble_eq_true rfl) (Nat.le_of_ble_eq_true rfl) dX1_roomAbove_72 ?_
          refine lv_topl (fun e16 h_e16 => ?_)
          have hv := hv e16 h_e16
          refine lv_lstore (lv' := [(4, .long e16), (11, .int r5), (9, .long e4), (8, .int l8_1), (6, .long l6_2), (0, .ref (ad 1)), (1, .long x1), (3, .int x3)]) hx hb dX1_roomAbove_75 hl (by decide) rfl (fun ls hl => ?_)
          exact jn77 e16 H locs ls hv (lv_sub hl [1, 2, 3, 0, 5, 6, 7] rfl) hP hD hS
  obtain ⟨nn, hv⟩ := hv
  exact lp11 nn (1 : Int32) (0 : Int64) (2000 : Int64) H locs ls hv (lv_sub hl [0, 1, 2, 3, 4, 5] rfl) hP hD hS
abbrev rm_X1_countRows : Room := { frames := 2, cells := 0, slots := 0, locals := 56 }
set_option maxHeartbeats 4000000 in
set_option maxRecDepth 100000 in
theorem m_X1_countRows (l : Launch) (D : va_G) (cy : ClassId × ClassId × ClassId) (ad : Nat → Nat) (s1_low : Int64) (s1_high : Int64) (s7_over : Int32) (s7_count : Int32) (a7_values : Nat → Int32) (x1 : Int32) (x2 : Int32) (x3 : Int32) (sz : Nat) {K : Int32 → Prop} (hv : v_X1_countRows s7_over s7_count a7_values x1 x2 x3 K) : Met l yX1_countRows wsX1_countRows rm_X1_countRows (va_Pc [.ref (ad 1), .int x1, .int x2, .int x3] (wd D cy [oX1 ad s1_low s1_high, oX7 ad s7_over s7_count, aI cy (ad 34) 8 a7_values] sz)) (va_Qi (fun (r : Int32) (u : Unit) => K r) (fun u t => we D ((fun u : Unit => [oX1 ad s1_low s1_high, oX7 ad s7_over s7_count, aI cy (ad 34) 8 a7_values]) u) (va_A [oX1 ad s1_low s1_high, oX7 ad s7_over s7_count, aI cy (ad 34) 8 a7_values] sz) t) (va_A [oX1 ad s1_low s1_high, oX7 ad s7_over s7_count, aI cy (ad 34) 8 a7_values] sz)) 0 0 (va_A [oX1 ad s1_low s1_high, oX7 ad s7_over s7_count, aI cy (ad 34) 8 a7_values] sz) := by
  refine k_ofW (cc := cX1_countRows) (maxL := 8) (ret := (some .int)) (fun A => va_Qi (fun (r : Int32) (u : Unit) => K r) (fun u t => we D ((fun u : Unit => [oX1 ad s1_low s1_high, oX7 ad s7_over s7_count, aI cy (ad 34) 8 a7_values]) u) A t) A) (by decide) rfl (Nat.le_of_ble_eq_true rfl) ?_
  intro p e s m below meth c A ls H locs hx hb hml hr hts hown hlocks hname hK hN hA hP hD hS hl
  have hl : lv_has ls 8 [(0, .ref (ad 1)), (1, .int x1), (2, .int x2), (3, .int x3)] := hl
  generalize hQ : MQ below _ _ s _ _ A = Q
  unfold v_X1_countRows at hv
  refine lv_iconst (v := 0) hx hb dX1_countRows_0 (by decide) ?_
  refine lv_istore (lv' := [(4, .int (0 : Int32)), (0, .ref (ad 1)), (1, .int x1), (2, .int x2), (3, .int x3)]) hx hb dX1_countRows_1 hl (by decide) rfl (fun ls hl => ?_)
  refine lv_iload_n hx hb dX1_countRows_3 rfl (lv_at hl 3 rfl) ?_
  refine lv_i2l hx hb dX1_countRows_4 rfl ?_
  refine lv_lstore (lv' := [(5, .long x2.toInt64), (4, .int (0 : Int32)), (0, .ref (ad 1)), (1, .int x1), (2, .int x2), (3, .int x3)]) hx hb dX1_countRows_5 hl (by decide) rfl (fun ls hl => ?_)
  refine lv_iconst (v := 0) hx hb dX1_countRows_7 (by decide) ?_
  refine lv_istore (lv' := [(7, .int (0 : Int32)), (5, .long x2.toInt64), (4, .int (0 : Int32)), (0, .ref (ad 1)), (1, .int x1), (2, .int x2), (3, .int x3)]) hx hb dX1_countRows_8 hl (by decide) rfl (fun ls hl => ?_)
  have lp10 : ∀ (n10 : Nat) (l7_1 : Int32) (l5_2 : Int64) (l4_3 : Int32) (H : Heap) (locs : List Loc) (ls : Array Slot), vfix (vF_X1_countRows_10 s7_over s7_count a7_values x1 x3 K) n10 (l7_1, l5_2, l4_3) → lv_has ls 8 [(7, .int l7_1), (5, .long l5_2), (4, .int l4_3), (0, .ref (ad 1)), (1, .int x1), (3, .int x3)] → va_P D vwCl [oX1 ad s1_low s1_high, oX7 ad s7_over s7_count, aI cy (ad 34) 8 a7_values] H → va_D A [oX1 ad s1_low s1_high, oX7 ad s7_over s7_count, aI cy (ad 34) 8 a7_values] → va_S A s.heap H locs → W p l e rm_X1_countRows s m ([.ref (ad 1), .int x1, .int x2, .int x3] : List Value).toArray below meth c H locs 0 0 Q (F0 m 10 ls []) := by
    intro n10
    induction n10 with
    | zero => intro l7_1 l5_2 l4_3 H locs ls hv; exact hv.elim
    | succ n10 ih10 =>
      intro l7_1 l5_2 l4_3 H locs ls hv hl hP hD hS
      have hv : vB_X1_countRows_10 s7_over s7_count a7_values x1 x3 K (fun z0 z1 z2 => vfix (vF_X1_countRows_10 s7_over s7_count a7_values x1 x3 K) n10 (z0, z1, z2)) l7_1 l5_2 l4_3 := hv
      unfold vB_X1_countRows_10 at hv
      refine lv_iload hx hb dX1_countRows_10 (lv_at hl 0 rfl) ?_
      refine lv_sipush (v := 2000) hx hb dX1_countRows_12 (by decide) ?_
      refine lv_icmp_gt (tgt := 49) hx hb dX1_countRows_15 (by decide) (fun c_15 => ?_) (fun c_15 => ?_)
      · have hv := hv.1 c_15
        refine lv_iload hx hb dX1_countRows_49 (lv_at hl 2 rfl) ?_
        rw [← hQ]
        exact k_iret hx hb hr hlocks hS () hP hD hv dX1_countRows_51
      · have hv := hv.2 c_15
        refine lv_lload hx hb dX1_countRows_18 (lv_at hl 1 rfl) ?_
        refine lv_iload_n hx hb dX1_countRows_20 rfl (lv_at hl 5 rfl) ?_
        refine lv_i2l hx hb dX1_countRows_21 rfl ?_
        refine k_lc_gt (tgt := 49) hx hb dX1_countRows_22 dX1_countRows_23 (by decide) (fun c_22 => ?_) (fun c_22 => ?_)
        · have hv := hv.1 c_22
          refine lv_iload hx hb dX1_countRows_49 (lv_at hl 2 rfl) ?_
          rw [← hQ]
          exact k_iret hx hb hr hlocks hS () hP hD hv dX1_countRows_51
        · have hv := hv.2 c_22
          obtain ⟨i4, h_i4⟩ : ∃ y : Int32, y = l4_3 + 1 := ⟨_, rfl⟩
          refine lv_iinc (v := i4) (lv' := [(4, .int i4), (7, .int l7_1), (5, .long l5_2), (0, .ref (ad 1)), (1, .int x1), (3, .int x3)]) hx hb dX1_countRows_26 hl (k := 2) rfl (by rw [h_i4]; rfl) (by decide) rfl (fun ls hl => ?_)
          have hv := hv i4 h_i4
          refine lv_lload hx hb dX1_countRows_29 (lv_at hl 2 rfl) ?_
          refine lv_lconst (v := 1) hx hb dX1_countRows_31 (by decide) ?_
          refine lv_aload_n hx hb dX1_countRows_32 rfl (lv_at hl 3 rfl) ?_
          refine lv_lload hx hb dX1_countRows_33 (lv_at hl 2 rfl) ?_
          refine lv_iload_n hx hb dX1_countRows_35 rfl (lv_at hl 4 rfl) ?_
          have hPc := hP.sub (ws' := [oX1 ad s1_low s1_high, oX7 ad s7_over s7_count, aI cy (ad 34) 8 a7_values]) [0, 1, 2] rfl
          have hDc := hD.sub (ws' := [oX1 ad s1_low s1_high, oX7 ad s7_over s7_count, aI cy (ad 34) 8 a7_values]) [0, 1, 2] (by decide) rfl
          refine k_call (wc := [oX1 ad s1_low s1_high, oX7 ad s7_over s7_count, aI cy (ad 34) 8 a7_values]) (wr := []) (va_runV (As := [.long l5_2, .int x1]) (rest := [.long (1 : Int64), .long l5_2]) ⟨hx, hb, hml, hown, hts⟩ (m_X1_roomAbove l D cy ad s1_low s1_high s7_over s7_count a7_values l5_2 x1 H.size hv) (cwV 2 hts gX1_countRows_X1_roomAbove rfl rfl rfl (by decide +kernel) ⟨Nat.le_of_ble_eq_true rfl, Nat.le_of_ble_eq_true rfl⟩) ⟨wd_blind, va_recv hK hPc (ci := 1) (q0 := 0) rfl rfl, wd_ok hPc hK hDc hN⟩ rfl rfl hl.1 rfl (lv_room (Nat.le_of_ble_eq_true rfl)) dX1_countRows_36 ⟨Nat.le_of_ble_eq_true rfl, Nat.le_of_ble_eq_true rfl⟩) hP hD hS hA [0, 1, 2] [] rfl rfl (by decide) (by decide) (fun r5 u H locs hv hP hD hS => ?_)
          have hP : va_P D vwCl [oX1 ad s1_low s1_high, oX7 ad s7_over s7_count, aI cy (ad 34) 8 a7_values] H := hP.sub [0, 1, 2] rfl
          have hD : va_D A [oX1 ad s1_low s1_high, oX7 ad s7_over s7_count, aI cy (ad 34) 8 a7_values] := hD.sub [0, 1, 2] (by decide) rfl
          refine lv_ladd hx hb dX1_countRows_39 ?_
          refine lv_topl (fun e6 h_e6 => ?_)
          have hv := hv e6 h_e6
          refine lv_ladd hx hb dX1_countRows_40 ?_
          refine lv_topl (fun e7 h_e7 => ?_)
          have hv := hv e7 h_e7
          refine lv_lstore (lv' := [(5, .long e7), (4, .int i4), (7, .int l7_1), (0, .ref (ad 1)), (1, .int x1), (3, .int x3)]) hx hb dX1_countRows_41 hl (by decide) rfl (fun ls hl => ?_)
          obtain ⟨i8, h_i8⟩ : ∃ y : Int32, y = l7_1 + 1 := ⟨_, rfl⟩
          refine lv_iinc (v := i8) (lv' := [(7, .int i8), (5, .long e7), (4, .int i4), (0, .ref (ad 1)), (1, .int x1), (3, .int x3)]) hx hb dX1_countRows_43 hl (k := 2) rfl (by rw [h_i8]; rfl) (by decide) rfl (fun ls hl => ?_)
          have hv := hv i8 h_i8
          refine lv_goto (tgt := 10) hx hb dX1_countRows_46 (by decide) ?_
          exact ih10 i8 e7 i4 H locs ls hv (lv_sub hl [0, 1, 2, 3, 4, 5] rfl) hP hD hS
  obtain ⟨nn, hv⟩ := hv
  exact lp10 nn (0 : Int32) x2.toInt64 (0 : Int32) H locs ls hv (lv_sub hl [0, 1, 2, 3, 4, 6] rfl) hP hD hS
theorem lk_X2_append_15 : Cond.fieldLink RX2 15 "CoarseSteps$Filter" "count" "I" ∈ wsX2_append := by decide +kernel
theorem in_X2_append_2 : ∀ w ∈ wsX20, w ∈ wsX2_append := by decide +kernel
theorem lk_X2_append_9 : Cond.fieldLink RX2 9 "CoarseSteps$Filter" "weights" "[I" ∈ wsX2_append := by decide +kernel
abbrev rm_X2_append : Room := { frames := 0, cells := 0, slots := 0, locals := 0 }
set_option maxHeartbeats 4000000 in
set_option maxRecDepth 100000 in
theorem m_X2_append (l : Launch) (D : va_G) (cy : ClassId × ClassId × ClassId) (ad : Nat → Nat) (s2_count : Int32) (a2_weights : Nat → Int32) (x1 : Int32) (sz : Nat) {K : Int32 → Int32 → (Nat → Int32) → Prop} (hv : v_X2_append s2_count a2_weights x1 K) : Met l yX2_append wsX2_append rm_X2_append (va_Pc [.ref (ad 2), .int x1] (wd D cy [oX2 ad s2_count, aI cy (ad 24) 64 a2_weights] sz)) (va_Qi (fun (r : Int32) (u : Int32 × (Nat → Int32)) => K r u.1 u.2) (fun u t => we D ((fun u : Int32 × (Nat → Int32) => [oX2 ad u.1, aI cy (ad 24) 64 u.2]) u) (va_A [oX2 ad s2_count, aI cy (ad 24) 64 a2_weights] sz) t) (va_A [oX2 ad s2_count, aI cy (ad 24) 64 a2_weights] sz)) 0 0 (va_A [oX2 ad s2_count, aI cy (ad 24) 64 a2_weights] sz) := by
  refine k_ofW (cc := cX2_append) (maxL := 2) (ret := (some .int)) (fun A => va_Qi (fun (r : Int32) (u : Int32 × (Nat → Int32)) => K r u.1 u.2) (fun u t => we D ((fun u : Int32 × (Nat → Int32) => [oX2 ad u.1, aI cy (ad 24) 64 u.2]) u) A t) A) (by decide) rfl (Nat.le_of_ble_eq_true rfl) ?_
  intro p e s m below meth c A ls H locs hx hb hml hr hts hown hlocks hname hK hN hA hP hD hS hl
  have hl : lv_has ls 2 [(0, .ref (ad 2)), (1, .int x1)] := hl
  generalize hQ : MQ below _ _ s _ _ A = Q
  unfold v_X2_append at hv
  refine lv_aload_n hx hb dX2_append_0 rfl (lv_at hl 0 rfl) ?_
  refine va_get (D := D) (ci := 2) (v := .int s2_count) (C := RX2) (T := TX2) (N := 2) hx hb hts in_X2_append_2 hown hK hP 0 rfl rfl 1 (by decide) (hts _ lk_X2_append_15) (fun _ h9 => h9) rfl dX2_append_1 ?_
  refine lv_bipush (v := 64) hx hb dX2_append_4 (by decide) ?_
  refine lv_icmp_lt (tgt := 11) hx hb dX2_append_6 (by decide) (fun c_6 => ?_) (fun c_6 => ?_)
  · have hv := hv.1 c_6
    refine lv_aload_n hx hb dX2_append_11 rfl (lv_at hl 0 rfl) ?_
    refine va_get (D := D) (ci := 2) (v := .ref (ad 24)) (C := RX2) (T := TX2) (N := 2) hx hb hts in_X2_append_2 hown hK hP 0 rfl rfl 0 (by decide) (hts _ lk_X2_append_9) (fun _ h9 => h9) rfl dX2_append_12 ?_
    refine lv_aload_n hx hb dX2_append_15 rfl (lv_at hl 0 rfl) ?_
    refine va_get (D := D) (ci := 2) (v := .int s2_count) (C := RX2) (T := TX2) (N := 2) hx hb hts in_X2_append_2 hown hK hP 0 rfl rfl 1 (by decide) (hts _ lk_X2_append_15) (fun _ h9 => h9) rfl dX2_append_16 ?_
    refine lv_iload_n hx hb dX2_append_19 rfl (lv_at hl 1 rfl) ?_
    refine k_iast hx hb hK hP hD hS 1 0 rfl rfl hv.1 dX2_append_20 (fun a2_weights_1 H locs h_a2_weights_1 hP hD hS => ?_)
    have hv := hv.2 a2_weights_1 h_a2_weights_1
    have hP : va_P D vwCl [oX2 ad s2_count, aI cy (ad 24) 64 a2_weights_1] H := hP
    have hD : va_D A [oX2 ad s2_count, aI cy (ad 24) 64 a2_weights_1] := hD
    refine lv_aload_n hx hb dX2_append_21 rfl (lv_at hl 0 rfl) ?_
    refine lv_dup hx hb dX2_append_22 rfl ?_
    refine va_get (D := D) (ci := 2) (v := .int s2_count) (C := RX2) (T := TX2) (N := 2) hx hb hts in_X2_append_2 hown hK hP 0 rfl rfl 1 (by decide) (hts _ lk_X2_append_15) (fun _ h9 => h9) rfl dX2_append_23 ?_
    refine lv_iconst (v := 1) hx hb dX2_append_26 (by decide) ?_
    refine lv_iadd hx hb dX2_append_27 ?_
    refine lv_topi (fun e2 h_e2 => ?_)
    have hv := hv e2 h_e2
    refine va_put (D := D) (ci := 2) (v := .int e2) (ty := .int) (C := RX2) (T := TX2) (N := 2) hx hb hts in_X2_append_2 tyX2 tyX2_ok nmX2 hown hK hP hD hS 0 rfl rfl 1 (by decide) (hts _ lk_X2_append_15) (fun _ h9 => h9) rfl (by decide +kernel) rfl rfl (Nat.le_of_ble_eq_true rfl) dX2_append_28 (fun H locs hP hD hS => ?_)
    have hP : va_P D vwCl [oX2 ad e2, aI cy (ad 24) 64 a2_weights_1] H := hP
    have hD : va_D A [oX2 ad e2, aI cy (ad 24) 64 a2_weights_1] := hD
    refine lv_aload_n hx hb dX2_append_31 rfl (lv_at hl 0 rfl) ?_
    refine va_get (D := D) (ci := 2) (v := .int e2) (C := RX2) (T := TX2) (N := 2) hx hb hts in_X2_append_2 hown hK hP 0 rfl rfl 1 (by decide) (hts _ lk_X2_append_15) (fun _ h9 => h9) rfl dX2_append_32 ?_
    rw [← hQ]
    exact k_iret hx hb hr hlocks hS (e2, a2_weights_1) hP hD hv dX2_append_35
  · have hv := hv.2 c_6
    refine lv_iconst (v := -1) hx hb dX2_append_9 (by decide) ?_
    rw [← hQ]
    exact k_iret hx hb hr hlocks hS (s2_count, a2_weights) hP hD hv dX2_append_10
theorem lk_X2_empty_15 : Cond.fieldLink RX2 15 "CoarseSteps$Filter" "count" "I" ∈ wsX2_empty := by decide +kernel
theorem in_X2_empty_2 : ∀ w ∈ wsX20, w ∈ wsX2_empty := by decide +kernel
abbrev rm_X2_empty : Room := { frames := 0, cells := 0, slots := 0, locals := 0 }
set_option maxHeartbeats 4000000 in
set_option maxRecDepth 100000 in
theorem m_X2_empty (l : Launch) (D : va_G) (cy : ClassId × ClassId × ClassId) (ad : Nat → Nat) (s2_count : Int32) (sz : Nat) {K : Int32 → Int32 → Prop} (hv : v_X2_empty s2_count K) : Met l yX2_empty wsX2_empty rm_X2_empty (va_Pc [.ref (ad 2)] (wd D cy [oX2 ad s2_count] sz)) (va_Qi (fun (r : Int32) (u : Int32) => K r u) (fun u t => we D ((fun u : Int32 => [oX2 ad u]) u) (va_A [oX2 ad s2_count] sz) t) (va_A [oX2 ad s2_count] sz)) 0 0 (va_A [oX2 ad s2_count] sz) := by
  refine k_ofW (cc := cX2_empty) (maxL := 2) (ret := (some .int)) (fun A => va_Qi (fun (r : Int32) (u : Int32) => K r u) (fun u t => we D ((fun u : Int32 => [oX2 ad u]) u) A t) A) (by decide) rfl (Nat.le_of_ble_eq_true rfl) ?_
  intro p e s m below meth c A ls H locs hx hb hml hr hts hown hlocks hname hK hN hA hP hD hS hl
  have hl : lv_has ls 2 [(0, .ref (ad 2))] := hl
  generalize hQ : MQ below _ _ s _ _ A = Q
  unfold v_X2_empty at hv
  refine lv_aload_n hx hb dX2_empty_0 rfl (lv_at hl 0 rfl) ?_
  refine va_get (D := D) (ci := 2) (v := .int s2_count) (C := RX2) (T := TX2) (N := 2) hx hb hts in_X2_empty_2 hown hK hP 0 rfl rfl 1 (by decide) (hts _ lk_X2_empty_15) (fun _ h9 => h9) rfl dX2_empty_1 ?_
  refine lv_istore_n (lv' := [(1, .int s2_count), (0, .ref (ad 2))]) hx hb dX2_empty_4 rfl hl (by decide) rfl (fun ls hl => ?_)
  refine lv_aload_n hx hb dX2_empty_5 rfl (lv_at hl 1 rfl) ?_
  refine lv_iconst (v := 0) hx hb dX2_empty_6 (by decide) ?_
  refine va_put (D := D) (ci := 2) (v := .int (0 : Int32)) (ty := .int) (C := RX2) (T := TX2) (N := 2) hx hb hts in_X2_empty_2 tyX2 tyX2_ok nmX2 hown hK hP hD hS 0 rfl rfl 1 (by decide) (hts _ lk_X2_empty_15) (fun _ h9 => h9) rfl (by decide +kernel) rfl rfl (Nat.le_of_ble_eq_true rfl) dX2_empty_7 (fun H locs hP hD hS => ?_)
  have hP : va_P D vwCl [oX2 ad (0 : Int32)] H := hP
  have hD : va_D A [oX2 ad (0 : Int32)] := hD
  refine lv_iload_n hx hb dX2_empty_10 rfl (lv_at hl 0 rfl) ?_
  rw [← hQ]
  exact k_iret hx hb hr hlocks hS ((0 : Int32)) hP hD hv dX2_empty_11
theorem lk_X3_holds_29 : Cond.fieldLink RX3 29 "CoarseSteps$History" "kept" "I" ∈ wsX3_holds := by decide +kernel
theorem in_X3_holds_3 : ∀ w ∈ wsX30, w ∈ wsX3_holds := by decide +kernel
abbrev rm_X3_holds : Room := { frames := 0, cells := 0, slots := 0, locals := 0 }
set_option maxHeartbeats 4000000 in
set_option maxRecDepth 100000 in
theorem m_X3_holds (l : Launch) (D : va_G) (cy : ClassId × ClassId × ClassId) (ad : Nat → Nat) (s3_next : Int32) (s3_kept : Int32) (x1 : Int32) (sz : Nat) {K : Int32 → Prop} (hv : v_X3_holds s3_kept x1 K) : Met l yX3_holds wsX3_holds rm_X3_holds (va_Pc [.ref (ad 3), .int x1] (wd D cy [oX3 ad s3_next s3_kept] sz)) (va_Qi (fun (r : Int32) (u : Unit) => (r = 0 ∨ r = 1) ∧ K r) (fun u t => we D ((fun u : Unit => [oX3 ad s3_next s3_kept]) u) (va_A [oX3 ad s3_next s3_kept] sz) t) (va_A [oX3 ad s3_next s3_kept] sz)) 0 0 (va_A [oX3 ad s3_next s3_kept] sz) := by
  refine k_ofW (cc := cX3_holds) (maxL := 2) (ret := (some .boolean)) (fun A => va_Qi (fun (r : Int32) (u : Unit) => (r = 0 ∨ r = 1) ∧ K r) (fun u t => we D ((fun u : Unit => [oX3 ad s3_next s3_kept]) u) A t) A) (by decide) rfl (Nat.le_of_ble_eq_true rfl) ?_
  intro p e s m below meth c A ls H locs hx hb hml hr hts hown hlocks hname hK hN hA hP hD hS hl
  have hl : lv_has ls 2 [(0, .ref (ad 3)), (1, .int x1)] := hl
  generalize hQ : MQ below _ _ s _ _ A = Q
  unfold v_X3_holds at hv
  refine lv_iload_n hx hb dX3_holds_0 rfl (lv_at hl 1 rfl) ?_
  refine lv_if_lt (tgt := 16) hx hb dX3_holds_1 (by decide) (fun c_1 => ?_) (fun c_1 => ?_)
  · have hv := hv.1 c_1
    refine lv_iconst (v := 0) hx hb dX3_holds_16 (by decide) ?_
    rw [← hQ]
    exact k_zret hx hb hr hlocks hS () hP hD (by decide) hv dX3_holds_17
  · have hv := hv.2 c_1
    refine lv_iload_n hx hb dX3_holds_4 rfl (lv_at hl 1 rfl) ?_
    refine lv_aload_n hx hb dX3_holds_5 rfl (lv_at hl 0 rfl) ?_
    refine va_get (D := D) (ci := 3) (v := .int s3_kept) (C := RX3) (T := TX3) (N := 6) hx hb hts in_X3_holds_3 hown hK hP 0 rfl rfl 5 (by decide) (hts _ lk_X3_holds_29) (fun _ h9 => h9) rfl dX3_holds_6 ?_
    refine lv_icmp_ge (tgt := 16) hx hb dX3_holds_9 (by decide) (fun c_9 => ?_) (fun c_9 => ?_)
    · have hv := hv.1 c_9
      refine lv_iconst (v := 0) hx hb dX3_holds_16 (by decide) ?_
      rw [← hQ]
      exact k_zret hx hb hr hlocks hS () hP hD (by decide) hv dX3_holds_17
    · have hv := hv.2 c_9
      refine lv_iconst (v := 1) hx hb dX3_holds_12 (by decide) ?_
      refine lv_goto (tgt := 17) hx hb dX3_holds_13 (by decide) ?_
      rw [← hQ]
      exact k_zret hx hb hr hlocks hS () hP hD (by decide) hv dX3_holds_17
theorem lk_X2_readFrom_15 : Cond.fieldLink RX2 15 "CoarseSteps$Filter" "count" "I" ∈ wsX2_readFrom := by decide +kernel
theorem in_X2_readFrom_2 : ∀ w ∈ wsX20, w ∈ wsX2_readFrom := by decide +kernel
theorem lk_X2_readFrom_9 : Cond.fieldLink RX2 9 "CoarseSteps$Filter" "weights" "[I" ∈ wsX2_readFrom := by decide +kernel
abbrev rm_X2_readFrom : Room := { frames := 1, cells := 0, slots := 0, locals := 21 }
set_option maxHeartbeats 4000000 in
set_option maxRecDepth 100000 in
theorem m_X2_readFrom (l : Launch) (D : va_G) (cy : ClassId × ClassId × ClassId) (ad : Nat → Nat) (s2_count : Int32) (s3_next : Int32) (s3_kept : Int32) (a2_weights : Nat → Int32) (a3_givens : Nat → Int32) (sz : Nat) {K : Int64 → Prop} (hv : v_X2_readFrom s2_count s3_next s3_kept a2_weights a3_givens K) : Met l yX2_readFrom wsX2_readFrom rm_X2_readFrom (va_Pc [.ref (ad 2), .ref (ad 3)] (wd D cy [oX2 ad s2_count, oX3 ad s3_next s3_kept, aI cy (ad 24) 64 a2_weights, aI cy (ad 26) 256 a3_givens] sz)) (va_Ql (fun (r : Int64) (u : Unit) => K r) (fun u t => we D ((fun u : Unit => [oX2 ad s2_count, oX3 ad s3_next s3_kept, aI cy (ad 24) 64 a2_weights, aI cy (ad 26) 256 a3_givens]) u) (va_A [oX2 ad s2_count, oX3 ad s3_next s3_kept, aI cy (ad 24) 64 a2_weights, aI cy (ad 26) 256 a3_givens] sz) t) (va_A [oX2 ad s2_count, oX3 ad s3_next s3_kept, aI cy (ad 24) 64 a2_weights, aI cy (ad 26) 256 a3_givens] sz)) 0 0 (va_A [oX2 ad s2_count, oX3 ad s3_next s3_kept, aI cy (ad 24) 64 a2_weights, aI cy (ad 26) 256 a3_givens] sz) := by
  refine k_ofW (cc := cX2_readFrom) (maxL := 5) (ret := (some .long)) (fun A => va_Ql (fun (r : Int64) (u : Unit) => K r) (fun u t => we D ((fun u : Unit => [oX2 ad s2_count, oX3 ad s3_next s3_kept, aI cy (ad 24) 64 a2_weights, aI cy (ad 26) 256 a3_givens]) u) A t) A) (by decide) rfl (Nat.le_of_ble_eq_true rfl) ?_
  intro p e s m below meth c A ls H locs hx hb hml hr hts hown hlocks hname hK hN hA hP hD hS hl
  have hl : lv_has ls 5 [(0, .ref (ad 2)), (1, .ref (ad 3))] := hl
  generalize hQ : MQ below _ _ s _ _ A = Q
  unfold v_X2_readFrom at hv
  refine lv_lconst (v := 0) hx hb dX2_readFrom_0 (by decide) ?_
  refine lv_lstore_n (lv' := [(2, .long (0 : Int64)), (0, .ref (ad 2)), (1, .ref (ad 3))]) hx hb dX2_readFrom_1 rfl hl (by decide) rfl (fun ls hl => ?_)
  refine lv_iconst (v := 0) hx hb dX2_readFrom_2 (by decide) ?_
  refine lv_istore (lv' := [(4, .int (0 : Int32)), (2, .long (0 : Int64)), (0, .ref (ad 2)), (1, .ref (ad 3))]) hx hb dX2_readFrom_3 hl (by decide) rfl (fun ls hl => ?_)
  have lp5 : ∀ (n5 : Nat) (l4_1 : Int32) (l2_2 : Int64) (H : Heap) (locs : List Loc) (ls : Array Slot), vfix (vF_X2_readFrom_5 s2_count s3_next s3_kept a2_weights a3_givens K) n5 (l4_1, l2_2) → lv_has ls 5 [(4, .int l4_1), (2, .long l2_2), (0, .ref (ad 2)), (1, .ref (ad 3))] → va_P D vwCl [oX2 ad s2_count, oX3 ad s3_next s3_kept, aI cy (ad 24) 64 a2_weights, aI cy (ad 26) 256 a3_givens] H → va_D A [oX2 ad s2_count, oX3 ad s3_next s3_kept, aI cy (ad 24) 64 a2_weights, aI cy (ad 26) 256 a3_givens] → va_S A s.heap H locs → W p l e rm_X2_readFrom s m ([.ref (ad 2), .ref (ad 3)] : List Value).toArray below meth c H locs 0 0 Q (F0 m 5 ls []) := by
    intro n5
    induction n5 with
    | zero => intro l4_1 l2_2 H locs ls hv; exact hv.elim
    | succ n5 ih5 =>
      intro l4_1 l2_2 H locs ls hv hl hP hD hS
      have hv : vB_X2_readFrom_5 s2_count s3_next s3_kept a2_weights a3_givens K (fun z0 z1 => vfix (vF_X2_readFrom_5 s2_count s3_next s3_kept a2_weights a3_givens K) n5 (z0, z1)) l4_1 l2_2 := hv
      unfold vB_X2_readFrom_5 at hv
      refine lv_iload hx hb dX2_readFrom_5 (lv_at hl 0 rfl) ?_
      refine lv_aload_n hx hb dX2_readFrom_7 rfl (lv_at hl 2 rfl) ?_
      refine va_get (D := D) (ci := 2) (v := .int s2_count) (C := RX2) (T := TX2) (N := 2) hx hb hts in_X2_readFrom_2 hown hK hP 0 rfl rfl 1 (by decide) (hts _ lk_X2_readFrom_15) (fun _ h9 => h9) rfl dX2_readFrom_8 ?_
      refine lv_icmp_ge (tgt := 48) hx hb dX2_readFrom_11 (by decide) (fun c_11 => ?_) (fun c_11 => ?_)
      · have hv := hv.1 c_11
        refine lv_lload_n hx hb dX2_readFrom_48 rfl (lv_at hl 1 rfl) ?_
        rw [← hQ]
        exact k_lret hx hb hr hlocks hS () hP hD hv dX2_readFrom_49
      · have hv := hv.2 c_11
        refine lv_aload_n hx hb dX2_readFrom_14 rfl (lv_at hl 3 rfl) ?_
        refine lv_iload hx hb dX2_readFrom_15 (lv_at hl 0 rfl) ?_
        have hPc := hP.sub (ws' := [oX3 ad s3_next s3_kept]) [1] rfl
        have hDc := hD.sub (ws' := [oX3 ad s3_next s3_kept]) [1] (by decide) rfl
        refine k_cali (wc := [oX3 ad s3_next s3_kept]) (wr := [oX2 ad s2_count, aI cy (ad 24) 64 a2_weights, aI cy (ad 26) 256 a3_givens]) (va_runV (As := [.int l4_1]) (rest := []) ⟨hx, hb, hml, hown, hts⟩ (m_X3_holds l D cy ad s3_next s3_kept l4_1 H.size hv) (cwV 1 hts gX2_readFrom_X3_holds rfl rfl rfl (by decide +kernel) ⟨Nat.le_of_ble_eq_true rfl, Nat.le_of_ble_eq_true rfl⟩) ⟨wd_blind, va_recv hK hPc (ci := 3) (q0 := 0) rfl rfl, wd_ok hPc hK hDc hN⟩ rfl rfl hl.1 rfl (lv_room (Nat.le_of_ble_eq_true rfl)) dX2_readFrom_17 ⟨Nat.le_of_ble_eq_true rfl, Nat.le_of_ble_eq_true rfl⟩) hP hD hS hA [1] [0, 2, 3] rfl rfl (by decide) (by decide) (fun r3 u H locs hv hP hD hS => ?_)
        obtain ⟨hz_r3, hv⟩ := hv
        have hP : va_P D vwCl [oX2 ad s2_count, oX3 ad s3_next s3_kept, aI cy (ad 24) 64 a2_weights, aI cy (ad 26) 256 a3_givens] H := hP.sub [0, 3, 1, 2] rfl
        have hD : va_D A [oX2 ad s2_count, oX3 ad s3_next s3_kept, aI cy (ad 24) 64 a2_weights, aI cy (ad 26) 256 a3_givens] := hD.sub [0, 3, 1, 2] (by decide) rfl
        refine lv_if_eq (tgt := 48) hx hb dX2_readFrom_20 (by decide) (fun c_20 => ?_) (fun c_20 => ?_)
        · have hv := hv.1 c_20
          refine lv_lload_n hx hb dX2_readFrom_48 rfl (lv_at hl 1 rfl) ?_
          rw [← hQ]
          exact k_lret hx hb hr hlocks hS () hP hD hv dX2_readFrom_49
        · have hv := hv.2 c_20
          refine lv_lload_n hx hb dX2_readFrom_23 rfl (lv_at hl 1 rfl) ?_
          refine lv_aload_n hx hb dX2_readFrom_24 rfl (lv_at hl 2 rfl) ?_
          refine va_get (D := D) (ci := 2) (v := .ref (ad 24)) (C := RX2) (T := TX2) (N := 2) hx hb hts in_X2_readFrom_2 hown hK hP 0 rfl rfl 0 (by decide) (hts _ lk_X2_readFrom_9) (fun _ h9 => h9) rfl dX2_readFrom_25 ?_
          refine lv_iload hx hb dX2_readFrom_28 (lv_at hl 0 rfl) ?_
          refine va_iald hx hb hK hP 2 0 rfl rfl hv.1 dX2_readFrom_30 ?_
          refine lv_topi (fun g4 h_g4 => ?_)
          have hv := hv.2 g4 h_g4
          refine lv_i2l hx hb dX2_readFrom_31 rfl ?_
          refine lv_aload_n hx hb dX2_readFrom_32 rfl (lv_at hl 3 rfl) ?_
          refine lv_iload hx hb dX2_readFrom_33 (lv_at hl 0 rfl) ?_
          have hPc := hP.sub (ws' := [oX3 ad s3_next s3_kept, aI cy (ad 26) 256 a3_givens]) [1, 3] rfl
          have hDc := hD.sub (ws' := [oX3 ad s3_next s3_kept, aI cy (ad 26) 256 a3_givens]) [1, 3] (by decide) rfl
          refine k_cali (wc := [oX3 ad s3_next s3_kept, aI cy (ad 26) 256 a3_givens]) (wr := [oX2 ad s2_count, aI cy (ad 24) 64 a2_weights]) (va_runV (As := [.int l4_1]) (rest := [.long g4.toInt64, .long l2_2]) ⟨hx, hb, hml, hown, hts⟩ (m_X3_givenAt l D cy ad s3_next s3_kept a3_givens l4_1 H.size hv) (cwV 1 hts gX2_readFrom_X3_givenAt rfl rfl rfl (by decide +kernel) ⟨Nat.le_of_ble_eq_true rfl, Nat.le_of_ble_eq_true rfl⟩) ⟨wd_blind, va_recv hK hPc (ci := 3) (q0 := 0) rfl rfl, wd_ok hPc hK hDc hN⟩ rfl rfl hl.1 rfl (lv_room (Nat.le_of_ble_eq_true rfl)) dX2_readFrom_35 ⟨Nat.le_of_ble_eq_true rfl, Nat.le_of_ble_eq_true rfl⟩) hP hD hS hA [1, 3] [0, 2] rfl rfl (by decide) (by decide) (fun r5 u H locs hv hP hD hS => ?_)
          have hP : va_P D vwCl [oX2 ad s2_count, oX3 ad s3_next s3_kept, aI cy (ad 24) 64 a2_weights, aI cy (ad 26) 256 a3_givens] H := hP.sub [0, 2, 1, 3] rfl
          have hD : va_D A [oX2 ad s2_count, oX3 ad s3_next s3_kept, aI cy (ad 24) 64 a2_weights, aI cy (ad 26) 256 a3_givens] := hD.sub [0, 2, 1, 3] (by decide) rfl
          refine lv_i2l hx hb dX2_readFrom_38 rfl ?_
          refine lv_lmul hx hb dX2_readFrom_39 ?_
          refine lv_topl (fun e6 h_e6 => ?_)
          have hv := hv e6 h_e6
          refine lv_ladd hx hb dX2_readFrom_40 ?_
          refine lv_topl (fun e7 h_e7 => ?_)
          have hv := hv e7 h_e7
          refine lv_lstore_n (lv' := [(2, .long e7), (4, .int l4_1), (0, .ref (ad 2)), (1, .ref (ad 3))]) hx hb dX2_readFrom_41 rfl hl (by decide) rfl (fun ls hl => ?_)
          obtain ⟨i8, h_i8⟩ : ∃ y : Int32, y = l4_1 + 1 := ⟨_, rfl⟩
          refine lv_iinc (v := i8) (lv' := [(4, .int i8), (2, .long e7), (0, .ref (ad 2)), (1, .ref (ad 3))]) hx hb dX2_readFrom_42 hl (k := 1) rfl (by rw [h_i8]; rfl) (by decide) rfl (fun ls hl => ?_)
          have hv := hv i8 h_i8
          refine lv_goto (tgt := 5) hx hb dX2_readFrom_45 (by decide) ?_
          exact ih5 i8 e7 H locs ls hv (lv_sub hl [0, 1, 2, 3] rfl) hP hD hS
  obtain ⟨nn, hv⟩ := hv
  exact lp5 nn (0 : Int32) (0 : Int64) H locs ls hv (lv_sub hl [0, 1, 2, 3] rfl) hP hD hS
theorem lk_X3_forget_25 : Cond.fieldLink RX3 25 "CoarseSteps$History" "next" "I" ∈ wsX3_forget := by decide +kernel
theorem in_X3_forget_3 : ∀ w ∈ wsX30, w ∈ wsX3_forget := by decide +kernel
theorem lk_X3_forget_29 : Cond.fieldLink RX3 29 "CoarseSteps$History" "kept" "I" ∈ wsX3_forget := by decide +kernel
abbrev rm_X3_forget : Room := { frames := 0, cells := 0, slots := 0, locals := 0 }
set_option maxHeartbeats 4000000 in
set_option maxRecDepth 100000 in
theorem m_X3_forget (l : Launch) (D : va_G) (cy : ClassId × ClassId × ClassId) (ad : Nat → Nat) (s3_next : Int32) (s3_kept : Int32) (sz : Nat) {K : Int32 → Int32 → Prop} (hv : v_X3_forget K) : Met l yX3_forget wsX3_forget rm_X3_forget (va_Pc [.ref (ad 3)] (wd D cy [oX3 ad s3_next s3_kept] sz)) (va_Qv (fun u : Int32 × Int32 => K u.1 u.2) (fun u t => we D ((fun u : Int32 × Int32 => [oX3 ad u.1 u.2]) u) (va_A [oX3 ad s3_next s3_kept] sz) t) (va_A [oX3 ad s3_next s3_kept] sz)) 0 0 (va_A [oX3 ad s3_next s3_kept] sz) := by
  refine k_ofW (cc := cX3_forget) (maxL := 1) (ret := none) (fun A => va_Qv (fun u : Int32 × Int32 => K u.1 u.2) (fun u t => we D ((fun u : Int32 × Int32 => [oX3 ad u.1 u.2]) u) A t) A) (by decide) rfl (Nat.le_of_ble_eq_true rfl) ?_
  intro p e s m below meth c A ls H locs hx hb hml hr hts hown hlocks hname hK hN hA hP hD hS hl
  have hl : lv_has ls 1 [(0, .ref (ad 3))] := hl
  generalize hQ : MQ below _ _ s _ _ A = Q
  unfold v_X3_forget at hv
  refine lv_aload_n hx hb dX3_forget_0 rfl (lv_at hl 0 rfl) ?_
  refine lv_iconst (v := 0) hx hb dX3_forget_1 (by decide) ?_
  refine va_put (D := D) (ci := 3) (v := .int (0 : Int32)) (ty := .int) (C := RX3) (T := TX3) (N := 6) hx hb hts in_X3_forget_3 tyX3 tyX3_ok nmX3 hown hK hP hD hS 0 rfl rfl 4 (by decide) (hts _ lk_X3_forget_25) (fun _ h9 => h9) rfl (by decide +kernel) rfl rfl (Nat.le_of_ble_eq_true rfl) dX3_forget_2 (fun H locs hP hD hS => ?_)
  have hP : va_P D vwCl [oX3 ad (0 : Int32) s3_kept] H := hP
  have hD : va_D A [oX3 ad (0 : Int32) s3_kept] := hD
  refine lv_aload_n hx hb dX3_forget_5 rfl (lv_at hl 0 rfl) ?_
  refine lv_iconst (v := 0) hx hb dX3_forget_6 (by decide) ?_
  refine va_put (D := D) (ci := 3) (v := .int (0 : Int32)) (ty := .int) (C := RX3) (T := TX3) (N := 6) hx hb hts in_X3_forget_3 tyX3 tyX3_ok nmX3 hown hK hP hD hS 0 rfl rfl 5 (by decide) (hts _ lk_X3_forget_29) (fun _ h9 => h9) rfl (by decide +kernel) rfl rfl (Nat.le_of_ble_eq_true rfl) dX3_forget_7 (fun H locs hP hD hS => ?_)
  have hP : va_P D vwCl [oX3 ad (0 : Int32) (0 : Int32)] H := hP
  have hD : va_D A [oX3 ad (0 : Int32) (0 : Int32)] := hD
  rw [← hQ]
  exact k_vret hx hb hr hlocks hS ((0 : Int32), (0 : Int32)) hP hD hv dX3_forget_10
theorem lk_X3_note_9 : Cond.fieldLink RX3 9 "CoarseSteps$History" "wishes" "[I" ∈ wsX3_note := by decide +kernel
theorem in_X3_note_3 : ∀ w ∈ wsX30, w ∈ wsX3_note := by decide +kernel
theorem lk_X3_note_25 : Cond.fieldLink RX3 25 "CoarseSteps$History" "next" "I" ∈ wsX3_note := by decide +kernel
theorem lk_X3_note_15 : Cond.fieldLink RX3 15 "CoarseSteps$History" "givens" "[I" ∈ wsX3_note := by decide +kernel
theorem lk_X3_note_18 : Cond.fieldLink RX3 18 "CoarseSteps$History" "sums" "[J" ∈ wsX3_note := by decide +kernel
theorem lk_X3_note_29 : Cond.fieldLink RX3 29 "CoarseSteps$History" "kept" "I" ∈ wsX3_note := by decide +kernel
theorem lm1_X3_note_min : Cond.methodLink RX3 32 Lib.Math.min.name ∈ wsX3_note := by decide +kernel
theorem lm2_X3_note_min : Cond.static Lib.Math.min.name ∈ wsX3_note := by decide +kernel
theorem lm3_X3_note : Cond.initialized "java/lang/Math" ∈ wsX3_note := by decide +kernel
theorem lm4_X3_note_min : Cond.code Lib.Math.min.name Lib.Math.min.code 2 (some .int) ∈ wsX3_note := by decide +kernel
abbrev rm_X3_note : Room := { frames := 1, cells := 0, slots := 0, locals := 21 }
set_option maxHeartbeats 4000000 in
set_option maxRecDepth 100000 in
theorem m_X3_note (l : Launch) (D : va_G) (cy : ClassId × ClassId × ClassId) (ad : Nat → Nat) (s3_next : Int32) (s3_kept : Int32) (a3_wishes : Nat → Int32) (a3_givens : Nat → Int32) (a3_sums : Nat → Int64) (x1 : Int32) (x2 : Int32) (x3 : Int64) (sz : Nat) {K : Int32 → Int32 → (Nat → Int32) → (Nat → Int32) → (Nat → Int64) → Prop} (hv : v_X3_note s3_next s3_kept a3_wishes a3_givens a3_sums x1 x2 x3 K) : Met l yX3_note wsX3_note rm_X3_note (va_Pc [.ref (ad 3), .int x1, .int x2, .long x3] (wd D cy [oX3 ad s3_next s3_kept, aI cy (ad 25) 256 a3_wishes, aI cy (ad 26) 256 a3_givens, aJ cy (ad 27) 256 a3_sums] sz)) (va_Qv (fun u : Int32 × Int32 × (Nat → Int32) × (Nat → Int32) × (Nat → Int64) => K u.1 u.2.1 u.2.2.1 u.2.2.2.1 u.2.2.2.2) (fun u t => we D ((fun u : Int32 × Int32 × (Nat → Int32) × (Nat → Int32) × (Nat → Int64) => [oX3 ad u.1 u.2.1, aI cy (ad 25) 256 u.2.2.1, aI cy (ad 26) 256 u.2.2.2.1, aJ cy (ad 27) 256 u.2.2.2.2]) u) (va_A [oX3 ad s3_next s3_kept, aI cy (ad 25) 256 a3_wishes, aI cy (ad 26) 256 a3_givens, aJ cy (ad 27) 256 a3_sums] sz) t) (va_A [oX3 ad s3_next s3_kept, aI cy (ad 25) 256 a3_wishes, aI cy (ad 26) 256 a3_givens, aJ cy (ad 27) 256 a3_sums] sz)) 0 0 (va_A [oX3 ad s3_next s3_kept, aI cy (ad 25) 256 a3_wishes, aI cy (ad 26) 256 a3_givens, aJ cy (ad 27) 256 a3_sums] sz) := by
  refine k_ofW (cc := cX3_note) (maxL := 5) (ret := none) (fun A => va_Qv (fun u : Int32 × Int32 × (Nat → Int32) × (Nat → Int32) × (Nat → Int64) => K u.1 u.2.1 u.2.2.1 u.2.2.2.1 u.2.2.2.2) (fun u t => we D ((fun u : Int32 × Int32 × (Nat → Int32) × (Nat → Int32) × (Nat → Int64) => [oX3 ad u.1 u.2.1, aI cy (ad 25) 256 u.2.2.1, aI cy (ad 26) 256 u.2.2.2.1, aJ cy (ad 27) 256 u.2.2.2.2]) u) A t) A) (by decide) rfl (Nat.le_of_ble_eq_true rfl) ?_
  intro p e s m below meth c A ls H locs hx hb hml hr hts hown hlocks hname hK hN hA hP hD hS hl
  have hl : lv_has ls 5 [(0, .ref (ad 3)), (1, .int x1), (2, .int x2), (3, .long x3)] := hl
  generalize hQ : MQ below _ _ s _ _ A = Q
  unfold v_X3_note at hv
  refine lv_aload_n hx hb dX3_note_0 rfl (lv_at hl 0 rfl) ?_
  refine va_get (D := D) (ci := 3) (v := .ref (ad 25)) (C := RX3) (T := TX3) (N := 6) hx hb hts in_X3_note_3 hown hK hP 0 rfl rfl 0 (by decide) (hts _ lk_X3_note_9) (fun _ h9 => h9) rfl dX3_note_1 ?_
  refine lv_aload_n hx hb dX3_note_4 rfl (lv_at hl 0 rfl) ?_
  refine va_get (D := D) (ci := 3) (v := .int s3_next) (C := RX3) (T := TX3) (N := 6) hx hb hts in_X3_note_3 hown hK hP 0 rfl rfl 4 (by decide) (hts _ lk_X3_note_25) (fun _ h9 => h9) rfl dX3_note_5 ?_
  refine lv_iload_n hx hb dX3_note_8 rfl (lv_at hl 1 rfl) ?_
  refine k_iast hx hb hK hP hD hS 1 0 rfl rfl hv.1 dX3_note_9 (fun a3_wishes_1 H locs h_a3_wishes_1 hP hD hS => ?_)
  have hv := hv.2 a3_wishes_1 h_a3_wishes_1
  have hP : va_P D vwCl [oX3 ad s3_next s3_kept, aI cy (ad 25) 256 a3_wishes_1, aI cy (ad 26) 256 a3_givens, aJ cy (ad 27) 256 a3_sums] H := hP
  have hD : va_D A [oX3 ad s3_next s3_kept, aI cy (ad 25) 256 a3_wishes_1, aI cy (ad 26) 256 a3_givens, aJ cy (ad 27) 256 a3_sums] := hD
  refine lv_aload_n hx hb dX3_note_10 rfl (lv_at hl 0 rfl) ?_
  refine va_get (D := D) (ci := 3) (v := .ref (ad 26)) (C := RX3) (T := TX3) (N := 6) hx hb hts in_X3_note_3 hown hK hP 0 rfl rfl 1 (by decide) (hts _ lk_X3_note_15) (fun _ h9 => h9) rfl dX3_note_11 ?_
  refine lv_aload_n hx hb dX3_note_14 rfl (lv_at hl 0 rfl) ?_
  refine va_get (D := D) (ci := 3) (v := .int s3_next) (C := RX3) (T := TX3) (N := 6) hx hb hts in_X3_note_3 hown hK hP 0 rfl rfl 4 (by decide) (hts _ lk_X3_note_25) (fun _ h9 => h9) rfl dX3_note_15 ?_
  refine lv_iload_n hx hb dX3_note_18 rfl (lv_at hl 2 rfl) ?_
  refine k_iast hx hb hK hP hD hS 2 0 rfl rfl hv.1 dX3_note_19 (fun a3_givens_2 H locs h_a3_givens_2 hP hD hS => ?_)
  have hv := hv.2 a3_givens_2 h_a3_givens_2
  have hP : va_P D vwCl [oX3 ad s3_next s3_kept, aI cy (ad 25) 256 a3_wishes_1, aI cy (ad 26) 256 a3_givens_2, aJ cy (ad 27) 256 a3_sums] H := hP
  have hD : va_D A [oX3 ad s3_next s3_kept, aI cy (ad 25) 256 a3_wishes_1, aI cy (ad 26) 256 a3_givens_2, aJ cy (ad 27) 256 a3_sums] := hD
  refine lv_aload_n hx hb dX3_note_20 rfl (lv_at hl 0 rfl) ?_
  refine va_get (D := D) (ci := 3) (v := .ref (ad 27)) (C := RX3) (T := TX3) (N := 6) hx hb hts in_X3_note_3 hown hK hP 0 rfl rfl 2 (by decide) (hts _ lk_X3_note_18) (fun _ h9 => h9) rfl dX3_note_21 ?_
  refine lv_aload_n hx hb dX3_note_24 rfl (lv_at hl 0 rfl) ?_
  refine va_get (D := D) (ci := 3) (v := .int s3_next) (C := RX3) (T := TX3) (N := 6) hx hb hts in_X3_note_3 hown hK hP 0 rfl rfl 4 (by decide) (hts _ lk_X3_note_25) (fun _ h9 => h9) rfl dX3_note_25 ?_
  refine lv_lload_n hx hb dX3_note_28 rfl (lv_at hl 3 rfl) ?_
  refine k_last hx hb hK hP hD hS 3 1 rfl rfl hv.1 dX3_note_29 (fun a3_sums_3 H locs h_a3_sums_3 hP hD hS => ?_)
  have hv := hv.2 a3_sums_3 h_a3_sums_3
  have hP : va_P D vwCl [oX3 ad s3_next s3_kept, aI cy (ad 25) 256 a3_wishes_1, aI cy (ad 26) 256 a3_givens_2, aJ cy (ad 27) 256 a3_sums_3] H := hP
  have hD : va_D A [oX3 ad s3_next s3_kept, aI cy (ad 25) 256 a3_wishes_1, aI cy (ad 26) 256 a3_givens_2, aJ cy (ad 27) 256 a3_sums_3] := hD
  refine lv_aload_n hx hb dX3_note_30 rfl (lv_at hl 0 rfl) ?_
  refine lv_aload_n hx hb dX3_note_31 rfl (lv_at hl 0 rfl) ?_
  refine va_get (D := D) (ci := 3) (v := .int s3_next) (C := RX3) (T := TX3) (N := 6) hx hb hts in_X3_note_3 hown hK hP 0 rfl rfl 4 (by decide) (hts _ lk_X3_note_25) (fun _ h9 => h9) rfl dX3_note_32 ?_
  refine lv_iconst (v := 1) hx hb dX3_note_35 (by decide) ?_
  refine lv_iadd hx hb dX3_note_36 ?_
  refine lv_topi (fun e4 h_e4 => ?_)
  have hv := hv e4 h_e4
  refine lv_sipush (v := 255) hx hb dX3_note_37 (by decide) ?_
  refine lv_iand hx hb dX3_note_40 ?_
  refine lv_topi (fun e5 h_e5 => ?_)
  have hv := hv e5 h_e5
  refine va_put (D := D) (ci := 3) (v := .int e5) (ty := .int) (C := RX3) (T := TX3) (N := 6) hx hb hts in_X3_note_3 tyX3 tyX3_ok nmX3 hown hK hP hD hS 0 rfl rfl 4 (by decide) (hts _ lk_X3_note_25) (fun _ h9 => h9) rfl (by decide +kernel) rfl rfl (Nat.le_of_ble_eq_true rfl) dX3_note_41 (fun H locs hP hD hS => ?_)
  have hP : va_P D vwCl [oX3 ad e5 s3_kept, aI cy (ad 25) 256 a3_wishes_1, aI cy (ad 26) 256 a3_givens_2, aJ cy (ad 27) 256 a3_sums_3] H := hP
  have hD : va_D A [oX3 ad e5 s3_kept, aI cy (ad 25) 256 a3_wishes_1, aI cy (ad 26) 256 a3_givens_2, aJ cy (ad 27) 256 a3_sums_3] := hD
  refine lv_aload_n hx hb dX3_note_44 rfl (lv_at hl 0 rfl) ?_
  refine lv_aload_n hx hb dX3_note_45 rfl (lv_at hl 0 rfl) ?_
  refine va_get (D := D) (ci := 3) (v := .int s3_kept) (C := RX3) (T := TX3) (N := 6) hx hb hts in_X3_note_3 hown hK hP 0 rfl rfl 5 (by decide) (hts _ lk_X3_note_29) (fun _ h9 => h9) rfl dX3_note_46 ?_
  refine lv_iconst (v := 1) hx hb dX3_note_49 (by decide) ?_
  refine lv_iadd hx hb dX3_note_50 ?_
  refine lv_topi (fun e6 h_e6 => ?_)
  have hv := hv e6 h_e6
  refine lv_sipush (v := 256) hx hb dX3_note_51 (by decide) ?_
  refine va_mmin hx hb (hml.trans hl.1.symm) hown (hts _ lm1_X3_note_min) (hts _ lm2_X3_note_min) (hts _ lm3_X3_note) (hts _ lm4_X3_note_min) (Nat.le_of_ble_eq_true rfl) (Nat.le_of_ble_eq_true rfl) (Nat.le_of_ble_eq_true rfl) (Nat.le_of_ble_eq_true rfl) dX3_note_54 ?_
  refine lv_topi (fun e7 h_e7 => ?_)
  have hv := hv e7 h_e7
  refine va_put (D := D) (ci := 3) (v := .int e7) (ty := .int) (C := RX3) (T := TX3) (N := 6) hx hb hts in_X3_note_3 tyX3 tyX3_ok nmX3 hown hK hP hD hS 0 rfl rfl 5 (by decide) (hts _ lk_X3_note_29) (fun _ h9 => h9) rfl (by decide +kernel) rfl rfl (Nat.le_of_ble_eq_true rfl) dX3_note_57 (fun H locs hP hD hS => ?_)
  have hP : va_P D vwCl [oX3 ad e5 e7, aI cy (ad 25) 256 a3_wishes_1, aI cy (ad 26) 256 a3_givens_2, aJ cy (ad 27) 256 a3_sums_3] H := hP
  have hD : va_D A [oX3 ad e5 e7, aI cy (ad 25) 256 a3_wishes_1, aI cy (ad 26) 256 a3_givens_2, aJ cy (ad 27) 256 a3_sums_3] := hD
  rw [← hQ]
  exact k_vret hx hb hr hlocks hS (e5, e7, a3_wishes_1, a3_givens_2, a3_sums_3) hP hD hv dX3_note_60
theorem lk_X3_holdsLast_29 : Cond.fieldLink RX3 29 "CoarseSteps$History" "kept" "I" ∈ wsX3_holdsLast := by decide +kernel
theorem in_X3_holdsLast_3 : ∀ w ∈ wsX30, w ∈ wsX3_holdsLast := by decide +kernel
abbrev rm_X3_holdsLast : Room := { frames := 0, cells := 0, slots := 0, locals := 0 }
set_option maxHeartbeats 4000000 in
set_option maxRecDepth 100000 in
theorem m_X3_holdsLast (l : Launch) (D : va_G) (cy : ClassId × ClassId × ClassId) (ad : Nat → Nat) (s3_next : Int32) (s3_kept : Int32) (x1 : Int32) (sz : Nat) {K : Int32 → Prop} (hv : v_X3_holdsLast s3_kept x1 K) : Met l yX3_holdsLast wsX3_holdsLast rm_X3_holdsLast (va_Pc [.ref (ad 3), .int x1] (wd D cy [oX3 ad s3_next s3_kept] sz)) (va_Qi (fun (r : Int32) (u : Unit) => (r = 0 ∨ r = 1) ∧ K r) (fun u t => we D ((fun u : Unit => [oX3 ad s3_next s3_kept]) u) (va_A [oX3 ad s3_next s3_kept] sz) t) (va_A [oX3 ad s3_next s3_kept] sz)) 0 0 (va_A [oX3 ad s3_next s3_kept] sz) := by
  refine k_ofW (cc := cX3_holdsLast) (maxL := 2) (ret := (some .boolean)) (fun A => va_Qi (fun (r : Int32) (u : Unit) => (r = 0 ∨ r = 1) ∧ K r) (fun u t => we D ((fun u : Unit => [oX3 ad s3_next s3_kept]) u) A t) A) (by decide) rfl (Nat.le_of_ble_eq_true rfl) ?_
  intro p e s m below meth c A ls H locs hx hb hml hr hts hown hlocks hname hK hN hA hP hD hS hl
  have hl : lv_has ls 2 [(0, .ref (ad 3)), (1, .int x1)] := hl
  generalize hQ : MQ below _ _ s _ _ A = Q
  unfold v_X3_holdsLast at hv
  refine lv_iload_n hx hb dX3_holdsLast_0 rfl (lv_at hl 1 rfl) ?_
  refine lv_iconst (v := 1) hx hb dX3_holdsLast_1 (by decide) ?_
  refine lv_icmp_lt (tgt := 17) hx hb dX3_holdsLast_2 (by decide) (fun c_2 => ?_) (fun c_2 => ?_)
  · have hv := hv.1 c_2
    refine lv_iconst (v := 0) hx hb dX3_holdsLast_17 (by decide) ?_
    rw [← hQ]
    exact k_zret hx hb hr hlocks hS () hP hD (by decide) hv dX3_holdsLast_18
  · have hv := hv.2 c_2
    refine lv_iload_n hx hb dX3_holdsLast_5 rfl (lv_at hl 1 rfl) ?_
    refine lv_aload_n hx hb dX3_holdsLast_6 rfl (lv_at hl 0 rfl) ?_
    refine va_get (D := D) (ci := 3) (v := .int s3_kept) (C := RX3) (T := TX3) (N := 6) hx hb hts in_X3_holdsLast_3 hown hK hP 0 rfl rfl 5 (by decide) (hts _ lk_X3_holdsLast_29) (fun _ h9 => h9) rfl dX3_holdsLast_7 ?_
    refine lv_icmp_gt (tgt := 17) hx hb dX3_holdsLast_10 (by decide) (fun c_10 => ?_) (fun c_10 => ?_)
    · have hv := hv.1 c_10
      refine lv_iconst (v := 0) hx hb dX3_holdsLast_17 (by decide) ?_
      rw [← hQ]
      exact k_zret hx hb hr hlocks hS () hP hD (by decide) hv dX3_holdsLast_18
    · have hv := hv.2 c_10
      refine lv_iconst (v := 1) hx hb dX3_holdsLast_13 (by decide) ?_
      refine lv_goto (tgt := 18) hx hb dX3_holdsLast_14 (by decide) ?_
      rw [← hQ]
      exact k_zret hx hb hr hlocks hS () hP hD (by decide) hv dX3_holdsLast_18
theorem lk_X3_wishAt_9 : Cond.fieldLink RX3 9 "CoarseSteps$History" "wishes" "[I" ∈ wsX3_wishAt := by decide +kernel
theorem in_X3_wishAt_3 : ∀ w ∈ wsX30, w ∈ wsX3_wishAt := by decide +kernel
theorem lk_X3_wishAt_25 : Cond.fieldLink RX3 25 "CoarseSteps$History" "next" "I" ∈ wsX3_wishAt := by decide +kernel
abbrev rm_X3_wishAt : Room := { frames := 0, cells := 0, slots := 0, locals := 0 }
set_option maxHeartbeats 4000000 in
set_option maxRecDepth 100000 in
theorem m_X3_wishAt (l : Launch) (D : va_G) (cy : ClassId × ClassId × ClassId) (ad : Nat → Nat) (s3_next : Int32) (s3_kept : Int32) (a3_wishes : Nat → Int32) (x1 : Int32) (sz : Nat) {K : Int32 → Prop} (hv : v_X3_wishAt s3_next a3_wishes x1 K) : Met l yX3_wishAt wsX3_wishAt rm_X3_wishAt (va_Pc [.ref (ad 3), .int x1] (wd D cy [oX3 ad s3_next s3_kept, aI cy (ad 25) 256 a3_wishes] sz)) (va_Qi (fun (r : Int32) (u : Unit) => K r) (fun u t => we D ((fun u : Unit => [oX3 ad s3_next s3_kept, aI cy (ad 25) 256 a3_wishes]) u) (va_A [oX3 ad s3_next s3_kept, aI cy (ad 25) 256 a3_wishes] sz) t) (va_A [oX3 ad s3_next s3_kept, aI cy (ad 25) 256 a3_wishes] sz)) 0 0 (va_A [oX3 ad s3_next s3_kept, aI cy (ad 25) 256 a3_wishes] sz) := by
  refine k_ofW (cc := cX3_wishAt) (maxL := 2) (ret := (some .int)) (fun A => va_Qi (fun (r : Int32) (u : Unit) => K r) (fun u t => we D ((fun u : Unit => [oX3 ad s3_next s3_kept, aI cy (ad 25) 256 a3_wishes]) u) A t) A) (by decide) rfl (Nat.le_of_ble_eq_true rfl) ?_
  intro p e s m below meth c A ls H locs hx hb hml hr hts hown hlocks hname hK hN hA hP hD hS hl
  have hl : lv_has ls 2 [(0, .ref (ad 3)), (1, .int x1)] := hl
  generalize hQ : MQ below _ _ s _ _ A = Q
  unfold v_X3_wishAt at hv
  refine lv_aload_n hx hb dX3_wishAt_0 rfl (lv_at hl 0 rfl) ?_
  refine va_get (D := D) (ci := 3) (v := .ref (ad 25)) (C := RX3) (T := TX3) (N := 6) hx hb hts in_X3_wishAt_3 hown hK hP 0 rfl rfl 0 (by decide) (hts _ lk_X3_wishAt_9) (fun _ h9 => h9) rfl dX3_wishAt_1 ?_
  refine lv_aload_n hx hb dX3_wishAt_4 rfl (lv_at hl 0 rfl) ?_
  refine va_get (D := D) (ci := 3) (v := .int s3_next) (C := RX3) (T := TX3) (N := 6) hx hb hts in_X3_wishAt_3 hown hK hP 0 rfl rfl 4 (by decide) (hts _ lk_X3_wishAt_25) (fun _ h9 => h9) rfl dX3_wishAt_5 ?_
  refine lv_iconst (v := 1) hx hb dX3_wishAt_8 (by decide) ?_
  refine lv_isub hx hb dX3_wishAt_9 ?_
  refine lv_topi (fun e1 h_e1 => ?_)
  have hv := hv e1 h_e1
  refine lv_iload_n hx hb dX3_wishAt_10 rfl (lv_at hl 1 rfl) ?_
  refine lv_isub hx hb dX3_wishAt_11 ?_
  refine lv_topi (fun e2 h_e2 => ?_)
  have hv := hv e2 h_e2
  refine lv_sipush (v := 255) hx hb dX3_wishAt_12 (by decide) ?_
  refine lv_iand hx hb dX3_wishAt_15 ?_
  refine lv_topi (fun e3 h_e3 => ?_)
  have hv := hv e3 h_e3
  refine va_iald hx hb hK hP 1 0 rfl rfl hv.1 dX3_wishAt_16 ?_
  refine lv_topi (fun g4 h_g4 => ?_)
  have hv := hv.2 g4 h_g4
  rw [← hQ]
  exact k_iret hx hb hr hlocks hS () hP hD hv dX3_wishAt_17
theorem lk_X3_sumAt_18 : Cond.fieldLink RX3 18 "CoarseSteps$History" "sums" "[J" ∈ wsX3_sumAt := by decide +kernel
theorem in_X3_sumAt_3 : ∀ w ∈ wsX30, w ∈ wsX3_sumAt := by decide +kernel
theorem lk_X3_sumAt_25 : Cond.fieldLink RX3 25 "CoarseSteps$History" "next" "I" ∈ wsX3_sumAt := by decide +kernel
abbrev rm_X3_sumAt : Room := { frames := 0, cells := 0, slots := 0, locals := 0 }
set_option maxHeartbeats 4000000 in
set_option maxRecDepth 100000 in
theorem m_X3_sumAt (l : Launch) (D : va_G) (cy : ClassId × ClassId × ClassId) (ad : Nat → Nat) (s3_next : Int32) (s3_kept : Int32) (a3_sums : Nat → Int64) (x1 : Int32) (sz : Nat) {K : Int64 → Prop} (hv : v_X3_sumAt s3_next a3_sums x1 K) : Met l yX3_sumAt wsX3_sumAt rm_X3_sumAt (va_Pc [.ref (ad 3), .int x1] (wd D cy [oX3 ad s3_next s3_kept, aJ cy (ad 27) 256 a3_sums] sz)) (va_Ql (fun (r : Int64) (u : Unit) => K r) (fun u t => we D ((fun u : Unit => [oX3 ad s3_next s3_kept, aJ cy (ad 27) 256 a3_sums]) u) (va_A [oX3 ad s3_next s3_kept, aJ cy (ad 27) 256 a3_sums] sz) t) (va_A [oX3 ad s3_next s3_kept, aJ cy (ad 27) 256 a3_sums] sz)) 0 0 (va_A [oX3 ad s3_next s3_kept, aJ cy (ad 27) 256 a3_sums] sz) := by
  refine k_ofW (cc := cX3_sumAt) (maxL := 2) (ret := (some .long)) (fun A => va_Ql (fun (r : Int64) (u : Unit) => K r) (fun u t => we D ((fun u : Unit => [oX3 ad s3_next s3_kept, aJ cy (ad 27) 256 a3_sums]) u) A t) A) (by decide) rfl (Nat.le_of_ble_eq_true rfl) ?_
  intro p e s m below meth c A ls H locs hx hb hml hr hts hown hlocks hname hK hN hA hP hD hS hl
  have hl : lv_has ls 2 [(0, .ref (ad 3)), (1, .int x1)] := hl
  generalize hQ : MQ below _ _ s _ _ A = Q
  unfold v_X3_sumAt at hv
  refine lv_aload_n hx hb dX3_sumAt_0 rfl (lv_at hl 0 rfl) ?_
  refine va_get (D := D) (ci := 3) (v := .ref (ad 27)) (C := RX3) (T := TX3) (N := 6) hx hb hts in_X3_sumAt_3 hown hK hP 0 rfl rfl 2 (by decide) (hts _ lk_X3_sumAt_18) (fun _ h9 => h9) rfl dX3_sumAt_1 ?_
  refine lv_aload_n hx hb dX3_sumAt_4 rfl (lv_at hl 0 rfl) ?_
  refine va_get (D := D) (ci := 3) (v := .int s3_next) (C := RX3) (T := TX3) (N := 6) hx hb hts in_X3_sumAt_3 hown hK hP 0 rfl rfl 4 (by decide) (hts _ lk_X3_sumAt_25) (fun _ h9 => h9) rfl dX3_sumAt_5 ?_
  refine lv_iconst (v := 1) hx hb dX3_sumAt_8 (by decide) ?_
  refine lv_isub hx hb dX3_sumAt_9 ?_
  refine lv_topi (fun e1 h_e1 => ?_)
  have hv := hv e1 h_e1
  refine lv_iload_n hx hb dX3_sumAt_10 rfl (lv_at hl 1 rfl) ?_
  refine lv_isub hx hb dX3_sumAt_11 ?_
  refine lv_topi (fun e2 h_e2 => ?_)
  have hv := hv e2 h_e2
  refine lv_sipush (v := 255) hx hb dX3_sumAt_12 (by decide) ?_
  refine lv_iand hx hb dX3_sumAt_15 ?_
  refine lv_topi (fun e3 h_e3 => ?_)
  have hv := hv e3 h_e3
  refine va_lald hx hb hK hP 1 1 rfl rfl hv.1 dX3_sumAt_16 ?_
  refine lv_topl (fun g4 h_g4 => ?_)
  have hv := hv.2 g4 h_g4
  rw [← hQ]
  exact k_lret hx hb hr hlocks hS () hP hD hv dX3_sumAt_17
abbrev rm_X3_missedIn : Room := { frames := 1, cells := 0, slots := 0, locals := 21 }
set_option maxHeartbeats 4000000 in
set_option maxRecDepth 100000 in
theorem m_X3_missedIn (l : Launch) (D : va_G) (cy : ClassId × ClassId × ClassId) (ad : Nat → Nat) (s3_next : Int32) (s3_kept : Int32) (a3_wishes : Nat → Int32) (a3_givens : Nat → Int32) (x1 : Int32) (x2 : Int32) (sz : Nat) {K : Int64 → Prop} (hv : v_X3_missedIn s3_next a3_wishes a3_givens x1 x2 K) : Met l yX3_missedIn wsX3_missedIn rm_X3_missedIn (va_Pc [.ref (ad 3), .int x1, .int x2] (wd D cy [oX3 ad s3_next s3_kept, aI cy (ad 25) 256 a3_wishes, aI cy (ad 26) 256 a3_givens] sz)) (va_Ql (fun (r : Int64) (u : Unit) => K r) (fun u t => we D ((fun u : Unit => [oX3 ad s3_next s3_kept, aI cy (ad 25) 256 a3_wishes, aI cy (ad 26) 256 a3_givens]) u) (va_A [oX3 ad s3_next s3_kept, aI cy (ad 25) 256 a3_wishes, aI cy (ad 26) 256 a3_givens] sz) t) (va_A [oX3 ad s3_next s3_kept, aI cy (ad 25) 256 a3_wishes, aI cy (ad 26) 256 a3_givens] sz)) 0 0 (va_A [oX3 ad s3_next s3_kept, aI cy (ad 25) 256 a3_wishes, aI cy (ad 26) 256 a3_givens] sz) := by
  refine k_ofW (cc := cX3_missedIn) (maxL := 6) (ret := (some .long)) (fun A => va_Ql (fun (r : Int64) (u : Unit) => K r) (fun u t => we D ((fun u : Unit => [oX3 ad s3_next s3_kept, aI cy (ad 25) 256 a3_wishes, aI cy (ad 26) 256 a3_givens]) u) A t) A) (by decide) rfl (Nat.le_of_ble_eq_true rfl) ?_
  intro p e s m below meth c A ls H locs hx hb hml hr hts hown hlocks hname hK hN hA hP hD hS hl
  have hl : lv_has ls 6 [(0, .ref (ad 3)), (1, .int x1), (2, .int x2)] := hl
  generalize hQ : MQ below _ _ s _ _ A = Q
  unfold v_X3_missedIn at hv
  refine lv_lconst (v := 0) hx hb dX3_missedIn_0 (by decide) ?_
  refine lv_lstore_n (lv' := [(3, .long (0 : Int64)), (0, .ref (ad 3)), (1, .int x1), (2, .int x2)]) hx hb dX3_missedIn_1 rfl hl (by decide) rfl (fun ls hl => ?_)
  refine lv_iconst (v := 0) hx hb dX3_missedIn_2 (by decide) ?_
  refine lv_istore (lv' := [(5, .int (0 : Int32)), (3, .long (0 : Int64)), (0, .ref (ad 3)), (1, .int x1), (2, .int x2)]) hx hb dX3_missedIn_3 hl (by decide) rfl (fun ls hl => ?_)
  have lp5 : ∀ (n5 : Nat) (l5_1 : Int32) (l3_2 : Int64) (H : Heap) (locs : List Loc) (ls : Array Slot), vfix (vF_X3_missedIn_5 s3_next a3_wishes a3_givens x1 x2 K) n5 (l5_1, l3_2) → lv_has ls 6 [(5, .int l5_1), (3, .long l3_2), (0, .ref (ad 3)), (1, .int x1), (2, .int x2)] → va_P D vwCl [oX3 ad s3_next s3_kept, aI cy (ad 25) 256 a3_wishes, aI cy (ad 26) 256 a3_givens] H → va_D A [oX3 ad s3_next s3_kept, aI cy (ad 25) 256 a3_wishes, aI cy (ad 26) 256 a3_givens] → va_S A s.heap H locs → W p l e rm_X3_missedIn s m ([.ref (ad 3), .int x1, .int x2] : List Value).toArray below meth c H locs 0 0 Q (F0 m 5 ls []) := by
    intro n5
    induction n5 with
    | zero => intro l5_1 l3_2 H locs ls hv; exact hv.elim
    | succ n5 ih5 =>
      intro l5_1 l3_2 H locs ls hv hl hP hD hS
      have hv : vB_X3_missedIn_5 s3_next a3_wishes a3_givens x1 x2 K (fun z0 z1 => vfix (vF_X3_missedIn_5 s3_next a3_wishes a3_givens x1 x2 K) n5 (z0, z1)) l5_1 l3_2 := hv
      unfold vB_X3_missedIn_5 at hv
      refine lv_iload hx hb dX3_missedIn_5 (lv_at hl 0 rfl) ?_
      refine lv_iload_n hx hb dX3_missedIn_7 rfl (lv_at hl 3 rfl) ?_
      refine lv_icmp_ge (tgt := 38) hx hb dX3_missedIn_8 (by decide) (fun c_8 => ?_) (fun c_8 => ?_)
      · have hv := hv.1 c_8
        refine lv_lload_n hx hb dX3_missedIn_38 rfl (lv_at hl 1 rfl) ?_
        rw [← hQ]
        exact k_lret hx hb hr hlocks hS () hP hD hv dX3_missedIn_39
      · have hv := hv.2 c_8
        refine lv_lload_n hx hb dX3_missedIn_11 rfl (lv_at hl 1 rfl) ?_
        refine lv_aload_n hx hb dX3_missedIn_12 rfl (lv_at hl 2 rfl) ?_
        refine lv_iload hx hb dX3_missedIn_13 (lv_at hl 0 rfl) ?_
        have hPc := hP.sub (ws' := [oX3 ad s3_next s3_kept, aI cy (ad 26) 256 a3_givens]) [0, 2] rfl
        have hDc := hD.sub (ws' := [oX3 ad s3_next s3_kept, aI cy (ad 26) 256 a3_givens]) [0, 2] (by decide) rfl
        refine k_cali (wc := [oX3 ad s3_next s3_kept, aI cy (ad 26) 256 a3_givens]) (wr := [aI cy (ad 25) 256 a3_wishes]) (va_runV (As := [.int l5_1]) (rest := [.long l3_2]) ⟨hx, hb, hml, hown, hts⟩ (m_X3_givenAt l D cy ad s3_next s3_kept a3_givens l5_1 H.size hv) (cwV 1 hts gX3_missedIn_X3_givenAt rfl rfl rfl (by decide +kernel) ⟨Nat.le_of_ble_eq_true rfl, Nat.le_of_ble_eq_true rfl⟩) ⟨wd_blind, va_recv hK hPc (ci := 3) (q0 := 0) rfl rfl, wd_ok hPc hK hDc hN⟩ rfl rfl hl.1 rfl (lv_room (Nat.le_of_ble_eq_true rfl)) dX3_missedIn_15 ⟨Nat.le_of_ble_eq_true rfl, Nat.le_of_ble_eq_true rfl⟩) hP hD hS hA [0, 2] [1] rfl rfl (by decide) (by decide) (fun r3 u H locs hv hP hD hS => ?_)
        have hP : va_P D vwCl [oX3 ad s3_next s3_kept, aI cy (ad 25) 256 a3_wishes, aI cy (ad 26) 256 a3_givens] H := hP.sub [1, 0, 2] rfl
        have hD : va_D A [oX3 ad s3_next s3_kept, aI cy (ad 25) 256 a3_wishes, aI cy (ad 26) 256 a3_givens] := hD.sub [1, 0, 2] (by decide) rfl
        refine lv_i2l hx hb dX3_missedIn_18 rfl ?_
        refine lv_iload_n hx hb dX3_missedIn_19 rfl (lv_at hl 4 rfl) ?_
        refine lv_i2l hx hb dX3_missedIn_20 rfl ?_
        refine lv_lmul hx hb dX3_missedIn_21 ?_
        refine lv_topl (fun e4 h_e4 => ?_)
        have hv := hv e4 h_e4
        refine lv_aload_n hx hb dX3_missedIn_22 rfl (lv_at hl 2 rfl) ?_
        refine lv_iload hx hb dX3_missedIn_23 (lv_at hl 0 rfl) ?_
        have hPc := hP.sub (ws' := [oX3 ad s3_next s3_kept, aI cy (ad 25) 256 a3_wishes]) [0, 1] rfl
        have hDc := hD.sub (ws' := [oX3 ad s3_next s3_kept, aI cy (ad 25) 256 a3_wishes]) [0, 1] (by decide) rfl
        refine k_cali (wc := [oX3 ad s3_next s3_kept, aI cy (ad 25) 256 a3_wishes]) (wr := [aI cy (ad 26) 256 a3_givens]) (va_runV (As := [.int l5_1]) (rest := [.long e4, .long l3_2]) ⟨hx, hb, hml, hown, hts⟩ (m_X3_wishAt l D cy ad s3_next s3_kept a3_wishes l5_1 H.size hv) (cwV 1 hts gX3_missedIn_X3_wishAt rfl rfl rfl (by decide +kernel) ⟨Nat.le_of_ble_eq_true rfl, Nat.le_of_ble_eq_true rfl⟩) ⟨wd_blind, va_recv hK hPc (ci := 3) (q0 := 0) rfl rfl, wd_ok hPc hK hDc hN⟩ rfl rfl hl.1 rfl (lv_room (Nat.le_of_ble_eq_true rfl)) dX3_missedIn_25 ⟨Nat.le_of_ble_eq_true rfl, Nat.le_of_ble_eq_true rfl⟩) hP hD hS hA [0, 1] [2] rfl rfl (by decide) (by decide) (fun r5 u H locs hv hP hD hS => ?_)
        have hP : va_P D vwCl [oX3 ad s3_next s3_kept, aI cy (ad 25) 256 a3_wishes, aI cy (ad 26) 256 a3_givens] H := hP.sub [1, 2, 0] rfl
        have hD : va_D A [oX3 ad s3_next s3_kept, aI cy (ad 25) 256 a3_wishes, aI cy (ad 26) 256 a3_givens] := hD.sub [1, 2, 0] (by decide) rfl
        refine lv_i2l hx hb dX3_missedIn_28 rfl ?_
        refine lv_lsub hx hb dX3_missedIn_29 ?_
        refine lv_topl (fun e6 h_e6 => ?_)
        have hv := hv e6 h_e6
        refine lv_ladd hx hb dX3_missedIn_30 ?_
        refine lv_topl (fun e7 h_e7 => ?_)
        have hv := hv e7 h_e7
        refine lv_lstore_n (lv' := [(3, .long e7), (5, .int l5_1), (0, .ref (ad 3)), (1, .int x1), (2, .int x2)]) hx hb dX3_missedIn_31 rfl hl (by decide) rfl (fun ls hl => ?_)
        obtain ⟨i8, h_i8⟩ : ∃ y : Int32, y = l5_1 + 1 := ⟨_, rfl⟩
        refine lv_iinc (v := i8) (lv' := [(5, .int i8), (3, .long e7), (0, .ref (ad 3)), (1, .int x1), (2, .int x2)]) hx hb dX3_missedIn_32 hl (k := 1) rfl (by rw [h_i8]; rfl) (by decide) rfl (fun ls hl => ?_)
        have hv := hv i8 h_i8
        refine lv_goto (tgt := 5) hx hb dX3_missedIn_35 (by decide) ?_
        exact ih5 i8 e7 H locs ls hv (lv_sub hl [0, 1, 2, 3, 4] rfl) hP hD hS
  obtain ⟨nn, hv⟩ := hv
  exact lp5 nn (0 : Int32) (0 : Int64) H locs ls hv (lv_sub hl [0, 1, 2, 3, 4] rfl) hP hD hS
theorem lk_X3_isEvenBy_22 : Cond.fieldLink RX3 22 "CoarseSteps$History" "totals" "[I" ∈ wsX3_isEvenBy := by decide +kernel
theorem in_X3_isEvenBy_3 : ∀ w ∈ wsX30, w ∈ wsX3_isEvenBy := by decide +kernel
theorem lm1_X3_isEvenBy_min : Cond.methodLink RX3 32 Lib.Math.min.name ∈ wsX3_isEvenBy := by decide +kernel
theorem lm2_X3_isEvenBy_min : Cond.static Lib.Math.min.name ∈ wsX3_isEvenBy := by decide +kernel
theorem lm3_X3_isEvenBy : Cond.initialized "java/lang/Math" ∈ wsX3_isEvenBy := by decide +kernel
theorem lm4_X3_isEvenBy_min : Cond.code Lib.Math.min.name Lib.Math.min.code 2 (some .int) ∈ wsX3_isEvenBy := by decide +kernel
theorem lm1_X3_isEvenBy_max : Cond.methodLink RX3 49 Lib.Math.max.name ∈ wsX3_isEvenBy := by decide +kernel
theorem lm2_X3_isEvenBy_max : Cond.static Lib.Math.max.name ∈ wsX3_isEvenBy := by decide +kernel
theorem lm4_X3_isEvenBy_max : Cond.code Lib.Math.max.name Lib.Math.max.code 2 (some .int) ∈ wsX3_isEvenBy := by decide +kernel
abbrev rm_X3_isEvenBy : Room := { frames := 1, cells := 0, slots := 0, locals := 21 }
set_option maxHeartbeats 4000000 in
set_option maxRecDepth 100000 in
theorem m_X3_isEvenBy (l : Launch) (D : va_G) (cy : ClassId × ClassId × ClassId) (ad : Nat → Nat) (s3_next : Int32) (s3_kept : Int32) (a3_totals : Nat → Int32) (x1 : Int32) (x2 : Int32) (sz : Nat) {K : Int32 → Prop} (hv : v_X3_isEvenBy a3_totals x1 x2 K) : Met l yX3_isEvenBy wsX3_isEvenBy rm_X3_isEvenBy (va_Pc [.ref (ad 3), .int x1, .int x2] (wd D cy [oX3 ad s3_next s3_kept, aI cy (ad 28) 257 a3_totals] sz)) (va_Qi (fun (r : Int32) (u : Unit) => (r = 0 ∨ r = 1) ∧ K r) (fun u t => we D ((fun u : Unit => [oX3 ad s3_next s3_kept, aI cy (ad 28) 257 a3_totals]) u) (va_A [oX3 ad s3_next s3_kept, aI cy (ad 28) 257 a3_totals] sz) t) (va_A [oX3 ad s3_next s3_kept, aI cy (ad 28) 257 a3_totals] sz)) 0 0 (va_A [oX3 ad s3_next s3_kept, aI cy (ad 28) 257 a3_totals] sz) := by
  refine k_ofW (cc := cX3_isEvenBy) (maxL := 7) (ret := (some .boolean)) (fun A => va_Qi (fun (r : Int32) (u : Unit) => (r = 0 ∨ r = 1) ∧ K r) (fun u t => we D ((fun u : Unit => [oX3 ad s3_next s3_kept, aI cy (ad 28) 257 a3_totals]) u) A t) A) (by decide) rfl (Nat.le_of_ble_eq_true rfl) ?_
  intro p e s m below meth c A ls H locs hx hb hml hr hts hown hlocks hname hK hN hA hP hD hS hl
  have hl : lv_has ls 7 [(0, .ref (ad 3)), (1, .int x1), (2, .int x2)] := hl
  generalize hQ : MQ below _ _ s _ _ A = Q
  unfold v_X3_isEvenBy at hv
  refine lv_aload_n hx hb dX3_isEvenBy_0 rfl (lv_at hl 0 rfl) ?_
  refine va_get (D := D) (ci := 3) (v := .ref (ad 28)) (C := RX3) (T := TX3) (N := 6) hx hb hts in_X3_isEvenBy_3 hown hK hP 0 rfl rfl 3 (by decide) (hts _ lk_X3_isEvenBy_22) (fun _ h9 => h9) rfl dX3_isEvenBy_1 ?_
  refine lv_iload_n hx hb dX3_isEvenBy_4 rfl (lv_at hl 1 rfl) ?_
  refine va_iald hx hb hK hP 1 0 rfl rfl hv.1 dX3_isEvenBy_5 ?_
  refine lv_topi (fun g1 h_g1 => ?_)
  have hv := hv.2 g1 h_g1
  refine lv_istore_n (lv' := [(3, .int g1), (0, .ref (ad 3)), (1, .int x1), (2, .int x2)]) hx hb dX3_isEvenBy_6 rfl hl (by decide) rfl (fun ls hl => ?_)
  refine lv_iload_n hx hb dX3_isEvenBy_7 rfl (lv_at hl 0 rfl) ?_
  refine lv_istore (lv' := [(4, .int g1), (3, .int g1), (0, .ref (ad 3)), (1, .int x1), (2, .int x2)]) hx hb dX3_isEvenBy_8 hl (by decide) rfl (fun ls hl => ?_)
  refine lv_iload_n hx hb dX3_isEvenBy_10 rfl (lv_at hl 3 rfl) ?_
  refine lv_iconst (v := 1) hx hb dX3_isEvenBy_11 (by decide) ?_
  refine lv_iadd hx hb dX3_isEvenBy_12 ?_
  refine lv_topi (fun e2 h_e2 => ?_)
  have hv := hv e2 h_e2
  refine lv_istore (lv' := [(5, .int e2), (4, .int g1), (3, .int g1), (0, .ref (ad 3)), (1, .int x1), (2, .int x2)]) hx hb dX3_isEvenBy_13 hl (by decide) rfl (fun ls hl => ?_)
  have lp15 : ∀ (n15 : Nat) (l5_3 : Int32) (l4_4 : Int32) (l3_5 : Int32) (H : Heap) (locs : List Loc) (ls : Array Slot), vfix (vF_X3_isEvenBy_15 a3_totals x1 x2 K) n15 (l5_3, l4_4, l3_5) → lv_has ls 7 [(5, .int l5_3), (4, .int l4_4), (3, .int l3_5), (0, .ref (ad 3)), (1, .int x1), (2, .int x2)] → va_P D vwCl [oX3 ad s3_next s3_kept, aI cy (ad 28) 257 a3_totals] H → va_D A [oX3 ad s3_next s3_kept, aI cy (ad 28) 257 a3_totals] → va_S A s.heap H locs → W p l e rm_X3_isEvenBy s m ([.ref (ad 3), .int x1, .int x2] : List Value).toArray below meth c H locs 0 0 Q (F0 m 15 ls []) := by
    intro n15
    induction n15 with
    | zero => intro l5_3 l4_4 l3_5 H locs ls hv; exact hv.elim
    | succ n15 ih15 =>
      intro l5_3 l4_4 l3_5 H locs ls hv hl hP hD hS
      have hv : vB_X3_isEvenBy_15 a3_totals x1 x2 K (fun z0 z1 z2 => vfix (vF_X3_isEvenBy_15 a3_totals x1 x2 K) n15 (z0, z1, z2)) l5_3 l4_4 l3_5 := hv
      unfold vB_X3_isEvenBy_15 at hv
      refine lv_iload hx hb dX3_isEvenBy_15 (lv_at hl 0 rfl) ?_
      refine lv_iload_n hx hb dX3_isEvenBy_17 rfl (lv_at hl 5 rfl) ?_
      refine lv_icmp_gt (tgt := 62) hx hb dX3_isEvenBy_18 (by decide) (fun c_18 => ?_) (fun c_18 => ?_)
      · have hv := hv.1 c_18
        refine lv_iload hx hb dX3_isEvenBy_62 (lv_at hl 1 rfl) ?_
        refine lv_iload_n hx hb dX3_isEvenBy_64 rfl (lv_at hl 2 rfl) ?_
        refine lv_isub hx hb dX3_isEvenBy_65 ?_
        refine lv_topi (fun e6 h_e6 => ?_)
        have hv := hv e6 h_e6
        refine lv_iconst (v := 1) hx hb dX3_isEvenBy_66 (by decide) ?_
        refine lv_icmp_gt (tgt := 74) hx hb dX3_isEvenBy_67 (by decide) (fun c_67 => ?_) (fun c_67 => ?_)
        · have hv := hv.1 c_67
          refine lv_iconst (v := 0) hx hb dX3_isEvenBy_74 (by decide) ?_
          rw [← hQ]
          exact k_zret hx hb hr hlocks hS () hP hD (by decide) hv dX3_isEvenBy_75
        · have hv := hv.2 c_67
          refine lv_iconst (v := 1) hx hb dX3_isEvenBy_70 (by decide) ?_
          refine lv_goto (tgt := 75) hx hb dX3_isEvenBy_71 (by decide) ?_
          rw [← hQ]
          exact k_zret hx hb hr hlocks hS () hP hD (by decide) hv dX3_isEvenBy_75
      · have hv := hv.2 c_18
        refine lv_aload_n hx hb dX3_isEvenBy_21 rfl (lv_at hl 3 rfl) ?_
        refine va_get (D := D) (ci := 3) (v := .ref (ad 28)) (C := RX3) (T := TX3) (N := 6) hx hb hts in_X3_isEvenBy_3 hown hK hP 0 rfl rfl 3 (by decide) (hts _ lk_X3_isEvenBy_22) (fun _ h9 => h9) rfl dX3_isEvenBy_22 ?_
        refine lv_iload hx hb dX3_isEvenBy_25 (lv_at hl 0 rfl) ?_
        refine va_iald hx hb hK hP 1 0 rfl rfl hv.1 dX3_isEvenBy_27 ?_
        refine lv_topi (fun g7 h_g7 => ?_)
        have hv := hv.2 g7 h_g7
        refine lv_aload_n hx hb dX3_isEvenBy_28 rfl (lv_at hl 3 rfl) ?_
        refine va_get (D := D) (ci := 3) (v := .ref (ad 28)) (C := RX3) (T := TX3) (N := 6) hx hb hts in_X3_isEvenBy_3 hown hK hP 0 rfl rfl 3 (by decide) (hts _ lk_X3_isEvenBy_22) (fun _ h9 => h9) rfl dX3_isEvenBy_29 ?_
        refine lv_iload hx hb dX3_isEvenBy_32 (lv_at hl 0 rfl) ?_
        refine lv_iload_n hx hb dX3_isEvenBy_34 rfl (lv_at hl 4 rfl) ?_
        refine lv_isub hx hb dX3_isEvenBy_35 ?_
        refine lv_topi (fun e8 h_e8 => ?_)
        have hv := hv e8 h_e8
        refine va_iald hx hb hK hP 1 0 rfl rfl hv.1 dX3_isEvenBy_36 ?_
        refine lv_topi (fun g9 h_g9 => ?_)
        have hv := hv.2 g9 h_g9
        refine lv_isub hx hb dX3_isEvenBy_37 ?_
        refine lv_topi (fun e10 h_e10 => ?_)
        have hv := hv e10 h_e10
        refine lv_istore (lv' := [(6, .int e10), (5, .int l5_3), (4, .int l4_4), (3, .int l3_5), (0, .ref (ad 3)), (1, .int x1), (2, .int x2)]) hx hb dX3_isEvenBy_38 hl (by decide) rfl (fun ls hl => ?_)
        refine lv_iload_n hx hb dX3_isEvenBy_40 rfl (lv_at hl 3 rfl) ?_
        refine lv_iload hx hb dX3_isEvenBy_41 (lv_at hl 0 rfl) ?_
        refine va_mmin hx hb (hml.trans hl.1.symm) hown (hts _ lm1_X3_isEvenBy_min) (hts _ lm2_X3_isEvenBy_min) (hts _ lm3_X3_isEvenBy) (hts _ lm4_X3_isEvenBy_min) (Nat.le_of_ble_eq_true rfl) (Nat.le_of_ble_eq_true rfl) (Nat.le_of_ble_eq_true rfl) (Nat.le_of_ble_eq_true rfl) dX3_isEvenBy_43 ?_
        refine lv_topi (fun e11 h_e11 => ?_)
        have hv := hv e11 h_e11
        refine lv_istore_n (lv' := [(3, .int e11), (6, .int e10), (5, .int l5_3), (4, .int l4_4), (0, .ref (ad 3)), (1, .int x1), (2, .int x2)]) hx hb dX3_isEvenBy_46 rfl hl (by decide) rfl (fun ls hl => ?_)
        refine lv_iload hx hb dX3_isEvenBy_47 (lv_at hl 3 rfl) ?_
        refine lv_iload hx hb dX3_isEvenBy_49 (lv_at hl 1 rfl) ?_
        refine va_mmax hx hb (hml.trans hl.1.symm) hown (hts _ lm1_X3_isEvenBy_max) (hts _ lm2_X3_isEvenBy_max) (hts _ lm3_X3_isEvenBy) (hts _ lm4_X3_isEvenBy_max) (Nat.le_of_ble_eq_true rfl) (Nat.le_of_ble_eq_true rfl) (Nat.le_of_ble_eq_true rfl) (Nat.le_of_ble_eq_true rfl) dX3_isEvenBy_51 ?_
        refine lv_topi (fun e12 h_e12 => ?_)
        have hv := hv e12 h_e12
        refine lv_istore (lv' := [(4, .int e12), (3, .int e11), (6, .int e10), (5, .int l5_3), (0, .ref (ad 3)), (1, .int x1), (2, .int x2)]) hx hb dX3_isEvenBy_54 hl (by decide) rfl (fun ls hl => ?_)
        obtain ⟨i13, h_i13⟩ : ∃ y : Int32, y = l5_3 + 1 := ⟨_, rfl⟩
        refine lv_iinc (v := i13) (lv' := [(5, .int i13), (4, .int e12), (3, .int e11), (6, .int e10), (0, .ref (ad 3)), (1, .int x1), (2, .int x2)]) hx hb dX3_isEvenBy_56 hl (k := 3) rfl (by rw [h_i13]; rfl) (by decide) rfl (fun ls hl => ?_)
        have hv := hv i13 h_i13
        refine lv_goto (tgt := 15) hx hb dX3_isEvenBy_59 (by decide) ?_
        exact ih15 i13 e12 e11 H locs ls hv (lv_sub hl [0, 1, 2, 4, 5, 6] rfl) hP hD hS
  obtain ⟨nn, hv⟩ := hv
  exact lp15 nn e2 g1 g1 H locs ls hv (lv_sub hl [0, 1, 2, 3, 4, 5] rfl) hP hD hS
theorem lk_X3_isEven_22 : Cond.fieldLink RX3 22 "CoarseSteps$History" "totals" "[I" ∈ wsX3_isEven := by decide +kernel
theorem in_X3_isEven_3 : ∀ w ∈ wsX30, w ∈ wsX3_isEven := by decide +kernel
abbrev rm_X3_isEven : Room := { frames := 2, cells := 0, slots := 0, locals := 47 }
set_option maxHeartbeats 4000000 in
set_option maxRecDepth 100000 in
theorem m_X3_isEven (l : Launch) (D : va_G) (cy : ClassId × ClassId × ClassId) (ad : Nat → Nat) (s3_next : Int32) (s3_kept : Int32) (a3_givens : Nat → Int32) (a3_totals : Nat → Int32) (x1 : Int32) (sz : Nat) {K : Int32 → (Nat → Int32) → Prop} (hv : v_X3_isEven s3_next a3_givens a3_totals x1 K) : Met l yX3_isEven wsX3_isEven rm_X3_isEven (va_Pc [.ref (ad 3), .int x1] (wd D cy [oX3 ad s3_next s3_kept, aI cy (ad 26) 256 a3_givens, aI cy (ad 28) 257 a3_totals] sz)) (va_Qi (fun (r : Int32) (u : (Nat → Int32)) => (r = 0 ∨ r = 1) ∧ K r u) (fun u t => we D ((fun u : (Nat → Int32) => [oX3 ad s3_next s3_kept, aI cy (ad 26) 256 a3_givens, aI cy (ad 28) 257 u]) u) (va_A [oX3 ad s3_next s3_kept, aI cy (ad 26) 256 a3_givens, aI cy (ad 28) 257 a3_totals] sz) t) (va_A [oX3 ad s3_next s3_kept, aI cy (ad 26) 256 a3_givens, aI cy (ad 28) 257 a3_totals] sz)) 0 0 (va_A [oX3 ad s3_next s3_kept, aI cy (ad 26) 256 a3_givens, aI cy (ad 28) 257 a3_totals] sz) := by
  refine k_ofW (cc := cX3_isEven) (maxL := 3) (ret := (some .boolean)) (fun A => va_Qi (fun (r : Int32) (u : (Nat → Int32)) => (r = 0 ∨ r = 1) ∧ K r u) (fun u t => we D ((fun u : (Nat → Int32) => [oX3 ad s3_next s3_kept, aI cy (ad 26) 256 a3_givens, aI cy (ad 28) 257 u]) u) A t) A) (by decide) rfl (Nat.le_of_ble_eq_true rfl) ?_
  intro p e s m below meth c A ls H locs hx hb hml hr hts hown hlocks hname hK hN hA hP hD hS hl
  have hl : lv_has ls 3 [(0, .ref (ad 3)), (1, .int x1)] := hl
  generalize hQ : MQ below _ _ s _ _ A = Q
  unfold v_X3_isEven at hv
  refine lv_iconst (v := 0) hx hb dX3_isEven_0 (by decide) ?_
  refine lv_istore_n (lv' := [(2, .int (0 : Int32)), (0, .ref (ad 3)), (1, .int x1)]) hx hb dX3_isEven_1 rfl hl (by decide) rfl (fun ls hl => ?_)
  have lp2 : ∀ (n2 : Nat) (l2_1 : Int32) (a3_totals_2 : Nat → Int32) (H : Heap) (locs : List Loc) (ls : Array Slot), vfix (vF_X3_isEven_2 s3_next a3_givens x1 K) n2 (l2_1, a3_totals_2) → lv_has ls 3 [(2, .int l2_1), (0, .ref (ad 3)), (1, .int x1)] → va_P D vwCl [oX3 ad s3_next s3_kept, aI cy (ad 26) 256 a3_givens, aI cy (ad 28) 257 a3_totals_2] H → va_D A [oX3 ad s3_next s3_kept, aI cy (ad 26) 256 a3_givens, aI cy (ad 28) 257 a3_totals_2] → va_S A s.heap H locs → W p l e rm_X3_isEven s m ([.ref (ad 3), .int x1] : List Value).toArray below meth c H locs 0 0 Q (F0 m 2 ls []) := by
    intro n2
    induction n2 with
    | zero => intro l2_1 a3_totals_2 H locs ls hv; exact hv.elim
    | succ n2 ih2 =>
      intro l2_1 a3_totals_2 H locs ls hv hl hP hD hS
      have hv : vB_X3_isEven_2 s3_next a3_givens x1 K (fun z0 z1 => vfix (vF_X3_isEven_2 s3_next a3_givens x1 K) n2 (z0, z1)) l2_1 a3_totals_2 := hv
      unfold vB_X3_isEven_2 at hv
      refine lv_iload_n hx hb dX3_isEven_2 rfl (lv_at hl 0 rfl) ?_
      refine lv_iload_n hx hb dX3_isEven_3 rfl (lv_at hl 2 rfl) ?_
      have jn40 : ∀ (H : Heap) (locs : List Loc) (ls : Array Slot), vJ_X3_isEven_40 x1 K a3_totals_2 → lv_has ls 3 [(0, .ref (ad 3)), (1, .int x1)] → va_P D vwCl [oX3 ad s3_next s3_kept, aI cy (ad 26) 256 a3_givens, aI cy (ad 28) 257 a3_totals_2] H → va_D A [oX3 ad s3_next s3_kept, aI cy (ad 26) 256 a3_givens, aI cy (ad 28) 257 a3_totals_2] → va_S A s.heap H locs → W p l e rm_X3_isEven s m ([.ref (ad 3), .int x1] : List Value).toArray below meth c H locs 0 0 Q (F0 m 40 ls []) := by
        intro H locs ls hv hl hP hD hS
        unfold vJ_X3_isEven_40 at hv
        refine lv_iconst (v := 1) hx hb dX3_isEven_40 (by decide) ?_
        refine lv_istore_n (lv' := [(2, .int (1 : Int32)), (0, .ref (ad 3)), (1, .int x1)]) hx hb dX3_isEven_41 rfl hl (by decide) rfl (fun ls hl => ?_)
        have lp42 : ∀ (n42 : Nat) (l2_3 : Int32) (H : Heap) (locs : List Loc) (ls : Array Slot), vfix (vF_X3_isEven_42 x1 K a3_totals_2) n42 l2_3 → lv_has ls 3 [(2, .int l2_3), (0, .ref (ad 3)), (1, .int x1)] → va_P D vwCl [oX3 ad s3_next s3_kept, aI cy (ad 26) 256 a3_givens, aI cy (ad 28) 257 a3_totals_2] H → va_D A [oX3 ad s3_next s3_kept, aI cy (ad 26) 256 a3_givens, aI cy (ad 28) 257 a3_totals_2] → va_S A s.heap H locs → W p l e rm_X3_isEven s m ([.ref (ad 3), .int x1] : List Value).toArray below meth c H locs 0 0 Q (F0 m 42 ls []) := by
          intro n42
          induction n42 with
          | zero => intro l2_3 H locs ls hv; exact hv.elim
          | succ n42 ih42 =>
            intro l2_3 H locs ls hv hl hP hD hS
            have hv : vB_X3_isEven_42 x1 K a3_totals_2 (fun z0 => vfix (vF_X3_isEven_42 x1 K a3_totals_2) n42 z0) l2_3 := hv
            unfold vB_X3_isEven_42 at hv
            refine lv_iload_n hx hb dX3_isEven_42 rfl (lv_at hl 0 rfl) ?_
            refine lv_iload_n hx hb dX3_isEven_43 rfl (lv_at hl 2 rfl) ?_
            refine lv_icmp_ge (tgt := 64) hx hb dX3_isEven_44 (by decide) (fun c_44 => ?_) (fun c_44 => ?_)
            · have hv := hv.1 c_44
              refine lv_iconst (v := 1) hx hb dX3_isEven_64 (by decide) ?_
              rw [← hQ]
              exact k_zret hx hb hr hlocks hS (a3_totals_2) hP hD (by decide) hv dX3_isEven_65
            · have hv := hv.2 c_44
              refine lv_aload_n hx hb dX3_isEven_47 rfl (lv_at hl 1 rfl) ?_
              refine lv_iload_n hx hb dX3_isEven_48 rfl (lv_at hl 0 rfl) ?_
              refine lv_iload_n hx hb dX3_isEven_49 rfl (lv_at hl 2 rfl) ?_
              have hPc := hP.sub (ws' := [oX3 ad s3_next s3_kept, aI cy (ad 28) 257 a3_totals_2]) [0, 2] rfl
              have hDc := hD.sub (ws' := [oX3 ad s3_next s3_kept, aI cy (ad 28) 257 a3_totals_2]) [0, 2] (by decide) rfl
              refine k_cali (wc := [oX3 ad s3_next s3_kept, aI cy (ad 28) 257 a3_totals_2]) (wr := [aI cy (ad 26) 256 a3_givens]) (va_runV (As := [.int l2_3, .int x1]) (rest := []) ⟨hx, hb, hml, hown, hts⟩ (m_X3_isEvenBy l D cy ad s3_next s3_kept a3_totals_2 l2_3 x1 H.size hv) (cwV 2 hts gX3_isEven_X3_isEvenBy rfl rfl rfl (by decide +kernel) ⟨Nat.le_of_ble_eq_true rfl, Nat.le_of_ble_eq_true rfl⟩) ⟨wd_blind, va_recv hK hPc (ci := 3) (q0 := 0) rfl rfl, wd_ok hPc hK hDc hN⟩ rfl rfl hl.1 rfl (lv_room (Nat.le_of_ble_eq_true rfl)) dX3_isEven_50 ⟨Nat.le_of_ble_eq_true rfl, Nat.le_of_ble_eq_true rfl⟩) hP hD hS hA [0, 2] [1] rfl rfl (by decide) (by decide) (fun r4 u H locs hv hP hD hS => ?_)
              obtain ⟨hz_r4, hv⟩ := hv
              have hP : va_P D vwCl [oX3 ad s3_next s3_kept, aI cy (ad 26) 256 a3_givens, aI cy (ad 28) 257 a3_totals_2] H := hP.sub [1, 0, 2] rfl
              have hD : va_D A [oX3 ad s3_next s3_kept, aI cy (ad 26) 256 a3_givens, aI cy (ad 28) 257 a3_totals_2] := hD.sub [1, 0, 2] (by decide) rfl
              refine lv_if_ne (tgt := 58) hx hb dX3_isEven_53 (by decide) (fun c_53 => ?_) (fun c_53 => ?_)
              · have hv := hv.1 c_53
                obtain ⟨i5, h_i5⟩ : ∃ y : Int32, y = l2_3 + 1 := ⟨_, rfl⟩
                refine lv_iinc (v := i5) (lv' := [(2, .int i5), (0, .ref (ad 3)), (1, .int x1)]) hx hb dX3_isEven_58 hl (k := 0) rfl (by rw [h_i5]; rfl) (by decide) rfl (fun ls hl => ?_)
                have hv := hv i5 h_i5
                refine lv_goto (tgt := 42) hx hb dX3_isEven_61 (by decide) ?_
                exact ih42 i5 H locs ls hv (lv_sub hl [0, 1, 2] rfl) hP hD hS
              · have hv := hv.2 c_53
                refine lv_iconst (v := 0) hx hb dX3_isEven_56 (by decide) ?_
                rw [← hQ]
                exact k_zret hx hb hr hlocks hS (a3_totals_2) hP hD (by decide) hv dX3_isEven_57
        obtain ⟨nn, hv⟩ := hv
        exact lp42 nn (1 : Int32) H locs ls hv (lv_sub hl [0, 1, 2] rfl) hP hD hS
      refine lv_icmp_ge (tgt := 40) hx hb dX3_isEven_4 (by decide) (fun c_4 => ?_) (fun c_4 => ?_)
      · have hv := hv.1 c_4
        exact jn40  H locs ls hv (lv_sub hl [1, 2] rfl) hP hD hS
      · have hv := hv.2 c_4
        refine lv_iload_n hx hb dX3_isEven_7 rfl (lv_at hl 0 rfl) ?_
        refine lv_sipush (v := 256) hx hb dX3_isEven_8 (by decide) ?_
        refine lv_icmp_ge (tgt := 40) hx hb dX3_isEven_11 (by decide) (fun c_11 => ?_) (fun c_11 => ?_)
        · have hv := hv.1 c_11
          exact jn40  H locs ls hv (lv_sub hl [1, 2] rfl) hP hD hS
        · have hv := hv.2 c_11
          refine lv_aload_n hx hb dX3_isEven_14 rfl (lv_at hl 1 rfl) ?_
          refine va_get (D := D) (ci := 3) (v := .ref (ad 28)) (C := RX3) (T := TX3) (N := 6) hx hb hts in_X3_isEven_3 hown hK hP 0 rfl rfl 3 (by decide) (hts _ lk_X3_isEven_22) (fun _ h9 => h9) rfl dX3_isEven_15 ?_
          refine lv_iload_n hx hb dX3_isEven_18 rfl (lv_at hl 0 rfl) ?_
          refine lv_iconst (v := 1) hx hb dX3_isEven_19 (by decide) ?_
          refine lv_iadd hx hb dX3_isEven_20 ?_
          refine lv_topi (fun e6 h_e6 => ?_)
          have hv := hv e6 h_e6
          refine lv_aload_n hx hb dX3_isEven_21 rfl (lv_at hl 1 rfl) ?_
          refine va_get (D := D) (ci := 3) (v := .ref (ad 28)) (C := RX3) (T := TX3) (N := 6) hx hb hts in_X3_isEven_3 hown hK hP 0 rfl rfl 3 (by decide) (hts _ lk_X3_isEven_22) (fun _ h9 => h9) rfl dX3_isEven_22 ?_
          refine lv_iload_n hx hb dX3_isEven_25 rfl (lv_at hl 0 rfl) ?_
          refine va_iald hx hb hK hP 2 0 rfl rfl hv.1 dX3_isEven_26 ?_
          refine lv_topi (fun g7 h_g7 => ?_)
          have hv := hv.2 g7 h_g7
          refine lv_aload_n hx hb dX3_isEven_27 rfl (lv_at hl 1 rfl) ?_
          refine lv_iload_n hx hb dX3_isEven_28 rfl (lv_at hl 0 rfl) ?_
          have hPc := hP.sub (ws' := [oX3 ad s3_next s3_kept, aI cy (ad 26) 256 a3_givens]) [0, 1] rfl
          have hDc := hD.sub (ws' := [oX3 ad s3_next s3_kept, aI cy (ad 26) 256 a3_givens]) [0, 1] (by decide) rfl
          refine k_cali (wc := [oX3 ad s3_next s3_kept, aI cy (ad 26) 256 a3_givens]) (wr := [aI cy (ad 28) 257 a3_totals_2]) (va_runV (As := [.int l2_1]) (rest := [.int g7, .int e6, .ref (ad 28)]) ⟨hx, hb, hml, hown, hts⟩ (m_X3_givenAt l D cy ad s3_next s3_kept a3_givens l2_1 H.size hv) (cwV 1 hts gX3_isEven_X3_givenAt rfl rfl rfl (by decide +kernel) ⟨Nat.le_of_ble_eq_true rfl, Nat.le_of_ble_eq_true rfl⟩) ⟨wd_blind, va_recv hK hPc (ci := 3) (q0 := 0) rfl rfl, wd_ok hPc hK hDc hN⟩ rfl rfl hl.1 rfl (lv_room (Nat.le_of_ble_eq_true rfl)) dX3_isEven_29 ⟨Nat.le_of_ble_eq_true rfl, Nat.le_of_ble_eq_true rfl⟩) hP hD hS hA [0, 1] [2] rfl rfl (by decide) (by decide) (fun r8 u H locs hv hP hD hS => ?_)
          have hP : va_P D vwCl [oX3 ad s3_next s3_kept, aI cy (ad 26) 256 a3_givens, aI cy (ad 28) 257 a3_totals_2] H := hP.sub [1, 2, 0] rfl
          have hD : va_D A [oX3 ad s3_next s3_kept, aI cy (ad 26) 256 a3_givens, aI cy (ad 28) 257 a3_totals_2] := hD.sub [1, 2, 0] (by decide) rfl
          refine lv_iadd hx hb dX3_isEven_32 ?_
          refine lv_topi (fun e9 h_e9 => ?_)
          have hv := hv e9 h_e9
          refine k_iast hx hb hK hP hD hS 2 0 rfl rfl hv.1 dX3_isEven_33 (fun a3_totals_10 H locs h_a3_totals_10 hP hD hS => ?_)
          have hv := hv.2 a3_totals_10 h_a3_totals_10
          have hP : va_P D vwCl [oX3 ad s3_next s3_kept, aI cy (ad 26) 256 a3_givens, aI cy (ad 28) 257 a3_totals_10] H := hP
          have hD : va_D A [oX3 ad s3_next s3_kept, aI cy (ad 26) 256 a3_givens, aI cy (ad 28) 257 a3_totals_10] := hD
          obtain ⟨i11, h_i11⟩ : ∃ y : Int32, y = l2_1 + 1 := ⟨_, rfl⟩
          refine lv_iinc (v := i11) (lv' := [(2, .int i11), (0, .ref (ad 3)), (1, .int x1)]) hx hb dX3_isEven_34 hl (k := 0) rfl (by rw [h_i11]; rfl) (by decide) rfl (fun ls hl => ?_)
          have hv := hv i11 h_i11
          refine lv_goto (tgt := 2) hx hb dX3_isEven_37 (by decide) ?_
          exact ih2 i11 a3_totals_10 H locs ls hv (lv_sub hl [0, 1, 2] rfl) hP hD hS
  obtain ⟨nn, hv⟩ := hv
  exact lp2 nn (0 : Int32) a3_totals H locs ls hv (lv_sub hl [0, 1, 2] rfl) hP hD hS
