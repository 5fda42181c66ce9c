theorem lk_X11_range_7 : Cond.fieldLink RX11 7 "CoarseStepsModel" "d" "I" ∈ wsX11_range := by decide +kernel
theorem in_X11_range_11 : ∀ w ∈ wsX110, w ∈ wsX11_range := by decide +kernel
theorem lk_X11_range_78 : Cond.fieldLink RX11 78 "CoarseStepsModel" "rowNow" "[I" ∈ wsX11_range := by decide +kernel
abbrev rm_X11_range : Room := { frames := 1, cells := 0, slots := 0, locals := 24 }
set_option maxHeartbeats 4000000 in
set_option maxRecDepth 100000 in
theorem m_X11_range (l : Launch) (D : va_G) (cy : ClassId × ClassId × ClassId) (ad : Nat → Nat) (s11_d : Int32) (s11_stepMany : Int32) (s11_kind : Int32) (s11_many : Int32) (s11_partMany : Int32) (s11_rule : Int32) (s11_ticks : Int32) (s11_hand : Int32) (s11_g : Int32) (s11_beganElsewhere : Int32) (s11_dBefore : Int32) (s11_fBefore : Int32) (s11_fFirst : Int32) (s11_weightMany : Int32) (s11_tailTold : Int32) (a11_steps : Nat → Int32) (a11_rowNow : Nat → Int32) (x1 : Int32) (x2 : Int32) (x3 : Int32) (sz : Nat) {K : Int32 → (Nat → Int32) → Prop} (hv : v_X11_range s11_d s11_stepMany a11_steps a11_rowNow x1 x2 x3 K) : Met l yX11_range wsX11_range rm_X11_range (va_Pc [.ref (ad 11), .int x1, .int x2, .int x3] (wd D cy [oX11 ad s11_d s11_stepMany s11_kind s11_many s11_partMany s11_rule s11_ticks s11_hand s11_g s11_beganElsewhere s11_dBefore s11_fBefore s11_fFirst s11_weightMany s11_tailTold, aI cy (ad 41) 8 a11_steps, aI cy (ad 60) 64 a11_rowNow] sz)) (va_Qi (fun (r : Int32) (u : (Nat → Int32)) => K r u) (fun u t => we D ((fun u : (Nat → Int32) => [oX11 ad s11_d s11_stepMany s11_kind s11_many s11_partMany s11_rule s11_ticks s11_hand s11_g s11_beganElsewhere s11_dBefore s11_fBefore s11_fFirst s11_weightMany s11_tailTold, aI cy (ad 41) 8 a11_steps, aI cy (ad 60) 64 u]) u) (va_A [oX11 ad s11_d s11_stepMany s11_kind s11_many s11_partMany s11_rule s11_ticks s11_hand s11_g s11_beganElsewhere s11_dBefore s11_fBefore s11_fFirst s11_weightMany s11_tailTold, aI cy (ad 41) 8 a11_steps, aI cy (ad 60) 64 a11_rowNow] sz) t) (va_A [oX11 ad s11_d s11_stepMany s11_kind s11_many s11_partMany s11_rule s11_ticks s11_hand s11_g s11_beganElsewhere s11_dBefore s11_fBefore s11_fFirst s11_weightMany s11_tailTold, aI cy (ad 41) 8 a11_steps, aI cy (ad 60) 64 a11_rowNow] sz)) 0 0 (va_A [oX11 ad s11_d s11_stepMany s11_kind s11_many s11_partMany s11_rule s11_ticks s11_hand s11_g s11_beganElsewhere s11_dBefore s11_fBefore s11_fFirst s11_weightMany s11_tailTold, aI cy (ad 41) 8 a11_steps, aI cy (ad 60) 64 a11_rowNow] sz) := by
  refine k_ofW (cc := cX11_range) (maxL := 11) (ret := (some .int)) (fun A => va_Qi (fun (r : Int32) (u : (Nat → Int32)) => K r u) (fun u t => we D ((fun u : (Nat → Int32) => [oX11 ad s11_d s11_stepMany s11_kind s11_many s11_partMany s11_rule s11_ticks s11_hand s11_g s11_beganElsewhere s11_dBefore s11_fBefore s11_fFirst s11_weightMany s11_tailTold, aI cy (ad 41) 8 a11_steps, aI cy (ad 60) 64 u]) u) A t) A) (by decide) rfl (Nat.le_of_ble_eq_true rfl) ?_
  intro p e s m below meth c A ls H locs hx hb hml hr hts hown hlocks hname hK hN hA hP hD hS hl
  have hl : lv_has ls 11 [(0, .ref (ad 11)), (1, .int x1), (2, .int x2), (3, .int x3)] := hl
  generalize hQ : MQ below _ _ s _ _ A = Q
  unfold v_X11_range at hv
  refine lv_iload_n hx hb dX11_range_0 rfl (lv_at hl 1 rfl) ?_
  refine lv_iconst (v := 1) hx hb dX11_range_1 (by decide) ?_
  refine lv_icmp_lt (tgt := 39) hx hb dX11_range_2 (by decide) (fun c_2 => ?_) (fun c_2 => ?_)
  · have hv := hv.1 c_2
    refine lv_iconst (v := -1) hx hb dX11_range_39 (by decide) ?_
    rw [← hQ]
    exact k_iret hx hb hr hlocks hS (a11_rowNow) hP hD hv dX11_range_40
  · have hv := hv.2 c_2
    refine lv_iload_n hx hb dX11_range_5 rfl (lv_at hl 1 rfl) ?_
    refine lv_bipush (v := 64) hx hb dX11_range_6 (by decide) ?_
    refine lv_icmp_gt (tgt := 39) hx hb dX11_range_8 (by decide) (fun c_8 => ?_) (fun c_8 => ?_)
    · have hv := hv.1 c_8
      refine lv_iconst (v := -1) hx hb dX11_range_39 (by decide) ?_
      rw [← hQ]
      exact k_iret hx hb hr hlocks hS (a11_rowNow) hP hD hv dX11_range_40
    · have hv := hv.2 c_8
      refine lv_iload_n hx hb dX11_range_11 rfl (lv_at hl 2 rfl) ?_
      have hPc := hP.sub (ws' := []) [] rfl
      have hDc := hD.sub (ws' := []) [] (by decide) rfl
      refine k_cali (wc := []) (wr := [oX11 ad s11_d s11_stepMany s11_kind s11_many s11_partMany s11_rule s11_ticks s11_hand s11_g s11_beganElsewhere s11_dBefore s11_fBefore s11_fFirst s11_weightMany s11_tailTold, aI cy (ad 41) 8 a11_steps, aI cy (ad 60) 64 a11_rowNow]) (va_runS (As := [.int x2]) (rest := []) ⟨hx, hb, hml, hown, hts⟩ (m_X11_isWish l D cy ad x2 H.size hv) (va_cwS 1 hts gX11_range_X11_isWish rfl rfl rfl (by decide +kernel) ⟨Nat.le_of_ble_eq_true rfl, Nat.le_of_ble_eq_true rfl⟩) ⟨wd_blind, wd_ok hPc hK hDc hN⟩ rfl rfl hl.1 rfl (lv_room (Nat.le_of_ble_eq_true rfl)) dX11_range_12 ⟨Nat.le_of_ble_eq_true rfl, Nat.le_of_ble_eq_true rfl⟩) hP hD hS hA [] [0, 1, 2] rfl rfl (by decide) (by decide) (fun r1 u H locs hv hP hD hS => ?_)
      obtain ⟨hz_r1, hv⟩ := hv
      have hP : va_P D vwCl [oX11 ad s11_d s11_stepMany s11_kind s11_many s11_partMany s11_rule s11_ticks s11_hand s11_g s11_beganElsewhere s11_dBefore s11_fBefore s11_fFirst s11_weightMany s11_tailTold, aI cy (ad 41) 8 a11_steps, aI cy (ad 60) 64 a11_rowNow] H := hP.sub [0, 1, 2] rfl
      have hD : va_D A [oX11 ad s11_d s11_stepMany s11_kind s11_many s11_partMany s11_rule s11_ticks s11_hand s11_g s11_beganElsewhere s11_dBefore s11_fBefore s11_fFirst s11_weightMany s11_tailTold, aI cy (ad 41) 8 a11_steps, aI cy (ad 60) 64 a11_rowNow] := hD.sub [0, 1, 2] (by decide) rfl
      refine lv_if_eq (tgt := 39) hx hb dX11_range_15 (by decide) (fun c_15 => ?_) (fun c_15 => ?_)
      · have hv := hv.1 c_15
        refine lv_iconst (v := -1) hx hb dX11_range_39 (by decide) ?_
        rw [← hQ]
        exact k_iret hx hb hr hlocks hS (a11_rowNow) hP hD hv dX11_range_40
      · have hv := hv.2 c_15
        refine lv_iload_n hx hb dX11_range_18 rfl (lv_at hl 3 rfl) ?_
        have hPc := hP.sub (ws' := []) [] rfl
        have hDc := hD.sub (ws' := []) [] (by decide) rfl
        refine k_cali (wc := []) (wr := [oX11 ad s11_d s11_stepMany s11_kind s11_many s11_partMany s11_rule s11_ticks s11_hand s11_g s11_beganElsewhere s11_dBefore s11_fBefore s11_fFirst s11_weightMany s11_tailTold, aI cy (ad 41) 8 a11_steps, aI cy (ad 60) 64 a11_rowNow]) (va_runS (As := [.int x3]) (rest := []) ⟨hx, hb, hml, hown, hts⟩ (m_X11_isWish l D cy ad x3 H.size hv) (va_cwS 1 hts gX11_range_X11_isWish rfl rfl rfl (by decide +kernel) ⟨Nat.le_of_ble_eq_true rfl, Nat.le_of_ble_eq_true rfl⟩) ⟨wd_blind, wd_ok hPc hK hDc hN⟩ rfl rfl hl.1 rfl (lv_room (Nat.le_of_ble_eq_true rfl)) dX11_range_19 ⟨Nat.le_of_ble_eq_true rfl, Nat.le_of_ble_eq_true rfl⟩) hP hD hS hA [] [0, 1, 2] rfl rfl (by decide) (by decide) (fun r2 u H locs hv hP hD hS => ?_)
        obtain ⟨hz_r2, hv⟩ := hv
        have hP : va_P D vwCl [oX11 ad s11_d s11_stepMany s11_kind s11_many s11_partMany s11_rule s11_ticks s11_hand s11_g s11_beganElsewhere s11_dBefore s11_fBefore s11_fFirst s11_weightMany s11_tailTold, aI cy (ad 41) 8 a11_steps, aI cy (ad 60) 64 a11_rowNow] H := hP.sub [0, 1, 2] rfl
        have hD : va_D A [oX11 ad s11_d s11_stepMany s11_kind s11_many s11_partMany s11_rule s11_ticks s11_hand s11_g s11_beganElsewhere s11_dBefore s11_fBefore s11_fFirst s11_weightMany s11_tailTold, aI cy (ad 41) 8 a11_steps, aI cy (ad 60) 64 a11_rowNow] := hD.sub [0, 1, 2] (by decide) rfl
        refine lv_if_eq (tgt := 39) hx hb dX11_range_22 (by decide) (fun c_22 => ?_) (fun c_22 => ?_)
        · have hv := hv.1 c_22
          refine lv_iconst (v := -1) hx hb dX11_range_39 (by decide) ?_
          rw [← hQ]
          exact k_iret hx hb hr hlocks hS (a11_rowNow) hP hD hv dX11_range_40
        · have hv := hv.2 c_22
          refine lv_iload_n hx hb dX11_range_25 rfl (lv_at hl 2 rfl) ?_
          refine lv_iload_n hx hb dX11_range_26 rfl (lv_at hl 3 rfl) ?_
          refine lv_icmp_gt (tgt := 39) hx hb dX11_range_27 (by decide) (fun c_27 => ?_) (fun c_27 => ?_)
          · have hv := hv.1 c_27
            refine lv_iconst (v := -1) hx hb dX11_range_39 (by decide) ?_
            rw [← hQ]
            exact k_iret hx hb hr hlocks hS (a11_rowNow) hP hD hv dX11_range_40
          · have hv := hv.2 c_27
            refine lv_iload_n hx hb dX11_range_30 rfl (lv_at hl 3 rfl) ?_
            refine lv_iload_n hx hb dX11_range_31 rfl (lv_at hl 2 rfl) ?_
            refine lv_isub hx hb dX11_range_32 ?_
            refine lv_topi (fun e3 h_e3 => ?_)
            have hv := hv e3 h_e3
            refine lv_sipush (v := 2000) hx hb dX11_range_33 (by decide) ?_
            refine lv_icmp_le (tgt := 41) hx hb dX11_range_36 (by decide) (fun c_36 => ?_) (fun c_36 => ?_)
            · have hv := hv.1 c_36
              refine lv_iconst (v := 0) hx hb dX11_range_41 (by decide) ?_
              refine lv_istore (lv' := [(4, .int (0 : Int32)), (0, .ref (ad 11)), (1, .int x1), (2, .int x2), (3, .int x3)]) hx hb dX11_range_42 hl (by decide) rfl (fun ls hl => ?_)
              refine lv_iload_n hx hb dX11_range_44 rfl (lv_at hl 3 rfl) ?_
              refine lv_istore (lv' := [(5, .int x2), (4, .int (0 : Int32)), (0, .ref (ad 11)), (1, .int x1), (2, .int x2), (3, .int x3)]) hx hb dX11_range_45 hl (by decide) rfl (fun ls hl => ?_)
              have lp47 : ∀ (n47 : Nat) (l5_4 : Int32) (l4_5 : Int32) (a11_rowNow_6 : Nat → Int32) (H : Heap) (locs : List Loc) (ls : Array Slot), vfix (vF_X11_range_47 s11_d s11_stepMany a11_steps x1 x2 x3 K) n47 (l5_4, l4_5, a11_rowNow_6) → lv_has ls 11 [(5, .int l5_4), (4, .int l4_5), (0, .ref (ad 11)), (1, .int x1), (2, .int x2), (3, .int x3)] → va_P D vwCl [oX11 ad s11_d s11_stepMany s11_kind s11_many s11_partMany s11_rule s11_ticks s11_hand s11_g s11_beganElsewhere s11_dBefore s11_fBefore s11_fFirst s11_weightMany s11_tailTold, aI cy (ad 41) 8 a11_steps, aI cy (ad 60) 64 a11_rowNow_6] H → va_D A [oX11 ad s11_d s11_stepMany s11_kind s11_many s11_partMany s11_rule s11_ticks s11_hand s11_g s11_beganElsewhere s11_dBefore s11_fBefore s11_fFirst s11_weightMany s11_tailTold, aI cy (ad 41) 8 a11_steps, aI cy (ad 60) 64 a11_rowNow_6] → va_S A s.heap H locs → W p l e rm_X11_range s m ([.ref (ad 11), .int x1, .int x2, .int x3] : List Value).toArray below meth c H locs 0 0 Q (F0 m 47 ls []) := by
                intro n47
                induction n47 with
                | zero => intro l5_4 l4_5 a11_rowNow_6 H locs ls hv; exact hv.elim
                | succ n47 ih47 =>
                  intro l5_4 l4_5 a11_rowNow_6 H locs ls hv hl hP hD hS
                  have hv : vB_X11_range_47 s11_d s11_stepMany a11_steps x1 x2 x3 K (fun z0 z1 z2 => vfix (vF_X11_range_47 s11_d s11_stepMany a11_steps x1 x2 x3 K) n47 (z0, z1, z2)) l5_4 l4_5 a11_rowNow_6 := hv
                  unfold vB_X11_range_47 at hv
                  refine lv_iload hx hb dX11_range_47 (lv_at hl 0 rfl) ?_
                  refine lv_iload_n hx hb dX11_range_49 rfl (lv_at hl 5 rfl) ?_
                  refine lv_icmp_gt (tgt := 168) hx hb dX11_range_50 (by decide) (fun c_50 => ?_) (fun c_50 => ?_)
                  · have hv := hv.1 c_50
                    refine lv_iload hx hb dX11_range_168 (lv_at hl 1 rfl) ?_
                    rw [← hQ]
                    exact k_iret hx hb hr hlocks hS (a11_rowNow_6) hP hD hv dX11_range_170
                  · have hv := hv.2 c_50
                    refine lv_lconst (v := 0) hx hb dX11_range_53 (by decide) ?_
                    refine lv_lstore (lv' := [(6, .long (0 : Int64)), (5, .int l5_4), (4, .int l4_5), (0, .ref (ad 11)), (1, .int x1), (2, .int x2), (3, .int x3)]) hx hb dX11_range_54 hl (by decide) rfl (fun ls hl => ?_)
                    refine lv_iload hx hb dX11_range_56 (lv_at hl 1 rfl) ?_
                    refine lv_iload_n hx hb dX11_range_58 rfl (lv_at hl 5 rfl) ?_
                    have jn67 : ∀ (t7 : Int32) (H : Heap) (locs : List Loc) (ls : Array Slot), vJ_X11_range_67 s11_d s11_stepMany a11_steps x1 l5_4 l4_5 a11_rowNow_6 (fun z0 z1 z2 => vfix (vF_X11_range_47 s11_d s11_stepMany a11_steps x1 x2 x3 K) n47 (z0, z1, z2)) t7 → lv_has ls 11 [(6, .long (0 : Int64)), (5, .int l5_4), (4, .int l4_5), (0, .ref (ad 11)), (1, .int x1), (2, .int x2), (3, .int x3)] → va_P D vwCl [oX11 ad s11_d s11_stepMany s11_kind s11_many s11_partMany s11_rule s11_ticks s11_hand s11_g s11_beganElsewhere s11_dBefore s11_fBefore s11_fFirst s11_weightMany s11_tailTold, aI cy (ad 41) 8 a11_steps, aI cy (ad 60) 64 a11_rowNow_6] H → va_D A [oX11 ad s11_d s11_stepMany s11_kind s11_many s11_partMany s11_rule s11_ticks s11_hand s11_g s11_beganElsewhere s11_dBefore s11_fBefore s11_fFirst s11_weightMany s11_tailTold, aI cy (ad 41) 8 a11_steps, aI cy (ad 60) 64 a11_rowNow_6] → va_S A s.heap H locs → W p l e rm_X11_range s m ([.ref (ad 11), .int x1, .int x2, .int x3] : List Value).toArray below meth c H locs 0 0 Q (F0 m 67 ls [.int t7]) := by
                      intro t7 H locs ls hv hl hP hD hS
                      unfold vJ_X11_range_67 at hv
                      refine lv_istore (lv' := [(8, .int t7), (6, .long (0 : Int64)), (5, .int l5_4), (4, .int l4_5), (0, .ref (ad 11)), (1, .int x1), (2, .int x2), (3, .int x3)]) hx hb dX11_range_67 hl (by decide) rfl (fun ls hl => ?_)
                      refine lv_iconst (v := 0) hx hb dX11_range_69 (by decide) ?_
                      refine lv_istore (lv' := [(9, .int (0 : Int32)), (8, .int t7), (6, .long (0 : Int64)), (5, .int l5_4), (4, .int l4_5), (0, .ref (ad 11)), (1, .int x1), (2, .int x2), (3, .int x3)]) hx hb dX11_range_70 hl (by decide) rfl (fun ls hl => ?_)
                      have lp72 : ∀ (n72 : Nat) (l9_8 : Int32) (l8_9 : Int32) (l6_10 : Int64) (a11_rowNow_11 : Nat → Int32) (H : Heap) (locs : List Loc) (ls : Array Slot), vfix (vF_X11_range_72 s11_d s11_stepMany a11_steps x1 l5_4 l4_5 (fun z0 z1 z2 => vfix (vF_X11_range_47 s11_d s11_stepMany a11_steps x1 x2 x3 K) n47 (z0, z1, z2))) n72 (l9_8, l8_9, l6_10, a11_rowNow_11) → lv_has ls 11 [(9, .int l9_8), (8, .int l8_9), (6, .long l6_10), (5, .int l5_4), (4, .int l4_5), (0, .ref (ad 11)), (1, .int x1), (2, .int x2), (3, .int x3)] → va_P D vwCl [oX11 ad s11_d s11_stepMany s11_kind s11_many s11_partMany s11_rule s11_ticks s11_hand s11_g s11_beganElsewhere s11_dBefore s11_fBefore s11_fFirst s11_weightMany s11_tailTold, aI cy (ad 41) 8 a11_steps, aI cy (ad 60) 64 a11_rowNow_11] H → va_D A [oX11 ad s11_d s11_stepMany s11_kind s11_many s11_partMany s11_rule s11_ticks s11_hand s11_g s11_beganElsewhere s11_dBefore s11_fBefore s11_fFirst s11_weightMany s11_tailTold, aI cy (ad 41) 8 a11_steps, aI cy (ad 60) 64 a11_rowNow_11] → va_S A s.heap H locs → W p l e rm_X11_range s m ([.ref (ad 11), .int x1, .int x2, .int x3] : List Value).toArray below meth c H locs 0 0 Q (F0 m 72 ls []) := by
                        intro n72
                        induction n72 with
                        | zero => intro l9_8 l8_9 l6_10 a11_rowNow_11 H locs ls hv; exact hv.elim
                        | succ n72 ih72 =>
                          intro l9_8 l8_9 l6_10 a11_rowNow_11 H locs ls hv hl hP hD hS
                          have hv : vB_X11_range_72 s11_d s11_stepMany a11_steps x1 l5_4 l4_5 (fun z0 z1 z2 => vfix (vF_X11_range_47 s11_d s11_stepMany a11_steps x1 x2 x3 K) n47 (z0, z1, z2)) (fun z0 z1 z2 z3 => vfix (vF_X11_range_72 s11_d s11_stepMany a11_steps x1 l5_4 l4_5 (fun z0 z1 z2 => vfix (vF_X11_range_47 s11_d s11_stepMany a11_steps x1 x2 x3 K) n47 (z0, z1, z2))) n72 (z0, z1, z2, z3)) l9_8 l8_9 l6_10 a11_rowNow_11 := hv
                          unfold vB_X11_range_72 at hv
                          refine lv_iload hx hb dX11_range_72 (lv_at hl 0 rfl) ?_
                          refine lv_iload_n hx hb dX11_range_74 rfl (lv_at hl 6 rfl) ?_
                          refine lv_icmp_ge (tgt := 147) hx hb dX11_range_75 (by decide) (fun c_75 => ?_) (fun c_75 => ?_)
                          · have hv := hv.1 c_75
                            refine lv_iload hx hb dX11_range_147 (lv_at hl 4 rfl) ?_
                            refine lv_iload hx hb dX11_range_149 (lv_at hl 1 rfl) ?_
                            have jn159 : ∀ (t12 : Int32) (H : Heap) (locs : List Loc) (ls : Array Slot), vJ_X11_range_159 l5_4 l4_5 (fun z0 z1 z2 => vfix (vF_X11_range_47 s11_d s11_stepMany a11_steps x1 x2 x3 K) n47 (z0, z1, z2)) a11_rowNow_11 t12 → lv_has ls 11 [(5, .int l5_4), (0, .ref (ad 11)), (1, .int x1), (2, .int x2), (3, .int x3)] → va_P D vwCl [oX11 ad s11_d s11_stepMany s11_kind s11_many s11_partMany s11_rule s11_ticks s11_hand s11_g s11_beganElsewhere s11_dBefore s11_fBefore s11_fFirst s11_weightMany s11_tailTold, aI cy (ad 41) 8 a11_steps, aI cy (ad 60) 64 a11_rowNow_11] H → va_D A [oX11 ad s11_d s11_stepMany s11_kind s11_many s11_partMany s11_rule s11_ticks s11_hand s11_g s11_beganElsewhere s11_dBefore s11_fBefore s11_fFirst s11_weightMany s11_tailTold, aI cy (ad 41) 8 a11_steps, aI cy (ad 60) 64 a11_rowNow_11] → va_S A s.heap H locs → W p l e rm_X11_range s m ([.ref (ad 11), .int x1, .int x2, .int x3] : List Value).toArray below meth c H locs 0 0 Q (F0 m 159 ls [.int t12, .int l4_5]) := by
                              intro t12 H locs ls hv hl hP hD hS
                              unfold vJ_X11_range_159 at hv
                              refine lv_iadd hx hb dX11_range_159 ?_
                              refine lv_topi (fun e13 h_e13 => ?_)
                              have hv := hv e13 h_e13
                              refine lv_istore (lv' := [(4, .int e13), (5, .int l5_4), (0, .ref (ad 11)), (1, .int x1), (2, .int x2), (3, .int x3)]) hx hb dX11_range_160 hl (by decide) rfl (fun ls hl => ?_)
                              obtain ⟨i14, h_i14⟩ : ∃ y : Int32, y = l5_4 + 1 := ⟨_, rfl⟩
                              refine lv_iinc (v := i14) (lv' := [(5, .int i14), (4, .int e13), (0, .ref (ad 11)), (1, .int x1), (2, .int x2), (3, .int x3)]) hx hb dX11_range_162 hl (k := 1) rfl (by rw [h_i14]; rfl) (by decide) rfl (fun ls hl => ?_)
                              have hv := hv i14 h_i14
                              refine lv_goto (tgt := 47) hx hb dX11_range_165 (by decide) ?_
                              exact ih47 i14 e13 a11_rowNow_11 H locs ls hv (lv_sub hl [0, 1, 2, 3, 4, 5] rfl) hP hD hS
                            refine lv_if_eq (tgt := 158) hx hb dX11_range_151 (by decide) (fun c_151 => ?_) (fun c_151 => ?_)
                            · have hv := hv.1 c_151
                              refine lv_iconst (v := 1) hx hb dX11_range_158 (by decide) ?_
                              exact jn159 (1 : Int32) H locs ls hv (lv_sub hl [3, 5, 6, 7, 8] rfl) hP hD hS
                            · have hv := hv.2 c_151
                              refine lv_iconst (v := 0) hx hb dX11_range_154 (by decide) ?_
                              refine lv_goto (tgt := 159) hx hb dX11_range_155 (by decide) ?_
                              exact jn159 (0 : Int32) H locs ls hv (lv_sub hl [3, 5, 6, 7, 8] rfl) hP hD hS
                          · have hv := hv.2 c_75
                            refine lv_aload_n hx hb dX11_range_78 rfl (lv_at hl 5 rfl) ?_
                            refine lv_lload hx hb dX11_range_79 (lv_at hl 2 rfl) ?_
                            refine lv_iload hx hb dX11_range_81 (lv_at hl 3 rfl) ?_
                            refine lv_i2l hx hb dX11_range_83 rfl ?_
                            refine lv_ladd hx hb dX11_range_84 ?_
                            refine lv_topl (fun e15 h_e15 => ?_)
                            have hv := hv e15 h_e15
                            have hPc := hP.sub (ws' := [oX11 ad s11_d s11_stepMany s11_kind s11_many s11_partMany s11_rule s11_ticks s11_hand s11_g s11_beganElsewhere s11_dBefore s11_fBefore s11_fFirst s11_weightMany s11_tailTold, aI cy (ad 41) 8 a11_steps]) [0, 1] rfl
                            have hDc := hD.sub (ws' := [oX11 ad s11_d s11_stepMany s11_kind s11_many s11_partMany s11_rule s11_ticks s11_hand s11_g s11_beganElsewhere s11_dBefore s11_fBefore s11_fFirst s11_weightMany s11_tailTold, aI cy (ad 41) 8 a11_steps]) [0, 1] (by decide) rfl
                            refine k_cali (wc := [oX11 ad s11_d s11_stepMany s11_kind s11_many s11_partMany s11_rule s11_ticks s11_hand s11_g s11_beganElsewhere s11_dBefore s11_fBefore s11_fFirst s11_weightMany s11_tailTold, aI cy (ad 41) 8 a11_steps]) (wr := [aI cy (ad 60) 64 a11_rowNow_11]) (va_runV (As := [.long e15]) (rest := []) ⟨hx, hb, hml, hown, hts⟩ (m_X11_stepFor l D cy ad s11_d s11_stepMany s11_kind s11_many s11_partMany s11_rule s11_ticks s11_hand s11_g s11_beganElsewhere s11_dBefore s11_fBefore s11_fFirst s11_weightMany s11_tailTold a11_steps e15 H.size hv) (cwV 1 hts gX11_range_X11_stepFor rfl rfl rfl (by decide +kernel) ⟨Nat.le_of_ble_eq_true rfl, Nat.le_of_ble_eq_true rfl⟩) ⟨wd_blind, va_recv hK hPc (ci := 11) (q0 := 0) rfl rfl, wd_ok hPc hK hDc hN⟩ rfl rfl hl.1 rfl (lv_room (Nat.le_of_ble_eq_true rfl)) dX11_range_85 ⟨Nat.le_of_ble_eq_true rfl, Nat.le_of_ble_eq_true rfl⟩) hP hD hS hA [0, 1] [2] rfl rfl (by decide) (by decide) (fun r16 u H locs hv hP hD hS => ?_)
                            have hP : va_P D vwCl [oX11 ad s11_d s11_stepMany s11_kind s11_many s11_partMany s11_rule s11_ticks s11_hand s11_g s11_beganElsewhere s11_dBefore s11_fBefore s11_fFirst s11_weightMany s11_tailTold, aI cy (ad 41) 8 a11_steps, aI cy (ad 60) 64 a11_rowNow_11] H := hP.sub [1, 2, 0] rfl
                            have hD : va_D A [oX11 ad s11_d s11_stepMany s11_kind s11_many s11_partMany s11_rule s11_ticks s11_hand s11_g s11_beganElsewhere s11_dBefore s11_fBefore s11_fFirst s11_weightMany s11_tailTold, aI cy (ad 41) 8 a11_steps, aI cy (ad 60) 64 a11_rowNow_11] := hD.sub [1, 2, 0] (by decide) rfl
                            refine lv_istore (lv' := [(10, .int r16), (9, .int l9_8), (8, .int l8_9), (6, .long l6_10), (5, .int l5_4), (4, .int l4_5), (0, .ref (ad 11)), (1, .int x1), (2, .int x2), (3, .int x3)]) hx hb dX11_range_88 hl (by decide) rfl (fun ls hl => ?_)
                            refine lv_lload hx hb dX11_range_90 (lv_at hl 3 rfl) ?_
                            refine lv_iload hx hb dX11_range_92 (lv_at hl 4 rfl) ?_
                            refine lv_i2l hx hb dX11_range_94 rfl ?_
                            refine lv_iload hx hb dX11_range_95 (lv_at hl 0 rfl) ?_
                            refine lv_i2l hx hb dX11_range_97 rfl ?_
                            refine lv_aload_n hx hb dX11_range_98 rfl (lv_at hl 6 rfl) ?_
                            refine va_get (D := D) (ci := 11) (v := .int s11_d) (C := RX11) (T := TX11) (N := 35) hx hb hts in_X11_range_11 hown hK hP 0 rfl rfl 0 (by decide) (hts _ lk_X11_range_7) (fun _ h9 => h9) rfl dX11_range_99 ?_
                            refine lv_i2l hx hb dX11_range_102 rfl ?_
                            refine lv_lmul hx hb dX11_range_103 ?_
                            refine lv_topl (fun e17 h_e17 => ?_)
                            have hv := hv e17 h_e17
                            refine lv_lsub hx hb dX11_range_104 ?_
                            refine lv_topl (fun e18 h_e18 => ?_)
                            have hv := hv e18 h_e18
                            refine lv_ladd hx hb dX11_range_105 ?_
                            refine lv_topl (fun e19 h_e19 => ?_)
                            have hv := hv e19 h_e19
                            refine lv_lstore (lv' := [(6, .long e19), (10, .int r16), (9, .int l9_8), (8, .int l8_9), (5, .int l5_4), (4, .int l4_5), (0, .ref (ad 11)), (1, .int x1), (2, .int x2), (3, .int x3)]) hx hb dX11_range_106 hl (by decide) rfl (fun ls hl => ?_)
                            refine lv_iload hx hb dX11_range_108 (lv_at hl 3 rfl) ?_
                            have jn130 : ∀ (t20 : Int32) (H : Heap) (locs : List Loc) (ls : Array Slot), vJ_X11_range_130 l9_8 a11_rowNow_11 (fun z0 z1 z2 z3 => vfix (vF_X11_range_72 s11_d s11_stepMany a11_steps x1 l5_4 l4_5 (fun z0 z1 z2 => vfix (vF_X11_range_47 s11_d s11_stepMany a11_steps x1 x2 x3 K) n47 (z0, z1, z2))) n72 (z0, z1, z2, z3)) r16 e19 t20 → lv_has ls 11 [(6, .long e19), (10, .int r16), (9, .int l9_8), (5, .int l5_4), (4, .int l4_5), (0, .ref (ad 11)), (1, .int x1), (2, .int x2), (3, .int x3)] → va_P D vwCl [oX11 ad s11_d s11_stepMany s11_kind s11_many s11_partMany s11_rule s11_ticks s11_hand s11_g s11_beganElsewhere s11_dBefore s11_fBefore s11_fFirst s11_weightMany s11_tailTold, aI cy (ad 41) 8 a11_steps, aI cy (ad 60) 64 a11_rowNow_11] H → va_D A [oX11 ad s11_d s11_stepMany s11_kind s11_many s11_partMany s11_rule s11_ticks s11_hand s11_g s11_beganElsewhere s11_dBefore s11_fBefore s11_fFirst s11_weightMany s11_tailTold, aI cy (ad 41) 8 a11_steps, aI cy (ad 60) 64 a11_rowNow_11] → va_S A s.heap H locs → W p l e rm_X11_range s m ([.ref (ad 11), .int x1, .int x2, .int x3] : List Value).toArray below meth c H locs 0 0 Q (F0 m 130 ls [.int t20]) := by
                              intro t20 H locs ls hv hl hP hD hS
                              unfold vJ_X11_range_130 at hv
                              refine lv_istore (lv' := [(8, .int t20), (6, .long e19), (10, .int r16), (9, .int l9_8), (5, .int l5_4), (4, .int l4_5), (0, .ref (ad 11)), (1, .int x1), (2, .int x2), (3, .int x3)]) hx hb dX11_range_130 hl (by decide) rfl (fun ls hl => ?_)
                              refine lv_aload_n hx hb dX11_range_132 rfl (lv_at hl 6 rfl) ?_
                              refine va_get (D := D) (ci := 11) (v := .ref (ad 60)) (C := RX11) (T := TX11) (N := 35) hx hb hts in_X11_range_11 hown hK hP 0 rfl rfl 34 (by decide) (hts _ lk_X11_range_78) (fun _ h9 => h9) rfl dX11_range_133 ?_
                              refine lv_iload hx hb dX11_range_136 (lv_at hl 3 rfl) ?_
                              refine lv_iload hx hb dX11_range_138 (lv_at hl 2 rfl) ?_
                              refine k_iast hx hb hK hP hD hS 2 0 rfl rfl hv.1 dX11_range_140 (fun a11_rowNow_21 H locs h_a11_rowNow_21 hP hD hS => ?_)
                              have hv := hv.2 a11_rowNow_21 h_a11_rowNow_21
                              have hP : va_P D vwCl [oX11 ad s11_d s11_stepMany s11_kind s11_many s11_partMany s11_rule s11_ticks s11_hand s11_g s11_beganElsewhere s11_dBefore s11_fBefore s11_fFirst s11_weightMany s11_tailTold, aI cy (ad 41) 8 a11_steps, aI cy (ad 60) 64 a11_rowNow_21] H := hP
                              have hD : va_D A [oX11 ad s11_d s11_stepMany s11_kind s11_many s11_partMany s11_rule s11_ticks s11_hand s11_g s11_beganElsewhere s11_dBefore s11_fBefore s11_fFirst s11_weightMany s11_tailTold, aI cy (ad 41) 8 a11_steps, aI cy (ad 60) 64 a11_rowNow_21] := hD
                              obtain ⟨i22, h_i22⟩ : ∃ y : Int32, y = l9_8 + 1 := ⟨_, rfl⟩
                              refine lv_iinc (v := i22) (lv' := [(9, .int i22), (8, .int t20), (6, .long e19), (10, .int r16), (5, .int l5_4), (4, .int l4_5), (0, .ref (ad 11)), (1, .int x1), (2, .int x2), (3, .int x3)]) hx hb dX11_range_141 hl (k := 3) rfl (by rw [h_i22]; rfl) (by decide) rfl (fun ls hl => ?_)
                              have hv := hv i22 h_i22
                              refine lv_goto (tgt := 72) hx hb dX11_range_144 (by decide) ?_
                              exact ih72 i22 t20 e19 a11_rowNow_21 H locs ls hv (lv_sub hl [0, 1, 2, 4, 5, 6, 7, 8, 9] rfl) hP hD hS
                            have jn129 : ∀ (H : Heap) (locs : List Loc) (ls : Array Slot), vJ_X11_range_129 l9_8 a11_rowNow_11 (fun z0 z1 z2 z3 => vfix (vF_X11_range_72 s11_d s11_stepMany a11_steps x1 l5_4 l4_5 (fun z0 z1 z2 => vfix (vF_X11_range_47 s11_d s11_stepMany a11_steps x1 x2 x3 K) n47 (z0, z1, z2))) n72 (z0, z1, z2, z3)) r16 e19 → lv_has ls 11 [(6, .long e19), (10, .int r16), (9, .int l9_8), (5, .int l5_4), (4, .int l4_5), (0, .ref (ad 11)), (1, .int x1), (2, .int x2), (3, .int x3)] → va_P D vwCl [oX11 ad s11_d s11_stepMany s11_kind s11_many s11_partMany s11_rule s11_ticks s11_hand s11_g s11_beganElsewhere s11_dBefore s11_fBefore s11_fFirst s11_weightMany s11_tailTold, aI cy (ad 41) 8 a11_steps, aI cy (ad 60) 64 a11_rowNow_11] H → va_D A [oX11 ad s11_d s11_stepMany s11_kind s11_many s11_partMany s11_rule s11_ticks s11_hand s11_g s11_beganElsewhere s11_dBefore s11_fBefore s11_fFirst s11_weightMany s11_tailTold, aI cy (ad 41) 8 a11_steps, aI cy (ad 60) 64 a11_rowNow_11] → va_S A s.heap H locs → W p l e rm_X11_range s m ([.ref (ad 11), .int x1, .int x2, .int x3] : List Value).toArray below meth c H locs 0 0 Q (F0 m 129 ls []) := by
                              intro H locs ls hv hl hP hD hS
                              unfold vJ_X11_range_129 at hv
                              refine lv_iconst (v := 0) hx hb dX11_range_129 (by decide) ?_
                              exact jn130 (0 : Int32) H locs ls hv (lv_sub hl [0, 1, 2, 3, 4, 5, 6, 7, 8] rfl) hP hD hS
                            refine lv_if_eq (tgt := 129) hx hb dX11_range_110 (by decide) (fun c_110 => ?_) (fun c_110 => ?_)
                            · have hv := hv.1 c_110
                              exact jn129  H locs ls hv (lv_sub hl [0, 1, 2, 4, 5, 6, 7, 8, 9] rfl) hP hD hS
                            · have hv := hv.2 c_110
                              refine lv_aload_n hx hb dX11_range_113 rfl (lv_at hl 6 rfl) ?_
                              refine va_get (D := D) (ci := 11) (v := .ref (ad 60)) (C := RX11) (T := TX11) (N := 35) hx hb hts in_X11_range_11 hown hK hP 0 rfl rfl 34 (by decide) (hts _ lk_X11_range_78) (fun _ h9 => h9) rfl dX11_range_114 ?_
                              refine lv_iload hx hb dX11_range_117 (lv_at hl 2 rfl) ?_
                              refine va_iald hx hb hK hP 2 0 rfl rfl hv.1 dX11_range_119 ?_
                              refine lv_topi (fun g23 h_g23 => ?_)
                              have hv := hv.2 g23 h_g23
                              refine lv_iload hx hb dX11_range_120 (lv_at hl 1 rfl) ?_
                              refine lv_icmp_ne (tgt := 129) hx hb dX11_range_122 (by decide) (fun c_122 => ?_) (fun c_122 => ?_)
                              · have hv := hv.1 c_122
                                exact jn129  H locs ls hv (lv_sub hl [0, 1, 2, 4, 5, 6, 7, 8, 9] rfl) hP hD hS
                              · have hv := hv.2 c_122
                                refine lv_iconst (v := 1) hx hb dX11_range_125 (by decide) ?_
                                refine lv_goto (tgt := 130) hx hb dX11_range_126 (by decide) ?_
                                exact jn130 (1 : Int32) H locs ls hv (lv_sub hl [0, 1, 2, 4, 5, 6, 7, 8, 9] rfl) hP hD hS
                      obtain ⟨nn, hv⟩ := hv
                      exact lp72 nn (0 : Int32) t7 (0 : Int64) a11_rowNow_6 H locs ls hv (lv_sub hl [0, 1, 2, 3, 4, 5, 6, 7, 8] rfl) hP hD hS
                    refine lv_icmp_le (tgt := 66) hx hb dX11_range_59 (by decide) (fun c_59 => ?_) (fun c_59 => ?_)
                    · have hv := hv.1 c_59
                      refine lv_iconst (v := 0) hx hb dX11_range_66 (by decide) ?_
                      exact jn67 (0 : Int32) H locs ls hv (lv_sub hl [0, 1, 2, 3, 4, 5, 6] rfl) hP hD hS
                    · have hv := hv.2 c_59
                      refine lv_iconst (v := 1) hx hb dX11_range_62 (by decide) ?_
                      refine lv_goto (tgt := 67) hx hb dX11_range_63 (by decide) ?_
                      exact jn67 (1 : Int32) H locs ls hv (lv_sub hl [0, 1, 2, 3, 4, 5, 6] rfl) hP hD hS
              obtain ⟨nn, hv⟩ := hv
              exact lp47 nn x2 (0 : Int32) a11_rowNow H locs ls hv (lv_sub hl [0, 1, 2, 3, 4, 5] rfl) hP hD hS
            · have hv := hv.2 c_36
              refine lv_iconst (v := -1) hx hb dX11_range_39 (by decide) ?_
              rw [← hQ]
              exact k_iret hx hb hr hlocks hS (a11_rowNow) hP hD hv dX11_range_40
theorem lk_X11_part_109 : Cond.fieldLink RX11 109 "CoarseStepsModel" "partMany" "I" ∈ wsX11_part := by decide +kernel
theorem in_X11_part_11 : ∀ w ∈ wsX110, w ∈ wsX11_part := by decide +kernel
theorem lk_X11_part_51 : Cond.fieldLink RX11 51 "CoarseStepsModel" "often" "[I" ∈ wsX11_part := by decide +kernel
theorem lk_X11_part_48 : Cond.fieldLink RX11 48 "CoarseStepsModel" "on" "[I" ∈ wsX11_part := by decide +kernel
abbrev rm_X11_part : Room := { frames := 0, cells := 0, slots := 0, locals := 0 }
set_option maxHeartbeats 4000000 in
set_option maxRecDepth 100000 in
theorem m_X11_part (l : Launch) (D : va_G) (cy : ClassId × ClassId × ClassId) (ad : Nat → Nat) (s11_d : Int32) (s11_stepMany : Int32) (s11_kind : Int32) (s11_many : Int32) (s11_partMany : Int32) (s11_rule : Int32) (s11_ticks : Int32) (s11_hand : Int32) (s11_g : Int32) (s11_beganElsewhere : Int32) (s11_dBefore : Int32) (s11_fBefore : Int32) (s11_fFirst : Int32) (s11_weightMany : Int32) (s11_tailTold : Int32) (a11_on : Nat → Int32) (a11_often : Nat → Int32) (x1 : Int32) (x2 : Int32) (sz : Nat) {K : Int32 → Prop} (hv : v_X11_part s11_partMany a11_on a11_often x1 x2 K) : Met l yX11_part wsX11_part rm_X11_part (va_Pc [.ref (ad 11), .int x1, .int x2] (wd D cy [oX11 ad s11_d s11_stepMany s11_kind s11_many s11_partMany s11_rule s11_ticks s11_hand s11_g s11_beganElsewhere s11_dBefore s11_fBefore s11_fFirst s11_weightMany s11_tailTold, aI cy (ad 50) 16 a11_on, aI cy (ad 51) 16 a11_often] sz)) (va_Qi (fun (r : Int32) (u : Unit) => K r) (fun u t => we D ((fun u : Unit => [oX11 ad s11_d s11_stepMany s11_kind s11_many s11_partMany s11_rule s11_ticks s11_hand s11_g s11_beganElsewhere s11_dBefore s11_fBefore s11_fFirst s11_weightMany s11_tailTold, aI cy (ad 50) 16 a11_on, aI cy (ad 51) 16 a11_often]) u) (va_A [oX11 ad s11_d s11_stepMany s11_kind s11_many s11_partMany s11_rule s11_ticks s11_hand s11_g s11_beganElsewhere s11_dBefore s11_fBefore s11_fFirst s11_weightMany s11_tailTold, aI cy (ad 50) 16 a11_on, aI cy (ad 51) 16 a11_often] sz) t) (va_A [oX11 ad s11_d s11_stepMany s11_kind s11_many s11_partMany s11_rule s11_ticks s11_hand s11_g s11_beganElsewhere s11_dBefore s11_fBefore s11_fFirst s11_weightMany s11_tailTold, aI cy (ad 50) 16 a11_on, aI cy (ad 51) 16 a11_often] sz)) 0 0 (va_A [oX11 ad s11_d s11_stepMany s11_kind s11_many s11_partMany s11_rule s11_ticks s11_hand s11_g s11_beganElsewhere s11_dBefore s11_fBefore s11_fFirst s11_weightMany s11_tailTold, aI cy (ad 50) 16 a11_on, aI cy (ad 51) 16 a11_often] sz) := by
  refine k_ofW (cc := cX11_part) (maxL := 3) (ret := (some .int)) (fun A => va_Qi (fun (r : Int32) (u : Unit) => K r) (fun u t => we D ((fun u : Unit => [oX11 ad s11_d s11_stepMany s11_kind s11_many s11_partMany s11_rule s11_ticks s11_hand s11_g s11_beganElsewhere s11_dBefore s11_fBefore s11_fFirst s11_weightMany s11_tailTold, aI cy (ad 50) 16 a11_on, aI cy (ad 51) 16 a11_often]) u) A t) A) (by decide) rfl (Nat.le_of_ble_eq_true rfl) ?_
  intro p e s m below meth c A ls H locs hx hb hml hr hts hown hlocks hname hK hN hA hP hD hS hl
  have hl : lv_has ls 3 [(0, .ref (ad 11)), (1, .int x1), (2, .int x2)] := hl
  generalize hQ : MQ below _ _ s _ _ A = Q
  unfold v_X11_part at hv
  refine lv_iload_n hx hb dX11_part_0 rfl (lv_at hl 1 rfl) ?_
  refine lv_if_lt (tgt := 21) hx hb dX11_part_1 (by decide) (fun c_1 => ?_) (fun c_1 => ?_)
  · have hv := hv.1 c_1
    refine lv_iconst (v := -1) hx hb dX11_part_21 (by decide) ?_
    refine lv_goto (tgt := 44) hx hb dX11_part_22 (by decide) ?_
    rw [← hQ]
    exact k_iret hx hb hr hlocks hS () hP hD hv dX11_part_44
  · have hv := hv.2 c_1
    refine lv_iload_n hx hb dX11_part_4 rfl (lv_at hl 1 rfl) ?_
    refine lv_aload_n hx hb dX11_part_5 rfl (lv_at hl 0 rfl) ?_
    refine va_get (D := D) (ci := 11) (v := .int s11_partMany) (C := RX11) (T := TX11) (N := 35) hx hb hts in_X11_part_11 hown hK hP 0 rfl rfl 4 (by decide) (hts _ lk_X11_part_109) (fun _ h9 => h9) rfl dX11_part_6 ?_
    refine lv_icmp_ge (tgt := 21) hx hb dX11_part_9 (by decide) (fun c_9 => ?_) (fun c_9 => ?_)
    · have hv := hv.1 c_9
      refine lv_iconst (v := -1) hx hb dX11_part_21 (by decide) ?_
      refine lv_goto (tgt := 44) hx hb dX11_part_22 (by decide) ?_
      rw [← hQ]
      exact k_iret hx hb hr hlocks hS () hP hD hv dX11_part_44
    · have hv := hv.2 c_9
      refine lv_iload_n hx hb dX11_part_12 rfl (lv_at hl 2 rfl) ?_
      refine lv_if_lt (tgt := 21) hx hb dX11_part_13 (by decide) (fun c_13 => ?_) (fun c_13 => ?_)
      · have hv := hv.1 c_13
        refine lv_iconst (v := -1) hx hb dX11_part_21 (by decide) ?_
        refine lv_goto (tgt := 44) hx hb dX11_part_22 (by decide) ?_
        rw [← hQ]
        exact k_iret hx hb hr hlocks hS () hP hD hv dX11_part_44
      · have hv := hv.2 c_13
        refine lv_iload_n hx hb dX11_part_16 rfl (lv_at hl 2 rfl) ?_
        refine lv_iconst (v := 1) hx hb dX11_part_17 (by decide) ?_
        refine lv_icmp_le (tgt := 25) hx hb dX11_part_18 (by decide) (fun c_18 => ?_) (fun c_18 => ?_)
        · have hv := hv.1 c_18
          refine lv_iload_n hx hb dX11_part_25 rfl (lv_at hl 2 rfl) ?_
          refine lv_if_ne (tgt := 38) hx hb dX11_part_26 (by decide) (fun c_26 => ?_) (fun c_26 => ?_)
          · have hv := hv.1 c_26
            refine lv_aload_n hx hb dX11_part_38 rfl (lv_at hl 0 rfl) ?_
            refine va_get (D := D) (ci := 11) (v := .ref (ad 51)) (C := RX11) (T := TX11) (N := 35) hx hb hts in_X11_part_11 hown hK hP 0 rfl rfl 23 (by decide) (hts _ lk_X11_part_51) (fun _ h9 => h9) rfl dX11_part_39 ?_
            refine lv_iload_n hx hb dX11_part_42 rfl (lv_at hl 1 rfl) ?_
            refine va_iald hx hb hK hP 2 0 rfl rfl hv.1 dX11_part_43 ?_
            refine lv_topi (fun g1 h_g1 => ?_)
            have hv := hv.2 g1 h_g1
            rw [← hQ]
            exact k_iret hx hb hr hlocks hS () hP hD hv dX11_part_44
          · have hv := hv.2 c_26
            refine lv_aload_n hx hb dX11_part_29 rfl (lv_at hl 0 rfl) ?_
            refine va_get (D := D) (ci := 11) (v := .ref (ad 50)) (C := RX11) (T := TX11) (N := 35) hx hb hts in_X11_part_11 hown hK hP 0 rfl rfl 22 (by decide) (hts _ lk_X11_part_48) (fun _ h9 => h9) rfl dX11_part_30 ?_
            refine lv_iload_n hx hb dX11_part_33 rfl (lv_at hl 1 rfl) ?_
            refine va_iald hx hb hK hP 1 0 rfl rfl hv.1 dX11_part_34 ?_
            refine lv_topi (fun g2 h_g2 => ?_)
            have hv := hv.2 g2 h_g2
            refine lv_goto (tgt := 44) hx hb dX11_part_35 (by decide) ?_
            rw [← hQ]
            exact k_iret hx hb hr hlocks hS () hP hD hv dX11_part_44
        · have hv := hv.2 c_18
          refine lv_iconst (v := -1) hx hb dX11_part_21 (by decide) ?_
          refine lv_goto (tgt := 44) hx hb dX11_part_22 (by decide) ?_
          rw [← hQ]
          exact k_iret hx hb hr hlocks hS () hP hD hv dX11_part_44
theorem lk_X11_spread_103 : Cond.fieldLink RX11 103 "CoarseStepsModel" "kind" "I" ∈ wsX11_spread := by decide +kernel
theorem in_X11_spread_11 : ∀ w ∈ wsX110, w ∈ wsX11_spread := by decide +kernel
theorem lk_X11_spread_51 : Cond.fieldLink RX11 51 "CoarseStepsModel" "often" "[I" ∈ wsX11_spread := by decide +kernel
theorem lk_X11_spread_109 : Cond.fieldLink RX11 109 "CoarseStepsModel" "partMany" "I" ∈ wsX11_spread := by decide +kernel
abbrev rm_X11_spread : Room := { frames := 0, cells := 0, slots := 0, locals := 0 }
set_option maxHeartbeats 4000000 in
set_option maxRecDepth 100000 in
theorem m_X11_spread (l : Launch) (D : va_G) (cy : ClassId × ClassId × ClassId) (ad : Nat → Nat) (s11_d : Int32) (s11_stepMany : Int32) (s11_kind : Int32) (s11_many : Int32) (s11_partMany : Int32) (s11_rule : Int32) (s11_ticks : Int32) (s11_hand : Int32) (s11_g : Int32) (s11_beganElsewhere : Int32) (s11_dBefore : Int32) (s11_fBefore : Int32) (s11_fFirst : Int32) (s11_weightMany : Int32) (s11_tailTold : Int32) (a11_often : Nat → Int32) (sz : Nat) {K : Int32 → Prop} (hv : v_X11_spread s11_kind s11_partMany a11_often K) : Met l yX11_spread wsX11_spread rm_X11_spread (va_Pc [.ref (ad 11)] (wd D cy [oX11 ad s11_d s11_stepMany s11_kind s11_many s11_partMany s11_rule s11_ticks s11_hand s11_g s11_beganElsewhere s11_dBefore s11_fBefore s11_fFirst s11_weightMany s11_tailTold, aI cy (ad 51) 16 a11_often] sz)) (va_Qi (fun (r : Int32) (u : Unit) => K r) (fun u t => we D ((fun u : Unit => [oX11 ad s11_d s11_stepMany s11_kind s11_many s11_partMany s11_rule s11_ticks s11_hand s11_g s11_beganElsewhere s11_dBefore s11_fBefore s11_fFirst s11_weightMany s11_tailTold, aI cy (ad 51) 16 a11_often]) u) (va_A [oX11 ad s11_d s11_stepMany s11_kind s11_many s11_partMany s11_rule s11_ticks s11_hand s11_g s11_beganElsewhere s11_dBefore s11_fBefore s11_fFirst s11_weightMany s11_tailTold, aI cy (ad 51) 16 a11_often] sz) t) (va_A [oX11 ad s11_d s11_stepMany s11_kind s11_many s11_partMany s11_rule s11_ticks s11_hand s11_g s11_beganElsewhere s11_dBefore s11_fBefore s11_fFirst s11_weightMany s11_tailTold, aI cy (ad 51) 16 a11_often] sz)) 0 0 (va_A [oX11 ad s11_d s11_stepMany s11_kind s11_many s11_partMany s11_rule s11_ticks s11_hand s11_g s11_beganElsewhere s11_dBefore s11_fBefore s11_fFirst s11_weightMany s11_tailTold, aI cy (ad 51) 16 a11_often] sz) := by
  refine k_ofW (cc := cX11_spread) (maxL := 4) (ret := (some .int)) (fun A => va_Qi (fun (r : Int32) (u : Unit) => K r) (fun u t => we D ((fun u : Unit => [oX11 ad s11_d s11_stepMany s11_kind s11_many s11_partMany s11_rule s11_ticks s11_hand s11_g s11_beganElsewhere s11_dBefore s11_fBefore s11_fFirst s11_weightMany s11_tailTold, aI cy (ad 51) 16 a11_often]) u) A t) A) (by decide) rfl (Nat.le_of_ble_eq_true rfl) ?_
  intro p e s m below meth c A ls H locs hx hb hml hr hts hown hlocks hname hK hN hA hP hD hS hl
  have hl : lv_has ls 4 [(0, .ref (ad 11))] := hl
  generalize hQ : MQ below _ _ s _ _ A = Q
  unfold v_X11_spread at hv
  refine lv_aload_n hx hb dX11_spread_0 rfl (lv_at hl 0 rfl) ?_
  refine va_get (D := D) (ci := 11) (v := .int s11_kind) (C := RX11) (T := TX11) (N := 35) hx hb hts in_X11_spread_11 hown hK hP 0 rfl rfl 2 (by decide) (hts _ lk_X11_spread_103) (fun _ h9 => h9) rfl dX11_spread_1 ?_
  refine lv_iconst (v := 4) hx hb dX11_spread_4 (by decide) ?_
  refine lv_icmp_eq (tgt := 10) hx hb dX11_spread_5 (by decide) (fun c_5 => ?_) (fun c_5 => ?_)
  · have hv := hv.1 c_5
    refine lv_aload_n hx hb dX11_spread_10 rfl (lv_at hl 0 rfl) ?_
    refine va_get (D := D) (ci := 11) (v := .ref (ad 51)) (C := RX11) (T := TX11) (N := 35) hx hb hts in_X11_spread_11 hown hK hP 0 rfl rfl 23 (by decide) (hts _ lk_X11_spread_51) (fun _ h9 => h9) rfl dX11_spread_11 ?_
    refine lv_iconst (v := 0) hx hb dX11_spread_14 (by decide) ?_
    refine va_iald hx hb hK hP 1 0 rfl rfl hv.1 dX11_spread_15 ?_
    refine lv_topi (fun g1 h_g1 => ?_)
    have hv := hv.2 g1 h_g1
    refine lv_istore_n (lv' := [(1, .int g1), (0, .ref (ad 11))]) hx hb dX11_spread_16 rfl hl (by decide) rfl (fun ls hl => ?_)
    refine lv_aload_n hx hb dX11_spread_17 rfl (lv_at hl 1 rfl) ?_
    refine va_get (D := D) (ci := 11) (v := .ref (ad 51)) (C := RX11) (T := TX11) (N := 35) hx hb hts in_X11_spread_11 hown hK hP 0 rfl rfl 23 (by decide) (hts _ lk_X11_spread_51) (fun _ h9 => h9) rfl dX11_spread_18 ?_
    refine lv_iconst (v := 0) hx hb dX11_spread_21 (by decide) ?_
    refine va_iald hx hb hK hP 1 0 rfl rfl hv.1 dX11_spread_22 ?_
    refine lv_topi (fun g2 h_g2 => ?_)
    have hv := hv.2 g2 h_g2
    refine lv_istore_n (lv' := [(2, .int g2), (1, .int g1), (0, .ref (ad 11))]) hx hb dX11_spread_23 rfl hl (by decide) rfl (fun ls hl => ?_)
    refine lv_iconst (v := 1) hx hb dX11_spread_24 (by decide) ?_
    refine lv_istore_n (lv' := [(3, .int (1 : Int32)), (2, .int g2), (1, .int g1), (0, .ref (ad 11))]) hx hb dX11_spread_25 rfl hl (by decide) rfl (fun ls hl => ?_)
    have lp26 : ∀ (n26 : Nat) (l3_3 : Int32) (l2_4 : Int32) (l1_5 : Int32) (H : Heap) (locs : List Loc) (ls : Array Slot), vfix (vF_X11_spread_26 s11_partMany a11_often K) n26 (l3_3, l2_4, l1_5) → lv_has ls 4 [(3, .int l3_3), (2, .int l2_4), (1, .int l1_5), (0, .ref (ad 11))] → va_P D vwCl [oX11 ad s11_d s11_stepMany s11_kind s11_many s11_partMany s11_rule s11_ticks s11_hand s11_g s11_beganElsewhere s11_dBefore s11_fBefore s11_fFirst s11_weightMany s11_tailTold, aI cy (ad 51) 16 a11_often] H → va_D A [oX11 ad s11_d s11_stepMany s11_kind s11_many s11_partMany s11_rule s11_ticks s11_hand s11_g s11_beganElsewhere s11_dBefore s11_fBefore s11_fFirst s11_weightMany s11_tailTold, aI cy (ad 51) 16 a11_often] → va_S A s.heap H locs → W p l e rm_X11_spread s m ([.ref (ad 11)] : List Value).toArray below meth c H locs 0 0 Q (F0 m 26 ls []) := by
      intro n26
      induction n26 with
      | zero => intro l3_3 l2_4 l1_5 H locs ls hv; exact hv.elim
      | succ n26 ih26 =>
        intro l3_3 l2_4 l1_5 H locs ls hv hl hP hD hS
        have hv : vB_X11_spread_26 s11_partMany a11_often K (fun z0 z1 z2 => vfix (vF_X11_spread_26 s11_partMany a11_often K) n26 (z0, z1, z2)) l3_3 l2_4 l1_5 := hv
        unfold vB_X11_spread_26 at hv
        refine lv_iload_n hx hb dX11_spread_26 rfl (lv_at hl 0 rfl) ?_
        refine lv_aload_n hx hb dX11_spread_27 rfl (lv_at hl 3 rfl) ?_
        refine va_get (D := D) (ci := 11) (v := .int s11_partMany) (C := RX11) (T := TX11) (N := 35) hx hb hts in_X11_spread_11 hown hK hP 0 rfl rfl 4 (by decide) (hts _ lk_X11_spread_109) (fun _ h9 => h9) rfl dX11_spread_28 ?_
        refine lv_icmp_ge (tgt := 82) hx hb dX11_spread_31 (by decide) (fun c_31 => ?_) (fun c_31 => ?_)
        · have hv := hv.1 c_31
          refine lv_iload_n hx hb dX11_spread_82 rfl (lv_at hl 1 rfl) ?_
          refine lv_iload_n hx hb dX11_spread_83 rfl (lv_at hl 2 rfl) ?_
          refine lv_isub hx hb dX11_spread_84 ?_
          refine lv_topi (fun e6 h_e6 => ?_)
          have hv := hv e6 h_e6
          rw [← hQ]
          exact k_iret hx hb hr hlocks hS () hP hD hv dX11_spread_85
        · have hv := hv.2 c_31
          refine lv_aload_n hx hb dX11_spread_34 rfl (lv_at hl 3 rfl) ?_
          refine va_get (D := D) (ci := 11) (v := .ref (ad 51)) (C := RX11) (T := TX11) (N := 35) hx hb hts in_X11_spread_11 hown hK hP 0 rfl rfl 23 (by decide) (hts _ lk_X11_spread_51) (fun _ h9 => h9) rfl dX11_spread_35 ?_
          refine lv_iload_n hx hb dX11_spread_38 rfl (lv_at hl 0 rfl) ?_
          refine va_iald hx hb hK hP 1 0 rfl rfl hv.1 dX11_spread_39 ?_
          refine lv_topi (fun g7 h_g7 => ?_)
          have hv := hv.2 g7 h_g7
          refine lv_iload_n hx hb dX11_spread_40 rfl (lv_at hl 2 rfl) ?_
          have jn54 : ∀ (t8 : Int32) (H : Heap) (locs : List Loc) (ls : Array Slot), vJ_X11_spread_54 a11_often l3_3 l2_4 (fun z0 z1 z2 => vfix (vF_X11_spread_26 s11_partMany a11_often K) n26 (z0, z1, z2)) t8 → lv_has ls 4 [(3, .int l3_3), (2, .int l2_4), (0, .ref (ad 11))] → va_P D vwCl [oX11 ad s11_d s11_stepMany s11_kind s11_many s11_partMany s11_rule s11_ticks s11_hand s11_g s11_beganElsewhere s11_dBefore s11_fBefore s11_fFirst s11_weightMany s11_tailTold, aI cy (ad 51) 16 a11_often] H → va_D A [oX11 ad s11_d s11_stepMany s11_kind s11_many s11_partMany s11_rule s11_ticks s11_hand s11_g s11_beganElsewhere s11_dBefore s11_fBefore s11_fFirst s11_weightMany s11_tailTold, aI cy (ad 51) 16 a11_often] → va_S A s.heap H locs → W p l e rm_X11_spread s m ([.ref (ad 11)] : List Value).toArray below meth c H locs 0 0 Q (F0 m 54 ls [.int t8]) := by
            intro t8 H locs ls hv hl hP hD hS
            unfold vJ_X11_spread_54 at hv
            refine lv_istore_n (lv' := [(1, .int t8), (3, .int l3_3), (2, .int l2_4), (0, .ref (ad 11))]) hx hb dX11_spread_54 rfl hl (by decide) rfl (fun ls hl => ?_)
            refine lv_aload_n hx hb dX11_spread_55 rfl (lv_at hl 3 rfl) ?_
            refine va_get (D := D) (ci := 11) (v := .ref (ad 51)) (C := RX11) (T := TX11) (N := 35) hx hb hts in_X11_spread_11 hown hK hP 0 rfl rfl 23 (by decide) (hts _ lk_X11_spread_51) (fun _ h9 => h9) rfl dX11_spread_56 ?_
            refine lv_iload_n hx hb dX11_spread_59 rfl (lv_at hl 1 rfl) ?_
            refine va_iald hx hb hK hP 1 0 rfl rfl hv.1 dX11_spread_60 ?_
            refine lv_topi (fun g9 h_g9 => ?_)
            have hv := hv.2 g9 h_g9
            refine lv_iload_n hx hb dX11_spread_61 rfl (lv_at hl 2 rfl) ?_
            have jn75 : ∀ (t10 : Int32) (H : Heap) (locs : List Loc) (ls : Array Slot), vJ_X11_spread_75 l3_3 (fun z0 z1 z2 => vfix (vF_X11_spread_26 s11_partMany a11_often K) n26 (z0, z1, z2)) t8 t10 → lv_has ls 4 [(1, .int t8), (3, .int l3_3), (0, .ref (ad 11))] → va_P D vwCl [oX11 ad s11_d s11_stepMany s11_kind s11_many s11_partMany s11_rule s11_ticks s11_hand s11_g s11_beganElsewhere s11_dBefore s11_fBefore s11_fFirst s11_weightMany s11_tailTold, aI cy (ad 51) 16 a11_often] H → va_D A [oX11 ad s11_d s11_stepMany s11_kind s11_many s11_partMany s11_rule s11_ticks s11_hand s11_g s11_beganElsewhere s11_dBefore s11_fBefore s11_fFirst s11_weightMany s11_tailTold, aI cy (ad 51) 16 a11_often] → va_S A s.heap H locs → W p l e rm_X11_spread s m ([.ref (ad 11)] : List Value).toArray below meth c H locs 0 0 Q (F0 m 75 ls [.int t10]) := by
              intro t10 H locs ls hv hl hP hD hS
              unfold vJ_X11_spread_75 at hv
              refine lv_istore_n (lv' := [(2, .int t10), (1, .int t8), (3, .int l3_3), (0, .ref (ad 11))]) hx hb dX11_spread_75 rfl hl (by decide) rfl (fun ls hl => ?_)
              obtain ⟨i11, h_i11⟩ : ∃ y : Int32, y = l3_3 + 1 := ⟨_, rfl⟩
              refine lv_iinc (v := i11) (lv' := [(3, .int i11), (2, .int t10), (1, .int t8), (0, .ref (ad 11))]) hx hb dX11_spread_76 hl (k := 2) rfl (by rw [h_i11]; rfl) (by decide) rfl (fun ls hl => ?_)
              have hv := hv i11 h_i11
              refine lv_goto (tgt := 26) hx hb dX11_spread_79 (by decide) ?_
              exact ih26 i11 t10 t8 H locs ls hv (lv_sub hl [0, 1, 2, 3] rfl) hP hD hS
            refine lv_icmp_le (tgt := 74) hx hb dX11_spread_62 (by decide) (fun c_62 => ?_) (fun c_62 => ?_)
            · have hv := hv.1 c_62
              refine lv_iload_n hx hb dX11_spread_74 rfl (lv_at hl 2 rfl) ?_
              exact jn75 l2_4 H locs ls hv (lv_sub hl [0, 1, 3] rfl) hP hD hS
            · have hv := hv.2 c_62
              refine lv_aload_n hx hb dX11_spread_65 rfl (lv_at hl 3 rfl) ?_
              refine va_get (D := D) (ci := 11) (v := .ref (ad 51)) (C := RX11) (T := TX11) (N := 35) hx hb hts in_X11_spread_11 hown hK hP 0 rfl rfl 23 (by decide) (hts _ lk_X11_spread_51) (fun _ h9 => h9) rfl dX11_spread_66 ?_
              refine lv_iload_n hx hb dX11_spread_69 rfl (lv_at hl 1 rfl) ?_
              refine va_iald hx hb hK hP 1 0 rfl rfl hv.1 dX11_spread_70 ?_
              refine lv_topi (fun g12 h_g12 => ?_)
              have hv := hv.2 g12 h_g12
              refine lv_goto (tgt := 75) hx hb dX11_spread_71 (by decide) ?_
              exact jn75 g12 H locs ls hv (lv_sub hl [0, 1, 3] rfl) hP hD hS
          refine lv_icmp_ge (tgt := 53) hx hb dX11_spread_41 (by decide) (fun c_41 => ?_) (fun c_41 => ?_)
          · have hv := hv.1 c_41
            refine lv_iload_n hx hb dX11_spread_53 rfl (lv_at hl 2 rfl) ?_
            exact jn54 l1_5 H locs ls hv (lv_sub hl [0, 1, 3] rfl) hP hD hS
          · have hv := hv.2 c_41
            refine lv_aload_n hx hb dX11_spread_44 rfl (lv_at hl 3 rfl) ?_
            refine va_get (D := D) (ci := 11) (v := .ref (ad 51)) (C := RX11) (T := TX11) (N := 35) hx hb hts in_X11_spread_11 hown hK hP 0 rfl rfl 23 (by decide) (hts _ lk_X11_spread_51) (fun _ h9 => h9) rfl dX11_spread_45 ?_
            refine lv_iload_n hx hb dX11_spread_48 rfl (lv_at hl 0 rfl) ?_
            refine va_iald hx hb hK hP 1 0 rfl rfl hv.1 dX11_spread_49 ?_
            refine lv_topi (fun g13 h_g13 => ?_)
            have hv := hv.2 g13 h_g13
            refine lv_goto (tgt := 54) hx hb dX11_spread_50 (by decide) ?_
            exact jn54 g13 H locs ls hv (lv_sub hl [0, 1, 3] rfl) hP hD hS
    obtain ⟨nn, hv⟩ := hv
    exact lp26 nn (1 : Int32) g2 g1 H locs ls hv (lv_sub hl [0, 1, 2, 3] rfl) hP hD hS
  · have hv := hv.2 c_5
    refine lv_iconst (v := -1) hx hb dX11_spread_8 (by decide) ?_
    rw [← hQ]
    exact k_iret hx hb hr hlocks hS () hP hD hv dX11_spread_9
theorem lk_X11_about_7 : Cond.fieldLink RX11 7 "CoarseStepsModel" "d" "I" ∈ wsX11_about := by decide +kernel
theorem in_X11_about_11 : ∀ w ∈ wsX110, w ∈ wsX11_about := by decide +kernel
theorem lk_X11_about_13 : Cond.fieldLink RX11 13 "CoarseStepsModel" "stepMany" "I" ∈ wsX11_about := by decide +kernel
theorem lk_X11_about_103 : Cond.fieldLink RX11 103 "CoarseStepsModel" "kind" "I" ∈ wsX11_about := by decide +kernel
theorem lk_X11_about_16 : Cond.fieldLink RX11 16 "CoarseStepsModel" "many" "I" ∈ wsX11_about := by decide +kernel
theorem lk_X11_about_109 : Cond.fieldLink RX11 109 "CoarseStepsModel" "partMany" "I" ∈ wsX11_about := by decide +kernel
theorem lk_X11_about_81 : Cond.fieldLink RX11 81 "CoarseStepsModel" "ticks" "I" ∈ wsX11_about := by decide +kernel
theorem lk_X11_about_168 : Cond.fieldLink RX11 168 "CoarseStepsModel" "weightMany" "I" ∈ wsX11_about := by decide +kernel
theorem lk_X11_about_84 : Cond.fieldLink RX11 84 "CoarseStepsModel" "hand" "I" ∈ wsX11_about := by decide +kernel
abbrev rm_X11_about : Room := { frames := 1, cells := 0, slots := 0, locals := 20 }
set_option maxHeartbeats 4000000 in
set_option maxRecDepth 100000 in
theorem m_X11_about (l : Launch) (D : va_G) (cy : ClassId × ClassId × ClassId) (ad : Nat → Nat) (s11_d : Int32) (s11_stepMany : Int32) (s11_kind : Int32) (s11_many : Int32) (s11_partMany : Int32) (s11_rule : Int32) (s11_ticks : Int32) (s11_hand : Int32) (s11_g : Int32) (s11_beganElsewhere : Int32) (s11_dBefore : Int32) (s11_fBefore : Int32) (s11_fFirst : Int32) (s11_weightMany : Int32) (s11_tailTold : Int32) (x1 : Int32) (sz : Nat) {K : Int32 → Prop} (hv : v_X11_about s11_d s11_stepMany s11_kind s11_many s11_partMany s11_ticks s11_hand s11_weightMany x1 K) : Met l yX11_about wsX11_about rm_X11_about (va_Pc [.ref (ad 11), .int x1] (wd D cy [oX11 ad s11_d s11_stepMany s11_kind s11_many s11_partMany s11_rule s11_ticks s11_hand s11_g s11_beganElsewhere s11_dBefore s11_fBefore s11_fFirst s11_weightMany s11_tailTold] sz)) (va_Qi (fun (r : Int32) (u : Unit) => K r) (fun u t => we D ((fun u : Unit => [oX11 ad s11_d s11_stepMany s11_kind s11_many s11_partMany s11_rule s11_ticks s11_hand s11_g s11_beganElsewhere s11_dBefore s11_fBefore s11_fFirst s11_weightMany s11_tailTold]) u) (va_A [oX11 ad s11_d s11_stepMany s11_kind s11_many s11_partMany s11_rule s11_ticks s11_hand s11_g s11_beganElsewhere s11_dBefore s11_fBefore s11_fFirst s11_weightMany s11_tailTold] sz) t) (va_A [oX11 ad s11_d s11_stepMany s11_kind s11_many s11_partMany s11_rule s11_ticks s11_hand s11_g s11_beganElsewhere s11_dBefore s11_fBefore s11_fFirst s11_weightMany s11_tailTold] sz)) 0 0 (va_A [oX11 ad s11_d s11_stepMany s11_kind s11_many s11_partMany s11_rule s11_ticks s11_hand s11_g s11_beganElsewhere s11_dBefore s11_fBefore s11_fFirst s11_weightMany s11_tailTold] sz) := by
  refine k_ofW (cc := cX11_about) (maxL := 2) (ret := (some .int)) (fun A => va_Qi (fun (r : Int32) (u : Unit) => K r) (fun u t => we D ((fun u : Unit => [oX11 ad s11_d s11_stepMany s11_kind s11_many s11_partMany s11_rule s11_ticks s11_hand s11_g s11_beganElsewhere s11_dBefore s11_fBefore s11_fFirst s11_weightMany s11_tailTold]) u) A t) A) (by decide) rfl (Nat.le_of_ble_eq_true rfl) ?_
  intro p e s m below meth c A ls H locs hx hb hml hr hts hown hlocks hname hK hN hA hP hD hS hl
  have hl : lv_has ls 2 [(0, .ref (ad 11)), (1, .int x1)] := hl
  generalize hQ : MQ below _ _ s _ _ A = Q
  unfold v_X11_about at hv
  refine lv_iload_n hx hb dX11_about_0 rfl (lv_at hl 1 rfl) ?_
  by_cases c_1_0 : x1 = 0
  · refine lv_tableIn (tgt := 52) (off := 51) hx hb dX11_about_1 (by rw [c_1_0] <;> decide) (by rw [c_1_0] <;> decide) (by rw [c_1_0] <;> rfl) (by decide) ?_
    have hv := hv.1 c_1_0
    refine lv_aload_n hx hb dX11_about_52 rfl (lv_at hl 0 rfl) ?_
    refine va_get (D := D) (ci := 11) (v := .int s11_d) (C := RX11) (T := TX11) (N := 35) hx hb hts in_X11_about_11 hown hK hP 0 rfl rfl 0 (by decide) (hts _ lk_X11_about_7) (fun _ h9 => h9) rfl dX11_about_53 ?_
    rw [← hQ]
    exact k_iret hx hb hr hlocks hS () hP hD hv dX11_about_56
  have hv := hv.2
  by_cases c_1_1 : x1 = 1
  · refine lv_tableIn (tgt := 57) (off := 56) hx hb dX11_about_1 (by rw [c_1_1] <;> decide) (by rw [c_1_1] <;> decide) (by rw [c_1_1] <;> rfl) (by decide) ?_
    have hv := hv.1 c_1_1
    refine lv_aload_n hx hb dX11_about_57 rfl (lv_at hl 0 rfl) ?_
    refine va_get (D := D) (ci := 11) (v := .int s11_stepMany) (C := RX11) (T := TX11) (N := 35) hx hb hts in_X11_about_11 hown hK hP 0 rfl rfl 1 (by decide) (hts _ lk_X11_about_13) (fun _ h9 => h9) rfl dX11_about_58 ?_
    rw [← hQ]
    exact k_iret hx hb hr hlocks hS () hP hD hv dX11_about_61
  have hv := hv.2
  by_cases c_1_2 : x1 = 2
  · refine lv_tableIn (tgt := 62) (off := 61) hx hb dX11_about_1 (by rw [c_1_2] <;> decide) (by rw [c_1_2] <;> decide) (by rw [c_1_2] <;> rfl) (by decide) ?_
    have hv := hv.1 c_1_2
    refine lv_aload_n hx hb dX11_about_62 rfl (lv_at hl 0 rfl) ?_
    refine va_get (D := D) (ci := 11) (v := .int s11_kind) (C := RX11) (T := TX11) (N := 35) hx hb hts in_X11_about_11 hown hK hP 0 rfl rfl 2 (by decide) (hts _ lk_X11_about_103) (fun _ h9 => h9) rfl dX11_about_63 ?_
    rw [← hQ]
    exact k_iret hx hb hr hlocks hS () hP hD hv dX11_about_66
  have hv := hv.2
  by_cases c_1_3 : x1 = 3
  · refine lv_tableIn (tgt := 67) (off := 66) hx hb dX11_about_1 (by rw [c_1_3] <;> decide) (by rw [c_1_3] <;> decide) (by rw [c_1_3] <;> rfl) (by decide) ?_
    have hv := hv.1 c_1_3
    refine lv_aload_n hx hb dX11_about_67 rfl (lv_at hl 0 rfl) ?_
    refine va_get (D := D) (ci := 11) (v := .int s11_many) (C := RX11) (T := TX11) (N := 35) hx hb hts in_X11_about_11 hown hK hP 0 rfl rfl 3 (by decide) (hts _ lk_X11_about_16) (fun _ h9 => h9) rfl dX11_about_68 ?_
    rw [← hQ]
    exact k_iret hx hb hr hlocks hS () hP hD hv dX11_about_71
  have hv := hv.2
  by_cases c_1_4 : x1 = 4
  · refine lv_tableIn (tgt := 72) (off := 71) hx hb dX11_about_1 (by rw [c_1_4] <;> decide) (by rw [c_1_4] <;> decide) (by rw [c_1_4] <;> rfl) (by decide) ?_
    have hv := hv.1 c_1_4
    refine lv_aload_n hx hb dX11_about_72 rfl (lv_at hl 0 rfl) ?_
    refine va_get (D := D) (ci := 11) (v := .int s11_partMany) (C := RX11) (T := TX11) (N := 35) hx hb hts in_X11_about_11 hown hK hP 0 rfl rfl 4 (by decide) (hts _ lk_X11_about_109) (fun _ h9 => h9) rfl dX11_about_73 ?_
    rw [← hQ]
    exact k_iret hx hb hr hlocks hS () hP hD hv dX11_about_76
  have hv := hv.2
  by_cases c_1_5 : x1 = 5
  · refine lv_tableIn (tgt := 77) (off := 76) hx hb dX11_about_1 (by rw [c_1_5] <;> decide) (by rw [c_1_5] <;> decide) (by rw [c_1_5] <;> rfl) (by decide) ?_
    have hv := hv.1 c_1_5
    refine lv_aload_n hx hb dX11_about_77 rfl (lv_at hl 0 rfl) ?_
    refine va_get (D := D) (ci := 11) (v := .int s11_ticks) (C := RX11) (T := TX11) (N := 35) hx hb hts in_X11_about_11 hown hK hP 0 rfl rfl 6 (by decide) (hts _ lk_X11_about_81) (fun _ h9 => h9) rfl dX11_about_78 ?_
    rw [← hQ]
    exact k_iret hx hb hr hlocks hS () hP hD hv dX11_about_81
  have hv := hv.2
  by_cases c_1_6 : x1 = 6
  · refine lv_tableIn (tgt := 82) (off := 81) hx hb dX11_about_1 (by rw [c_1_6] <;> decide) (by rw [c_1_6] <;> decide) (by rw [c_1_6] <;> rfl) (by decide) ?_
    have hv := hv.1 c_1_6
    refine lv_aload_n hx hb dX11_about_82 rfl (lv_at hl 0 rfl) ?_
    have hPc := hP.sub (ws' := [oX11 ad s11_d s11_stepMany s11_kind s11_many s11_partMany s11_rule s11_ticks s11_hand s11_g s11_beganElsewhere s11_dBefore s11_fBefore s11_fFirst s11_weightMany s11_tailTold]) [0] rfl
    have hDc := hD.sub (ws' := [oX11 ad s11_d s11_stepMany s11_kind s11_many s11_partMany s11_rule s11_ticks s11_hand s11_g s11_beganElsewhere s11_dBefore s11_fBefore s11_fFirst s11_weightMany s11_tailTold]) [0] (by decide) rfl
    refine k_cali (wc := [oX11 ad s11_d s11_stepMany s11_kind s11_many s11_partMany s11_rule s11_ticks s11_hand s11_g s11_beganElsewhere s11_dBefore s11_fBefore s11_fFirst s11_weightMany s11_tailTold]) (wr := []) (va_runV (As := []) (rest := []) ⟨hx, hb, hml, hown, hts⟩ (m_X11_kept l D cy ad s11_d s11_stepMany s11_kind s11_many s11_partMany s11_rule s11_ticks s11_hand s11_g s11_beganElsewhere s11_dBefore s11_fBefore s11_fFirst s11_weightMany s11_tailTold H.size hv) (cwV 0 hts gX11_about_X11_kept rfl rfl rfl (by decide +kernel) ⟨Nat.le_of_ble_eq_true rfl, Nat.le_of_ble_eq_true rfl⟩) ⟨wd_blind, va_recv hK hPc (ci := 11) (q0 := 0) rfl rfl, wd_ok hPc hK hDc hN⟩ rfl rfl hl.1 rfl (lv_room (Nat.le_of_ble_eq_true rfl)) dX11_about_83 ⟨Nat.le_of_ble_eq_true rfl, Nat.le_of_ble_eq_true rfl⟩) hP hD hS hA [0] [] rfl rfl (by decide) (by decide) (fun r1 u H locs hv hP hD hS => ?_)
    have hP : va_P D vwCl [oX11 ad s11_d s11_stepMany s11_kind s11_many s11_partMany s11_rule s11_ticks s11_hand s11_g s11_beganElsewhere s11_dBefore s11_fBefore s11_fFirst s11_weightMany s11_tailTold] H := hP.sub [0] rfl
    have hD : va_D A [oX11 ad s11_d s11_stepMany s11_kind s11_many s11_partMany s11_rule s11_ticks s11_hand s11_g s11_beganElsewhere s11_dBefore s11_fBefore s11_fFirst s11_weightMany s11_tailTold] := hD.sub [0] (by decide) rfl
    rw [← hQ]
    exact k_iret hx hb hr hlocks hS () hP hD hv dX11_about_86
  have hv := hv.2
  by_cases c_1_7 : x1 = 7
  · refine lv_tableIn (tgt := 87) (off := 86) hx hb dX11_about_1 (by rw [c_1_7] <;> decide) (by rw [c_1_7] <;> decide) (by rw [c_1_7] <;> rfl) (by decide) ?_
    have hv := hv.1 c_1_7
    refine lv_aload_n hx hb dX11_about_87 rfl (lv_at hl 0 rfl) ?_
    refine va_get (D := D) (ci := 11) (v := .int s11_weightMany) (C := RX11) (T := TX11) (N := 35) hx hb hts in_X11_about_11 hown hK hP 0 rfl rfl 28 (by decide) (hts _ lk_X11_about_168) (fun _ h9 => h9) rfl dX11_about_88 ?_
    rw [← hQ]
    exact k_iret hx hb hr hlocks hS () hP hD hv dX11_about_91
  have hv := hv.2
  by_cases c_1_8 : x1 = 8
  · refine lv_tableIn (tgt := 92) (off := 91) hx hb dX11_about_1 (by rw [c_1_8] <;> decide) (by rw [c_1_8] <;> decide) (by rw [c_1_8] <;> rfl) (by decide) ?_
    have hv := hv.1 c_1_8
    refine lv_aload_n hx hb dX11_about_92 rfl (lv_at hl 0 rfl) ?_
    refine va_get (D := D) (ci := 11) (v := .int s11_hand) (C := RX11) (T := TX11) (N := 35) hx hb hts in_X11_about_11 hown hK hP 0 rfl rfl 7 (by decide) (hts _ lk_X11_about_84) (fun _ h9 => h9) rfl dX11_about_93 ?_
    rw [← hQ]
    exact k_iret hx hb hr hlocks hS () hP hD hv dX11_about_96
  have hv := hv.2
  refine lv_tableOut (tgt := 97) hx hb dX11_about_1 (by have q0 := lv_neT c_1_0 (a := 0) (by decide); have q1 := lv_neT c_1_1 (a := 1) (by decide); have q2 := lv_neT c_1_2 (a := 2) (by decide); have q3 := lv_neT c_1_3 (a := 3) (by decide); have q4 := lv_neT c_1_4 (a := 4) (by decide); have q5 := lv_neT c_1_5 (a := 5) (by decide); have q6 := lv_neT c_1_6 (a := 6) (by decide); have q7 := lv_neT c_1_7 (a := 7) (by decide); have q8 := lv_neT c_1_8 (a := 8) (by decide); omega) (by decide) ?_
  have hv := hv c_1_0 c_1_1 c_1_2 c_1_3 c_1_4 c_1_5 c_1_6 c_1_7 c_1_8
  refine lv_iconst (v := -1) hx hb dX11_about_97 (by decide) ?_
  rw [← hQ]
  exact k_iret hx hb hr hlocks hS () hP hD hv dX11_about_98
theorem lk_X11_step_151 : Cond.constant RX11 151 (-2147483648) ∈ wsX11_step := by decide +kernel
theorem lk_X11_step_13 : Cond.fieldLink RX11 13 "CoarseStepsModel" "stepMany" "I" ∈ wsX11_step := by decide +kernel
theorem in_X11_step_11 : ∀ w ∈ wsX110, w ∈ wsX11_step := by decide +kernel
theorem lk_X11_step_19 : Cond.fieldLink RX11 19 "CoarseStepsModel" "steps" "[I" ∈ wsX11_step := by decide +kernel
abbrev rm_X11_step : Room := { frames := 0, cells := 0, slots := 0, locals := 0 }
set_option maxHeartbeats 4000000 in
set_option maxRecDepth 100000 in
theorem m_X11_step (l : Launch) (D : va_G) (cy : ClassId × ClassId × ClassId) (ad : Nat → Nat) (s11_d : Int32) (s11_stepMany : Int32) (s11_kind : Int32) (s11_many : Int32) (s11_partMany : Int32) (s11_rule : Int32) (s11_ticks : Int32) (s11_hand : Int32) (s11_g : Int32) (s11_beganElsewhere : Int32) (s11_dBefore : Int32) (s11_fBefore : Int32) (s11_fFirst : Int32) (s11_weightMany : Int32) (s11_tailTold : Int32) (a11_steps : Nat → Int32) (x1 : Int32) (sz : Nat) {K : Int32 → Prop} (hv : v_X11_step s11_stepMany a11_steps x1 K) : Met l yX11_step wsX11_step rm_X11_step (va_Pc [.ref (ad 11), .int x1] (wd D cy [oX11 ad s11_d s11_stepMany s11_kind s11_many s11_partMany s11_rule s11_ticks s11_hand s11_g s11_beganElsewhere s11_dBefore s11_fBefore s11_fFirst s11_weightMany s11_tailTold, aI cy (ad 41) 8 a11_steps] sz)) (va_Qi (fun (r : Int32) (u : Unit) => K r) (fun u t => we D ((fun u : Unit => [oX11 ad s11_d s11_stepMany s11_kind s11_many s11_partMany s11_rule s11_ticks s11_hand s11_g s11_beganElsewhere s11_dBefore s11_fBefore s11_fFirst s11_weightMany s11_tailTold, aI cy (ad 41) 8 a11_steps]) u) (va_A [oX11 ad s11_d s11_stepMany s11_kind s11_many s11_partMany s11_rule s11_ticks s11_hand s11_g s11_beganElsewhere s11_dBefore s11_fBefore s11_fFirst s11_weightMany s11_tailTold, aI cy (ad 41) 8 a11_steps] sz) t) (va_A [oX11 ad s11_d s11_stepMany s11_kind s11_many s11_partMany s11_rule s11_ticks s11_hand s11_g s11_beganElsewhere s11_dBefore s11_fBefore s11_fFirst s11_weightMany s11_tailTold, aI cy (ad 41) 8 a11_steps] sz)) 0 0 (va_A [oX11 ad s11_d s11_stepMany s11_kind s11_many s11_partMany s11_rule s11_ticks s11_hand s11_g s11_beganElsewhere s11_dBefore s11_fBefore s11_fFirst s11_weightMany s11_tailTold, aI cy (ad 41) 8 a11_steps] sz) := by
  refine k_ofW (cc := cX11_step) (maxL := 2) (ret := (some .int)) (fun A => va_Qi (fun (r : Int32) (u : Unit) => K r) (fun u t => we D ((fun u : Unit => [oX11 ad s11_d s11_stepMany s11_kind s11_many s11_partMany s11_rule s11_ticks s11_hand s11_g s11_beganElsewhere s11_dBefore s11_fBefore s11_fFirst s11_weightMany s11_tailTold, aI cy (ad 41) 8 a11_steps]) u) A t) A) (by decide) rfl (Nat.le_of_ble_eq_true rfl) ?_
  intro p e s m below meth c A ls H locs hx hb hml hr hts hown hlocks hname hK hN hA hP hD hS hl
  have hl : lv_has ls 2 [(0, .ref (ad 11)), (1, .int x1)] := hl
  generalize hQ : MQ below _ _ s _ _ A = Q
  unfold v_X11_step at hv
  refine lv_iload_n hx hb dX11_step_0 rfl (lv_at hl 1 rfl) ?_
  refine lv_if_lt (tgt := 12) hx hb dX11_step_1 (by decide) (fun c_1 => ?_) (fun c_1 => ?_)
  · have hv := hv.1 c_1
    refine lv_ldc hx hb hown (hts _ lk_X11_step_151) dX11_step_12 ?_
    refine lv_goto (tgt := 23) hx hb dX11_step_14 (by decide) ?_
    rw [← hQ]
    exact k_iret hx hb hr hlocks hS () hP hD hv dX11_step_23
  · have hv := hv.2 c_1
    refine lv_iload_n hx hb dX11_step_4 rfl (lv_at hl 1 rfl) ?_
    refine lv_aload_n hx hb dX11_step_5 rfl (lv_at hl 0 rfl) ?_
    refine va_get (D := D) (ci := 11) (v := .int s11_stepMany) (C := RX11) (T := TX11) (N := 35) hx hb hts in_X11_step_11 hown hK hP 0 rfl rfl 1 (by decide) (hts _ lk_X11_step_13) (fun _ h9 => h9) rfl dX11_step_6 ?_
    refine lv_icmp_lt (tgt := 17) hx hb dX11_step_9 (by decide) (fun c_9 => ?_) (fun c_9 => ?_)
    · have hv := hv.1 c_9
      refine lv_aload_n hx hb dX11_step_17 rfl (lv_at hl 0 rfl) ?_
      refine va_get (D := D) (ci := 11) (v := .ref (ad 41)) (C := RX11) (T := TX11) (N := 35) hx hb hts in_X11_step_11 hown hK hP 0 rfl rfl 8 (by decide) (hts _ lk_X11_step_19) (fun _ h9 => h9) rfl dX11_step_18 ?_
      refine lv_iload_n hx hb dX11_step_21 rfl (lv_at hl 1 rfl) ?_
      refine va_iald hx hb hK hP 1 0 rfl rfl hv.1 dX11_step_22 ?_
      refine lv_topi (fun g1 h_g1 => ?_)
      have hv := hv.2 g1 h_g1
      rw [← hQ]
      exact k_iret hx hb hr hlocks hS () hP hD hv dX11_step_23
    · have hv := hv.2 c_9
      refine lv_ldc hx hb hown (hts _ lk_X11_step_151) dX11_step_12 ?_
      refine lv_goto (tgt := 23) hx hb dX11_step_14 (by decide) ?_
      rw [← hQ]
      exact k_iret hx hb hr hlocks hS () hP hD hv dX11_step_23
