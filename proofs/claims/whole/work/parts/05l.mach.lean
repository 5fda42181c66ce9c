theorem lk_X11_kept__16 : Cond.fieldLink RX11 16 "CoarseStepsModel" "many" "I" ∈ wsX11_kept_ := by decide +kernel
theorem in_X11_kept__11 : ∀ w ∈ wsX110, w ∈ wsX11_kept_ := by decide +kernel
theorem lk_X11_kept__166 : Cond.constantLong RX11 166 (100000) ∈ wsX11_kept_ := by decide +kernel
theorem lk_X11_kept__69 : Cond.fieldLink RX11 69 "CoarseStepsModel" "to" "[J" ∈ wsX11_kept_ := by decide +kernel
theorem lk_X11_kept__42 : Cond.fieldLink RX11 42 "CoarseStepsModel" "least" "[J" ∈ wsX11_kept_ := by decide +kernel
theorem lk_X11_kept__45 : Cond.fieldLink RX11 45 "CoarseStepsModel" "most" "[J" ∈ wsX11_kept_ := by decide +kernel
theorem lk_X11_kept__66 : Cond.fieldLink RX11 66 "CoarseStepsModel" "now" "[J" ∈ wsX11_kept_ := by decide +kernel
abbrev rm_X11_kept_ : Room := { frames := 2, cells := 0, slots := 0, locals := 50 }
set_option maxHeartbeats 4000000 in
set_option maxRecDepth 100000 in
theorem m_X11_kept_ (l : Launch) (D : va_G) (cy : ClassId × ClassId × ClassId) (ad : Nat → Nat) (s11_d : Int32) (s11_stepMany : Int32) (s11_kind : Int32) (s11_many : Int32) (s11_partMany : Int32) (s11_rule : Int32) (s11_ticks : Int32) (s11_hand : Int32) (s11_g : Int32) (s11_beganElsewhere : Int32) (s11_dBefore : Int32) (s11_fBefore : Int32) (s11_fFirst : Int32) (s11_weightMany : Int32) (s11_tailTold : Int32) (a11_steps : Nat → Int32) (a11_a : Nat → Int32) (a11_b : Nat → Int32) (a11_e : Nat → Int32) (a11_h : Nat → Int32) (a11_least : Nat → Int64) (a11_most : Nat → Int64) (a11_now : Nat → Int64) (a11_to : Nat → Int64) (a11_made : Nat → Int32) (x1 : Int32) (x2 : Int32) (sz : Nat) {K : Int32 → (Nat → Int64) → (Nat → Int64) → (Nat → Int32) → Prop} (hv : v_X11_kept_ s11_d s11_stepMany s11_kind s11_many s11_g a11_steps a11_a a11_b a11_e a11_h a11_least a11_most a11_now a11_to a11_made x1 x2 K) : Met l yX11_kept_ wsX11_kept_ rm_X11_kept_ (va_Pc [.ref (ad 11), .int x1, .int x2] (wd D cy [oX11 ad s11_d s11_stepMany s11_kind s11_many s11_partMany s11_rule s11_ticks s11_hand s11_g s11_beganElsewhere s11_dBefore s11_fBefore s11_fFirst s11_weightMany s11_tailTold, aI cy (ad 41) 8 a11_steps, aI cy (ad 43) 16 a11_a, aI cy (ad 44) 4 a11_b, aI cy (ad 45) 4 a11_e, aI cy (ad 46) 4 a11_h, aJ cy (ad 48) 4 a11_least, aJ cy (ad 49) 4 a11_most, aJ cy (ad 56) 4 a11_now, aJ cy (ad 57) 4 a11_to, aI cy (ad 58) 3 a11_made] sz)) (va_Qi (fun (r : Int32) (u : (Nat → Int64) × (Nat → Int64) × (Nat → Int32)) => K r u.1 u.2.1 u.2.2) (fun u t => we D ((fun u : (Nat → Int64) × (Nat → Int64) × (Nat → Int32) => [oX11 ad s11_d s11_stepMany s11_kind s11_many s11_partMany s11_rule s11_ticks s11_hand s11_g s11_beganElsewhere s11_dBefore s11_fBefore s11_fFirst s11_weightMany s11_tailTold, aI cy (ad 41) 8 a11_steps, aI cy (ad 43) 16 a11_a, aI cy (ad 44) 4 a11_b, aI cy (ad 45) 4 a11_e, aI cy (ad 46) 4 a11_h, aJ cy (ad 48) 4 a11_least, aJ cy (ad 49) 4 a11_most, aJ cy (ad 56) 4 u.1, aJ cy (ad 57) 4 u.2.1, aI cy (ad 58) 3 u.2.2]) u) (va_A [oX11 ad s11_d s11_stepMany s11_kind s11_many s11_partMany s11_rule s11_ticks s11_hand s11_g s11_beganElsewhere s11_dBefore s11_fBefore s11_fFirst s11_weightMany s11_tailTold, aI cy (ad 41) 8 a11_steps, aI cy (ad 43) 16 a11_a, aI cy (ad 44) 4 a11_b, aI cy (ad 45) 4 a11_e, aI cy (ad 46) 4 a11_h, aJ cy (ad 48) 4 a11_least, aJ cy (ad 49) 4 a11_most, aJ cy (ad 56) 4 a11_now, aJ cy (ad 57) 4 a11_to, aI cy (ad 58) 3 a11_made] sz) t) (va_A [oX11 ad s11_d s11_stepMany s11_kind s11_many s11_partMany s11_rule s11_ticks s11_hand s11_g s11_beganElsewhere s11_dBefore s11_fBefore s11_fFirst s11_weightMany s11_tailTold, aI cy (ad 41) 8 a11_steps, aI cy (ad 43) 16 a11_a, aI cy (ad 44) 4 a11_b, aI cy (ad 45) 4 a11_e, aI cy (ad 46) 4 a11_h, aJ cy (ad 48) 4 a11_least, aJ cy (ad 49) 4 a11_most, aJ cy (ad 56) 4 a11_now, aJ cy (ad 57) 4 a11_to, aI cy (ad 58) 3 a11_made] sz)) 0 0 (va_A [oX11 ad s11_d s11_stepMany s11_kind s11_many s11_partMany s11_rule s11_ticks s11_hand s11_g s11_beganElsewhere s11_dBefore s11_fBefore s11_fFirst s11_weightMany s11_tailTold, aI cy (ad 41) 8 a11_steps, aI cy (ad 43) 16 a11_a, aI cy (ad 44) 4 a11_b, aI cy (ad 45) 4 a11_e, aI cy (ad 46) 4 a11_h, aJ cy (ad 48) 4 a11_least, aJ cy (ad 49) 4 a11_most, aJ cy (ad 56) 4 a11_now, aJ cy (ad 57) 4 a11_to, aI cy (ad 58) 3 a11_made] sz) := by
  refine k_ofW (cc := cX11_kept_) (maxL := 13) (ret := (some .int)) (fun A => va_Qi (fun (r : Int32) (u : (Nat → Int64) × (Nat → Int64) × (Nat → Int32)) => K r u.1 u.2.1 u.2.2) (fun u t => we D ((fun u : (Nat → Int64) × (Nat → Int64) × (Nat → Int32) => [oX11 ad s11_d s11_stepMany s11_kind s11_many s11_partMany s11_rule s11_ticks s11_hand s11_g s11_beganElsewhere s11_dBefore s11_fBefore s11_fFirst s11_weightMany s11_tailTold, aI cy (ad 41) 8 a11_steps, aI cy (ad 43) 16 a11_a, aI cy (ad 44) 4 a11_b, aI cy (ad 45) 4 a11_e, aI cy (ad 46) 4 a11_h, aJ cy (ad 48) 4 a11_least, aJ cy (ad 49) 4 a11_most, aJ cy (ad 56) 4 u.1, aJ cy (ad 57) 4 u.2.1, aI cy (ad 58) 3 u.2.2]) u) A t) A) (by decide) rfl (Nat.le_of_ble_eq_true rfl) ?_
  intro p e s m below meth c A ls H locs hx hb hml hr hts hown hlocks hname hK hN hA hP hD hS hl
  have hl : lv_has ls 13 [(0, .ref (ad 11)), (1, .int x1), (2, .int x2)] := hl
  generalize hQ : MQ below _ _ s _ _ A = Q
  unfold v_X11_kept_ at hv
  refine lv_iload_n hx hb dX11_kept__0 rfl (lv_at hl 1 rfl) ?_
  have hPc := hP.sub (ws' := []) [] rfl
  have hDc := hD.sub (ws' := []) [] (by decide) rfl
  refine k_cali (wc := []) (wr := [oX11 ad s11_d s11_stepMany s11_kind s11_many s11_partMany s11_rule s11_ticks s11_hand s11_g s11_beganElsewhere s11_dBefore s11_fBefore s11_fFirst s11_weightMany s11_tailTold, aI cy (ad 41) 8 a11_steps, aI cy (ad 43) 16 a11_a, aI cy (ad 44) 4 a11_b, aI cy (ad 45) 4 a11_e, aI cy (ad 46) 4 a11_h, aJ cy (ad 48) 4 a11_least, aJ cy (ad 49) 4 a11_most, aJ cy (ad 56) 4 a11_now, aJ cy (ad 57) 4 a11_to, aI cy (ad 58) 3 a11_made]) (va_runS (As := [.int x1]) (rest := []) ⟨hx, hb, hml, hown, hts⟩ (m_X11_isWish l D cy ad x1 H.size hv) (va_cwS 1 hts gX11_kept__X11_isWish rfl rfl rfl (by decide +kernel) ⟨Nat.le_of_ble_eq_true rfl, Nat.le_of_ble_eq_true rfl⟩) ⟨wd_blind, wd_ok hPc hK hDc hN⟩ rfl rfl hl.1 rfl (lv_room (Nat.le_of_ble_eq_true rfl)) dX11_kept__1 ⟨Nat.le_of_ble_eq_true rfl, Nat.le_of_ble_eq_true rfl⟩) hP hD hS hA [] [0, 1, 2, 3, 4, 5, 6, 7, 8, 9, 10] rfl rfl (by decide) (by decide) (fun r1 u H locs hv hP hD hS => ?_)
  obtain ⟨hz_r1, hv⟩ := hv
  have hP : va_P D vwCl [oX11 ad s11_d s11_stepMany s11_kind s11_many s11_partMany s11_rule s11_ticks s11_hand s11_g s11_beganElsewhere s11_dBefore s11_fBefore s11_fFirst s11_weightMany s11_tailTold, aI cy (ad 41) 8 a11_steps, aI cy (ad 43) 16 a11_a, aI cy (ad 44) 4 a11_b, aI cy (ad 45) 4 a11_e, aI cy (ad 46) 4 a11_h, aJ cy (ad 48) 4 a11_least, aJ cy (ad 49) 4 a11_most, aJ cy (ad 56) 4 a11_now, aJ cy (ad 57) 4 a11_to, aI cy (ad 58) 3 a11_made] H := hP.sub [0, 1, 2, 3, 4, 5, 6, 7, 8, 9, 10] rfl
  have hD : va_D A [oX11 ad s11_d s11_stepMany s11_kind s11_many s11_partMany s11_rule s11_ticks s11_hand s11_g s11_beganElsewhere s11_dBefore s11_fBefore s11_fFirst s11_weightMany s11_tailTold, aI cy (ad 41) 8 a11_steps, aI cy (ad 43) 16 a11_a, aI cy (ad 44) 4 a11_b, aI cy (ad 45) 4 a11_e, aI cy (ad 46) 4 a11_h, aJ cy (ad 48) 4 a11_least, aJ cy (ad 49) 4 a11_most, aJ cy (ad 56) 4 a11_now, aJ cy (ad 57) 4 a11_to, aI cy (ad 58) 3 a11_made] := hD.sub [0, 1, 2, 3, 4, 5, 6, 7, 8, 9, 10] (by decide) rfl
  refine lv_if_eq (tgt := 19) hx hb dX11_kept__4 (by decide) (fun c_4 => ?_) (fun c_4 => ?_)
  · have hv := hv.1 c_4
    refine lv_iconst (v := -1) hx hb dX11_kept__19 (by decide) ?_
    rw [← hQ]
    exact k_iret hx hb hr hlocks hS (a11_now, a11_to, a11_made) hP hD hv dX11_kept__20
  · have hv := hv.2 c_4
    refine lv_iload_n hx hb dX11_kept__7 rfl (lv_at hl 2 rfl) ?_
    have hPc := hP.sub (ws' := []) [] rfl
    have hDc := hD.sub (ws' := []) [] (by decide) rfl
    refine k_cali (wc := []) (wr := [oX11 ad s11_d s11_stepMany s11_kind s11_many s11_partMany s11_rule s11_ticks s11_hand s11_g s11_beganElsewhere s11_dBefore s11_fBefore s11_fFirst s11_weightMany s11_tailTold, aI cy (ad 41) 8 a11_steps, aI cy (ad 43) 16 a11_a, aI cy (ad 44) 4 a11_b, aI cy (ad 45) 4 a11_e, aI cy (ad 46) 4 a11_h, aJ cy (ad 48) 4 a11_least, aJ cy (ad 49) 4 a11_most, aJ cy (ad 56) 4 a11_now, aJ cy (ad 57) 4 a11_to, aI cy (ad 58) 3 a11_made]) (va_runS (As := [.int x2]) (rest := []) ⟨hx, hb, hml, hown, hts⟩ (m_X11_isWish l D cy ad x2 H.size hv) (va_cwS 1 hts gX11_kept__X11_isWish rfl rfl rfl (by decide +kernel) ⟨Nat.le_of_ble_eq_true rfl, Nat.le_of_ble_eq_true rfl⟩) ⟨wd_blind, wd_ok hPc hK hDc hN⟩ rfl rfl hl.1 rfl (lv_room (Nat.le_of_ble_eq_true rfl)) dX11_kept__8 ⟨Nat.le_of_ble_eq_true rfl, Nat.le_of_ble_eq_true rfl⟩) hP hD hS hA [] [0, 1, 2, 3, 4, 5, 6, 7, 8, 9, 10] rfl rfl (by decide) (by decide) (fun r2 u H locs hv hP hD hS => ?_)
    obtain ⟨hz_r2, hv⟩ := hv
    have hP : va_P D vwCl [oX11 ad s11_d s11_stepMany s11_kind s11_many s11_partMany s11_rule s11_ticks s11_hand s11_g s11_beganElsewhere s11_dBefore s11_fBefore s11_fFirst s11_weightMany s11_tailTold, aI cy (ad 41) 8 a11_steps, aI cy (ad 43) 16 a11_a, aI cy (ad 44) 4 a11_b, aI cy (ad 45) 4 a11_e, aI cy (ad 46) 4 a11_h, aJ cy (ad 48) 4 a11_least, aJ cy (ad 49) 4 a11_most, aJ cy (ad 56) 4 a11_now, aJ cy (ad 57) 4 a11_to, aI cy (ad 58) 3 a11_made] H := hP.sub [0, 1, 2, 3, 4, 5, 6, 7, 8, 9, 10] rfl
    have hD : va_D A [oX11 ad s11_d s11_stepMany s11_kind s11_many s11_partMany s11_rule s11_ticks s11_hand s11_g s11_beganElsewhere s11_dBefore s11_fBefore s11_fFirst s11_weightMany s11_tailTold, aI cy (ad 41) 8 a11_steps, aI cy (ad 43) 16 a11_a, aI cy (ad 44) 4 a11_b, aI cy (ad 45) 4 a11_e, aI cy (ad 46) 4 a11_h, aJ cy (ad 48) 4 a11_least, aJ cy (ad 49) 4 a11_most, aJ cy (ad 56) 4 a11_now, aJ cy (ad 57) 4 a11_to, aI cy (ad 58) 3 a11_made] := hD.sub [0, 1, 2, 3, 4, 5, 6, 7, 8, 9, 10] (by decide) rfl
    refine lv_if_eq (tgt := 19) hx hb dX11_kept__11 (by decide) (fun c_11 => ?_) (fun c_11 => ?_)
    · have hv := hv.1 c_11
      refine lv_iconst (v := -1) hx hb dX11_kept__19 (by decide) ?_
      rw [← hQ]
      exact k_iret hx hb hr hlocks hS (a11_now, a11_to, a11_made) hP hD hv dX11_kept__20
    · have hv := hv.2 c_11
      refine lv_iload_n hx hb dX11_kept__14 rfl (lv_at hl 1 rfl) ?_
      refine lv_iload_n hx hb dX11_kept__15 rfl (lv_at hl 2 rfl) ?_
      refine lv_icmp_le (tgt := 21) hx hb dX11_kept__16 (by decide) (fun c_16 => ?_) (fun c_16 => ?_)
      · have hv := hv.1 c_16
        refine lv_iload_n hx hb dX11_kept__21 rfl (lv_at hl 2 rfl) ?_
        refine lv_iload_n hx hb dX11_kept__22 rfl (lv_at hl 1 rfl) ?_
        refine lv_isub hx hb dX11_kept__23 ?_
        refine lv_topi (fun e3 h_e3 => ?_)
        have hv := hv e3 h_e3
        refine lv_i2l hx hb dX11_kept__24 rfl ?_
        refine lv_lconst (v := 1) hx hb dX11_kept__25 (by decide) ?_
        refine lv_ladd hx hb dX11_kept__26 ?_
        refine lv_topl (fun e4 h_e4 => ?_)
        have hv := hv e4 h_e4
        refine lv_lstore_n (lv' := [(3, .long e4), (0, .ref (ad 11)), (1, .int x1), (2, .int x2)]) hx hb dX11_kept__27 rfl hl (by decide) rfl (fun ls hl => ?_)
        refine lv_iconst (v := 0) hx hb dX11_kept__28 (by decide) ?_
        refine lv_istore (lv' := [(5, .int (0 : Int32)), (3, .long e4), (0, .ref (ad 11)), (1, .int x1), (2, .int x2)]) hx hb dX11_kept__29 hl (by decide) rfl (fun ls hl => ?_)
        have lp31 : ∀ (n31 : Nat) (l5_5 : Int32) (l3_6 : Int64) (H : Heap) (locs : List Loc) (ls : Array Slot), vfix (vF_X11_kept__31 s11_d s11_stepMany s11_kind s11_many s11_g a11_steps a11_a a11_b a11_e a11_h a11_least a11_most a11_now a11_to a11_made x1 x2 K) n31 (l5_5, l3_6) → lv_has ls 13 [(5, .int l5_5), (3, .long l3_6), (0, .ref (ad 11)), (1, .int x1), (2, .int x2)] → va_P D vwCl [oX11 ad s11_d s11_stepMany s11_kind s11_many s11_partMany s11_rule s11_ticks s11_hand s11_g s11_beganElsewhere s11_dBefore s11_fBefore s11_fFirst s11_weightMany s11_tailTold, aI cy (ad 41) 8 a11_steps, aI cy (ad 43) 16 a11_a, aI cy (ad 44) 4 a11_b, aI cy (ad 45) 4 a11_e, aI cy (ad 46) 4 a11_h, aJ cy (ad 48) 4 a11_least, aJ cy (ad 49) 4 a11_most, aJ cy (ad 56) 4 a11_now, aJ cy (ad 57) 4 a11_to, aI cy (ad 58) 3 a11_made] H → va_D A [oX11 ad s11_d s11_stepMany s11_kind s11_many s11_partMany s11_rule s11_ticks s11_hand s11_g s11_beganElsewhere s11_dBefore s11_fBefore s11_fFirst s11_weightMany s11_tailTold, aI cy (ad 41) 8 a11_steps, aI cy (ad 43) 16 a11_a, aI cy (ad 44) 4 a11_b, aI cy (ad 45) 4 a11_e, aI cy (ad 46) 4 a11_h, aJ cy (ad 48) 4 a11_least, aJ cy (ad 49) 4 a11_most, aJ cy (ad 56) 4 a11_now, aJ cy (ad 57) 4 a11_to, aI cy (ad 58) 3 a11_made] → va_S A s.heap H locs → W p l e rm_X11_kept_ s m ([.ref (ad 11), .int x1, .int x2] : List Value).toArray below meth c H locs 0 0 Q (F0 m 31 ls []) := by
          intro n31
          induction n31 with
          | zero => intro l5_5 l3_6 H locs ls hv; exact hv.elim
          | succ n31 ih31 =>
            intro l5_5 l3_6 H locs ls hv hl hP hD hS
            have hv : vB_X11_kept__31 s11_d s11_stepMany s11_kind s11_many s11_g a11_steps a11_a a11_b a11_e a11_h a11_least a11_most a11_now a11_to a11_made x1 x2 K (fun z0 z1 => vfix (vF_X11_kept__31 s11_d s11_stepMany s11_kind s11_many s11_g a11_steps a11_a a11_b a11_e a11_h a11_least a11_most a11_now a11_to a11_made x1 x2 K) n31 (z0, z1)) l5_5 l3_6 := hv
            unfold vB_X11_kept__31 at hv
            refine lv_iload hx hb dX11_kept__31 (lv_at hl 0 rfl) ?_
            refine lv_aload_n hx hb dX11_kept__33 rfl (lv_at hl 2 rfl) ?_
            refine va_get (D := D) (ci := 11) (v := .int s11_many) (C := RX11) (T := TX11) (N := 35) hx hb hts in_X11_kept__11 hown hK hP 0 rfl rfl 3 (by decide) (hts _ lk_X11_kept__16) (fun _ h9 => h9) rfl dX11_kept__34 ?_
            refine lv_icmp_ge (tgt := 93) hx hb dX11_kept__37 (by decide) (fun c_37 => ?_) (fun c_37 => ?_)
            · have hv := hv.1 c_37
              refine lv_lload_n hx hb dX11_kept__93 rfl (lv_at hl 1 rfl) ?_
              refine lv_ldc2 hx hb hown (hts _ lk_X11_kept__166) dX11_kept__94 ?_
              refine k_lc_le (tgt := 104) hx hb dX11_kept__97 dX11_kept__98 (by decide) (fun c_97 => ?_) (fun c_97 => ?_)
              · have hv := hv.1 c_97
                refine lv_lconst (v := 0) hx hb dX11_kept__104 (by decide) ?_
                refine lv_lstore (lv' := [(5, .long (0 : Int64)), (3, .long l3_6), (0, .ref (ad 11)), (1, .int x1), (2, .int x2)]) hx hb dX11_kept__105 hl (by decide) rfl (fun ls hl => ?_)
                have lp107 : ∀ (n107 : Nat) (l5_7 : Int64) (a11_now_8 : Nat → Int64) (a11_to_9 : Nat → Int64) (a11_made_10 : Nat → Int32) (H : Heap) (locs : List Loc) (ls : Array Slot), vfix (vF_X11_kept__107 s11_d s11_stepMany s11_kind s11_many s11_g a11_steps a11_a a11_b a11_e a11_h a11_least a11_most x1 x2 K l3_6) n107 (l5_7, a11_now_8, a11_to_9, a11_made_10) → lv_has ls 13 [(5, .long l5_7), (3, .long l3_6), (0, .ref (ad 11)), (1, .int x1), (2, .int x2)] → va_P D vwCl [oX11 ad s11_d s11_stepMany s11_kind s11_many s11_partMany s11_rule s11_ticks s11_hand s11_g s11_beganElsewhere s11_dBefore s11_fBefore s11_fFirst s11_weightMany s11_tailTold, aI cy (ad 41) 8 a11_steps, aI cy (ad 43) 16 a11_a, aI cy (ad 44) 4 a11_b, aI cy (ad 45) 4 a11_e, aI cy (ad 46) 4 a11_h, aJ cy (ad 48) 4 a11_least, aJ cy (ad 49) 4 a11_most, aJ cy (ad 56) 4 a11_now_8, aJ cy (ad 57) 4 a11_to_9, aI cy (ad 58) 3 a11_made_10] H → va_D A [oX11 ad s11_d s11_stepMany s11_kind s11_many s11_partMany s11_rule s11_ticks s11_hand s11_g s11_beganElsewhere s11_dBefore s11_fBefore s11_fFirst s11_weightMany s11_tailTold, aI cy (ad 41) 8 a11_steps, aI cy (ad 43) 16 a11_a, aI cy (ad 44) 4 a11_b, aI cy (ad 45) 4 a11_e, aI cy (ad 46) 4 a11_h, aJ cy (ad 48) 4 a11_least, aJ cy (ad 49) 4 a11_most, aJ cy (ad 56) 4 a11_now_8, aJ cy (ad 57) 4 a11_to_9, aI cy (ad 58) 3 a11_made_10] → va_S A s.heap H locs → W p l e rm_X11_kept_ s m ([.ref (ad 11), .int x1, .int x2] : List Value).toArray below meth c H locs 0 0 Q (F0 m 107 ls []) := by
                  intro n107
                  induction n107 with
                  | zero => intro l5_7 a11_now_8 a11_to_9 a11_made_10 H locs ls hv; exact hv.elim
                  | succ n107 ih107 =>
                    intro l5_7 a11_now_8 a11_to_9 a11_made_10 H locs ls hv hl hP hD hS
                    have hv : vB_X11_kept__107 s11_d s11_stepMany s11_kind s11_many s11_g a11_steps a11_a a11_b a11_e a11_h a11_least a11_most x1 x2 K l3_6 (fun z0 z1 z2 z3 => vfix (vF_X11_kept__107 s11_d s11_stepMany s11_kind s11_many s11_g a11_steps a11_a a11_b a11_e a11_h a11_least a11_most x1 x2 K l3_6) n107 (z0, z1, z2, z3)) l5_7 a11_now_8 a11_to_9 a11_made_10 := hv
                    unfold vB_X11_kept__107 at hv
                    refine lv_lload hx hb dX11_kept__107 (lv_at hl 0 rfl) ?_
                    refine lv_lload_n hx hb dX11_kept__109 rfl (lv_at hl 1 rfl) ?_
                    refine k_lc_ge (tgt := 297) hx hb dX11_kept__110 dX11_kept__111 (by decide) (fun c_110 => ?_) (fun c_110 => ?_)
                    · have hv := hv.1 c_110
                      refine lv_iconst (v := 1) hx hb dX11_kept__297 (by decide) ?_
                      rw [← hQ]
                      exact k_iret hx hb hr hlocks hS (a11_now_8, a11_to_9, a11_made_10) hP hD hv dX11_kept__298
                    · have hv := hv.2 c_110
                      refine lv_lload hx hb dX11_kept__114 (lv_at hl 0 rfl) ?_
                      refine lv_lstore (lv' := [(7, .long l5_7), (5, .long l5_7), (3, .long l3_6), (0, .ref (ad 11)), (1, .int x1), (2, .int x2)]) hx hb dX11_kept__116 hl (by decide) rfl (fun ls hl => ?_)
                      refine lv_iload_n hx hb dX11_kept__118 rfl (lv_at hl 4 rfl) ?_
                      refine lv_lload hx hb dX11_kept__119 (lv_at hl 0 rfl) ?_
                      refine lv_iload_n hx hb dX11_kept__121 rfl (lv_at hl 5 rfl) ?_
                      refine lv_iload_n hx hb dX11_kept__122 rfl (lv_at hl 4 rfl) ?_
                      refine lv_isub hx hb dX11_kept__123 ?_
                      refine lv_topi (fun e11 h_e11 => ?_)
                      have hv := hv e11 h_e11
                      refine lv_i2l hx hb dX11_kept__124 rfl ?_
                      refine lv_lconst (v := 1) hx hb dX11_kept__125 (by decide) ?_
                      refine lv_ladd hx hb dX11_kept__126 ?_
                      refine lv_topl (fun e12 h_e12 => ?_)
                      have hv := hv e12 h_e12
                      have hne := hv.1
                      have hv := hv.2
                      refine lv_lrem hx hb dX11_kept__127 hne ?_
                      refine lv_topl (fun e13 h_e13 => ?_)
                      have hv := hv e13 h_e13
                      refine lv_l2i hx hb dX11_kept__128 rfl ?_
                      refine lv_iadd hx hb dX11_kept__129 ?_
                      refine lv_topi (fun e14 h_e14 => ?_)
                      have hv := hv e14 h_e14
                      refine lv_istore (lv' := [(9, .int e14), (7, .long l5_7), (5, .long l5_7), (3, .long l3_6), (0, .ref (ad 11)), (1, .int x1), (2, .int x2)]) hx hb dX11_kept__130 hl (by decide) rfl (fun ls hl => ?_)
                      refine lv_lload hx hb dX11_kept__132 (lv_at hl 1 rfl) ?_
                      refine lv_iload_n hx hb dX11_kept__134 rfl (lv_at hl 6 rfl) ?_
                      refine lv_iload_n hx hb dX11_kept__135 rfl (lv_at hl 5 rfl) ?_
                      refine lv_isub hx hb dX11_kept__136 ?_
                      refine lv_topi (fun e15 h_e15 => ?_)
                      have hv := hv e15 h_e15
                      refine lv_i2l hx hb dX11_kept__137 rfl ?_
                      refine lv_lconst (v := 1) hx hb dX11_kept__138 (by decide) ?_
                      refine lv_ladd hx hb dX11_kept__139 ?_
                      refine lv_topl (fun e16 h_e16 => ?_)
                      have hv := hv e16 h_e16
                      have hne := hv.1
                      have hv := hv.2
                      refine lv_ldiv hx hb dX11_kept__140 hne ?_
                      refine lv_topl (fun e17 h_e17 => ?_)
                      have hv := hv e17 h_e17
                      refine lv_lstore (lv' := [(7, .long e17), (9, .int e14), (5, .long l5_7), (3, .long l3_6), (0, .ref (ad 11)), (1, .int x1), (2, .int x2)]) hx hb dX11_kept__141 hl (by decide) rfl (fun ls hl => ?_)
                      refine lv_iconst (v := 0) hx hb dX11_kept__143 (by decide) ?_
                      refine lv_istore (lv' := [(10, .int (0 : Int32)), (7, .long e17), (9, .int e14), (5, .long l5_7), (3, .long l3_6), (0, .ref (ad 11)), (1, .int x1), (2, .int x2)]) hx hb dX11_kept__144 hl (by decide) rfl (fun ls hl => ?_)
                      have lp146 : ∀ (n146 : Nat) (l10_18 : Int32) (l7_19 : Int64) (a11_now_20 : Nat → Int64) (H : Heap) (locs : List Loc) (ls : Array Slot), vfix (vF_X11_kept__146 s11_d s11_stepMany s11_kind s11_many s11_g a11_steps a11_a a11_b a11_e a11_h a11_least a11_most K l5_7 a11_to_9 a11_made_10 (fun z0 z1 z2 z3 => vfix (vF_X11_kept__107 s11_d s11_stepMany s11_kind s11_many s11_g a11_steps a11_a a11_b a11_e a11_h a11_least a11_most x1 x2 K l3_6) n107 (z0, z1, z2, z3)) e14) n146 (l10_18, l7_19, a11_now_20) → lv_has ls 13 [(10, .int l10_18), (7, .long l7_19), (9, .int e14), (5, .long l5_7), (3, .long l3_6), (0, .ref (ad 11)), (1, .int x1), (2, .int x2)] → va_P D vwCl [oX11 ad s11_d s11_stepMany s11_kind s11_many s11_partMany s11_rule s11_ticks s11_hand s11_g s11_beganElsewhere s11_dBefore s11_fBefore s11_fFirst s11_weightMany s11_tailTold, aI cy (ad 41) 8 a11_steps, aI cy (ad 43) 16 a11_a, aI cy (ad 44) 4 a11_b, aI cy (ad 45) 4 a11_e, aI cy (ad 46) 4 a11_h, aJ cy (ad 48) 4 a11_least, aJ cy (ad 49) 4 a11_most, aJ cy (ad 56) 4 a11_now_20, aJ cy (ad 57) 4 a11_to_9, aI cy (ad 58) 3 a11_made_10] H → va_D A [oX11 ad s11_d s11_stepMany s11_kind s11_many s11_partMany s11_rule s11_ticks s11_hand s11_g s11_beganElsewhere s11_dBefore s11_fBefore s11_fFirst s11_weightMany s11_tailTold, aI cy (ad 41) 8 a11_steps, aI cy (ad 43) 16 a11_a, aI cy (ad 44) 4 a11_b, aI cy (ad 45) 4 a11_e, aI cy (ad 46) 4 a11_h, aJ cy (ad 48) 4 a11_least, aJ cy (ad 49) 4 a11_most, aJ cy (ad 56) 4 a11_now_20, aJ cy (ad 57) 4 a11_to_9, aI cy (ad 58) 3 a11_made_10] → va_S A s.heap H locs → W p l e rm_X11_kept_ s m ([.ref (ad 11), .int x1, .int x2] : List Value).toArray below meth c H locs 0 0 Q (F0 m 146 ls []) := by
                        intro n146
                        induction n146 with
                        | zero => intro l10_18 l7_19 a11_now_20 H locs ls hv; exact hv.elim
                        | succ n146 ih146 =>
                          intro l10_18 l7_19 a11_now_20 H locs ls hv hl hP hD hS
                          have hv : vB_X11_kept__146 s11_d s11_stepMany s11_kind s11_many s11_g a11_steps a11_a a11_b a11_e a11_h a11_least a11_most K l5_7 a11_to_9 a11_made_10 (fun z0 z1 z2 z3 => vfix (vF_X11_kept__107 s11_d s11_stepMany s11_kind s11_many s11_g a11_steps a11_a a11_b a11_e a11_h a11_least a11_most x1 x2 K l3_6) n107 (z0, z1, z2, z3)) e14 (fun z0 z1 z2 => vfix (vF_X11_kept__146 s11_d s11_stepMany s11_kind s11_many s11_g a11_steps a11_a a11_b a11_e a11_h a11_least a11_most K l5_7 a11_to_9 a11_made_10 (fun z0 z1 z2 z3 => vfix (vF_X11_kept__107 s11_d s11_stepMany s11_kind s11_many s11_g a11_steps a11_a a11_b a11_e a11_h a11_least a11_most x1 x2 K l3_6) n107 (z0, z1, z2, z3)) e14) n146 (z0, z1, z2)) l10_18 l7_19 a11_now_20 := hv
                          unfold vB_X11_kept__146 at hv
                          refine lv_iload hx hb dX11_kept__146 (lv_at hl 0 rfl) ?_
                          refine lv_aload_n hx hb dX11_kept__148 rfl (lv_at hl 5 rfl) ?_
                          refine va_get (D := D) (ci := 11) (v := .int s11_many) (C := RX11) (T := TX11) (N := 35) hx hb hts in_X11_kept__11 hown hK hP 0 rfl rfl 3 (by decide) (hts _ lk_X11_kept__16) (fun _ h9 => h9) rfl dX11_kept__149 ?_
                          refine lv_icmp_ge (tgt := 207) hx hb dX11_kept__152 (by decide) (fun c_152 => ?_) (fun c_152 => ?_)
                          · have hv := hv.1 c_152
                            refine lv_aload_n hx hb dX11_kept__207 rfl (lv_at hl 5 rfl) ?_
                            refine lv_iload hx hb dX11_kept__208 (lv_at hl 2 rfl) ?_
                            have hPc := hP.sub (ws' := [oX11 ad s11_d s11_stepMany s11_kind s11_many s11_partMany s11_rule s11_ticks s11_hand s11_g s11_beganElsewhere s11_dBefore s11_fBefore s11_fFirst s11_weightMany s11_tailTold, aI cy (ad 41) 8 a11_steps, aI cy (ad 43) 16 a11_a, aI cy (ad 44) 4 a11_b, aI cy (ad 45) 4 a11_e, aI cy (ad 46) 4 a11_h, aJ cy (ad 56) 4 a11_now_20, aJ cy (ad 57) 4 a11_to_9, aI cy (ad 58) 3 a11_made_10]) [0, 1, 2, 3, 4, 5, 8, 9, 10] rfl
                            have hDc := hD.sub (ws' := [oX11 ad s11_d s11_stepMany s11_kind s11_many s11_partMany s11_rule s11_ticks s11_hand s11_g s11_beganElsewhere s11_dBefore s11_fBefore s11_fFirst s11_weightMany s11_tailTold, aI cy (ad 41) 8 a11_steps, aI cy (ad 43) 16 a11_a, aI cy (ad 44) 4 a11_b, aI cy (ad 45) 4 a11_e, aI cy (ad 46) 4 a11_h, aJ cy (ad 56) 4 a11_now_20, aJ cy (ad 57) 4 a11_to_9, aI cy (ad 58) 3 a11_made_10]) [0, 1, 2, 3, 4, 5, 8, 9, 10] (by decide) rfl
                            refine k_cali (wc := [oX11 ad s11_d s11_stepMany s11_kind s11_many s11_partMany s11_rule s11_ticks s11_hand s11_g s11_beganElsewhere s11_dBefore s11_fBefore s11_fFirst s11_weightMany s11_tailTold, aI cy (ad 41) 8 a11_steps, aI cy (ad 43) 16 a11_a, aI cy (ad 44) 4 a11_b, aI cy (ad 45) 4 a11_e, aI cy (ad 46) 4 a11_h, aJ cy (ad 56) 4 a11_now_20, aJ cy (ad 57) 4 a11_to_9, aI cy (ad 58) 3 a11_made_10]) (wr := [aJ cy (ad 48) 4 a11_least, aJ cy (ad 49) 4 a11_most]) (va_runV (As := [.int e14]) (rest := []) ⟨hx, hb, hml, hown, hts⟩ (m_X11_next l D cy ad s11_d s11_stepMany s11_kind s11_many s11_partMany s11_rule s11_ticks s11_hand s11_g s11_beganElsewhere s11_dBefore s11_fBefore s11_fFirst s11_weightMany s11_tailTold a11_steps a11_a a11_b a11_e a11_h a11_now_20 a11_to_9 a11_made_10 e14 H.size hv) (cwV 1 hts gX11_kept__X11_next rfl rfl rfl (by decide +kernel) ⟨Nat.le_of_ble_eq_true rfl, Nat.le_of_ble_eq_true rfl⟩) ⟨wd_blind, va_recv hK hPc (ci := 11) (q0 := 0) rfl rfl, wd_ok hPc hK hDc hN⟩ rfl rfl hl.1 rfl (lv_room (Nat.le_of_ble_eq_true rfl)) dX11_kept__210 ⟨Nat.le_of_ble_eq_true rfl, Nat.le_of_ble_eq_true rfl⟩) hP hD hS hA [0, 1, 2, 3, 4, 5, 8, 9, 10] [6, 7] rfl rfl (by decide) (by decide) (fun r21 u H locs hv hP hD hS => ?_)
                            obtain ⟨a11_to_22, a11_made_23⟩ := u
                            obtain ⟨hz_r21, hv⟩ := hv
                            have hP : va_P D vwCl [oX11 ad s11_d s11_stepMany s11_kind s11_many s11_partMany s11_rule s11_ticks s11_hand s11_g s11_beganElsewhere s11_dBefore s11_fBefore s11_fFirst s11_weightMany s11_tailTold, aI cy (ad 41) 8 a11_steps, aI cy (ad 43) 16 a11_a, aI cy (ad 44) 4 a11_b, aI cy (ad 45) 4 a11_e, aI cy (ad 46) 4 a11_h, aJ cy (ad 48) 4 a11_least, aJ cy (ad 49) 4 a11_most, aJ cy (ad 56) 4 a11_now_20, aJ cy (ad 57) 4 a11_to_22, aI cy (ad 58) 3 a11_made_23] H := hP.sub [2, 3, 4, 5, 6, 7, 0, 1, 8, 9, 10] rfl
                            have hD : va_D A [oX11 ad s11_d s11_stepMany s11_kind s11_many s11_partMany s11_rule s11_ticks s11_hand s11_g s11_beganElsewhere s11_dBefore s11_fBefore s11_fFirst s11_weightMany s11_tailTold, aI cy (ad 41) 8 a11_steps, aI cy (ad 43) 16 a11_a, aI cy (ad 44) 4 a11_b, aI cy (ad 45) 4 a11_e, aI cy (ad 46) 4 a11_h, aJ cy (ad 48) 4 a11_least, aJ cy (ad 49) 4 a11_most, aJ cy (ad 56) 4 a11_now_20, aJ cy (ad 57) 4 a11_to_22, aI cy (ad 58) 3 a11_made_23] := hD.sub [2, 3, 4, 5, 6, 7, 0, 1, 8, 9, 10] (by decide) rfl
                            refine lv_istore (lv' := [(10, .int r21), (7, .long l7_19), (9, .int e14), (5, .long l5_7), (3, .long l3_6), (0, .ref (ad 11)), (1, .int x1), (2, .int x2)]) hx hb dX11_kept__213 hl (by decide) rfl (fun ls hl => ?_)
                            refine lv_iconst (v := 0) hx hb dX11_kept__215 (by decide) ?_
                            refine lv_istore (lv' := [(11, .int (0 : Int32)), (10, .int r21), (7, .long l7_19), (9, .int e14), (5, .long l5_7), (3, .long l3_6), (0, .ref (ad 11)), (1, .int x1), (2, .int x2)]) hx hb dX11_kept__216 hl (by decide) rfl (fun ls hl => ?_)
                            have lp218 : ∀ (n218 : Nat) (l11_24 : Int32) (l10_25 : Int32) (H : Heap) (locs : List Loc) (ls : Array Slot), vfix (vF_X11_kept__218 s11_many a11_least a11_most K l5_7 (fun z0 z1 z2 z3 => vfix (vF_X11_kept__107 s11_d s11_stepMany s11_kind s11_many s11_g a11_steps a11_a a11_b a11_e a11_h a11_least a11_most x1 x2 K l3_6) n107 (z0, z1, z2, z3)) a11_now_20 a11_to_22 a11_made_23) n218 (l11_24, l10_25) → lv_has ls 13 [(11, .int l11_24), (10, .int l10_25), (5, .long l5_7), (3, .long l3_6), (0, .ref (ad 11)), (1, .int x1), (2, .int x2)] → va_P D vwCl [oX11 ad s11_d s11_stepMany s11_kind s11_many s11_partMany s11_rule s11_ticks s11_hand s11_g s11_beganElsewhere s11_dBefore s11_fBefore s11_fFirst s11_weightMany s11_tailTold, aI cy (ad 41) 8 a11_steps, aI cy (ad 43) 16 a11_a, aI cy (ad 44) 4 a11_b, aI cy (ad 45) 4 a11_e, aI cy (ad 46) 4 a11_h, aJ cy (ad 48) 4 a11_least, aJ cy (ad 49) 4 a11_most, aJ cy (ad 56) 4 a11_now_20, aJ cy (ad 57) 4 a11_to_22, aI cy (ad 58) 3 a11_made_23] H → va_D A [oX11 ad s11_d s11_stepMany s11_kind s11_many s11_partMany s11_rule s11_ticks s11_hand s11_g s11_beganElsewhere s11_dBefore s11_fBefore s11_fFirst s11_weightMany s11_tailTold, aI cy (ad 41) 8 a11_steps, aI cy (ad 43) 16 a11_a, aI cy (ad 44) 4 a11_b, aI cy (ad 45) 4 a11_e, aI cy (ad 46) 4 a11_h, aJ cy (ad 48) 4 a11_least, aJ cy (ad 49) 4 a11_most, aJ cy (ad 56) 4 a11_now_20, aJ cy (ad 57) 4 a11_to_22, aI cy (ad 58) 3 a11_made_23] → va_S A s.heap H locs → W p l e rm_X11_kept_ s m ([.ref (ad 11), .int x1, .int x2] : List Value).toArray below meth c H locs 0 0 Q (F0 m 218 ls []) := by
                              intro n218
                              induction n218 with
                              | zero => intro l11_24 l10_25 H locs ls hv; exact hv.elim
                              | succ n218 ih218 =>
                                intro l11_24 l10_25 H locs ls hv hl hP hD hS
                                have hv : vB_X11_kept__218 s11_many a11_least a11_most K l5_7 (fun z0 z1 z2 z3 => vfix (vF_X11_kept__107 s11_d s11_stepMany s11_kind s11_many s11_g a11_steps a11_a a11_b a11_e a11_h a11_least a11_most x1 x2 K l3_6) n107 (z0, z1, z2, z3)) a11_now_20 a11_to_22 a11_made_23 (fun z0 z1 => vfix (vF_X11_kept__218 s11_many a11_least a11_most K l5_7 (fun z0 z1 z2 z3 => vfix (vF_X11_kept__107 s11_d s11_stepMany s11_kind s11_many s11_g a11_steps a11_a a11_b a11_e a11_h a11_least a11_most x1 x2 K l3_6) n107 (z0, z1, z2, z3)) a11_now_20 a11_to_22 a11_made_23) n218 (z0, z1)) l11_24 l10_25 := hv
                                unfold vB_X11_kept__218 at hv
                                refine lv_iload hx hb dX11_kept__218 (lv_at hl 0 rfl) ?_
                                refine lv_aload_n hx hb dX11_kept__220 rfl (lv_at hl 4 rfl) ?_
                                refine va_get (D := D) (ci := 11) (v := .int s11_many) (C := RX11) (T := TX11) (N := 35) hx hb hts in_X11_kept__11 hown hK hP 0 rfl rfl 3 (by decide) (hts _ lk_X11_kept__16) (fun _ h9 => h9) rfl dX11_kept__221 ?_
                                have jn281 : ∀ (H : Heap) (locs : List Loc) (ls : Array Slot), vJ_X11_kept__281 K l5_7 (fun z0 z1 z2 z3 => vfix (vF_X11_kept__107 s11_d s11_stepMany s11_kind s11_many s11_g a11_steps a11_a a11_b a11_e a11_h a11_least a11_most x1 x2 K l3_6) n107 (z0, z1, z2, z3)) a11_now_20 a11_to_22 a11_made_23 l10_25 → lv_has ls 13 [(10, .int l10_25), (5, .long l5_7), (3, .long l3_6), (0, .ref (ad 11)), (1, .int x1), (2, .int x2)] → va_P D vwCl [oX11 ad s11_d s11_stepMany s11_kind s11_many s11_partMany s11_rule s11_ticks s11_hand s11_g s11_beganElsewhere s11_dBefore s11_fBefore s11_fFirst s11_weightMany s11_tailTold, aI cy (ad 41) 8 a11_steps, aI cy (ad 43) 16 a11_a, aI cy (ad 44) 4 a11_b, aI cy (ad 45) 4 a11_e, aI cy (ad 46) 4 a11_h, aJ cy (ad 48) 4 a11_least, aJ cy (ad 49) 4 a11_most, aJ cy (ad 56) 4 a11_now_20, aJ cy (ad 57) 4 a11_to_22, aI cy (ad 58) 3 a11_made_23] H → va_D A [oX11 ad s11_d s11_stepMany s11_kind s11_many s11_partMany s11_rule s11_ticks s11_hand s11_g s11_beganElsewhere s11_dBefore s11_fBefore s11_fFirst s11_weightMany s11_tailTold, aI cy (ad 41) 8 a11_steps, aI cy (ad 43) 16 a11_a, aI cy (ad 44) 4 a11_b, aI cy (ad 45) 4 a11_e, aI cy (ad 46) 4 a11_h, aJ cy (ad 48) 4 a11_least, aJ cy (ad 49) 4 a11_most, aJ cy (ad 56) 4 a11_now_20, aJ cy (ad 57) 4 a11_to_22, aI cy (ad 58) 3 a11_made_23] → va_S A s.heap H locs → W p l e rm_X11_kept_ s m ([.ref (ad 11), .int x1, .int x2] : List Value).toArray below meth c H locs 0 0 Q (F0 m 281 ls []) := by
                                  intro H locs ls hv hl hP hD hS
                                  unfold vJ_X11_kept__281 at hv
                                  refine lv_iload hx hb dX11_kept__281 (lv_at hl 0 rfl) ?_
                                  refine lv_if_ne (tgt := 288) hx hb dX11_kept__283 (by decide) (fun c_283 => ?_) (fun c_283 => ?_)
                                  · have hv := hv.1 c_283
                                    refine lv_lload hx hb dX11_kept__288 (lv_at hl 1 rfl) ?_
                                    refine lv_lconst (v := 1) hx hb dX11_kept__290 (by decide) ?_
                                    refine lv_ladd hx hb dX11_kept__291 ?_
                                    refine lv_topl (fun e26 h_e26 => ?_)
                                    have hv := hv e26 h_e26
                                    refine lv_lstore (lv' := [(5, .long e26), (10, .int l10_25), (3, .long l3_6), (0, .ref (ad 11)), (1, .int x1), (2, .int x2)]) hx hb dX11_kept__292 hl (by decide) rfl (fun ls hl => ?_)
                                    refine lv_goto (tgt := 107) hx hb dX11_kept__294 (by decide) ?_
                                    exact ih107 e26 a11_now_20 a11_to_22 a11_made_23 H locs ls hv (lv_sub hl [0, 2, 3, 4, 5] rfl) hP hD hS
                                  · have hv := hv.2 c_283
                                    refine lv_iconst (v := 0) hx hb dX11_kept__286 (by decide) ?_
                                    rw [← hQ]
                                    exact k_iret hx hb hr hlocks hS (a11_now_20, a11_to_22, a11_made_23) hP hD hv dX11_kept__287
                                refine lv_icmp_ge (tgt := 281) hx hb dX11_kept__224 (by decide) (fun c_224 => ?_) (fun c_224 => ?_)
                                · have hv := hv.1 c_224
                                  exact jn281  H locs ls hv (lv_sub hl [1, 2, 3, 4, 5, 6] rfl) hP hD hS
                                · have hv := hv.2 c_224
                                  refine lv_iload hx hb dX11_kept__227 (lv_at hl 1 rfl) ?_
                                  refine lv_if_eq (tgt := 281) hx hb dX11_kept__229 (by decide) (fun c_229 => ?_) (fun c_229 => ?_)
                                  · have hv := hv.1 c_229
                                    exact jn281  H locs ls hv (lv_sub hl [1, 2, 3, 4, 5, 6] rfl) hP hD hS
                                  · have hv := hv.2 c_229
                                    refine lv_aload_n hx hb dX11_kept__232 rfl (lv_at hl 4 rfl) ?_
                                    refine va_get (D := D) (ci := 11) (v := .ref (ad 57)) (C := RX11) (T := TX11) (N := 35) hx hb hts in_X11_kept__11 hown hK hP 0 rfl rfl 31 (by decide) (hts _ lk_X11_kept__69) (fun _ h9 => h9) rfl dX11_kept__233 ?_
                                    refine lv_iload hx hb dX11_kept__236 (lv_at hl 0 rfl) ?_
                                    refine va_lald hx hb hK hP 9 1 rfl rfl hv.1 dX11_kept__238 ?_
                                    refine lv_topl (fun g27 h_g27 => ?_)
                                    have hv := hv.2 g27 h_g27
                                    refine lv_aload_n hx hb dX11_kept__239 rfl (lv_at hl 4 rfl) ?_
                                    refine va_get (D := D) (ci := 11) (v := .ref (ad 48)) (C := RX11) (T := TX11) (N := 35) hx hb hts in_X11_kept__11 hown hK hP 0 rfl rfl 16 (by decide) (hts _ lk_X11_kept__42) (fun _ h9 => h9) rfl dX11_kept__240 ?_
                                    refine lv_iload hx hb dX11_kept__243 (lv_at hl 0 rfl) ?_
                                    refine va_lald hx hb hK hP 6 1 rfl rfl hv.1 dX11_kept__245 ?_
                                    refine lv_topl (fun g28 h_g28 => ?_)
                                    have hv := hv.2 g28 h_g28
                                    have jn273 : ∀ (t29 : Int32) (H : Heap) (locs : List Loc) (ls : Array Slot), vJ_X11_kept__273 l11_24 (fun z0 z1 => vfix (vF_X11_kept__218 s11_many a11_least a11_most K l5_7 (fun z0 z1 z2 z3 => vfix (vF_X11_kept__107 s11_d s11_stepMany s11_kind s11_many s11_g a11_steps a11_a a11_b a11_e a11_h a11_least a11_most x1 x2 K l3_6) n107 (z0, z1, z2, z3)) a11_now_20 a11_to_22 a11_made_23) n218 (z0, z1)) t29 → lv_has ls 13 [(11, .int l11_24), (5, .long l5_7), (3, .long l3_6), (0, .ref (ad 11)), (1, .int x1), (2, .int x2)] → va_P D vwCl [oX11 ad s11_d s11_stepMany s11_kind s11_many s11_partMany s11_rule s11_ticks s11_hand s11_g s11_beganElsewhere s11_dBefore s11_fBefore s11_fFirst s11_weightMany s11_tailTold, aI cy (ad 41) 8 a11_steps, aI cy (ad 43) 16 a11_a, aI cy (ad 44) 4 a11_b, aI cy (ad 45) 4 a11_e, aI cy (ad 46) 4 a11_h, aJ cy (ad 48) 4 a11_least, aJ cy (ad 49) 4 a11_most, aJ cy (ad 56) 4 a11_now_20, aJ cy (ad 57) 4 a11_to_22, aI cy (ad 58) 3 a11_made_23] H → va_D A [oX11 ad s11_d s11_stepMany s11_kind s11_many s11_partMany s11_rule s11_ticks s11_hand s11_g s11_beganElsewhere s11_dBefore s11_fBefore s11_fFirst s11_weightMany s11_tailTold, aI cy (ad 41) 8 a11_steps, aI cy (ad 43) 16 a11_a, aI cy (ad 44) 4 a11_b, aI cy (ad 45) 4 a11_e, aI cy (ad 46) 4 a11_h, aJ cy (ad 48) 4 a11_least, aJ cy (ad 49) 4 a11_most, aJ cy (ad 56) 4 a11_now_20, aJ cy (ad 57) 4 a11_to_22, aI cy (ad 58) 3 a11_made_23] → va_S A s.heap H locs → W p l e rm_X11_kept_ s m ([.ref (ad 11), .int x1, .int x2] : List Value).toArray below meth c H locs 0 0 Q (F0 m 273 ls [.int t29]) := by
                                      intro t29 H locs ls hv hl hP hD hS
                                      unfold vJ_X11_kept__273 at hv
                                      refine lv_istore (lv' := [(10, .int t29), (11, .int l11_24), (5, .long l5_7), (3, .long l3_6), (0, .ref (ad 11)), (1, .int x1), (2, .int x2)]) hx hb dX11_kept__273 hl (by decide) rfl (fun ls hl => ?_)
                                      obtain ⟨i30, h_i30⟩ : ∃ y : Int32, y = l11_24 + 1 := ⟨_, rfl⟩
                                      refine lv_iinc (v := i30) (lv' := [(11, .int i30), (10, .int t29), (5, .long l5_7), (3, .long l3_6), (0, .ref (ad 11)), (1, .int x1), (2, .int x2)]) hx hb dX11_kept__275 hl (k := 1) rfl (by rw [h_i30]; rfl) (by decide) rfl (fun ls hl => ?_)
                                      have hv := hv i30 h_i30
                                      refine lv_goto (tgt := 218) hx hb dX11_kept__278 (by decide) ?_
                                      exact ih218 i30 t29 H locs ls hv (lv_sub hl [0, 1, 2, 3, 4, 5, 6] rfl) hP hD hS
                                    have jn272 : ∀ (H : Heap) (locs : List Loc) (ls : Array Slot), vJ_X11_kept__272 l11_24 (fun z0 z1 => vfix (vF_X11_kept__218 s11_many a11_least a11_most K l5_7 (fun z0 z1 z2 z3 => vfix (vF_X11_kept__107 s11_d s11_stepMany s11_kind s11_many s11_g a11_steps a11_a a11_b a11_e a11_h a11_least a11_most x1 x2 K l3_6) n107 (z0, z1, z2, z3)) a11_now_20 a11_to_22 a11_made_23) n218 (z0, z1)) → lv_has ls 13 [(11, .int l11_24), (5, .long l5_7), (3, .long l3_6), (0, .ref (ad 11)), (1, .int x1), (2, .int x2)] → va_P D vwCl [oX11 ad s11_d s11_stepMany s11_kind s11_many s11_partMany s11_rule s11_ticks s11_hand s11_g s11_beganElsewhere s11_dBefore s11_fBefore s11_fFirst s11_weightMany s11_tailTold, aI cy (ad 41) 8 a11_steps, aI cy (ad 43) 16 a11_a, aI cy (ad 44) 4 a11_b, aI cy (ad 45) 4 a11_e, aI cy (ad 46) 4 a11_h, aJ cy (ad 48) 4 a11_least, aJ cy (ad 49) 4 a11_most, aJ cy (ad 56) 4 a11_now_20, aJ cy (ad 57) 4 a11_to_22, aI cy (ad 58) 3 a11_made_23] H → va_D A [oX11 ad s11_d s11_stepMany s11_kind s11_many s11_partMany s11_rule s11_ticks s11_hand s11_g s11_beganElsewhere s11_dBefore s11_fBefore s11_fFirst s11_weightMany s11_tailTold, aI cy (ad 41) 8 a11_steps, aI cy (ad 43) 16 a11_a, aI cy (ad 44) 4 a11_b, aI cy (ad 45) 4 a11_e, aI cy (ad 46) 4 a11_h, aJ cy (ad 48) 4 a11_least, aJ cy (ad 49) 4 a11_most, aJ cy (ad 56) 4 a11_now_20, aJ cy (ad 57) 4 a11_to_22, aI cy (ad 58) 3 a11_made_23] → va_S A s.heap H locs → W p l e rm_X11_kept_ s m ([.ref (ad 11), .int x1, .int x2] : List Value).toArray below meth c H locs 0 0 Q (F0 m 272 ls []) := by
                                      intro H locs ls hv hl hP hD hS
                                      unfold vJ_X11_kept__272 at hv
                                      refine lv_iconst (v := 0) hx hb dX11_kept__272 (by decide) ?_
                                      exact jn273 (0 : Int32) H locs ls hv (lv_sub hl [0, 1, 2, 3, 4, 5] rfl) hP hD hS
                                    refine k_lc_lt (tgt := 272) hx hb dX11_kept__246 dX11_kept__247 (by decide) (fun c_246 => ?_) (fun c_246 => ?_)
                                    · have hv := hv.1 c_246
                                      exact jn272  H locs ls hv (lv_sub hl [0, 2, 3, 4, 5, 6] rfl) hP hD hS
                                    · have hv := hv.2 c_246
                                      refine lv_aload_n hx hb dX11_kept__250 rfl (lv_at hl 4 rfl) ?_
                                      refine va_get (D := D) (ci := 11) (v := .ref (ad 57)) (C := RX11) (T := TX11) (N := 35) hx hb hts in_X11_kept__11 hown hK hP 0 rfl rfl 31 (by decide) (hts _ lk_X11_kept__69) (fun _ h9 => h9) rfl dX11_kept__251 ?_
                                      refine lv_iload hx hb dX11_kept__254 (lv_at hl 0 rfl) ?_
                                      refine va_lald hx hb hK hP 9 1 rfl rfl hv.1 dX11_kept__256 ?_
                                      refine lv_topl (fun g31 h_g31 => ?_)
                                      have hv := hv.2 g31 h_g31
                                      refine lv_aload_n hx hb dX11_kept__257 rfl (lv_at hl 4 rfl) ?_
                                      refine va_get (D := D) (ci := 11) (v := .ref (ad 49)) (C := RX11) (T := TX11) (N := 35) hx hb hts in_X11_kept__11 hown hK hP 0 rfl rfl 17 (by decide) (hts _ lk_X11_kept__45) (fun _ h9 => h9) rfl dX11_kept__258 ?_
                                      refine lv_iload hx hb dX11_kept__261 (lv_at hl 0 rfl) ?_
                                      refine va_lald hx hb hK hP 7 1 rfl rfl hv.1 dX11_kept__263 ?_
                                      refine lv_topl (fun g32 h_g32 => ?_)
                                      have hv := hv.2 g32 h_g32
                                      refine k_lc_gt (tgt := 272) hx hb dX11_kept__264 dX11_kept__265 (by decide) (fun c_264 => ?_) (fun c_264 => ?_)
                                      · have hv := hv.1 c_264
                                        exact jn272  H locs ls hv (lv_sub hl [0, 2, 3, 4, 5, 6] rfl) hP hD hS
                                      · have hv := hv.2 c_264
                                        refine lv_iconst (v := 1) hx hb dX11_kept__268 (by decide) ?_
                                        refine lv_goto (tgt := 273) hx hb dX11_kept__269 (by decide) ?_
                                        exact jn273 (1 : Int32) H locs ls hv (lv_sub hl [0, 2, 3, 4, 5, 6] rfl) hP hD hS
                            obtain ⟨nn, hv⟩ := hv
                            exact lp218 nn (0 : Int32) r21 H locs ls hv (lv_sub hl [0, 1, 4, 5, 6, 7, 8] rfl) hP hD hS
                          · have hv := hv.2 c_152
                            refine lv_aload_n hx hb dX11_kept__155 rfl (lv_at hl 5 rfl) ?_
                            refine va_get (D := D) (ci := 11) (v := .ref (ad 49)) (C := RX11) (T := TX11) (N := 35) hx hb hts in_X11_kept__11 hown hK hP 0 rfl rfl 17 (by decide) (hts _ lk_X11_kept__45) (fun _ h9 => h9) rfl dX11_kept__156 ?_
                            refine lv_iload hx hb dX11_kept__159 (lv_at hl 0 rfl) ?_
                            refine va_lald hx hb hK hP 7 1 rfl rfl hv.1 dX11_kept__161 ?_
                            refine lv_topl (fun g33 h_g33 => ?_)
                            have hv := hv.2 g33 h_g33
                            refine lv_aload_n hx hb dX11_kept__162 rfl (lv_at hl 5 rfl) ?_
                            refine va_get (D := D) (ci := 11) (v := .ref (ad 48)) (C := RX11) (T := TX11) (N := 35) hx hb hts in_X11_kept__11 hown hK hP 0 rfl rfl 16 (by decide) (hts _ lk_X11_kept__42) (fun _ h9 => h9) rfl dX11_kept__163 ?_
                            refine lv_iload hx hb dX11_kept__166 (lv_at hl 0 rfl) ?_
                            refine va_lald hx hb hK hP 6 1 rfl rfl hv.1 dX11_kept__168 ?_
                            refine lv_topl (fun g34 h_g34 => ?_)
                            have hv := hv.2 g34 h_g34
                            refine lv_lsub hx hb dX11_kept__169 ?_
                            refine lv_topl (fun e35 h_e35 => ?_)
                            have hv := hv e35 h_e35
                            refine lv_lconst (v := 1) hx hb dX11_kept__170 (by decide) ?_
                            refine lv_ladd hx hb dX11_kept__171 ?_
                            refine lv_topl (fun e36 h_e36 => ?_)
                            have hv := hv e36 h_e36
                            refine lv_lstore (lv' := [(11, .long e36), (10, .int l10_18), (7, .long l7_19), (9, .int e14), (5, .long l5_7), (3, .long l3_6), (0, .ref (ad 11)), (1, .int x1), (2, .int x2)]) hx hb dX11_kept__172 hl (by decide) rfl (fun ls hl => ?_)
                            refine lv_aload_n hx hb dX11_kept__174 rfl (lv_at hl 6 rfl) ?_
                            refine va_get (D := D) (ci := 11) (v := .ref (ad 56)) (C := RX11) (T := TX11) (N := 35) hx hb hts in_X11_kept__11 hown hK hP 0 rfl rfl 30 (by decide) (hts _ lk_X11_kept__66) (fun _ h9 => h9) rfl dX11_kept__175 ?_
                            refine lv_iload hx hb dX11_kept__178 (lv_at hl 1 rfl) ?_
                            refine lv_aload_n hx hb dX11_kept__180 rfl (lv_at hl 6 rfl) ?_
                            refine va_get (D := D) (ci := 11) (v := .ref (ad 48)) (C := RX11) (T := TX11) (N := 35) hx hb hts in_X11_kept__11 hown hK hP 0 rfl rfl 16 (by decide) (hts _ lk_X11_kept__42) (fun _ h9 => h9) rfl dX11_kept__181 ?_
                            refine lv_iload hx hb dX11_kept__184 (lv_at hl 1 rfl) ?_
                            refine va_lald hx hb hK hP 6 1 rfl rfl hv.1 dX11_kept__186 ?_
                            refine lv_topl (fun g37 h_g37 => ?_)
                            have hv := hv.2 g37 h_g37
                            refine lv_lload hx hb dX11_kept__187 (lv_at hl 2 rfl) ?_
                            refine lv_lload hx hb dX11_kept__189 (lv_at hl 0 rfl) ?_
                            have hne := hv.1
                            have hv := hv.2
                            refine lv_lrem hx hb dX11_kept__191 hne ?_
                            refine lv_topl (fun e38 h_e38 => ?_)
                            have hv := hv e38 h_e38
                            refine lv_ladd hx hb dX11_kept__192 ?_
                            refine lv_topl (fun e39 h_e39 => ?_)
                            have hv := hv e39 h_e39
                            refine k_last hx hb hK hP hD hS 8 1 rfl rfl hv.1 dX11_kept__193 (fun a11_now_40 H locs h_a11_now_40 hP hD hS => ?_)
                            have hv := hv.2 a11_now_40 h_a11_now_40
                            have hP : va_P D vwCl [oX11 ad s11_d s11_stepMany s11_kind s11_many s11_partMany s11_rule s11_ticks s11_hand s11_g s11_beganElsewhere s11_dBefore s11_fBefore s11_fFirst s11_weightMany s11_tailTold, aI cy (ad 41) 8 a11_steps, aI cy (ad 43) 16 a11_a, aI cy (ad 44) 4 a11_b, aI cy (ad 45) 4 a11_e, aI cy (ad 46) 4 a11_h, aJ cy (ad 48) 4 a11_least, aJ cy (ad 49) 4 a11_most, aJ cy (ad 56) 4 a11_now_40, aJ cy (ad 57) 4 a11_to_9, aI cy (ad 58) 3 a11_made_10] H := hP
                            have hD : va_D A [oX11 ad s11_d s11_stepMany s11_kind s11_many s11_partMany s11_rule s11_ticks s11_hand s11_g s11_beganElsewhere s11_dBefore s11_fBefore s11_fFirst s11_weightMany s11_tailTold, aI cy (ad 41) 8 a11_steps, aI cy (ad 43) 16 a11_a, aI cy (ad 44) 4 a11_b, aI cy (ad 45) 4 a11_e, aI cy (ad 46) 4 a11_h, aJ cy (ad 48) 4 a11_least, aJ cy (ad 49) 4 a11_most, aJ cy (ad 56) 4 a11_now_40, aJ cy (ad 57) 4 a11_to_9, aI cy (ad 58) 3 a11_made_10] := hD
                            refine lv_lload hx hb dX11_kept__194 (lv_at hl 2 rfl) ?_
                            refine lv_lload hx hb dX11_kept__196 (lv_at hl 0 rfl) ?_
                            have hne := hv.1
                            have hv := hv.2
                            refine lv_ldiv hx hb dX11_kept__198 hne ?_
                            refine lv_topl (fun e41 h_e41 => ?_)
                            have hv := hv e41 h_e41
                            refine lv_lstore (lv' := [(7, .long e41), (11, .long e36), (10, .int l10_18), (9, .int e14), (5, .long l5_7), (3, .long l3_6), (0, .ref (ad 11)), (1, .int x1), (2, .int x2)]) hx hb dX11_kept__199 hl (by decide) rfl (fun ls hl => ?_)
                            obtain ⟨i42, h_i42⟩ : ∃ y : Int32, y = l10_18 + 1 := ⟨_, rfl⟩
                            refine lv_iinc (v := i42) (lv' := [(10, .int i42), (7, .long e41), (11, .long e36), (9, .int e14), (5, .long l5_7), (3, .long l3_6), (0, .ref (ad 11)), (1, .int x1), (2, .int x2)]) hx hb dX11_kept__201 hl (k := 2) rfl (by rw [h_i42]; rfl) (by decide) rfl (fun ls hl => ?_)
                            have hv := hv i42 h_i42
                            refine lv_goto (tgt := 146) hx hb dX11_kept__204 (by decide) ?_
                            exact ih146 i42 e41 a11_now_40 H locs ls hv (lv_sub hl [0, 1, 3, 4, 5, 6, 7, 8] rfl) hP hD hS
                      obtain ⟨nn, hv⟩ := hv
                      exact lp146 nn (0 : Int32) e17 a11_now_8 H locs ls hv (lv_sub hl [0, 1, 2, 3, 4, 5, 6, 7] rfl) hP hD hS
                obtain ⟨nn, hv⟩ := hv
                exact lp107 nn (0 : Int64) a11_now a11_to a11_made H locs ls hv (lv_sub hl [0, 1, 2, 3, 4] rfl) hP hD hS
              · have hv := hv.2 c_97
                refine lv_bipush (v := -2) hx hb dX11_kept__101 (by decide) ?_
                rw [← hQ]
                exact k_iret hx hb hr hlocks hS (a11_now, a11_to, a11_made) hP hD hv dX11_kept__103
            · have hv := hv.2 c_37
              refine lv_aload_n hx hb dX11_kept__40 rfl (lv_at hl 2 rfl) ?_
              refine va_get (D := D) (ci := 11) (v := .ref (ad 49)) (C := RX11) (T := TX11) (N := 35) hx hb hts in_X11_kept__11 hown hK hP 0 rfl rfl 17 (by decide) (hts _ lk_X11_kept__45) (fun _ h9 => h9) rfl dX11_kept__41 ?_
              refine lv_iload hx hb dX11_kept__44 (lv_at hl 0 rfl) ?_
              refine va_lald hx hb hK hP 7 1 rfl rfl hv.1 dX11_kept__46 ?_
              refine lv_topl (fun g43 h_g43 => ?_)
              have hv := hv.2 g43 h_g43
              refine lv_aload_n hx hb dX11_kept__47 rfl (lv_at hl 2 rfl) ?_
              refine va_get (D := D) (ci := 11) (v := .ref (ad 48)) (C := RX11) (T := TX11) (N := 35) hx hb hts in_X11_kept__11 hown hK hP 0 rfl rfl 16 (by decide) (hts _ lk_X11_kept__42) (fun _ h9 => h9) rfl dX11_kept__48 ?_
              refine lv_iload hx hb dX11_kept__51 (lv_at hl 0 rfl) ?_
              refine va_lald hx hb hK hP 6 1 rfl rfl hv.1 dX11_kept__53 ?_
              refine lv_topl (fun g44 h_g44 => ?_)
              have hv := hv.2 g44 h_g44
              refine lv_lsub hx hb dX11_kept__54 ?_
              refine lv_topl (fun e45 h_e45 => ?_)
              have hv := hv e45 h_e45
              refine lv_lconst (v := 1) hx hb dX11_kept__55 (by decide) ?_
              refine lv_ladd hx hb dX11_kept__56 ?_
              refine lv_topl (fun e46 h_e46 => ?_)
              have hv := hv e46 h_e46
              refine lv_lstore (lv' := [(6, .long e46), (5, .int l5_5), (3, .long l3_6), (0, .ref (ad 11)), (1, .int x1), (2, .int x2)]) hx hb dX11_kept__57 hl (by decide) rfl (fun ls hl => ?_)
              refine lv_lload hx hb dX11_kept__59 (lv_at hl 0 rfl) ?_
              refine lv_ldc2 hx hb hown (hts _ lk_X11_kept__166) dX11_kept__61 ?_
              refine k_lc_gt (tgt := 79) hx hb dX11_kept__64 dX11_kept__65 (by decide) (fun c_64 => ?_) (fun c_64 => ?_)
              · have hv := hv.1 c_64
                refine lv_bipush (v := -2) hx hb dX11_kept__79 (by decide) ?_
                rw [← hQ]
                exact k_iret hx hb hr hlocks hS (a11_now, a11_to, a11_made) hP hD hv dX11_kept__81
              · have hv := hv.2 c_64
                refine lv_lload_n hx hb dX11_kept__68 rfl (lv_at hl 2 rfl) ?_
                refine lv_lload hx hb dX11_kept__69 (lv_at hl 0 rfl) ?_
                refine lv_lmul hx hb dX11_kept__71 ?_
                refine lv_topl (fun e47 h_e47 => ?_)
                have hv := hv e47 h_e47
                refine lv_ldc2 hx hb hown (hts _ lk_X11_kept__166) dX11_kept__72 ?_
                refine k_lc_le (tgt := 82) hx hb dX11_kept__75 dX11_kept__76 (by decide) (fun c_75 => ?_) (fun c_75 => ?_)
                · have hv := hv.1 c_75
                  refine lv_lload_n hx hb dX11_kept__82 rfl (lv_at hl 2 rfl) ?_
                  refine lv_lload hx hb dX11_kept__83 (lv_at hl 0 rfl) ?_
                  refine lv_lmul hx hb dX11_kept__85 ?_
                  refine lv_topl (fun e48 h_e48 => ?_)
                  have hv := hv e48 h_e48
                  refine lv_lstore_n (lv' := [(3, .long e48), (6, .long e46), (5, .int l5_5), (0, .ref (ad 11)), (1, .int x1), (2, .int x2)]) hx hb dX11_kept__86 rfl hl (by decide) rfl (fun ls hl => ?_)
                  obtain ⟨i49, h_i49⟩ : ∃ y : Int32, y = l5_5 + 1 := ⟨_, rfl⟩
                  refine lv_iinc (v := i49) (lv' := [(5, .int i49), (3, .long e48), (6, .long e46), (0, .ref (ad 11)), (1, .int x1), (2, .int x2)]) hx hb dX11_kept__87 hl (k := 2) rfl (by rw [h_i49]; rfl) (by decide) rfl (fun ls hl => ?_)
                  have hv := hv i49 h_i49
                  refine lv_goto (tgt := 31) hx hb dX11_kept__90 (by decide) ?_
                  exact ih31 i49 e48 H locs ls hv (lv_sub hl [0, 1, 3, 4, 5] rfl) hP hD hS
                · have hv := hv.2 c_75
                  refine lv_bipush (v := -2) hx hb dX11_kept__79 (by decide) ?_
                  rw [← hQ]
                  exact k_iret hx hb hr hlocks hS (a11_now, a11_to, a11_made) hP hD hv dX11_kept__81
        obtain ⟨nn, hv⟩ := hv
        exact lp31 nn (0 : Int32) e4 H locs ls hv (lv_sub hl [0, 1, 2, 3, 4] rfl) hP hD hS
      · have hv := hv.2 c_16
        refine lv_iconst (v := -1) hx hb dX11_kept__19 (by decide) ?_
        rw [← hQ]
        exact k_iret hx hb hr hlocks hS (a11_now, a11_to, a11_made) hP hD hv dX11_kept__20
theorem lk_X11_word_7 : Cond.fieldLink RX11 7 "CoarseStepsModel" "d" "I" ∈ wsX11_word := by decide +kernel
theorem in_X11_word_11 : ∀ w ∈ wsX110, w ∈ wsX11_word := by decide +kernel
theorem lk_X11_word_134 : Cond.constant RX11 134 (1000000) ∈ wsX11_word := by decide +kernel
abbrev rm_X11_word : Room := { frames := 0, cells := 0, slots := 0, locals := 0 }
set_option maxHeartbeats 4000000 in
set_option maxRecDepth 100000 in
theorem m_X11_word (l : Launch) (D : va_G) (cy : ClassId × ClassId × ClassId) (ad : Nat → Nat) (s11_d : Int32) (s11_stepMany : Int32) (s11_kind : Int32) (s11_many : Int32) (s11_partMany : Int32) (s11_rule : Int32) (s11_ticks : Int32) (s11_hand : Int32) (s11_g : Int32) (s11_beganElsewhere : Int32) (s11_dBefore : Int32) (s11_fBefore : Int32) (s11_fFirst : Int32) (s11_weightMany : Int32) (s11_tailTold : Int32) (x1 : Int32) (x2 : Int32) (sz : Nat) {K : Int32 → Prop} (hv : v_X11_word s11_d x1 x2 K) : Met l yX11_word wsX11_word rm_X11_word (va_Pc [.ref (ad 11), .int x1, .int x2] (wd D cy [oX11 ad s11_d s11_stepMany s11_kind s11_many s11_partMany s11_rule s11_ticks s11_hand s11_g s11_beganElsewhere s11_dBefore s11_fBefore s11_fFirst s11_weightMany s11_tailTold] sz)) (va_Qi (fun (r : Int32) (u : Unit) => K r) (fun u t => we D ((fun u : Unit => [oX11 ad s11_d s11_stepMany s11_kind s11_many s11_partMany s11_rule s11_ticks s11_hand s11_g s11_beganElsewhere s11_dBefore s11_fBefore s11_fFirst s11_weightMany s11_tailTold]) u) (va_A [oX11 ad s11_d s11_stepMany s11_kind s11_many s11_partMany s11_rule s11_ticks s11_hand s11_g s11_beganElsewhere s11_dBefore s11_fBefore s11_fFirst s11_weightMany s11_tailTold] sz) t) (va_A [oX11 ad s11_d s11_stepMany s11_kind s11_many s11_partMany s11_rule s11_ticks s11_hand s11_g s11_beganElsewhere s11_dBefore s11_fBefore s11_fFirst s11_weightMany s11_tailTold] sz)) 0 0 (va_A [oX11 ad s11_d s11_stepMany s11_kind s11_many s11_partMany s11_rule s11_ticks s11_hand s11_g s11_beganElsewhere s11_dBefore s11_fBefore s11_fFirst s11_weightMany s11_tailTold] sz) := by
  refine k_ofW (cc := cX11_word) (maxL := 3) (ret := (some .int)) (fun A => va_Qi (fun (r : Int32) (u : Unit) => K r) (fun u t => we D ((fun u : Unit => [oX11 ad s11_d s11_stepMany s11_kind s11_many s11_partMany s11_rule s11_ticks s11_hand s11_g s11_beganElsewhere s11_dBefore s11_fBefore s11_fFirst s11_weightMany s11_tailTold]) u) A t) A) (by decide) rfl (Nat.le_of_ble_eq_true rfl) ?_
  intro p e s m below meth c A ls H locs hx hb hml hr hts hown hlocks hname hK hN hA hP hD hS hl
  have hl : lv_has ls 3 [(0, .ref (ad 11)), (1, .int x1), (2, .int x2)] := hl
  generalize hQ : MQ below _ _ s _ _ A = Q
  unfold v_X11_word at hv
  refine lv_iload_n hx hb dX11_word_0 rfl (lv_at hl 1 rfl) ?_
  refine lv_if_lt (tgt := 22) hx hb dX11_word_1 (by decide) (fun c_1 => ?_) (fun c_1 => ?_)
  · have hv := hv.1 c_1
    refine lv_iconst (v := -1) hx hb dX11_word_22 (by decide) ?_
    refine lv_goto (tgt := 52) hx hb dX11_word_23 (by decide) ?_
    rw [← hQ]
    exact k_iret hx hb hr hlocks hS () hP hD hv dX11_word_52
  · have hv := hv.2 c_1
    refine lv_iload_n hx hb dX11_word_4 rfl (lv_at hl 1 rfl) ?_
    refine lv_aload_n hx hb dX11_word_5 rfl (lv_at hl 0 rfl) ?_
    refine va_get (D := D) (ci := 11) (v := .int s11_d) (C := RX11) (T := TX11) (N := 35) hx hb hts in_X11_word_11 hown hK hP 0 rfl rfl 0 (by decide) (hts _ lk_X11_word_7) (fun _ h9 => h9) rfl dX11_word_6 ?_
    refine lv_icmp_ge (tgt := 22) hx hb dX11_word_9 (by decide) (fun c_9 => ?_) (fun c_9 => ?_)
    · have hv := hv.1 c_9
      refine lv_iconst (v := -1) hx hb dX11_word_22 (by decide) ?_
      refine lv_goto (tgt := 52) hx hb dX11_word_23 (by decide) ?_
      rw [← hQ]
      exact k_iret hx hb hr hlocks hS () hP hD hv dX11_word_52
    · have hv := hv.2 c_9
      refine lv_iload_n hx hb dX11_word_12 rfl (lv_at hl 2 rfl) ?_
      refine lv_if_lt (tgt := 22) hx hb dX11_word_13 (by decide) (fun c_13 => ?_) (fun c_13 => ?_)
      · have hv := hv.1 c_13
        refine lv_iconst (v := -1) hx hb dX11_word_22 (by decide) ?_
        refine lv_goto (tgt := 52) hx hb dX11_word_23 (by decide) ?_
        rw [← hQ]
        exact k_iret hx hb hr hlocks hS () hP hD hv dX11_word_52
      · have hv := hv.2 c_13
        refine lv_iload_n hx hb dX11_word_16 rfl (lv_at hl 2 rfl) ?_
        refine lv_ldc hx hb hown (hts _ lk_X11_word_134) dX11_word_17 ?_
        refine lv_icmp_le (tgt := 26) hx hb dX11_word_19 (by decide) (fun c_19 => ?_) (fun c_19 => ?_)
        · have hv := hv.1 c_19
          refine lv_iload_n hx hb dX11_word_26 rfl (lv_at hl 2 rfl) ?_
          refine lv_i2l hx hb dX11_word_27 rfl ?_
          refine lv_lconst (v := 1) hx hb dX11_word_28 (by decide) ?_
          refine lv_ladd hx hb dX11_word_29 ?_
          refine lv_topl (fun e1 h_e1 => ?_)
          have hv := hv e1 h_e1
          refine lv_iload_n hx hb dX11_word_30 rfl (lv_at hl 1 rfl) ?_
          refine lv_i2l hx hb dX11_word_31 rfl ?_
          refine lv_lmul hx hb dX11_word_32 ?_
          refine lv_topl (fun e2 h_e2 => ?_)
          have hv := hv e2 h_e2
          refine lv_aload_n hx hb dX11_word_33 rfl (lv_at hl 0 rfl) ?_
          refine va_get (D := D) (ci := 11) (v := .int s11_d) (C := RX11) (T := TX11) (N := 35) hx hb hts in_X11_word_11 hown hK hP 0 rfl rfl 0 (by decide) (hts _ lk_X11_word_7) (fun _ h9 => h9) rfl dX11_word_34 ?_
          refine lv_i2l hx hb dX11_word_37 rfl ?_
          have hne := hv.1
          have hv := hv.2
          refine lv_ldiv hx hb dX11_word_38 hne ?_
          refine lv_topl (fun e3 h_e3 => ?_)
          have hv := hv e3 h_e3
          refine lv_iload_n hx hb dX11_word_39 rfl (lv_at hl 2 rfl) ?_
          refine lv_i2l hx hb dX11_word_40 rfl ?_
          refine lv_iload_n hx hb dX11_word_41 rfl (lv_at hl 1 rfl) ?_
          refine lv_i2l hx hb dX11_word_42 rfl ?_
          refine lv_lmul hx hb dX11_word_43 ?_
          refine lv_topl (fun e4 h_e4 => ?_)
          have hv := hv e4 h_e4
          refine lv_aload_n hx hb dX11_word_44 rfl (lv_at hl 0 rfl) ?_
          refine va_get (D := D) (ci := 11) (v := .int s11_d) (C := RX11) (T := TX11) (N := 35) hx hb hts in_X11_word_11 hown hK hP 0 rfl rfl 0 (by decide) (hts _ lk_X11_word_7) (fun _ h9 => h9) rfl dX11_word_45 ?_
          refine lv_i2l hx hb dX11_word_48 rfl ?_
          have hne := hv.1
          have hv := hv.2
          refine lv_ldiv hx hb dX11_word_49 hne ?_
          refine lv_topl (fun e5 h_e5 => ?_)
          have hv := hv e5 h_e5
          refine lv_lsub hx hb dX11_word_50 ?_
          refine lv_topl (fun e6 h_e6 => ?_)
          have hv := hv e6 h_e6
          refine lv_l2i hx hb dX11_word_51 rfl ?_
          rw [← hQ]
          exact k_iret hx hb hr hlocks hS () hP hD hv dX11_word_52
        · have hv := hv.2 c_19
          refine lv_iconst (v := -1) hx hb dX11_word_22 (by decide) ?_
          refine lv_goto (tgt := 52) hx hb dX11_word_23 (by decide) ?_
          rw [← hQ]
          exact k_iret hx hb hr hlocks hS () hP hD hv dX11_word_52
theorem lk_X11_even_115 : Cond.constantLong RX11 115 (1000000000000) ∈ wsX11_even := by decide +kernel
theorem lk_X11_even_117 : Cond.constantLong RX11 117 (-1000000000000) ∈ wsX11_even := by decide +kernel
theorem lk_X11_even_54 : Cond.fieldLink RX11 54 "CoarseStepsModel" "given" "[I" ∈ wsX11_even := by decide +kernel
theorem in_X11_even_11 : ∀ w ∈ wsX110, w ∈ wsX11_even := by decide +kernel
abbrev rm_X11_even : Room := { frames := 1, cells := 0, slots := 0, locals := 21 }
set_option maxHeartbeats 4000000 in
set_option maxRecDepth 100000 in
theorem m_X11_even (l : Launch) (D : va_G) (cy : ClassId × ClassId × ClassId) (ad : Nat → Nat) (s11_d : Int32) (s11_stepMany : Int32) (s11_kind : Int32) (s11_many : Int32) (s11_partMany : Int32) (s11_rule : Int32) (s11_ticks : Int32) (s11_hand : Int32) (s11_g : Int32) (s11_beganElsewhere : Int32) (s11_dBefore : Int32) (s11_fBefore : Int32) (s11_fFirst : Int32) (s11_weightMany : Int32) (s11_tailTold : Int32) (a11_given : Nat → Int32) (x1 : Int32) (sz : Nat) {K : Int32 → Prop} (hv : v_X11_even s11_ticks a11_given x1 K) : Met l yX11_even wsX11_even rm_X11_even (va_Pc [.ref (ad 11), .int x1] (wd D cy [oX11 ad s11_d s11_stepMany s11_kind s11_many s11_partMany s11_rule s11_ticks s11_hand s11_g s11_beganElsewhere s11_dBefore s11_fBefore s11_fFirst s11_weightMany s11_tailTold, aI cy (ad 52) 256 a11_given] sz)) (va_Qi (fun (r : Int32) (u : Unit) => K r) (fun u t => we D ((fun u : Unit => [oX11 ad s11_d s11_stepMany s11_kind s11_many s11_partMany s11_rule s11_ticks s11_hand s11_g s11_beganElsewhere s11_dBefore s11_fBefore s11_fFirst s11_weightMany s11_tailTold, aI cy (ad 52) 256 a11_given]) u) (va_A [oX11 ad s11_d s11_stepMany s11_kind s11_many s11_partMany s11_rule s11_ticks s11_hand s11_g s11_beganElsewhere s11_dBefore s11_fBefore s11_fFirst s11_weightMany s11_tailTold, aI cy (ad 52) 256 a11_given] sz) t) (va_A [oX11 ad s11_d s11_stepMany s11_kind s11_many s11_partMany s11_rule s11_ticks s11_hand s11_g s11_beganElsewhere s11_dBefore s11_fBefore s11_fFirst s11_weightMany s11_tailTold, aI cy (ad 52) 256 a11_given] sz)) 0 0 (va_A [oX11 ad s11_d s11_stepMany s11_kind s11_many s11_partMany s11_rule s11_ticks s11_hand s11_g s11_beganElsewhere s11_dBefore s11_fBefore s11_fFirst s11_weightMany s11_tailTold, aI cy (ad 52) 256 a11_given] sz) := by
  refine k_ofW (cc := cX11_even) (maxL := 11) (ret := (some .int)) (fun A => va_Qi (fun (r : Int32) (u : Unit) => K r) (fun u t => we D ((fun u : Unit => [oX11 ad s11_d s11_stepMany s11_kind s11_many s11_partMany s11_rule s11_ticks s11_hand s11_g s11_beganElsewhere s11_dBefore s11_fBefore s11_fFirst s11_weightMany s11_tailTold, aI cy (ad 52) 256 a11_given]) u) A t) A) (by decide) rfl (Nat.le_of_ble_eq_true rfl) ?_
  intro p e s m below meth c A ls H locs hx hb hml hr hts hown hlocks hname hK hN hA hP hD hS hl
  have hl : lv_has ls 11 [(0, .ref (ad 11)), (1, .int x1)] := hl
  generalize hQ : MQ below _ _ s _ _ A = Q
  unfold v_X11_even at hv
  refine lv_iload_n hx hb dX11_even_0 rfl (lv_at hl 1 rfl) ?_
  refine lv_iconst (v := 1) hx hb dX11_even_1 (by decide) ?_
  refine lv_icmp_lt (tgt := 13) hx hb dX11_even_2 (by decide) (fun c_2 => ?_) (fun c_2 => ?_)
  · have hv := hv.1 c_2
    refine lv_iconst (v := -1) hx hb dX11_even_13 (by decide) ?_
    rw [← hQ]
    exact k_iret hx hb hr hlocks hS () hP hD hv dX11_even_14
  · have hv := hv.2 c_2
    refine lv_iload_n hx hb dX11_even_5 rfl (lv_at hl 1 rfl) ?_
    refine lv_aload_n hx hb dX11_even_6 rfl (lv_at hl 0 rfl) ?_
    have hPc := hP.sub (ws' := [oX11 ad s11_d s11_stepMany s11_kind s11_many s11_partMany s11_rule s11_ticks s11_hand s11_g s11_beganElsewhere s11_dBefore s11_fBefore s11_fFirst s11_weightMany s11_tailTold]) [0] rfl
    have hDc := hD.sub (ws' := [oX11 ad s11_d s11_stepMany s11_kind s11_many s11_partMany s11_rule s11_ticks s11_hand s11_g s11_beganElsewhere s11_dBefore s11_fBefore s11_fFirst s11_weightMany s11_tailTold]) [0] (by decide) rfl
    refine k_cali (wc := [oX11 ad s11_d s11_stepMany s11_kind s11_many s11_partMany s11_rule s11_ticks s11_hand s11_g s11_beganElsewhere s11_dBefore s11_fBefore s11_fFirst s11_weightMany s11_tailTold]) (wr := [aI cy (ad 52) 256 a11_given]) (va_runV (As := []) (rest := [.int x1]) ⟨hx, hb, hml, hown, hts⟩ (m_X11_kept l D cy ad s11_d s11_stepMany s11_kind s11_many s11_partMany s11_rule s11_ticks s11_hand s11_g s11_beganElsewhere s11_dBefore s11_fBefore s11_fFirst s11_weightMany s11_tailTold H.size hv) (cwV 0 hts gX11_even_X11_kept rfl rfl rfl (by decide +kernel) ⟨Nat.le_of_ble_eq_true rfl, Nat.le_of_ble_eq_true rfl⟩) ⟨wd_blind, va_recv hK hPc (ci := 11) (q0 := 0) rfl rfl, wd_ok hPc hK hDc hN⟩ rfl rfl hl.1 rfl (lv_room (Nat.le_of_ble_eq_true rfl)) dX11_even_7 ⟨Nat.le_of_ble_eq_true rfl, Nat.le_of_ble_eq_true rfl⟩) hP hD hS hA [0] [1] rfl rfl (by decide) (by decide) (fun r1 u H locs hv hP hD hS => ?_)
    have hP : va_P D vwCl [oX11 ad s11_d s11_stepMany s11_kind s11_many s11_partMany s11_rule s11_ticks s11_hand s11_g s11_beganElsewhere s11_dBefore s11_fBefore s11_fFirst s11_weightMany s11_tailTold, aI cy (ad 52) 256 a11_given] H := hP.sub [1, 0] rfl
    have hD : va_D A [oX11 ad s11_d s11_stepMany s11_kind s11_many s11_partMany s11_rule s11_ticks s11_hand s11_g s11_beganElsewhere s11_dBefore s11_fBefore s11_fFirst s11_weightMany s11_tailTold, aI cy (ad 52) 256 a11_given] := hD.sub [1, 0] (by decide) rfl
    refine lv_icmp_le (tgt := 15) hx hb dX11_even_10 (by decide) (fun c_10 => ?_) (fun c_10 => ?_)
    · have hv := hv.1 c_10
      refine lv_iconst (v := 1) hx hb dX11_even_15 (by decide) ?_
      refine lv_istore_n (lv' := [(2, .int (1 : Int32)), (0, .ref (ad 11)), (1, .int x1)]) hx hb dX11_even_16 rfl hl (by decide) rfl (fun ls hl => ?_)
      have lp17 : ∀ (n17 : Nat) (l2_2 : Int32) (H : Heap) (locs : List Loc) (ls : Array Slot), vfix (vF_X11_even_17 s11_ticks a11_given x1 K) n17 l2_2 → lv_has ls 11 [(2, .int l2_2), (0, .ref (ad 11)), (1, .int x1)] → va_P D vwCl [oX11 ad s11_d s11_stepMany s11_kind s11_many s11_partMany s11_rule s11_ticks s11_hand s11_g s11_beganElsewhere s11_dBefore s11_fBefore s11_fFirst s11_weightMany s11_tailTold, aI cy (ad 52) 256 a11_given] H → va_D A [oX11 ad s11_d s11_stepMany s11_kind s11_many s11_partMany s11_rule s11_ticks s11_hand s11_g s11_beganElsewhere s11_dBefore s11_fBefore s11_fFirst s11_weightMany s11_tailTold, aI cy (ad 52) 256 a11_given] → va_S A s.heap H locs → W p l e rm_X11_even s m ([.ref (ad 11), .int x1] : List Value).toArray below meth c H locs 0 0 Q (F0 m 17 ls []) := by
        intro n17
        induction n17 with
        | zero => intro l2_2 H locs ls hv; exact hv.elim
        | succ n17 ih17 =>
          intro l2_2 H locs ls hv hl hP hD hS
          have hv : vB_X11_even_17 s11_ticks a11_given x1 K (fun z0 => vfix (vF_X11_even_17 s11_ticks a11_given x1 K) n17 z0) l2_2 := hv
          unfold vB_X11_even_17 at hv
          refine lv_iload_n hx hb dX11_even_17 rfl (lv_at hl 0 rfl) ?_
          refine lv_iload_n hx hb dX11_even_18 rfl (lv_at hl 2 rfl) ?_
          refine lv_icmp_ge (tgt := 134) hx hb dX11_even_19 (by decide) (fun c_19 => ?_) (fun c_19 => ?_)
          · have hv := hv.1 c_19
            refine lv_iconst (v := 1) hx hb dX11_even_134 (by decide) ?_
            rw [← hQ]
            exact k_iret hx hb hr hlocks hS () hP hD hv dX11_even_135
          · have hv := hv.2 c_19
            refine lv_ldc2 hx hb hown (hts _ lk_X11_even_115) dX11_even_22 ?_
            refine lv_lstore_n (lv' := [(3, .long (1000000000000 : Int64)), (2, .int l2_2), (0, .ref (ad 11)), (1, .int x1)]) hx hb dX11_even_25 rfl hl (by decide) rfl (fun ls hl => ?_)
            refine lv_ldc2 hx hb hown (hts _ lk_X11_even_117) dX11_even_26 ?_
            refine lv_lstore (lv' := [(5, .long (-1000000000000 : Int64)), (3, .long (1000000000000 : Int64)), (2, .int l2_2), (0, .ref (ad 11)), (1, .int x1)]) hx hb dX11_even_29 hl (by decide) rfl (fun ls hl => ?_)
            refine lv_iconst (v := 0) hx hb dX11_even_31 (by decide) ?_
            refine lv_istore (lv' := [(7, .int (0 : Int32)), (5, .long (-1000000000000 : Int64)), (3, .long (1000000000000 : Int64)), (2, .int l2_2), (0, .ref (ad 11)), (1, .int x1)]) hx hb dX11_even_32 hl (by decide) rfl (fun ls hl => ?_)
            have lp34 : ∀ (n34 : Nat) (l7_3 : Int32) (l5_4 : Int64) (l3_5 : Int64) (H : Heap) (locs : List Loc) (ls : Array Slot), vfix (vF_X11_even_34 s11_ticks a11_given x1 K l2_2 (fun z0 => vfix (vF_X11_even_17 s11_ticks a11_given x1 K) n17 z0)) n34 (l7_3, l5_4, l3_5) → lv_has ls 11 [(7, .int l7_3), (5, .long l5_4), (3, .long l3_5), (2, .int l2_2), (0, .ref (ad 11)), (1, .int x1)] → va_P D vwCl [oX11 ad s11_d s11_stepMany s11_kind s11_many s11_partMany s11_rule s11_ticks s11_hand s11_g s11_beganElsewhere s11_dBefore s11_fBefore s11_fFirst s11_weightMany s11_tailTold, aI cy (ad 52) 256 a11_given] H → va_D A [oX11 ad s11_d s11_stepMany s11_kind s11_many s11_partMany s11_rule s11_ticks s11_hand s11_g s11_beganElsewhere s11_dBefore s11_fBefore s11_fFirst s11_weightMany s11_tailTold, aI cy (ad 52) 256 a11_given] → va_S A s.heap H locs → W p l e rm_X11_even s m ([.ref (ad 11), .int x1] : List Value).toArray below meth c H locs 0 0 Q (F0 m 34 ls []) := by
              intro n34
              induction n34 with
              | zero => intro l7_3 l5_4 l3_5 H locs ls hv; exact hv.elim
              | succ n34 ih34 =>
                intro l7_3 l5_4 l3_5 H locs ls hv hl hP hD hS
                have hv : vB_X11_even_34 s11_ticks a11_given x1 K l2_2 (fun z0 => vfix (vF_X11_even_17 s11_ticks a11_given x1 K) n17 z0) (fun z0 z1 z2 => vfix (vF_X11_even_34 s11_ticks a11_given x1 K l2_2 (fun z0 => vfix (vF_X11_even_17 s11_ticks a11_given x1 K) n17 z0)) n34 (z0, z1, z2)) l7_3 l5_4 l3_5 := hv
                unfold vB_X11_even_34 at hv
                refine lv_iload hx hb dX11_even_34 (lv_at hl 0 rfl) ?_
                refine lv_iload_n hx hb dX11_even_36 rfl (lv_at hl 3 rfl) ?_
                refine lv_iadd hx hb dX11_even_37 ?_
                refine lv_topi (fun e6 h_e6 => ?_)
                have hv := hv e6 h_e6
                refine lv_iload_n hx hb dX11_even_38 rfl (lv_at hl 5 rfl) ?_
                refine lv_icmp_gt (tgt := 117) hx hb dX11_even_39 (by decide) (fun c_39 => ?_) (fun c_39 => ?_)
                · have hv := hv.1 c_39
                  refine lv_lload hx hb dX11_even_117 (lv_at hl 1 rfl) ?_
                  refine lv_lload_n hx hb dX11_even_119 rfl (lv_at hl 2 rfl) ?_
                  refine lv_lsub hx hb dX11_even_120 ?_
                  refine lv_topl (fun e7 h_e7 => ?_)
                  have hv := hv e7 h_e7
                  refine lv_lconst (v := 1) hx hb dX11_even_121 (by decide) ?_
                  refine k_lc_le (tgt := 128) hx hb dX11_even_122 dX11_even_123 (by decide) (fun c_122 => ?_) (fun c_122 => ?_)
                  · have hv := hv.1 c_122
                    obtain ⟨i8, h_i8⟩ : ∃ y : Int32, y = l2_2 + 1 := ⟨_, rfl⟩
                    refine lv_iinc (v := i8) (lv' := [(2, .int i8), (7, .int l7_3), (5, .long l5_4), (3, .long l3_5), (0, .ref (ad 11)), (1, .int x1)]) hx hb dX11_even_128 hl (k := 3) rfl (by rw [h_i8]; rfl) (by decide) rfl (fun ls hl => ?_)
                    have hv := hv i8 h_i8
                    refine lv_goto (tgt := 17) hx hb dX11_even_131 (by decide) ?_
                    exact ih17 i8 H locs ls hv (lv_sub hl [0, 4, 5] rfl) hP hD hS
                  · have hv := hv.2 c_122
                    refine lv_iconst (v := 0) hx hb dX11_even_126 (by decide) ?_
                    rw [← hQ]
                    exact k_iret hx hb hr hlocks hS () hP hD hv dX11_even_127
                · have hv := hv.2 c_39
                  refine lv_lconst (v := 0) hx hb dX11_even_42 (by decide) ?_
                  refine lv_lstore (lv' := [(8, .long (0 : Int64)), (7, .int l7_3), (5, .long l5_4), (3, .long l3_5), (2, .int l2_2), (0, .ref (ad 11)), (1, .int x1)]) hx hb dX11_even_43 hl (by decide) rfl (fun ls hl => ?_)
                  refine lv_iconst (v := 0) hx hb dX11_even_45 (by decide) ?_
                  refine lv_istore (lv' := [(10, .int (0 : Int32)), (8, .long (0 : Int64)), (7, .int l7_3), (5, .long l5_4), (3, .long l3_5), (2, .int l2_2), (0, .ref (ad 11)), (1, .int x1)]) hx hb dX11_even_46 hl (by decide) rfl (fun ls hl => ?_)
                  have lp48 : ∀ (n48 : Nat) (l10_9 : Int32) (l8_10 : Int64) (H : Heap) (locs : List Loc) (ls : Array Slot), vfix (vF_X11_even_48 s11_ticks a11_given l2_2 l7_3 l5_4 l3_5 (fun z0 z1 z2 => vfix (vF_X11_even_34 s11_ticks a11_given x1 K l2_2 (fun z0 => vfix (vF_X11_even_17 s11_ticks a11_given x1 K) n17 z0)) n34 (z0, z1, z2))) n48 (l10_9, l8_10) → lv_has ls 11 [(10, .int l10_9), (8, .long l8_10), (7, .int l7_3), (5, .long l5_4), (3, .long l3_5), (2, .int l2_2), (0, .ref (ad 11)), (1, .int x1)] → va_P D vwCl [oX11 ad s11_d s11_stepMany s11_kind s11_many s11_partMany s11_rule s11_ticks s11_hand s11_g s11_beganElsewhere s11_dBefore s11_fBefore s11_fFirst s11_weightMany s11_tailTold, aI cy (ad 52) 256 a11_given] H → va_D A [oX11 ad s11_d s11_stepMany s11_kind s11_many s11_partMany s11_rule s11_ticks s11_hand s11_g s11_beganElsewhere s11_dBefore s11_fBefore s11_fFirst s11_weightMany s11_tailTold, aI cy (ad 52) 256 a11_given] → va_S A s.heap H locs → W p l e rm_X11_even s m ([.ref (ad 11), .int x1] : List Value).toArray below meth c H locs 0 0 Q (F0 m 48 ls []) := by
                    intro n48
                    induction n48 with
                    | zero => intro l10_9 l8_10 H locs ls hv; exact hv.elim
                    | succ n48 ih48 =>
                      intro l10_9 l8_10 H locs ls hv hl hP hD hS
                      have hv : vB_X11_even_48 s11_ticks a11_given l2_2 l7_3 l5_4 l3_5 (fun z0 z1 z2 => vfix (vF_X11_even_34 s11_ticks a11_given x1 K l2_2 (fun z0 => vfix (vF_X11_even_17 s11_ticks a11_given x1 K) n17 z0)) n34 (z0, z1, z2)) (fun z0 z1 => vfix (vF_X11_even_48 s11_ticks a11_given l2_2 l7_3 l5_4 l3_5 (fun z0 z1 z2 => vfix (vF_X11_even_34 s11_ticks a11_given x1 K l2_2 (fun z0 => vfix (vF_X11_even_17 s11_ticks a11_given x1 K) n17 z0)) n34 (z0, z1, z2))) n48 (z0, z1)) l10_9 l8_10 := hv
                      unfold vB_X11_even_48 at hv
                      refine lv_iload hx hb dX11_even_48 (lv_at hl 0 rfl) ?_
                      refine lv_iload_n hx hb dX11_even_50 rfl (lv_at hl 5 rfl) ?_
                      refine lv_icmp_ge (tgt := 80) hx hb dX11_even_51 (by decide) (fun c_51 => ?_) (fun c_51 => ?_)
                      · have hv := hv.1 c_51
                        refine lv_lload hx hb dX11_even_80 (lv_at hl 1 rfl) ?_
                        refine lv_lload_n hx hb dX11_even_82 rfl (lv_at hl 4 rfl) ?_
                        have jn93 : ∀ (t11 : Int64) (H : Heap) (locs : List Loc) (ls : Array Slot), vJ_X11_even_93 l7_3 l5_4 (fun z0 z1 z2 => vfix (vF_X11_even_34 s11_ticks a11_given x1 K l2_2 (fun z0 => vfix (vF_X11_even_17 s11_ticks a11_given x1 K) n17 z0)) n34 (z0, z1, z2)) l8_10 t11 → lv_has ls 11 [(8, .long l8_10), (7, .int l7_3), (5, .long l5_4), (2, .int l2_2), (0, .ref (ad 11)), (1, .int x1)] → va_P D vwCl [oX11 ad s11_d s11_stepMany s11_kind s11_many s11_partMany s11_rule s11_ticks s11_hand s11_g s11_beganElsewhere s11_dBefore s11_fBefore s11_fFirst s11_weightMany s11_tailTold, aI cy (ad 52) 256 a11_given] H → va_D A [oX11 ad s11_d s11_stepMany s11_kind s11_many s11_partMany s11_rule s11_ticks s11_hand s11_g s11_beganElsewhere s11_dBefore s11_fBefore s11_fFirst s11_weightMany s11_tailTold, aI cy (ad 52) 256 a11_given] → va_S A s.heap H locs → W p l e rm_X11_even s m ([.ref (ad 11), .int x1] : List Value).toArray below meth c H locs 0 0 Q (F0 m 93 ls [.long t11]) := by
                          intro t11 H locs ls hv hl hP hD hS
                          unfold vJ_X11_even_93 at hv
                          refine lv_lstore_n (lv' := [(3, .long t11), (8, .long l8_10), (7, .int l7_3), (5, .long l5_4), (2, .int l2_2), (0, .ref (ad 11)), (1, .int x1)]) hx hb dX11_even_93 rfl hl (by decide) rfl (fun ls hl => ?_)
                          refine lv_lload hx hb dX11_even_94 (lv_at hl 1 rfl) ?_
                          refine lv_lload hx hb dX11_even_96 (lv_at hl 3 rfl) ?_
                          have jn109 : ∀ (t12 : Int64) (H : Heap) (locs : List Loc) (ls : Array Slot), vJ_X11_even_109 l7_3 (fun z0 z1 z2 => vfix (vF_X11_even_34 s11_ticks a11_given x1 K l2_2 (fun z0 => vfix (vF_X11_even_17 s11_ticks a11_given x1 K) n17 z0)) n34 (z0, z1, z2)) t11 t12 → lv_has ls 11 [(3, .long t11), (7, .int l7_3), (2, .int l2_2), (0, .ref (ad 11)), (1, .int x1)] → va_P D vwCl [oX11 ad s11_d s11_stepMany s11_kind s11_many s11_partMany s11_rule s11_ticks s11_hand s11_g s11_beganElsewhere s11_dBefore s11_fBefore s11_fFirst s11_weightMany s11_tailTold, aI cy (ad 52) 256 a11_given] H → va_D A [oX11 ad s11_d s11_stepMany s11_kind s11_many s11_partMany s11_rule s11_ticks s11_hand s11_g s11_beganElsewhere s11_dBefore s11_fBefore s11_fFirst s11_weightMany s11_tailTold, aI cy (ad 52) 256 a11_given] → va_S A s.heap H locs → W p l e rm_X11_even s m ([.ref (ad 11), .int x1] : List Value).toArray below meth c H locs 0 0 Q (F0 m 109 ls [.long t12]) := by
                            intro t12 H locs ls hv hl hP hD hS
                            unfold vJ_X11_even_109 at hv
                            refine lv_lstore (lv' := [(5, .long t12), (3, .long t11), (7, .int l7_3), (2, .int l2_2), (0, .ref (ad 11)), (1, .int x1)]) hx hb dX11_even_109 hl (by decide) rfl (fun ls hl => ?_)
                            obtain ⟨i13, h_i13⟩ : ∃ y : Int32, y = l7_3 + 1 := ⟨_, rfl⟩
                            refine lv_iinc (v := i13) (lv' := [(7, .int i13), (5, .long t12), (3, .long t11), (2, .int l2_2), (0, .ref (ad 11)), (1, .int x1)]) hx hb dX11_even_111 hl (k := 2) rfl (by rw [h_i13]; rfl) (by decide) rfl (fun ls hl => ?_)
                            have hv := hv i13 h_i13
                            refine lv_goto (tgt := 34) hx hb dX11_even_114 (by decide) ?_
                            exact ih34 i13 t12 t11 H locs ls hv (lv_sub hl [0, 1, 2, 3, 4, 5] rfl) hP hD hS
                          refine k_lc_le (tgt := 107) hx hb dX11_even_98 dX11_even_99 (by decide) (fun c_98 => ?_) (fun c_98 => ?_)
                          · have hv := hv.1 c_98
                            refine lv_lload hx hb dX11_even_107 (lv_at hl 3 rfl) ?_
                            exact jn109 l5_4 H locs ls hv (lv_sub hl [0, 2, 4, 5, 6] rfl) hP hD hS
                          · have hv := hv.2 c_98
                            refine lv_lload hx hb dX11_even_102 (lv_at hl 1 rfl) ?_
                            refine lv_goto (tgt := 109) hx hb dX11_even_104 (by decide) ?_
                            exact jn109 l8_10 H locs ls hv (lv_sub hl [0, 2, 4, 5, 6] rfl) hP hD hS
                        refine k_lc_ge (tgt := 92) hx hb dX11_even_83 dX11_even_84 (by decide) (fun c_83 => ?_) (fun c_83 => ?_)
                        · have hv := hv.1 c_83
                          refine lv_lload_n hx hb dX11_even_92 rfl (lv_at hl 4 rfl) ?_
                          exact jn93 l3_5 H locs ls hv (lv_sub hl [1, 2, 3, 5, 6, 7] rfl) hP hD hS
                        · have hv := hv.2 c_83
                          refine lv_lload hx hb dX11_even_87 (lv_at hl 1 rfl) ?_
                          refine lv_goto (tgt := 93) hx hb dX11_even_89 (by decide) ?_
                          exact jn93 l8_10 H locs ls hv (lv_sub hl [1, 2, 3, 5, 6, 7] rfl) hP hD hS
                      · have hv := hv.2 c_51
                        refine lv_lload hx hb dX11_even_54 (lv_at hl 1 rfl) ?_
                        refine lv_aload_n hx hb dX11_even_56 rfl (lv_at hl 6 rfl) ?_
                        refine va_get (D := D) (ci := 11) (v := .ref (ad 52)) (C := RX11) (T := TX11) (N := 35) hx hb hts in_X11_even_11 hown hK hP 0 rfl rfl 24 (by decide) (hts _ lk_X11_even_54) (fun _ h9 => h9) rfl dX11_even_57 ?_
                        refine lv_aload_n hx hb dX11_even_60 rfl (lv_at hl 6 rfl) ?_
                        refine lv_iload hx hb dX11_even_61 (lv_at hl 2 rfl) ?_
                        refine lv_iload hx hb dX11_even_63 (lv_at hl 0 rfl) ?_
                        refine lv_iadd hx hb dX11_even_65 ?_
                        refine lv_topi (fun e14 h_e14 => ?_)
                        have hv := hv e14 h_e14
                        have hPc := hP.sub (ws' := [oX11 ad s11_d s11_stepMany s11_kind s11_many s11_partMany s11_rule s11_ticks s11_hand s11_g s11_beganElsewhere s11_dBefore s11_fBefore s11_fFirst s11_weightMany s11_tailTold]) [0] rfl
                        have hDc := hD.sub (ws' := [oX11 ad s11_d s11_stepMany s11_kind s11_many s11_partMany s11_rule s11_ticks s11_hand s11_g s11_beganElsewhere s11_dBefore s11_fBefore s11_fFirst s11_weightMany s11_tailTold]) [0] (by decide) rfl
                        refine k_cali (wc := [oX11 ad s11_d s11_stepMany s11_kind s11_many s11_partMany s11_rule s11_ticks s11_hand s11_g s11_beganElsewhere s11_dBefore s11_fBefore s11_fFirst s11_weightMany s11_tailTold]) (wr := [aI cy (ad 52) 256 a11_given]) (va_runV (As := [.int e14]) (rest := [.ref (ad 52), .long l8_10]) ⟨hx, hb, hml, hown, hts⟩ (m_X11_latest l D cy ad s11_d s11_stepMany s11_kind s11_many s11_partMany s11_rule s11_ticks s11_hand s11_g s11_beganElsewhere s11_dBefore s11_fBefore s11_fFirst s11_weightMany s11_tailTold e14 H.size hv) (cwV 1 hts gX11_even_X11_latest rfl rfl rfl (by decide +kernel) ⟨Nat.le_of_ble_eq_true rfl, Nat.le_of_ble_eq_true rfl⟩) ⟨wd_blind, va_recv hK hPc (ci := 11) (q0 := 0) rfl rfl, wd_ok hPc hK hDc hN⟩ rfl rfl hl.1 rfl (lv_room (Nat.le_of_ble_eq_true rfl)) dX11_even_66 ⟨Nat.le_of_ble_eq_true rfl, Nat.le_of_ble_eq_true rfl⟩) hP hD hS hA [0] [1] rfl rfl (by decide) (by decide) (fun r15 u H locs hv hP hD hS => ?_)
                        have hP : va_P D vwCl [oX11 ad s11_d s11_stepMany s11_kind s11_many s11_partMany s11_rule s11_ticks s11_hand s11_g s11_beganElsewhere s11_dBefore s11_fBefore s11_fFirst s11_weightMany s11_tailTold, aI cy (ad 52) 256 a11_given] H := hP.sub [1, 0] rfl
                        have hD : va_D A [oX11 ad s11_d s11_stepMany s11_kind s11_many s11_partMany s11_rule s11_ticks s11_hand s11_g s11_beganElsewhere s11_dBefore s11_fBefore s11_fFirst s11_weightMany s11_tailTold, aI cy (ad 52) 256 a11_given] := hD.sub [1, 0] (by decide) rfl
                        refine va_iald hx hb hK hP 1 0 rfl rfl hv.1 dX11_even_69 ?_
                        refine lv_topi (fun g16 h_g16 => ?_)
                        have hv := hv.2 g16 h_g16
                        refine lv_i2l hx hb dX11_even_70 rfl ?_
                        refine lv_ladd hx hb dX11_even_71 ?_
                        refine lv_topl (fun e17 h_e17 => ?_)
                        have hv := hv e17 h_e17
                        refine lv_lstore (lv' := [(8, .long e17), (10, .int l10_9), (7, .int l7_3), (5, .long l5_4), (3, .long l3_5), (2, .int l2_2), (0, .ref (ad 11)), (1, .int x1)]) hx hb dX11_even_72 hl (by decide) rfl (fun ls hl => ?_)
                        obtain ⟨i18, h_i18⟩ : ∃ y : Int32, y = l10_9 + 1 := ⟨_, rfl⟩
                        refine lv_iinc (v := i18) (lv' := [(10, .int i18), (8, .long e17), (7, .int l7_3), (5, .long l5_4), (3, .long l3_5), (2, .int l2_2), (0, .ref (ad 11)), (1, .int x1)]) hx hb dX11_even_74 hl (k := 1) rfl (by rw [h_i18]; rfl) (by decide) rfl (fun ls hl => ?_)
                        have hv := hv i18 h_i18
                        refine lv_goto (tgt := 48) hx hb dX11_even_77 (by decide) ?_
                        exact ih48 i18 e17 H locs ls hv (lv_sub hl [0, 1, 2, 3, 4, 5, 6, 7] rfl) hP hD hS
                  obtain ⟨nn, hv⟩ := hv
                  exact lp48 nn (0 : Int32) (0 : Int64) H locs ls hv (lv_sub hl [0, 1, 2, 3, 4, 5, 6, 7] rfl) hP hD hS
            obtain ⟨nn, hv⟩ := hv
            exact lp34 nn (0 : Int32) (-1000000000000 : Int64) (1000000000000 : Int64) H locs ls hv (lv_sub hl [0, 1, 2, 3, 4, 5] rfl) hP hD hS
      obtain ⟨nn, hv⟩ := hv
      exact lp17 nn (1 : Int32) H locs ls hv (lv_sub hl [0, 1, 2] rfl) hP hD hS
    · have hv := hv.2 c_10
      refine lv_iconst (v := -1) hx hb dX11_even_13 (by decide) ?_
      rw [← hQ]
      exact k_iret hx hb hr hlocks hS () hP hD hv dX11_even_14
theorem lk_X11_weight_168 : Cond.fieldLink RX11 168 "CoarseStepsModel" "weightMany" "I" ∈ wsX11_weight := by decide +kernel
theorem in_X11_weight_11 : ∀ w ∈ wsX110, w ∈ wsX11_weight := by decide +kernel
theorem lk_X11_weight_63 : Cond.fieldLink RX11 63 "CoarseStepsModel" "weights" "[I" ∈ wsX11_weight := by decide +kernel
abbrev rm_X11_weight : Room := { frames := 0, cells := 0, slots := 0, locals := 0 }
set_option maxHeartbeats 4000000 in
set_option maxRecDepth 100000 in
theorem m_X11_weight (l : Launch) (D : va_G) (cy : ClassId × ClassId × ClassId) (ad : Nat → Nat) (s11_d : Int32) (s11_stepMany : Int32) (s11_kind : Int32) (s11_many : Int32) (s11_partMany : Int32) (s11_rule : Int32) (s11_ticks : Int32) (s11_hand : Int32) (s11_g : Int32) (s11_beganElsewhere : Int32) (s11_dBefore : Int32) (s11_fBefore : Int32) (s11_fFirst : Int32) (s11_weightMany : Int32) (s11_tailTold : Int32) (a11_weights : Nat → Int32) (x1 : Int32) (sz : Nat) {K : Int32 → Int32 → (Nat → Int32) → Prop} (hv : v_X11_weight s11_weightMany a11_weights x1 K) : Met l yX11_weight wsX11_weight rm_X11_weight (va_Pc [.ref (ad 11), .int x1] (wd D cy [oX11 ad s11_d s11_stepMany s11_kind s11_many s11_partMany s11_rule s11_ticks s11_hand s11_g s11_beganElsewhere s11_dBefore s11_fBefore s11_fFirst s11_weightMany s11_tailTold, aI cy (ad 55) 64 a11_weights] sz)) (va_Qi (fun (r : Int32) (u : Int32 × (Nat → Int32)) => K r u.1 u.2) (fun u t => we D ((fun u : Int32 × (Nat → Int32) => [oX11 ad s11_d s11_stepMany s11_kind s11_many s11_partMany s11_rule s11_ticks s11_hand s11_g s11_beganElsewhere s11_dBefore s11_fBefore s11_fFirst u.1 s11_tailTold, aI cy (ad 55) 64 u.2]) u) (va_A [oX11 ad s11_d s11_stepMany s11_kind s11_many s11_partMany s11_rule s11_ticks s11_hand s11_g s11_beganElsewhere s11_dBefore s11_fBefore s11_fFirst s11_weightMany s11_tailTold, aI cy (ad 55) 64 a11_weights] sz) t) (va_A [oX11 ad s11_d s11_stepMany s11_kind s11_many s11_partMany s11_rule s11_ticks s11_hand s11_g s11_beganElsewhere s11_dBefore s11_fBefore s11_fFirst s11_weightMany s11_tailTold, aI cy (ad 55) 64 a11_weights] sz)) 0 0 (va_A [oX11 ad s11_d s11_stepMany s11_kind s11_many s11_partMany s11_rule s11_ticks s11_hand s11_g s11_beganElsewhere s11_dBefore s11_fBefore s11_fFirst s11_weightMany s11_tailTold, aI cy (ad 55) 64 a11_weights] sz) := by
  refine k_ofW (cc := cX11_weight) (maxL := 2) (ret := (some .int)) (fun A => va_Qi (fun (r : Int32) (u : Int32 × (Nat → Int32)) => K r u.1 u.2) (fun u t => we D ((fun u : Int32 × (Nat → Int32) => [oX11 ad s11_d s11_stepMany s11_kind s11_many s11_partMany s11_rule s11_ticks s11_hand s11_g s11_beganElsewhere s11_dBefore s11_fBefore s11_fFirst u.1 s11_tailTold, aI cy (ad 55) 64 u.2]) u) A t) A) (by decide) rfl (Nat.le_of_ble_eq_true rfl) ?_
  intro p e s m below meth c A ls H locs hx hb hml hr hts hown hlocks hname hK hN hA hP hD hS hl
  have hl : lv_has ls 2 [(0, .ref (ad 11)), (1, .int x1)] := hl
  generalize hQ : MQ below _ _ s _ _ A = Q
  unfold v_X11_weight at hv
  refine lv_aload_n hx hb dX11_weight_0 rfl (lv_at hl 0 rfl) ?_
  refine va_get (D := D) (ci := 11) (v := .int s11_weightMany) (C := RX11) (T := TX11) (N := 35) hx hb hts in_X11_weight_11 hown hK hP 0 rfl rfl 28 (by decide) (hts _ lk_X11_weight_168) (fun _ h9 => h9) rfl dX11_weight_1 ?_
  refine lv_bipush (v := 64) hx hb dX11_weight_4 (by decide) ?_
  refine lv_icmp_eq (tgt := 23) hx hb dX11_weight_6 (by decide) (fun c_6 => ?_) (fun c_6 => ?_)
  · have hv := hv.1 c_6
    refine lv_iconst (v := -1) hx hb dX11_weight_23 (by decide) ?_
    rw [← hQ]
    exact k_iret hx hb hr hlocks hS (s11_weightMany, a11_weights) hP hD hv dX11_weight_24
  · have hv := hv.2 c_6
    refine lv_iload_n hx hb dX11_weight_9 rfl (lv_at hl 1 rfl) ?_
    refine lv_sipush (v := -1000) hx hb dX11_weight_10 (by decide) ?_
    refine lv_icmp_lt (tgt := 23) hx hb dX11_weight_13 (by decide) (fun c_13 => ?_) (fun c_13 => ?_)
    · have hv := hv.1 c_13
      refine lv_iconst (v := -1) hx hb dX11_weight_23 (by decide) ?_
      rw [← hQ]
      exact k_iret hx hb hr hlocks hS (s11_weightMany, a11_weights) hP hD hv dX11_weight_24
    · have hv := hv.2 c_13
      refine lv_iload_n hx hb dX11_weight_16 rfl (lv_at hl 1 rfl) ?_
      refine lv_sipush (v := 1000) hx hb dX11_weight_17 (by decide) ?_
      refine lv_icmp_le (tgt := 25) hx hb dX11_weight_20 (by decide) (fun c_20 => ?_) (fun c_20 => ?_)
      · have hv := hv.1 c_20
        refine lv_aload_n hx hb dX11_weight_25 rfl (lv_at hl 0 rfl) ?_
        refine va_get (D := D) (ci := 11) (v := .ref (ad 55)) (C := RX11) (T := TX11) (N := 35) hx hb hts in_X11_weight_11 hown hK hP 0 rfl rfl 27 (by decide) (hts _ lk_X11_weight_63) (fun _ h9 => h9) rfl dX11_weight_26 ?_
        refine lv_aload_n hx hb dX11_weight_29 rfl (lv_at hl 0 rfl) ?_
        refine va_get (D := D) (ci := 11) (v := .int s11_weightMany) (C := RX11) (T := TX11) (N := 35) hx hb hts in_X11_weight_11 hown hK hP 0 rfl rfl 28 (by decide) (hts _ lk_X11_weight_168) (fun _ h9 => h9) rfl dX11_weight_30 ?_
        refine lv_iload_n hx hb dX11_weight_33 rfl (lv_at hl 1 rfl) ?_
        refine k_iast hx hb hK hP hD hS 1 0 rfl rfl hv.1 dX11_weight_34 (fun a11_weights_1 H locs h_a11_weights_1 hP hD hS => ?_)
        have hv := hv.2 a11_weights_1 h_a11_weights_1
        have hP : va_P D vwCl [oX11 ad s11_d s11_stepMany s11_kind s11_many s11_partMany s11_rule s11_ticks s11_hand s11_g s11_beganElsewhere s11_dBefore s11_fBefore s11_fFirst s11_weightMany s11_tailTold, aI cy (ad 55) 64 a11_weights_1] H := hP
        have hD : va_D A [oX11 ad s11_d s11_stepMany s11_kind s11_many s11_partMany s11_rule s11_ticks s11_hand s11_g s11_beganElsewhere s11_dBefore s11_fBefore s11_fFirst s11_weightMany s11_tailTold, aI cy (ad 55) 64 a11_weights_1] := hD
        refine lv_aload_n hx hb dX11_weight_35 rfl (lv_at hl 0 rfl) ?_
        refine lv_dup hx hb dX11_weight_36 rfl ?_
        refine va_get (D := D) (ci := 11) (v := .int s11_weightMany) (C := RX11) (T := TX11) (N := 35) hx hb hts in_X11_weight_11 hown hK hP 0 rfl rfl 28 (by decide) (hts _ lk_X11_weight_168) (fun _ h9 => h9) rfl dX11_weight_37 ?_
        refine lv_iconst (v := 1) hx hb dX11_weight_40 (by decide) ?_
        refine lv_iadd hx hb dX11_weight_41 ?_
        refine lv_topi (fun e2 h_e2 => ?_)
        have hv := hv e2 h_e2
        refine va_put (D := D) (ci := 11) (v := .int e2) (ty := .int) (C := RX11) (T := TX11) (N := 35) hx hb hts in_X11_weight_11 tyX11 tyX11_ok nmX11 hown hK hP hD hS 0 rfl rfl 28 (by decide) (hts _ lk_X11_weight_168) (fun _ h9 => h9) rfl (by decide +kernel) rfl rfl (Nat.le_of_ble_eq_true rfl) dX11_weight_42 (fun H locs hP hD hS => ?_)
        have hP : va_P D vwCl [oX11 ad s11_d s11_stepMany s11_kind s11_many s11_partMany s11_rule s11_ticks s11_hand s11_g s11_beganElsewhere s11_dBefore s11_fBefore s11_fFirst e2 s11_tailTold, aI cy (ad 55) 64 a11_weights_1] H := hP
        have hD : va_D A [oX11 ad s11_d s11_stepMany s11_kind s11_many s11_partMany s11_rule s11_ticks s11_hand s11_g s11_beganElsewhere s11_dBefore s11_fBefore s11_fFirst e2 s11_tailTold, aI cy (ad 55) 64 a11_weights_1] := hD
        refine lv_aload_n hx hb dX11_weight_45 rfl (lv_at hl 0 rfl) ?_
        refine va_get (D := D) (ci := 11) (v := .int e2) (C := RX11) (T := TX11) (N := 35) hx hb hts in_X11_weight_11 hown hK hP 0 rfl rfl 28 (by decide) (hts _ lk_X11_weight_168) (fun _ h9 => h9) rfl dX11_weight_46 ?_
        rw [← hQ]
        exact k_iret hx hb hr hlocks hS (e2, a11_weights_1) hP hD hv dX11_weight_49
      · have hv := hv.2 c_20
        refine lv_iconst (v := -1) hx hb dX11_weight_23 (by decide) ?_
        rw [← hQ]
        exact k_iret hx hb hr hlocks hS (s11_weightMany, a11_weights) hP hD hv dX11_weight_24
theorem lk_X11_clear_168 : Cond.fieldLink RX11 168 "CoarseStepsModel" "weightMany" "I" ∈ wsX11_clear := by decide +kernel
theorem in_X11_clear_11 : ∀ w ∈ wsX110, w ∈ wsX11_clear := by decide +kernel
abbrev rm_X11_clear : Room := { frames := 0, cells := 0, slots := 0, locals := 0 }
set_option maxHeartbeats 4000000 in
set_option maxRecDepth 100000 in
theorem m_X11_clear (l : Launch) (D : va_G) (cy : ClassId × ClassId × ClassId) (ad : Nat → Nat) (s11_d : Int32) (s11_stepMany : Int32) (s11_kind : Int32) (s11_many : Int32) (s11_partMany : Int32) (s11_rule : Int32) (s11_ticks : Int32) (s11_hand : Int32) (s11_g : Int32) (s11_beganElsewhere : Int32) (s11_dBefore : Int32) (s11_fBefore : Int32) (s11_fFirst : Int32) (s11_weightMany : Int32) (s11_tailTold : Int32) (sz : Nat) {K : Int32 → Int32 → Prop} (hv : v_X11_clear s11_weightMany K) : Met l yX11_clear wsX11_clear rm_X11_clear (va_Pc [.ref (ad 11)] (wd D cy [oX11 ad s11_d s11_stepMany s11_kind s11_many s11_partMany s11_rule s11_ticks s11_hand s11_g s11_beganElsewhere s11_dBefore s11_fBefore s11_fFirst s11_weightMany s11_tailTold] sz)) (va_Qi (fun (r : Int32) (u : Int32) => K r u) (fun u t => we D ((fun u : Int32 => [oX11 ad s11_d s11_stepMany s11_kind s11_many s11_partMany s11_rule s11_ticks s11_hand s11_g s11_beganElsewhere s11_dBefore s11_fBefore s11_fFirst u s11_tailTold]) u) (va_A [oX11 ad s11_d s11_stepMany s11_kind s11_many s11_partMany s11_rule s11_ticks s11_hand s11_g s11_beganElsewhere s11_dBefore s11_fBefore s11_fFirst s11_weightMany s11_tailTold] sz) t) (va_A [oX11 ad s11_d s11_stepMany s11_kind s11_many s11_partMany s11_rule s11_ticks s11_hand s11_g s11_beganElsewhere s11_dBefore s11_fBefore s11_fFirst s11_weightMany s11_tailTold] sz)) 0 0 (va_A [oX11 ad s11_d s11_stepMany s11_kind s11_many s11_partMany s11_rule s11_ticks s11_hand s11_g s11_beganElsewhere s11_dBefore s11_fBefore s11_fFirst s11_weightMany s11_tailTold] sz) := by
  refine k_ofW (cc := cX11_clear) (maxL := 2) (ret := (some .int)) (fun A => va_Qi (fun (r : Int32) (u : Int32) => K r u) (fun u t => we D ((fun u : Int32 => [oX11 ad s11_d s11_stepMany s11_kind s11_many s11_partMany s11_rule s11_ticks s11_hand s11_g s11_beganElsewhere s11_dBefore s11_fBefore s11_fFirst u s11_tailTold]) u) A t) A) (by decide) rfl (Nat.le_of_ble_eq_true rfl) ?_
  intro p e s m below meth c A ls H locs hx hb hml hr hts hown hlocks hname hK hN hA hP hD hS hl
  have hl : lv_has ls 2 [(0, .ref (ad 11))] := hl
  generalize hQ : MQ below _ _ s _ _ A = Q
  unfold v_X11_clear at hv
  refine lv_aload_n hx hb dX11_clear_0 rfl (lv_at hl 0 rfl) ?_
  refine va_get (D := D) (ci := 11) (v := .int s11_weightMany) (C := RX11) (T := TX11) (N := 35) hx hb hts in_X11_clear_11 hown hK hP 0 rfl rfl 28 (by decide) (hts _ lk_X11_clear_168) (fun _ h9 => h9) rfl dX11_clear_1 ?_
  refine lv_istore_n (lv' := [(1, .int s11_weightMany), (0, .ref (ad 11))]) hx hb dX11_clear_4 rfl hl (by decide) rfl (fun ls hl => ?_)
  refine lv_aload_n hx hb dX11_clear_5 rfl (lv_at hl 1 rfl) ?_
  refine lv_iconst (v := 0) hx hb dX11_clear_6 (by decide) ?_
  refine va_put (D := D) (ci := 11) (v := .int (0 : Int32)) (ty := .int) (C := RX11) (T := TX11) (N := 35) hx hb hts in_X11_clear_11 tyX11 tyX11_ok nmX11 hown hK hP hD hS 0 rfl rfl 28 (by decide) (hts _ lk_X11_clear_168) (fun _ h9 => h9) rfl (by decide +kernel) rfl rfl (Nat.le_of_ble_eq_true rfl) dX11_clear_7 (fun H locs hP hD hS => ?_)
  have hP : va_P D vwCl [oX11 ad s11_d s11_stepMany s11_kind s11_many s11_partMany s11_rule s11_ticks s11_hand s11_g s11_beganElsewhere s11_dBefore s11_fBefore s11_fFirst (0 : Int32) s11_tailTold] H := hP
  have hD : va_D A [oX11 ad s11_d s11_stepMany s11_kind s11_many s11_partMany s11_rule s11_ticks s11_hand s11_g s11_beganElsewhere s11_dBefore s11_fBefore s11_fFirst (0 : Int32) s11_tailTold] := hD
  refine lv_iload_n hx hb dX11_clear_10 rfl (lv_at hl 0 rfl) ?_
  rw [← hQ]
  exact k_iret hx hb hr hlocks hS ((0 : Int32)) hP hD hv dX11_clear_11
theorem lk_X11_read_168 : Cond.fieldLink RX11 168 "CoarseStepsModel" "weightMany" "I" ∈ wsX11_read := by decide +kernel
theorem in_X11_read_11 : ∀ w ∈ wsX110, w ∈ wsX11_read := by decide +kernel
theorem lk_X11_read_63 : Cond.fieldLink RX11 63 "CoarseStepsModel" "weights" "[I" ∈ wsX11_read := by decide +kernel
theorem lk_X11_read_54 : Cond.fieldLink RX11 54 "CoarseStepsModel" "given" "[I" ∈ wsX11_read := by decide +kernel
abbrev rm_X11_read : Room := { frames := 1, cells := 0, slots := 0, locals := 21 }
set_option maxHeartbeats 4000000 in
set_option maxRecDepth 100000 in
theorem m_X11_read (l : Launch) (D : va_G) (cy : ClassId × ClassId × ClassId) (ad : Nat → Nat) (s11_d : Int32) (s11_stepMany : Int32) (s11_kind : Int32) (s11_many : Int32) (s11_partMany : Int32) (s11_rule : Int32) (s11_ticks : Int32) (s11_hand : Int32) (s11_g : Int32) (s11_beganElsewhere : Int32) (s11_dBefore : Int32) (s11_fBefore : Int32) (s11_fFirst : Int32) (s11_weightMany : Int32) (s11_tailTold : Int32) (a11_given : Nat → Int32) (a11_weights : Nat → Int32) (sz : Nat) {K : Int64 → Prop} (hv : v_X11_read s11_ticks s11_weightMany a11_given a11_weights K) : Met l yX11_read wsX11_read rm_X11_read (va_Pc [.ref (ad 11)] (wd D cy [oX11 ad s11_d s11_stepMany s11_kind s11_many s11_partMany s11_rule s11_ticks s11_hand s11_g s11_beganElsewhere s11_dBefore s11_fBefore s11_fFirst s11_weightMany s11_tailTold, aI cy (ad 52) 256 a11_given, aI cy (ad 55) 64 a11_weights] sz)) (va_Ql (fun (r : Int64) (u : Unit) => K r) (fun u t => we D ((fun u : Unit => [oX11 ad s11_d s11_stepMany s11_kind s11_many s11_partMany s11_rule s11_ticks s11_hand s11_g s11_beganElsewhere s11_dBefore s11_fBefore s11_fFirst s11_weightMany s11_tailTold, aI cy (ad 52) 256 a11_given, aI cy (ad 55) 64 a11_weights]) u) (va_A [oX11 ad s11_d s11_stepMany s11_kind s11_many s11_partMany s11_rule s11_ticks s11_hand s11_g s11_beganElsewhere s11_dBefore s11_fBefore s11_fFirst s11_weightMany s11_tailTold, aI cy (ad 52) 256 a11_given, aI cy (ad 55) 64 a11_weights] sz) t) (va_A [oX11 ad s11_d s11_stepMany s11_kind s11_many s11_partMany s11_rule s11_ticks s11_hand s11_g s11_beganElsewhere s11_dBefore s11_fBefore s11_fFirst s11_weightMany s11_tailTold, aI cy (ad 52) 256 a11_given, aI cy (ad 55) 64 a11_weights] sz)) 0 0 (va_A [oX11 ad s11_d s11_stepMany s11_kind s11_many s11_partMany s11_rule s11_ticks s11_hand s11_g s11_beganElsewhere s11_dBefore s11_fBefore s11_fFirst s11_weightMany s11_tailTold, aI cy (ad 52) 256 a11_given, aI cy (ad 55) 64 a11_weights] sz) := by
  refine k_ofW (cc := cX11_read) (maxL := 4) (ret := (some .long)) (fun A => va_Ql (fun (r : Int64) (u : Unit) => K r) (fun u t => we D ((fun u : Unit => [oX11 ad s11_d s11_stepMany s11_kind s11_many s11_partMany s11_rule s11_ticks s11_hand s11_g s11_beganElsewhere s11_dBefore s11_fBefore s11_fFirst s11_weightMany s11_tailTold, aI cy (ad 52) 256 a11_given, aI cy (ad 55) 64 a11_weights]) u) A t) A) (by decide) rfl (Nat.le_of_ble_eq_true rfl) ?_
  intro p e s m below meth c A ls H locs hx hb hml hr hts hown hlocks hname hK hN hA hP hD hS hl
  have hl : lv_has ls 4 [(0, .ref (ad 11))] := hl
  generalize hQ : MQ below _ _ s _ _ A = Q
  unfold v_X11_read at hv
  refine lv_lconst (v := 0) hx hb dX11_read_0 (by decide) ?_
  refine lv_lstore_n (lv' := [(1, .long (0 : Int64)), (0, .ref (ad 11))]) hx hb dX11_read_1 rfl hl (by decide) rfl (fun ls hl => ?_)
  refine lv_iconst (v := 0) hx hb dX11_read_2 (by decide) ?_
  refine lv_istore_n (lv' := [(3, .int (0 : Int32)), (1, .long (0 : Int64)), (0, .ref (ad 11))]) hx hb dX11_read_3 rfl hl (by decide) rfl (fun ls hl => ?_)
  have lp4 : ∀ (n4 : Nat) (l3_1 : Int32) (l1_2 : Int64) (H : Heap) (locs : List Loc) (ls : Array Slot), vfix (vF_X11_read_4 s11_ticks s11_weightMany a11_given a11_weights K) n4 (l3_1, l1_2) → lv_has ls 4 [(3, .int l3_1), (1, .long l1_2), (0, .ref (ad 11))] → va_P D vwCl [oX11 ad s11_d s11_stepMany s11_kind s11_many s11_partMany s11_rule s11_ticks s11_hand s11_g s11_beganElsewhere s11_dBefore s11_fBefore s11_fFirst s11_weightMany s11_tailTold, aI cy (ad 52) 256 a11_given, aI cy (ad 55) 64 a11_weights] H → va_D A [oX11 ad s11_d s11_stepMany s11_kind s11_many s11_partMany s11_rule s11_ticks s11_hand s11_g s11_beganElsewhere s11_dBefore s11_fBefore s11_fFirst s11_weightMany s11_tailTold, aI cy (ad 52) 256 a11_given, aI cy (ad 55) 64 a11_weights] → va_S A s.heap H locs → W p l e rm_X11_read s m ([.ref (ad 11)] : List Value).toArray below meth c H locs 0 0 Q (F0 m 4 ls []) := by
    intro n4
    induction n4 with
    | zero => intro l3_1 l1_2 H locs ls hv; exact hv.elim
    | succ n4 ih4 =>
      intro l3_1 l1_2 H locs ls hv hl hP hD hS
      have hv : vB_X11_read_4 s11_ticks s11_weightMany a11_given a11_weights K (fun z0 z1 => vfix (vF_X11_read_4 s11_ticks s11_weightMany a11_given a11_weights K) n4 (z0, z1)) l3_1 l1_2 := hv
      unfold vB_X11_read_4 at hv
      refine lv_iload_n hx hb dX11_read_4 rfl (lv_at hl 0 rfl) ?_
      refine lv_aload_n hx hb dX11_read_5 rfl (lv_at hl 2 rfl) ?_
      refine va_get (D := D) (ci := 11) (v := .int s11_weightMany) (C := RX11) (T := TX11) (N := 35) hx hb hts in_X11_read_11 hown hK hP 0 rfl rfl 28 (by decide) (hts _ lk_X11_read_168) (fun _ h9 => h9) rfl dX11_read_6 ?_
      refine lv_icmp_ge (tgt := 48) hx hb dX11_read_9 (by decide) (fun c_9 => ?_) (fun c_9 => ?_)
      · have hv := hv.1 c_9
        refine lv_lload_n hx hb dX11_read_48 rfl (lv_at hl 1 rfl) ?_
        rw [← hQ]
        exact k_lret hx hb hr hlocks hS () hP hD hv dX11_read_49
      · have hv := hv.2 c_9
        refine lv_iload_n hx hb dX11_read_12 rfl (lv_at hl 0 rfl) ?_
        refine lv_aload_n hx hb dX11_read_13 rfl (lv_at hl 2 rfl) ?_
        have hPc := hP.sub (ws' := [oX11 ad s11_d s11_stepMany s11_kind s11_many s11_partMany s11_rule s11_ticks s11_hand s11_g s11_beganElsewhere s11_dBefore s11_fBefore s11_fFirst s11_weightMany s11_tailTold]) [0] rfl
        have hDc := hD.sub (ws' := [oX11 ad s11_d s11_stepMany s11_kind s11_many s11_partMany s11_rule s11_ticks s11_hand s11_g s11_beganElsewhere s11_dBefore s11_fBefore s11_fFirst s11_weightMany s11_tailTold]) [0] (by decide) rfl
        refine k_cali (wc := [oX11 ad s11_d s11_stepMany s11_kind s11_many s11_partMany s11_rule s11_ticks s11_hand s11_g s11_beganElsewhere s11_dBefore s11_fBefore s11_fFirst s11_weightMany s11_tailTold]) (wr := [aI cy (ad 52) 256 a11_given, aI cy (ad 55) 64 a11_weights]) (va_runV (As := []) (rest := [.int l3_1]) ⟨hx, hb, hml, hown, hts⟩ (m_X11_kept l D cy ad s11_d s11_stepMany s11_kind s11_many s11_partMany s11_rule s11_ticks s11_hand s11_g s11_beganElsewhere s11_dBefore s11_fBefore s11_fFirst s11_weightMany s11_tailTold H.size hv) (cwV 0 hts gX11_read_X11_kept rfl rfl rfl (by decide +kernel) ⟨Nat.le_of_ble_eq_true rfl, Nat.le_of_ble_eq_true rfl⟩) ⟨wd_blind, va_recv hK hPc (ci := 11) (q0 := 0) rfl rfl, wd_ok hPc hK hDc hN⟩ rfl rfl hl.1 rfl (lv_room (Nat.le_of_ble_eq_true rfl)) dX11_read_14 ⟨Nat.le_of_ble_eq_true rfl, Nat.le_of_ble_eq_true rfl⟩) hP hD hS hA [0] [1, 2] rfl rfl (by decide) (by decide) (fun r3 u H locs hv hP hD hS => ?_)
        have hP : va_P D vwCl [oX11 ad s11_d s11_stepMany s11_kind s11_many s11_partMany s11_rule s11_ticks s11_hand s11_g s11_beganElsewhere s11_dBefore s11_fBefore s11_fFirst s11_weightMany s11_tailTold, aI cy (ad 52) 256 a11_given, aI cy (ad 55) 64 a11_weights] H := hP.sub [2, 0, 1] rfl
        have hD : va_D A [oX11 ad s11_d s11_stepMany s11_kind s11_many s11_partMany s11_rule s11_ticks s11_hand s11_g s11_beganElsewhere s11_dBefore s11_fBefore s11_fFirst s11_weightMany s11_tailTold, aI cy (ad 52) 256 a11_given, aI cy (ad 55) 64 a11_weights] := hD.sub [2, 0, 1] (by decide) rfl
        refine lv_icmp_ge (tgt := 48) hx hb dX11_read_17 (by decide) (fun c_17 => ?_) (fun c_17 => ?_)
        · have hv := hv.1 c_17
          refine lv_lload_n hx hb dX11_read_48 rfl (lv_at hl 1 rfl) ?_
          rw [← hQ]
          exact k_lret hx hb hr hlocks hS () hP hD hv dX11_read_49
        · have hv := hv.2 c_17
          refine lv_lload_n hx hb dX11_read_20 rfl (lv_at hl 1 rfl) ?_
          refine lv_aload_n hx hb dX11_read_21 rfl (lv_at hl 2 rfl) ?_
          refine va_get (D := D) (ci := 11) (v := .ref (ad 55)) (C := RX11) (T := TX11) (N := 35) hx hb hts in_X11_read_11 hown hK hP 0 rfl rfl 27 (by decide) (hts _ lk_X11_read_63) (fun _ h9 => h9) rfl dX11_read_22 ?_
          refine lv_iload_n hx hb dX11_read_25 rfl (lv_at hl 0 rfl) ?_
          refine va_iald hx hb hK hP 2 0 rfl rfl hv.1 dX11_read_26 ?_
          refine lv_topi (fun g4 h_g4 => ?_)
          have hv := hv.2 g4 h_g4
          refine lv_i2l hx hb dX11_read_27 rfl ?_
          refine lv_aload_n hx hb dX11_read_28 rfl (lv_at hl 2 rfl) ?_
          refine va_get (D := D) (ci := 11) (v := .ref (ad 52)) (C := RX11) (T := TX11) (N := 35) hx hb hts in_X11_read_11 hown hK hP 0 rfl rfl 24 (by decide) (hts _ lk_X11_read_54) (fun _ h9 => h9) rfl dX11_read_29 ?_
          refine lv_aload_n hx hb dX11_read_32 rfl (lv_at hl 2 rfl) ?_
          refine lv_iload_n hx hb dX11_read_33 rfl (lv_at hl 0 rfl) ?_
          have hPc := hP.sub (ws' := [oX11 ad s11_d s11_stepMany s11_kind s11_many s11_partMany s11_rule s11_ticks s11_hand s11_g s11_beganElsewhere s11_dBefore s11_fBefore s11_fFirst s11_weightMany s11_tailTold]) [0] rfl
          have hDc := hD.sub (ws' := [oX11 ad s11_d s11_stepMany s11_kind s11_many s11_partMany s11_rule s11_ticks s11_hand s11_g s11_beganElsewhere s11_dBefore s11_fBefore s11_fFirst s11_weightMany s11_tailTold]) [0] (by decide) rfl
          refine k_cali (wc := [oX11 ad s11_d s11_stepMany s11_kind s11_many s11_partMany s11_rule s11_ticks s11_hand s11_g s11_beganElsewhere s11_dBefore s11_fBefore s11_fFirst s11_weightMany s11_tailTold]) (wr := [aI cy (ad 52) 256 a11_given, aI cy (ad 55) 64 a11_weights]) (va_runV (As := [.int l3_1]) (rest := [.ref (ad 52), .long g4.toInt64, .long l1_2]) ⟨hx, hb, hml, hown, hts⟩ (m_X11_latest l D cy ad s11_d s11_stepMany s11_kind s11_many s11_partMany s11_rule s11_ticks s11_hand s11_g s11_beganElsewhere s11_dBefore s11_fBefore s11_fFirst s11_weightMany s11_tailTold l3_1 H.size hv) (cwV 1 hts gX11_read_X11_latest rfl rfl rfl (by decide +kernel) ⟨Nat.le_of_ble_eq_true rfl, Nat.le_of_ble_eq_true rfl⟩) ⟨wd_blind, va_recv hK hPc (ci := 11) (q0 := 0) rfl rfl, wd_ok hPc hK hDc hN⟩ rfl rfl hl.1 rfl (lv_room (Nat.le_of_ble_eq_true rfl)) dX11_read_34 ⟨Nat.le_of_ble_eq_true rfl, Nat.le_of_ble_eq_true rfl⟩) hP hD hS hA [0] [1, 2] rfl rfl (by decide) (by decide) (fun r5 u H locs hv hP hD hS => ?_)
          have hP : va_P D vwCl [oX11 ad s11_d s11_stepMany s11_kind s11_many s11_partMany s11_rule s11_ticks s11_hand s11_g s11_beganElsewhere s11_dBefore s11_fBefore s11_fFirst s11_weightMany s11_tailTold, aI cy (ad 52) 256 a11_given, aI cy (ad 55) 64 a11_weights] H := hP.sub [2, 0, 1] rfl
          have hD : va_D A [oX11 ad s11_d s11_stepMany s11_kind s11_many s11_partMany s11_rule s11_ticks s11_hand s11_g s11_beganElsewhere s11_dBefore s11_fBefore s11_fFirst s11_weightMany s11_tailTold, aI cy (ad 52) 256 a11_given, aI cy (ad 55) 64 a11_weights] := hD.sub [2, 0, 1] (by decide) rfl
          refine va_iald hx hb hK hP 1 0 rfl rfl hv.1 dX11_read_37 ?_
          refine lv_topi (fun g6 h_g6 => ?_)
          have hv := hv.2 g6 h_g6
          refine lv_i2l hx hb dX11_read_38 rfl ?_
          refine lv_lmul hx hb dX11_read_39 ?_
          refine lv_topl (fun e7 h_e7 => ?_)
          have hv := hv e7 h_e7
          refine lv_ladd hx hb dX11_read_40 ?_
          refine lv_topl (fun e8 h_e8 => ?_)
          have hv := hv e8 h_e8
          refine lv_lstore_n (lv' := [(1, .long e8), (3, .int l3_1), (0, .ref (ad 11))]) hx hb dX11_read_41 rfl hl (by decide) rfl (fun ls hl => ?_)
          obtain ⟨i9, h_i9⟩ : ∃ y : Int32, y = l3_1 + 1 := ⟨_, rfl⟩
          refine lv_iinc (v := i9) (lv' := [(3, .int i9), (1, .long e8), (0, .ref (ad 11))]) hx hb dX11_read_42 hl (k := 1) rfl (by rw [h_i9]; rfl) (by decide) rfl (fun ls hl => ?_)
          have hv := hv i9 h_i9
          refine lv_goto (tgt := 4) hx hb dX11_read_45 (by decide) ?_
          exact ih4 i9 e8 H locs ls hv (lv_sub hl [0, 1, 2] rfl) hP hD hS
  obtain ⟨nn, hv⟩ := hv
  exact lp4 nn (0 : Int32) (0 : Int64) H locs ls hv (lv_sub hl [0, 1, 2] rfl) hP hD hS
abbrev rm_X11_floor : Room := { frames := 0, cells := 0, slots := 0, locals := 0 }
set_option maxHeartbeats 4000000 in
set_option maxRecDepth 100000 in
theorem m_X11_floor (l : Launch) (D : va_G) (cy : ClassId × ClassId × ClassId) (ad : Nat → Nat) (x0 : Int64) (x2 : Int64) (sz : Nat) {K : Int64 → Prop} (hv : v_X11_floor x0 x2 K) : Met l yX11_floor wsX11_floor rm_X11_floor (va_Pc [.long x0, .long x2] (wd D cy [] sz)) (va_Ql (fun (r : Int64) (u : Unit) => K r) (fun u t => we D ((fun u : Unit => []) u) (va_A [] sz) t) (va_A [] sz)) 0 0 (va_A [] sz) := by
  refine k_ofW (cc := cX11_floor) (maxL := 6) (ret := (some .long)) (fun A => va_Ql (fun (r : Int64) (u : Unit) => K r) (fun u t => we D ((fun u : Unit => []) u) A t) A) (by decide) rfl (Nat.le_of_ble_eq_true rfl) ?_
  intro p e s m below meth c A ls H locs hx hb hml hr hts hown hlocks hname hK hN hA hP hD hS hl
  have hl : lv_has ls 6 [(0, .long x0), (2, .long x2)] := hl
  generalize hQ : MQ below _ _ s _ _ A = Q
  unfold v_X11_floor at hv
  refine lv_lload_n hx hb dX11_floor_0 rfl (lv_at hl 0 rfl) ?_
  refine lv_lload_n hx hb dX11_floor_1 rfl (lv_at hl 1 rfl) ?_
  have hne := hv.1
  have hv := hv.2
  refine lv_ldiv hx hb dX11_floor_2 hne ?_
  refine lv_topl (fun e1 h_e1 => ?_)
  have hv := hv e1 h_e1
  refine lv_lstore (lv' := [(4, .long e1), (0, .long x0), (2, .long x2)]) hx hb dX11_floor_3 hl (by decide) rfl (fun ls hl => ?_)
  refine lv_lload hx hb dX11_floor_5 (lv_at hl 0 rfl) ?_
  refine lv_lload_n hx hb dX11_floor_7 rfl (lv_at hl 2 rfl) ?_
  refine lv_lmul hx hb dX11_floor_8 ?_
  refine lv_topl (fun e2 h_e2 => ?_)
  have hv := hv e2 h_e2
  refine lv_lload_n hx hb dX11_floor_9 rfl (lv_at hl 1 rfl) ?_
  refine k_lc_le (tgt := 21) hx hb dX11_floor_10 dX11_floor_11 (by decide) (fun c_10 => ?_) (fun c_10 => ?_)
  · have hv := hv.1 c_10
    refine lv_lload hx hb dX11_floor_21 (lv_at hl 0 rfl) ?_
    rw [← hQ]
    exact k_lret hx hb hr hlocks hS () hP hD hv dX11_floor_23
  · have hv := hv.2 c_10
    refine lv_lload hx hb dX11_floor_14 (lv_at hl 0 rfl) ?_
    refine lv_lconst (v := 1) hx hb dX11_floor_16 (by decide) ?_
    refine lv_lsub hx hb dX11_floor_17 ?_
    refine lv_topl (fun e3 h_e3 => ?_)
    have hv := hv e3 h_e3
    refine lv_goto (tgt := 23) hx hb dX11_floor_18 (by decide) ?_
    rw [← hQ]
    exact k_lret hx hb hr hlocks hS () hP hD hv dX11_floor_23
theorem lk_X11_back_151 : Cond.constant RX11 151 (-2147483648) ∈ wsX11_back := by decide +kernel
theorem lk_X11_back_81 : Cond.fieldLink RX11 81 "CoarseStepsModel" "ticks" "I" ∈ wsX11_back := by decide +kernel
theorem in_X11_back_11 : ∀ w ∈ wsX110, w ∈ wsX11_back := by decide +kernel
theorem lk_X11_back_103 : Cond.fieldLink RX11 103 "CoarseStepsModel" "kind" "I" ∈ wsX11_back := by decide +kernel
theorem lk_X11_back_96 : Cond.fieldLink RX11 96 "CoarseStepsModel" "beganElsewhere" "Z" ∈ wsX11_back := by decide +kernel
theorem lk_X11_back_171 : Cond.constantLong RX11 171 (-1000000) ∈ wsX11_back := by decide +kernel
theorem lk_X11_back_173 : Cond.constantLong RX11 173 (1000000) ∈ wsX11_back := by decide +kernel
theorem lk_X11_back_54 : Cond.fieldLink RX11 54 "CoarseStepsModel" "given" "[I" ∈ wsX11_back := by decide +kernel
theorem lk_X11_back_19 : Cond.fieldLink RX11 19 "CoarseStepsModel" "steps" "[I" ∈ wsX11_back := by decide +kernel
theorem lk_X11_back_13 : Cond.fieldLink RX11 13 "CoarseStepsModel" "stepMany" "I" ∈ wsX11_back := by decide +kernel
theorem lk_X11_back_7 : Cond.fieldLink RX11 7 "CoarseStepsModel" "d" "I" ∈ wsX11_back := by decide +kernel
abbrev rm_X11_back : Room := { frames := 1, cells := 0, slots := 0, locals := 25 }
set_option maxHeartbeats 4000000 in
set_option maxRecDepth 100000 in
theorem m_X11_back (l : Launch) (D : va_G) (cy : ClassId × ClassId × ClassId) (ad : Nat → Nat) (s11_d : Int32) (s11_stepMany : Int32) (s11_kind : Int32) (s11_many : Int32) (s11_partMany : Int32) (s11_rule : Int32) (s11_ticks : Int32) (s11_hand : Int32) (s11_g : Int32) (s11_beganElsewhere : Int32) (s11_dBefore : Int32) (s11_fBefore : Int32) (s11_fFirst : Int32) (s11_weightMany : Int32) (s11_tailTold : Int32) (a11_steps : Nat → Int32) (a11_given : Nat → Int32) (x1 : Int32) (x2 : Int32) (sz : Nat) {K : Int32 → Prop} (hv : v_X11_back s11_d s11_stepMany s11_kind s11_ticks s11_beganElsewhere a11_steps a11_given x1 x2 K) : Met l yX11_back wsX11_back rm_X11_back (va_Pc [.ref (ad 11), .int x1, .int x2] (wd D cy [oX11 ad s11_d s11_stepMany s11_kind s11_many s11_partMany s11_rule s11_ticks s11_hand s11_g s11_beganElsewhere s11_dBefore s11_fBefore s11_fFirst s11_weightMany s11_tailTold, aI cy (ad 41) 8 a11_steps, aI cy (ad 52) 256 a11_given] sz)) (va_Qi (fun (r : Int32) (u : Unit) => K r) (fun u t => we D ((fun u : Unit => [oX11 ad s11_d s11_stepMany s11_kind s11_many s11_partMany s11_rule s11_ticks s11_hand s11_g s11_beganElsewhere s11_dBefore s11_fBefore s11_fFirst s11_weightMany s11_tailTold, aI cy (ad 41) 8 a11_steps, aI cy (ad 52) 256 a11_given]) u) (va_A [oX11 ad s11_d s11_stepMany s11_kind s11_many s11_partMany s11_rule s11_ticks s11_hand s11_g s11_beganElsewhere s11_dBefore s11_fBefore s11_fFirst s11_weightMany s11_tailTold, aI cy (ad 41) 8 a11_steps, aI cy (ad 52) 256 a11_given] sz) t) (va_A [oX11 ad s11_d s11_stepMany s11_kind s11_many s11_partMany s11_rule s11_ticks s11_hand s11_g s11_beganElsewhere s11_dBefore s11_fBefore s11_fFirst s11_weightMany s11_tailTold, aI cy (ad 41) 8 a11_steps, aI cy (ad 52) 256 a11_given] sz)) 0 0 (va_A [oX11 ad s11_d s11_stepMany s11_kind s11_many s11_partMany s11_rule s11_ticks s11_hand s11_g s11_beganElsewhere s11_dBefore s11_fBefore s11_fFirst s11_weightMany s11_tailTold, aI cy (ad 41) 8 a11_steps, aI cy (ad 52) 256 a11_given] sz) := by
  refine k_ofW (cc := cX11_back) (maxL := 14) (ret := (some .int)) (fun A => va_Qi (fun (r : Int32) (u : Unit) => K r) (fun u t => we D ((fun u : Unit => [oX11 ad s11_d s11_stepMany s11_kind s11_many s11_partMany s11_rule s11_ticks s11_hand s11_g s11_beganElsewhere s11_dBefore s11_fBefore s11_fFirst s11_weightMany s11_tailTold, aI cy (ad 41) 8 a11_steps, aI cy (ad 52) 256 a11_given]) u) A t) A) (by decide) rfl (Nat.le_of_ble_eq_true rfl) ?_
  intro p e s m below meth c A ls H locs hx hb hml hr hts hown hlocks hname hK hN hA hP hD hS hl
  have hl : lv_has ls 14 [(0, .ref (ad 11)), (1, .int x1), (2, .int x2)] := hl
  generalize hQ : MQ below _ _ s _ _ A = Q
  unfold v_X11_back at hv
  refine lv_iload_n hx hb dX11_back_0 rfl (lv_at hl 1 rfl) ?_
  refine lv_iconst (v := 1) hx hb dX11_back_1 (by decide) ?_
  refine lv_icmp_lt (tgt := 53) hx hb dX11_back_2 (by decide) (fun c_2 => ?_) (fun c_2 => ?_)
  · have hv := hv.1 c_2
    refine lv_ldc hx hb hown (hts _ lk_X11_back_151) dX11_back_53 ?_
    rw [← hQ]
    exact k_iret hx hb hr hlocks hS () hP hD hv dX11_back_55
  · have hv := hv.2 c_2
    refine lv_iload_n hx hb dX11_back_5 rfl (lv_at hl 1 rfl) ?_
    refine lv_sipush (v := 256) hx hb dX11_back_6 (by decide) ?_
    refine lv_icmp_gt (tgt := 53) hx hb dX11_back_9 (by decide) (fun c_9 => ?_) (fun c_9 => ?_)
    · have hv := hv.1 c_9
      refine lv_ldc hx hb hown (hts _ lk_X11_back_151) dX11_back_53 ?_
      rw [← hQ]
      exact k_iret hx hb hr hlocks hS () hP hD hv dX11_back_55
    · have hv := hv.2 c_9
      refine lv_iload_n hx hb dX11_back_12 rfl (lv_at hl 1 rfl) ?_
      refine lv_aload_n hx hb dX11_back_13 rfl (lv_at hl 0 rfl) ?_
      refine va_get (D := D) (ci := 11) (v := .int s11_ticks) (C := RX11) (T := TX11) (N := 35) hx hb hts in_X11_back_11 hown hK hP 0 rfl rfl 6 (by decide) (hts _ lk_X11_back_81) (fun _ h9 => h9) rfl dX11_back_14 ?_
      refine lv_icmp_gt (tgt := 53) hx hb dX11_back_17 (by decide) (fun c_17 => ?_) (fun c_17 => ?_)
      · have hv := hv.1 c_17
        refine lv_ldc hx hb hown (hts _ lk_X11_back_151) dX11_back_53 ?_
        rw [← hQ]
        exact k_iret hx hb hr hlocks hS () hP hD hv dX11_back_55
      · have hv := hv.2 c_17
        refine lv_aload_n hx hb dX11_back_20 rfl (lv_at hl 0 rfl) ?_
        refine va_get (D := D) (ci := 11) (v := .int s11_ticks) (C := RX11) (T := TX11) (N := 35) hx hb hts in_X11_back_11 hown hK hP 0 rfl rfl 6 (by decide) (hts _ lk_X11_back_81) (fun _ h9 => h9) rfl dX11_back_21 ?_
        refine lv_sipush (v := 256) hx hb dX11_back_24 (by decide) ?_
        refine lv_icmp_gt (tgt := 53) hx hb dX11_back_27 (by decide) (fun c_27 => ?_) (fun c_27 => ?_)
        · have hv := hv.1 c_27
          refine lv_ldc hx hb hown (hts _ lk_X11_back_151) dX11_back_53 ?_
          rw [← hQ]
          exact k_iret hx hb hr hlocks hS () hP hD hv dX11_back_55
        · have hv := hv.2 c_27
          refine lv_aload_n hx hb dX11_back_30 rfl (lv_at hl 0 rfl) ?_
          refine va_get (D := D) (ci := 11) (v := .int s11_kind) (C := RX11) (T := TX11) (N := 35) hx hb hts in_X11_back_11 hown hK hP 0 rfl rfl 2 (by decide) (hts _ lk_X11_back_103) (fun _ h9 => h9) rfl dX11_back_31 ?_
          refine lv_if_ne (tgt := 53) hx hb dX11_back_34 (by decide) (fun c_34 => ?_) (fun c_34 => ?_)
          · have hv := hv.1 c_34
            refine lv_ldc hx hb hown (hts _ lk_X11_back_151) dX11_back_53 ?_
            rw [← hQ]
            exact k_iret hx hb hr hlocks hS () hP hD hv dX11_back_55
          · have hv := hv.2 c_34
            refine lv_aload_n hx hb dX11_back_37 rfl (lv_at hl 0 rfl) ?_
            refine va_get (D := D) (ci := 11) (v := .int s11_beganElsewhere) (C := RX11) (T := TX11) (N := 35) hx hb hts in_X11_back_11 hown hK hP 0 rfl rfl 18 (by decide) (hts _ lk_X11_back_96) (fun _ h9 => h9) rfl dX11_back_38 ?_
            refine lv_if_ne (tgt := 53) hx hb dX11_back_41 (by decide) (fun c_41 => ?_) (fun c_41 => ?_)
            · have hv := hv.1 c_41
              refine lv_ldc hx hb hown (hts _ lk_X11_back_151) dX11_back_53 ?_
              rw [← hQ]
              exact k_iret hx hb hr hlocks hS () hP hD hv dX11_back_55
            · have hv := hv.2 c_41
              refine lv_iload_n hx hb dX11_back_44 rfl (lv_at hl 2 rfl) ?_
              refine lv_if_lt (tgt := 53) hx hb dX11_back_45 (by decide) (fun c_45 => ?_) (fun c_45 => ?_)
              · have hv := hv.1 c_45
                refine lv_ldc hx hb hown (hts _ lk_X11_back_151) dX11_back_53 ?_
                rw [← hQ]
                exact k_iret hx hb hr hlocks hS () hP hD hv dX11_back_55
              · have hv := hv.2 c_45
                refine lv_iload_n hx hb dX11_back_48 rfl (lv_at hl 2 rfl) ?_
                refine lv_iconst (v := 1) hx hb dX11_back_49 (by decide) ?_
                refine lv_icmp_le (tgt := 56) hx hb dX11_back_50 (by decide) (fun c_50 => ?_) (fun c_50 => ?_)
                · have hv := hv.1 c_50
                  refine lv_ldc2 hx hb hown (hts _ lk_X11_back_171) dX11_back_56 ?_
                  refine lv_lstore_n (lv' := [(3, .long (-1000000 : Int64)), (0, .ref (ad 11)), (1, .int x1), (2, .int x2)]) hx hb dX11_back_59 rfl hl (by decide) rfl (fun ls hl => ?_)
                  refine lv_ldc2 hx hb hown (hts _ lk_X11_back_173) dX11_back_60 ?_
                  refine lv_lstore (lv' := [(5, .long (1000000 : Int64)), (3, .long (-1000000 : Int64)), (0, .ref (ad 11)), (1, .int x1), (2, .int x2)]) hx hb dX11_back_63 hl (by decide) rfl (fun ls hl => ?_)
                  refine lv_lconst (v := 0) hx hb dX11_back_65 (by decide) ?_
                  refine lv_lstore (lv' := [(7, .long (0 : Int64)), (5, .long (1000000 : Int64)), (3, .long (-1000000 : Int64)), (0, .ref (ad 11)), (1, .int x1), (2, .int x2)]) hx hb dX11_back_66 hl (by decide) rfl (fun ls hl => ?_)
                  refine lv_iconst (v := 0) hx hb dX11_back_68 (by decide) ?_
                  refine lv_istore (lv' := [(9, .int (0 : Int32)), (7, .long (0 : Int64)), (5, .long (1000000 : Int64)), (3, .long (-1000000 : Int64)), (0, .ref (ad 11)), (1, .int x1), (2, .int x2)]) hx hb dX11_back_69 hl (by decide) rfl (fun ls hl => ?_)
                  have lp71 : ∀ (n71 : Nat) (l9_1 : Int32) (l7_2 : Int64) (l5_3 : Int64) (l3_4 : Int64) (H : Heap) (locs : List Loc) (ls : Array Slot), vfix (vF_X11_back_71 s11_d s11_stepMany a11_steps a11_given x1 x2 K) n71 (l9_1, l7_2, l5_3, l3_4) → lv_has ls 14 [(9, .int l9_1), (7, .long l7_2), (5, .long l5_3), (3, .long l3_4), (0, .ref (ad 11)), (1, .int x1), (2, .int x2)] → va_P D vwCl [oX11 ad s11_d s11_stepMany s11_kind s11_many s11_partMany s11_rule s11_ticks s11_hand s11_g s11_beganElsewhere s11_dBefore s11_fBefore s11_fFirst s11_weightMany s11_tailTold, aI cy (ad 41) 8 a11_steps, aI cy (ad 52) 256 a11_given] H → va_D A [oX11 ad s11_d s11_stepMany s11_kind s11_many s11_partMany s11_rule s11_ticks s11_hand s11_g s11_beganElsewhere s11_dBefore s11_fBefore s11_fFirst s11_weightMany s11_tailTold, aI cy (ad 41) 8 a11_steps, aI cy (ad 52) 256 a11_given] → va_S A s.heap H locs → W p l e rm_X11_back s m ([.ref (ad 11), .int x1, .int x2] : List Value).toArray below meth c H locs 0 0 Q (F0 m 71 ls []) := by
                    intro n71
                    induction n71 with
                    | zero => intro l9_1 l7_2 l5_3 l3_4 H locs ls hv; exact hv.elim
                    | succ n71 ih71 =>
                      intro l9_1 l7_2 l5_3 l3_4 H locs ls hv hl hP hD hS
                      have hv : vB_X11_back_71 s11_d s11_stepMany a11_steps a11_given x1 x2 K (fun z0 z1 z2 z3 => vfix (vF_X11_back_71 s11_d s11_stepMany a11_steps a11_given x1 x2 K) n71 (z0, z1, z2, z3)) l9_1 l7_2 l5_3 l3_4 := hv
                      unfold vB_X11_back_71 at hv
                      refine lv_iload hx hb dX11_back_71 (lv_at hl 0 rfl) ?_
                      refine lv_iload_n hx hb dX11_back_73 rfl (lv_at hl 5 rfl) ?_
                      refine lv_icmp_ge (tgt := 229) hx hb dX11_back_74 (by decide) (fun c_74 => ?_) (fun c_74 => ?_)
                      · have hv := hv.1 c_74
                        refine lv_lload_n hx hb dX11_back_229 rfl (lv_at hl 3 rfl) ?_
                        refine lv_lload hx hb dX11_back_230 (lv_at hl 2 rfl) ?_
                        refine k_lc_le (tgt := 239) hx hb dX11_back_232 dX11_back_233 (by decide) (fun c_232 => ?_) (fun c_232 => ?_)
                        · have hv := hv.1 c_232
                          refine lv_iload_n hx hb dX11_back_239 rfl (lv_at hl 6 rfl) ?_
                          refine lv_if_ne (tgt := 247) hx hb dX11_back_240 (by decide) (fun c_240 => ?_) (fun c_240 => ?_)
                          · have hv := hv.1 c_240
                            refine lv_lload hx hb dX11_back_247 (lv_at hl 2 rfl) ?_
                            refine lv_l2i hx hb dX11_back_249 rfl ?_
                            rw [← hQ]
                            exact k_iret hx hb hr hlocks hS () hP hD hv dX11_back_250
                          · have hv := hv.2 c_240
                            refine lv_lload_n hx hb dX11_back_243 rfl (lv_at hl 3 rfl) ?_
                            refine lv_goto (tgt := 249) hx hb dX11_back_244 (by decide) ?_
                            refine lv_l2i hx hb dX11_back_249 rfl ?_
                            rw [← hQ]
                            exact k_iret hx hb hr hlocks hS () hP hD hv dX11_back_250
                        · have hv := hv.2 c_232
                          refine lv_ldc hx hb hown (hts _ lk_X11_back_151) dX11_back_236 ?_
                          rw [← hQ]
                          exact k_iret hx hb hr hlocks hS () hP hD hv dX11_back_238
                      · have hv := hv.2 c_74
                        refine lv_aload_n hx hb dX11_back_77 rfl (lv_at hl 4 rfl) ?_
                        refine va_get (D := D) (ci := 11) (v := .ref (ad 52)) (C := RX11) (T := TX11) (N := 35) hx hb hts in_X11_back_11 hown hK hP 0 rfl rfl 24 (by decide) (hts _ lk_X11_back_54) (fun _ h9 => h9) rfl dX11_back_78 ?_
                        refine lv_iload hx hb dX11_back_81 (lv_at hl 0 rfl) ?_
                        refine va_iald hx hb hK hP 2 0 rfl rfl hv.1 dX11_back_83 ?_
                        refine lv_topi (fun g5 h_g5 => ?_)
                        have hv := hv.2 g5 h_g5
                        refine lv_istore (lv' := [(10, .int g5), (9, .int l9_1), (7, .long l7_2), (5, .long l5_3), (3, .long l3_4), (0, .ref (ad 11)), (1, .int x1), (2, .int x2)]) hx hb dX11_back_84 hl (by decide) rfl (fun ls hl => ?_)
                        refine lv_iconst (v := 0) hx hb dX11_back_86 (by decide) ?_
                        refine lv_istore (lv' := [(11, .int (0 : Int32)), (10, .int g5), (9, .int l9_1), (7, .long l7_2), (5, .long l5_3), (3, .long l3_4), (0, .ref (ad 11)), (1, .int x1), (2, .int x2)]) hx hb dX11_back_87 hl (by decide) rfl (fun ls hl => ?_)
                        have lp89 : ∀ (n89 : Nat) (l11_6 : Int32) (H : Heap) (locs : List Loc) (ls : Array Slot), vfix (vF_X11_back_89 s11_d s11_stepMany a11_steps l9_1 l7_2 l5_3 l3_4 (fun z0 z1 z2 z3 => vfix (vF_X11_back_71 s11_d s11_stepMany a11_steps a11_given x1 x2 K) n71 (z0, z1, z2, z3)) g5) n89 l11_6 → lv_has ls 14 [(11, .int l11_6), (10, .int g5), (9, .int l9_1), (7, .long l7_2), (5, .long l5_3), (3, .long l3_4), (0, .ref (ad 11)), (1, .int x1), (2, .int x2)] → va_P D vwCl [oX11 ad s11_d s11_stepMany s11_kind s11_many s11_partMany s11_rule s11_ticks s11_hand s11_g s11_beganElsewhere s11_dBefore s11_fBefore s11_fFirst s11_weightMany s11_tailTold, aI cy (ad 41) 8 a11_steps, aI cy (ad 52) 256 a11_given] H → va_D A [oX11 ad s11_d s11_stepMany s11_kind s11_many s11_partMany s11_rule s11_ticks s11_hand s11_g s11_beganElsewhere s11_dBefore s11_fBefore s11_fFirst s11_weightMany s11_tailTold, aI cy (ad 41) 8 a11_steps, aI cy (ad 52) 256 a11_given] → va_S A s.heap H locs → W p l e rm_X11_back s m ([.ref (ad 11), .int x1, .int x2] : List Value).toArray below meth c H locs 0 0 Q (F0 m 89 ls []) := by
                          intro n89
                          induction n89 with
                          | zero => intro l11_6 H locs ls hv; exact hv.elim
                          | succ n89 ih89 =>
                            intro l11_6 H locs ls hv hl hP hD hS
                            have hv : vB_X11_back_89 s11_d s11_stepMany a11_steps l9_1 l7_2 l5_3 l3_4 (fun z0 z1 z2 z3 => vfix (vF_X11_back_71 s11_d s11_stepMany a11_steps a11_given x1 x2 K) n71 (z0, z1, z2, z3)) g5 (fun z0 => vfix (vF_X11_back_89 s11_d s11_stepMany a11_steps l9_1 l7_2 l5_3 l3_4 (fun z0 z1 z2 z3 => vfix (vF_X11_back_71 s11_d s11_stepMany a11_steps a11_given x1 x2 K) n71 (z0, z1, z2, z3)) g5) n89 z0) l11_6 := hv
                            unfold vB_X11_back_89 at hv
                            refine lv_aload_n hx hb dX11_back_89 rfl (lv_at hl 6 rfl) ?_
                            refine va_get (D := D) (ci := 11) (v := .ref (ad 41)) (C := RX11) (T := TX11) (N := 35) hx hb hts in_X11_back_11 hown hK hP 0 rfl rfl 8 (by decide) (hts _ lk_X11_back_19) (fun _ h9 => h9) rfl dX11_back_90 ?_
                            refine lv_iload hx hb dX11_back_93 (lv_at hl 0 rfl) ?_
                            refine va_iald hx hb hK hP 1 0 rfl rfl hv.1 dX11_back_95 ?_
                            refine lv_topi (fun g7 h_g7 => ?_)
                            have hv := hv.2 g7 h_g7
                            refine lv_iload hx hb dX11_back_96 (lv_at hl 1 rfl) ?_
                            refine lv_icmp_eq (tgt := 107) hx hb dX11_back_98 (by decide) (fun c_98 => ?_) (fun c_98 => ?_)
                            · have hv := hv.1 c_98
                              refine lv_iload hx hb dX11_back_107 (lv_at hl 0 rfl) ?_
                              have jn150 : ∀ (l3_8 : Int64) (H : Heap) (locs : List Loc) (ls : Array Slot), vJ_X11_back_150 s11_d s11_stepMany a11_steps l9_1 l7_2 l5_3 (fun z0 z1 z2 z3 => vfix (vF_X11_back_71 s11_d s11_stepMany a11_steps a11_given x1 x2 K) n71 (z0, z1, z2, z3)) g5 l11_6 l3_8 → lv_has ls 14 [(11, .int l11_6), (10, .int g5), (9, .int l9_1), (7, .long l7_2), (5, .long l5_3), (3, .long l3_8), (0, .ref (ad 11)), (1, .int x1), (2, .int x2)] → va_P D vwCl [oX11 ad s11_d s11_stepMany s11_kind s11_many s11_partMany s11_rule s11_ticks s11_hand s11_g s11_beganElsewhere s11_dBefore s11_fBefore s11_fFirst s11_weightMany s11_tailTold, aI cy (ad 41) 8 a11_steps, aI cy (ad 52) 256 a11_given] H → va_D A [oX11 ad s11_d s11_stepMany s11_kind s11_many s11_partMany s11_rule s11_ticks s11_hand s11_g s11_beganElsewhere s11_dBefore s11_fBefore s11_fFirst s11_weightMany s11_tailTold, aI cy (ad 41) 8 a11_steps, aI cy (ad 52) 256 a11_given] → va_S A s.heap H locs → W p l e rm_X11_back s m ([.ref (ad 11), .int x1, .int x2] : List Value).toArray below meth c H locs 0 0 Q (F0 m 150 ls []) := by
                                intro l3_8 H locs ls hv hl hP hD hS
                                unfold vJ_X11_back_150 at hv
                                refine lv_iload hx hb dX11_back_150 (lv_at hl 0 rfl) ?_
                                refine lv_aload_n hx hb dX11_back_152 rfl (lv_at hl 6 rfl) ?_
                                refine va_get (D := D) (ci := 11) (v := .int s11_stepMany) (C := RX11) (T := TX11) (N := 35) hx hb hts in_X11_back_11 hown hK hP 0 rfl rfl 1 (by decide) (hts _ lk_X11_back_13) (fun _ h9 => h9) rfl dX11_back_153 ?_
                                refine lv_iconst (v := 1) hx hb dX11_back_156 (by decide) ?_
                                refine lv_isub hx hb dX11_back_157 ?_
                                refine lv_topi (fun e9 h_e9 => ?_)
                                have hv := hv e9 h_e9
                                have jn209 : ∀ (l5_10 : Int64) (H : Heap) (locs : List Loc) (ls : Array Slot), vJ_X11_back_209 s11_d l9_1 l7_2 (fun z0 z1 z2 z3 => vfix (vF_X11_back_71 s11_d s11_stepMany a11_steps a11_given x1 x2 K) n71 (z0, z1, z2, z3)) g5 l3_8 l5_10 → lv_has ls 14 [(10, .int g5), (9, .int l9_1), (7, .long l7_2), (5, .long l5_10), (3, .long l3_8), (0, .ref (ad 11)), (1, .int x1), (2, .int x2)] → va_P D vwCl [oX11 ad s11_d s11_stepMany s11_kind s11_many s11_partMany s11_rule s11_ticks s11_hand s11_g s11_beganElsewhere s11_dBefore s11_fBefore s11_fFirst s11_weightMany s11_tailTold, aI cy (ad 41) 8 a11_steps, aI cy (ad 52) 256 a11_given] H → va_D A [oX11 ad s11_d s11_stepMany s11_kind s11_many s11_partMany s11_rule s11_ticks s11_hand s11_g s11_beganElsewhere s11_dBefore s11_fBefore s11_fFirst s11_weightMany s11_tailTold, aI cy (ad 41) 8 a11_steps, aI cy (ad 52) 256 a11_given] → va_S A s.heap H locs → W p l e rm_X11_back s m ([.ref (ad 11), .int x1, .int x2] : List Value).toArray below meth c H locs 0 0 Q (F0 m 209 ls []) := by
                                  intro l5_10 H locs ls hv hl hP hD hS
                                  unfold vJ_X11_back_209 at hv
                                  refine lv_lload hx hb dX11_back_209 (lv_at hl 2 rfl) ?_
                                  refine lv_iload hx hb dX11_back_211 (lv_at hl 0 rfl) ?_
                                  refine lv_i2l hx hb dX11_back_213 rfl ?_
                                  refine lv_aload_n hx hb dX11_back_214 rfl (lv_at hl 5 rfl) ?_
                                  refine va_get (D := D) (ci := 11) (v := .int s11_d) (C := RX11) (T := TX11) (N := 35) hx hb hts in_X11_back_11 hown hK hP 0 rfl rfl 0 (by decide) (hts _ lk_X11_back_7) (fun _ h9 => h9) rfl dX11_back_215 ?_
                                  refine lv_i2l hx hb dX11_back_218 rfl ?_
                                  refine lv_lmul hx hb dX11_back_219 ?_
                                  refine lv_topl (fun e11 h_e11 => ?_)
                                  have hv := hv e11 h_e11
                                  refine lv_ladd hx hb dX11_back_220 ?_
                                  refine lv_topl (fun e12 h_e12 => ?_)
                                  have hv := hv e12 h_e12
                                  refine lv_lstore (lv' := [(7, .long e12), (10, .int g5), (9, .int l9_1), (5, .long l5_10), (3, .long l3_8), (0, .ref (ad 11)), (1, .int x1), (2, .int x2)]) hx hb dX11_back_221 hl (by decide) rfl (fun ls hl => ?_)
                                  obtain ⟨i13, h_i13⟩ : ∃ y : Int32, y = l9_1 + 1 := ⟨_, rfl⟩
                                  refine lv_iinc (v := i13) (lv' := [(9, .int i13), (7, .long e12), (10, .int g5), (5, .long l5_10), (3, .long l3_8), (0, .ref (ad 11)), (1, .int x1), (2, .int x2)]) hx hb dX11_back_223 hl (k := 2) rfl (by rw [h_i13]; rfl) (by decide) rfl (fun ls hl => ?_)
                                  have hv := hv i13 h_i13
                                  refine lv_goto (tgt := 71) hx hb dX11_back_226 (by decide) ?_
                                  exact ih71 i13 e12 l5_10 l3_8 H locs ls hv (lv_sub hl [0, 1, 3, 4, 5, 6, 7] rfl) hP hD hS
                                refine lv_icmp_ge (tgt := 209) hx hb dX11_back_158 (by decide) (fun c_158 => ?_) (fun c_158 => ?_)
                                · have hv := hv.1 c_158
                                  exact jn209 l5_3 H locs ls hv (lv_sub hl [1, 2, 3, 4, 5, 6, 7, 8] rfl) hP hD hS
                                · have hv := hv.2 c_158
                                  refine lv_aload_n hx hb dX11_back_161 rfl (lv_at hl 6 rfl) ?_
                                  refine va_get (D := D) (ci := 11) (v := .ref (ad 41)) (C := RX11) (T := TX11) (N := 35) hx hb hts in_X11_back_11 hown hK hP 0 rfl rfl 8 (by decide) (hts _ lk_X11_back_19) (fun _ h9 => h9) rfl dX11_back_162 ?_
                                  refine lv_iload hx hb dX11_back_165 (lv_at hl 0 rfl) ?_
                                  refine lv_iconst (v := 1) hx hb dX11_back_167 (by decide) ?_
                                  refine lv_iadd hx hb dX11_back_168 ?_
                                  refine lv_topi (fun e14 h_e14 => ?_)
                                  have hv := hv e14 h_e14
                                  refine va_iald hx hb hK hP 1 0 rfl rfl hv.1 dX11_back_169 ?_
                                  refine lv_topi (fun g15 h_g15 => ?_)
                                  have hv := hv.2 g15 h_g15
                                  refine lv_i2l hx hb dX11_back_170 rfl ?_
                                  refine lv_aload_n hx hb dX11_back_171 rfl (lv_at hl 6 rfl) ?_
                                  refine va_get (D := D) (ci := 11) (v := .int s11_d) (C := RX11) (T := TX11) (N := 35) hx hb hts in_X11_back_11 hown hK hP 0 rfl rfl 0 (by decide) (hts _ lk_X11_back_7) (fun _ h9 => h9) rfl dX11_back_172 ?_
                                  refine lv_i2l hx hb dX11_back_175 rfl ?_
                                  refine lv_lmul hx hb dX11_back_176 ?_
                                  refine lv_topl (fun e16 h_e16 => ?_)
                                  have hv := hv e16 h_e16
                                  refine lv_lload hx hb dX11_back_177 (lv_at hl 3 rfl) ?_
                                  refine lv_ladd hx hb dX11_back_179 ?_
                                  refine lv_topl (fun e17 h_e17 => ?_)
                                  have hv := hv e17 h_e17
                                  refine lv_lconst (v := 1) hx hb dX11_back_180 (by decide) ?_
                                  refine lv_lsub hx hb dX11_back_181 ?_
                                  refine lv_topl (fun e18 h_e18 => ?_)
                                  have hv := hv e18 h_e18
                                  refine lv_iload hx hb dX11_back_182 (lv_at hl 2 rfl) ?_
                                  refine lv_i2l hx hb dX11_back_184 rfl ?_
                                  refine lv_lconst (v := 1) hx hb dX11_back_185 (by decide) ?_
                                  refine lv_ladd hx hb dX11_back_186 ?_
                                  refine lv_topl (fun e19 h_e19 => ?_)
                                  have hv := hv e19 h_e19
                                  have hPc := hP.sub (ws' := []) [] rfl
                                  have hDc := hD.sub (ws' := []) [] (by decide) rfl
                                  refine k_call (wc := []) (wr := [oX11 ad s11_d s11_stepMany s11_kind s11_many s11_partMany s11_rule s11_ticks s11_hand s11_g s11_beganElsewhere s11_dBefore s11_fBefore s11_fFirst s11_weightMany s11_tailTold, aI cy (ad 41) 8 a11_steps, aI cy (ad 52) 256 a11_given]) (va_runS (As := [.long e18, .long e19]) (rest := []) ⟨hx, hb, hml, hown, hts⟩ (m_X11_floor l D cy ad e18 e19 H.size hv) (va_cwS 2 hts gX11_back_X11_floor rfl rfl rfl (by decide +kernel) ⟨Nat.le_of_ble_eq_true rfl, Nat.le_of_ble_eq_true rfl⟩) ⟨wd_blind, wd_ok hPc hK hDc hN⟩ rfl rfl hl.1 rfl (lv_room (Nat.le_of_ble_eq_true rfl)) dX11_back_187 ⟨Nat.le_of_ble_eq_true rfl, Nat.le_of_ble_eq_true rfl⟩) hP hD hS hA [] [0, 1, 2] rfl rfl (by decide) (by decide) (fun r20 u H locs hv hP hD hS => ?_)
                                  have hP : va_P D vwCl [oX11 ad s11_d s11_stepMany s11_kind s11_many s11_partMany s11_rule s11_ticks s11_hand s11_g s11_beganElsewhere s11_dBefore s11_fBefore s11_fFirst s11_weightMany s11_tailTold, aI cy (ad 41) 8 a11_steps, aI cy (ad 52) 256 a11_given] H := hP.sub [0, 1, 2] rfl
                                  have hD : va_D A [oX11 ad s11_d s11_stepMany s11_kind s11_many s11_partMany s11_rule s11_ticks s11_hand s11_g s11_beganElsewhere s11_dBefore s11_fBefore s11_fFirst s11_weightMany s11_tailTold, aI cy (ad 41) 8 a11_steps, aI cy (ad 52) 256 a11_given] := hD.sub [0, 1, 2] (by decide) rfl
                                  refine lv_lstore (lv' := [(12, .long r20), (11, .int l11_6), (10, .int g5), (9, .int l9_1), (7, .long l7_2), (5, .long l5_3), (3, .long l3_8), (0, .ref (ad 11)), (1, .int x1), (2, .int x2)]) hx hb dX11_back_190 hl (by decide) rfl (fun ls hl => ?_)
                                  refine lv_lload hx hb dX11_back_192 (lv_at hl 0 rfl) ?_
                                  refine lv_lload hx hb dX11_back_194 (lv_at hl 5 rfl) ?_
                                  have jn207 : ∀ (t21 : Int64) (H : Heap) (locs : List Loc) (ls : Array Slot), vJ_X11_back_207 s11_d l9_1 l7_2 (fun z0 z1 z2 z3 => vfix (vF_X11_back_71 s11_d s11_stepMany a11_steps a11_given x1 x2 K) n71 (z0, z1, z2, z3)) g5 l3_8 t21 → lv_has ls 14 [(10, .int g5), (9, .int l9_1), (7, .long l7_2), (3, .long l3_8), (0, .ref (ad 11)), (1, .int x1), (2, .int x2)] → va_P D vwCl [oX11 ad s11_d s11_stepMany s11_kind s11_many s11_partMany s11_rule s11_ticks s11_hand s11_g s11_beganElsewhere s11_dBefore s11_fBefore s11_fFirst s11_weightMany s11_tailTold, aI cy (ad 41) 8 a11_steps, aI cy (ad 52) 256 a11_given] H → va_D A [oX11 ad s11_d s11_stepMany s11_kind s11_many s11_partMany s11_rule s11_ticks s11_hand s11_g s11_beganElsewhere s11_dBefore s11_fBefore s11_fFirst s11_weightMany s11_tailTold, aI cy (ad 41) 8 a11_steps, aI cy (ad 52) 256 a11_given] → va_S A s.heap H locs → W p l e rm_X11_back s m ([.ref (ad 11), .int x1, .int x2] : List Value).toArray below meth c H locs 0 0 Q (F0 m 207 ls [.long t21]) := by
                                    intro t21 H locs ls hv hl hP hD hS
                                    unfold vJ_X11_back_207 at hv
                                    refine lv_lstore (lv' := [(5, .long t21), (10, .int g5), (9, .int l9_1), (7, .long l7_2), (3, .long l3_8), (0, .ref (ad 11)), (1, .int x1), (2, .int x2)]) hx hb dX11_back_207 hl (by decide) rfl (fun ls hl => ?_)
                                    exact jn209 t21 H locs ls hv (lv_sub hl [1, 2, 3, 0, 4, 5, 6, 7] rfl) hP hD hS
                                  refine k_lc_ge (tgt := 205) hx hb dX11_back_196 dX11_back_197 (by decide) (fun c_196 => ?_) (fun c_196 => ?_)
                                  · have hv := hv.1 c_196
                                    refine lv_lload hx hb dX11_back_205 (lv_at hl 5 rfl) ?_
                                    exact jn207 l5_3 H locs ls hv (lv_sub hl [2, 3, 4, 6, 7, 8, 9] rfl) hP hD hS
                                  · have hv := hv.2 c_196
                                    refine lv_lload hx hb dX11_back_200 (lv_at hl 0 rfl) ?_
                                    refine lv_goto (tgt := 207) hx hb dX11_back_202 (by decide) ?_
                                    exact jn207 r20 H locs ls hv (lv_sub hl [2, 3, 4, 6, 7, 8, 9] rfl) hP hD hS
                              refine lv_if_le (tgt := 150) hx hb dX11_back_109 (by decide) (fun c_109 => ?_) (fun c_109 => ?_)
                              · have hv := hv.1 c_109
                                exact jn150 l3_4 H locs ls hv (lv_sub hl [0, 1, 2, 3, 4, 5, 6, 7, 8] rfl) hP hD hS
                              · have hv := hv.2 c_109
                                refine lv_iload hx hb dX11_back_112 (lv_at hl 1 rfl) ?_
                                refine lv_i2l hx hb dX11_back_114 rfl ?_
                                refine lv_aload_n hx hb dX11_back_115 rfl (lv_at hl 6 rfl) ?_
                                refine va_get (D := D) (ci := 11) (v := .int s11_d) (C := RX11) (T := TX11) (N := 35) hx hb hts in_X11_back_11 hown hK hP 0 rfl rfl 0 (by decide) (hts _ lk_X11_back_7) (fun _ h9 => h9) rfl dX11_back_116 ?_
                                refine lv_i2l hx hb dX11_back_119 rfl ?_
                                refine lv_lmul hx hb dX11_back_120 ?_
                                refine lv_topl (fun e22 h_e22 => ?_)
                                have hv := hv e22 h_e22
                                refine lv_lload hx hb dX11_back_121 (lv_at hl 3 rfl) ?_
                                refine lv_ladd hx hb dX11_back_123 ?_
                                refine lv_topl (fun e23 h_e23 => ?_)
                                have hv := hv e23 h_e23
                                refine lv_lneg hx hb dX11_back_124 ?_
                                refine lv_topl (fun e24 h_e24 => ?_)
                                have hv := hv e24 h_e24
                                refine lv_iload hx hb dX11_back_125 (lv_at hl 2 rfl) ?_
                                refine lv_i2l hx hb dX11_back_127 rfl ?_
                                refine lv_lconst (v := 1) hx hb dX11_back_128 (by decide) ?_
                                refine lv_ladd hx hb dX11_back_129 ?_
                                refine lv_topl (fun e25 h_e25 => ?_)
                                have hv := hv e25 h_e25
                                have hPc := hP.sub (ws' := []) [] rfl
                                have hDc := hD.sub (ws' := []) [] (by decide) rfl
                                refine k_call (wc := []) (wr := [oX11 ad s11_d s11_stepMany s11_kind s11_many s11_partMany s11_rule s11_ticks s11_hand s11_g s11_beganElsewhere s11_dBefore s11_fBefore s11_fFirst s11_weightMany s11_tailTold, aI cy (ad 41) 8 a11_steps, aI cy (ad 52) 256 a11_given]) (va_runS (As := [.long e24, .long e25]) (rest := []) ⟨hx, hb, hml, hown, hts⟩ (m_X11_floor l D cy ad e24 e25 H.size hv) (va_cwS 2 hts gX11_back_X11_floor rfl rfl rfl (by decide +kernel) ⟨Nat.le_of_ble_eq_true rfl, Nat.le_of_ble_eq_true rfl⟩) ⟨wd_blind, wd_ok hPc hK hDc hN⟩ rfl rfl hl.1 rfl (lv_room (Nat.le_of_ble_eq_true rfl)) dX11_back_130 ⟨Nat.le_of_ble_eq_true rfl, Nat.le_of_ble_eq_true rfl⟩) hP hD hS hA [] [0, 1, 2] rfl rfl (by decide) (by decide) (fun r26 u H locs hv hP hD hS => ?_)
                                have hP : va_P D vwCl [oX11 ad s11_d s11_stepMany s11_kind s11_many s11_partMany s11_rule s11_ticks s11_hand s11_g s11_beganElsewhere s11_dBefore s11_fBefore s11_fFirst s11_weightMany s11_tailTold, aI cy (ad 41) 8 a11_steps, aI cy (ad 52) 256 a11_given] H := hP.sub [0, 1, 2] rfl
                                have hD : va_D A [oX11 ad s11_d s11_stepMany s11_kind s11_many s11_partMany s11_rule s11_ticks s11_hand s11_g s11_beganElsewhere s11_dBefore s11_fBefore s11_fFirst s11_weightMany s11_tailTold, aI cy (ad 41) 8 a11_steps, aI cy (ad 52) 256 a11_given] := hD.sub [0, 1, 2] (by decide) rfl
                                refine lv_lneg hx hb dX11_back_133 ?_
                                refine lv_topl (fun e27 h_e27 => ?_)
                                have hv := hv e27 h_e27
                                refine lv_lstore (lv' := [(12, .long e27), (11, .int l11_6), (10, .int g5), (9, .int l9_1), (7, .long l7_2), (5, .long l5_3), (3, .long l3_4), (0, .ref (ad 11)), (1, .int x1), (2, .int x2)]) hx hb dX11_back_134 hl (by decide) rfl (fun ls hl => ?_)
                                refine lv_lload hx hb dX11_back_136 (lv_at hl 0 rfl) ?_
                                refine lv_lload_n hx hb dX11_back_138 rfl (lv_at hl 6 rfl) ?_
                                have jn149 : ∀ (t28 : Int64) (H : Heap) (locs : List Loc) (ls : Array Slot), vJ_X11_back_149 s11_d s11_stepMany a11_steps l9_1 l7_2 l5_3 (fun z0 z1 z2 z3 => vfix (vF_X11_back_71 s11_d s11_stepMany a11_steps a11_given x1 x2 K) n71 (z0, z1, z2, z3)) g5 l11_6 t28 → lv_has ls 14 [(11, .int l11_6), (10, .int g5), (9, .int l9_1), (7, .long l7_2), (5, .long l5_3), (0, .ref (ad 11)), (1, .int x1), (2, .int x2)] → va_P D vwCl [oX11 ad s11_d s11_stepMany s11_kind s11_many s11_partMany s11_rule s11_ticks s11_hand s11_g s11_beganElsewhere s11_dBefore s11_fBefore s11_fFirst s11_weightMany s11_tailTold, aI cy (ad 41) 8 a11_steps, aI cy (ad 52) 256 a11_given] H → va_D A [oX11 ad s11_d s11_stepMany s11_kind s11_many s11_partMany s11_rule s11_ticks s11_hand s11_g s11_beganElsewhere s11_dBefore s11_fBefore s11_fFirst s11_weightMany s11_tailTold, aI cy (ad 41) 8 a11_steps, aI cy (ad 52) 256 a11_given] → va_S A s.heap H locs → W p l e rm_X11_back s m ([.ref (ad 11), .int x1, .int x2] : List Value).toArray below meth c H locs 0 0 Q (F0 m 149 ls [.long t28]) := by
                                  intro t28 H locs ls hv hl hP hD hS
                                  unfold vJ_X11_back_149 at hv
                                  refine lv_lstore_n (lv' := [(3, .long t28), (11, .int l11_6), (10, .int g5), (9, .int l9_1), (7, .long l7_2), (5, .long l5_3), (0, .ref (ad 11)), (1, .int x1), (2, .int x2)]) hx hb dX11_back_149 rfl hl (by decide) rfl (fun ls hl => ?_)
                                  exact jn150 t28 H locs ls hv (lv_sub hl [1, 2, 3, 4, 5, 0, 6, 7, 8] rfl) hP hD hS
                                refine k_lc_le (tgt := 148) hx hb dX11_back_139 dX11_back_140 (by decide) (fun c_139 => ?_) (fun c_139 => ?_)
                                · have hv := hv.1 c_139
                                  refine lv_lload_n hx hb dX11_back_148 rfl (lv_at hl 6 rfl) ?_
                                  exact jn149 l3_4 H locs ls hv (lv_sub hl [1, 2, 3, 4, 5, 7, 8, 9] rfl) hP hD hS
                                · have hv := hv.2 c_139
                                  refine lv_lload hx hb dX11_back_143 (lv_at hl 0 rfl) ?_
                                  refine lv_goto (tgt := 149) hx hb dX11_back_145 (by decide) ?_
                                  exact jn149 e27 H locs ls hv (lv_sub hl [1, 2, 3, 4, 5, 7, 8, 9] rfl) hP hD hS
                            · have hv := hv.2 c_98
                              obtain ⟨i29, h_i29⟩ : ∃ y : Int32, y = l11_6 + 1 := ⟨_, rfl⟩
                              refine lv_iinc (v := i29) (lv' := [(11, .int i29), (10, .int g5), (9, .int l9_1), (7, .long l7_2), (5, .long l5_3), (3, .long l3_4), (0, .ref (ad 11)), (1, .int x1), (2, .int x2)]) hx hb dX11_back_101 hl (k := 0) rfl (by rw [h_i29]; rfl) (by decide) rfl (fun ls hl => ?_)
                              have hv := hv i29 h_i29
                              refine lv_goto (tgt := 89) hx hb dX11_back_104 (by decide) ?_
                              exact ih89 i29 H locs ls hv (lv_sub hl [0, 1, 2, 3, 4, 5, 6, 7, 8] rfl) hP hD hS
                        obtain ⟨nn, hv⟩ := hv
                        exact lp89 nn (0 : Int32) H locs ls hv (lv_sub hl [0, 1, 2, 3, 4, 5, 6, 7, 8] rfl) hP hD hS
                  obtain ⟨nn, hv⟩ := hv
                  exact lp71 nn (0 : Int32) (0 : Int64) (1000000 : Int64) (-1000000 : Int64) H locs ls hv (lv_sub hl [0, 1, 2, 3, 4, 5, 6] rfl) hP hD hS
                · have hv := hv.2 c_50
                  refine lv_ldc hx hb hown (hts _ lk_X11_back_151) dX11_back_53 ?_
                  rw [← hQ]
                  exact k_iret hx hb hr hlocks hS () hP hD hv dX11_back_55
