theorem lk_X11_ring_16 : Cond.fieldLink RX11 16 "CoarseStepsModel" "many" "I" ∈ wsX11_ring := by decide +kernel
theorem in_X11_ring_11 : ∀ w ∈ wsX110, w ∈ wsX11_ring := by decide +kernel
theorem lk_X11_ring_163 : Cond.fieldLink RX11 163 "CoarseStepsModel" "tailTold" "I" ∈ wsX11_ring := by decide +kernel
theorem lk_X11_ring_75 : Cond.fieldLink RX11 75 "CoarseStepsModel" "path" "[J" ∈ wsX11_ring := by decide +kernel
theorem lk_X11_ring_66 : Cond.fieldLink RX11 66 "CoarseStepsModel" "now" "[J" ∈ wsX11_ring := by decide +kernel
abbrev rm_X11_ring : Room := { frames := 2, cells := 0, slots := 0, locals := 50 }
set_option maxHeartbeats 4000000 in
set_option maxRecDepth 100000 in
theorem m_X11_ring (l : Launch) (D : va_G) (cy : ClassId × ClassId × ClassId) (ad : Nat → Nat) (s11_d : Int32) (s11_stepMany : Int32) (s11_kind : Int32) (s11_many : Int32) (s11_partMany : Int32) (s11_rule : Int32) (s11_ticks : Int32) (s11_hand : Int32) (s11_g : Int32) (s11_beganElsewhere : Int32) (s11_dBefore : Int32) (s11_fBefore : Int32) (s11_fFirst : Int32) (s11_weightMany : Int32) (s11_tailTold : Int32) (a11_steps : Nat → Int32) (a11_a : Nat → Int32) (a11_b : Nat → Int32) (a11_e : Nat → Int32) (a11_h : Nat → Int32) (a11_sums : Nat → Int64) (a11_now : Nat → Int64) (a11_to : Nat → Int64) (a11_made : Nat → Int32) (a11_path : Nat → Int64) (x1 : Int32) (sz : Nat) {K : Int32 → Int32 → (Nat → Int64) → (Nat → Int64) → (Nat → Int32) → (Nat → Int64) → Prop} (hv : v_X11_ring s11_d s11_stepMany s11_kind s11_many s11_g s11_tailTold a11_steps a11_a a11_b a11_e a11_h a11_sums a11_now a11_to a11_made a11_path x1 K) : Met l yX11_ring wsX11_ring rm_X11_ring (va_Pc [.ref (ad 11), .int x1] (wd D cy [oX11 ad s11_d s11_stepMany s11_kind s11_many s11_partMany s11_rule s11_ticks s11_hand s11_g s11_beganElsewhere s11_dBefore s11_fBefore s11_fFirst s11_weightMany s11_tailTold, aI cy (ad 41) 8 a11_steps, aI cy (ad 43) 16 a11_a, aI cy (ad 44) 4 a11_b, aI cy (ad 45) 4 a11_e, aI cy (ad 46) 4 a11_h, aJ cy (ad 47) 4 a11_sums, aJ cy (ad 56) 4 a11_now, aJ cy (ad 57) 4 a11_to, aI cy (ad 58) 3 a11_made, aJ cy (ad 59) 16388 a11_path] sz)) (va_Qi (fun (r : Int32) (u : Int32 × (Nat → Int64) × (Nat → Int64) × (Nat → Int32) × (Nat → Int64)) => K r u.1 u.2.1 u.2.2.1 u.2.2.2.1 u.2.2.2.2) (fun u t => we D ((fun u : Int32 × (Nat → Int64) × (Nat → Int64) × (Nat → Int32) × (Nat → Int64) => [oX11 ad s11_d s11_stepMany s11_kind s11_many s11_partMany s11_rule s11_ticks s11_hand s11_g s11_beganElsewhere s11_dBefore s11_fBefore s11_fFirst s11_weightMany u.1, aI cy (ad 41) 8 a11_steps, aI cy (ad 43) 16 a11_a, aI cy (ad 44) 4 a11_b, aI cy (ad 45) 4 a11_e, aI cy (ad 46) 4 a11_h, aJ cy (ad 47) 4 a11_sums, aJ cy (ad 56) 4 u.2.1, aJ cy (ad 57) 4 u.2.2.1, aI cy (ad 58) 3 u.2.2.2.1, aJ cy (ad 59) 16388 u.2.2.2.2]) u) (va_A [oX11 ad s11_d s11_stepMany s11_kind s11_many s11_partMany s11_rule s11_ticks s11_hand s11_g s11_beganElsewhere s11_dBefore s11_fBefore s11_fFirst s11_weightMany s11_tailTold, aI cy (ad 41) 8 a11_steps, aI cy (ad 43) 16 a11_a, aI cy (ad 44) 4 a11_b, aI cy (ad 45) 4 a11_e, aI cy (ad 46) 4 a11_h, aJ cy (ad 47) 4 a11_sums, aJ cy (ad 56) 4 a11_now, aJ cy (ad 57) 4 a11_to, aI cy (ad 58) 3 a11_made, aJ cy (ad 59) 16388 a11_path] sz) t) (va_A [oX11 ad s11_d s11_stepMany s11_kind s11_many s11_partMany s11_rule s11_ticks s11_hand s11_g s11_beganElsewhere s11_dBefore s11_fBefore s11_fFirst s11_weightMany s11_tailTold, aI cy (ad 41) 8 a11_steps, aI cy (ad 43) 16 a11_a, aI cy (ad 44) 4 a11_b, aI cy (ad 45) 4 a11_e, aI cy (ad 46) 4 a11_h, aJ cy (ad 47) 4 a11_sums, aJ cy (ad 56) 4 a11_now, aJ cy (ad 57) 4 a11_to, aI cy (ad 58) 3 a11_made, aJ cy (ad 59) 16388 a11_path] sz)) 0 0 (va_A [oX11 ad s11_d s11_stepMany s11_kind s11_many s11_partMany s11_rule s11_ticks s11_hand s11_g s11_beganElsewhere s11_dBefore s11_fBefore s11_fFirst s11_weightMany s11_tailTold, aI cy (ad 41) 8 a11_steps, aI cy (ad 43) 16 a11_a, aI cy (ad 44) 4 a11_b, aI cy (ad 45) 4 a11_e, aI cy (ad 46) 4 a11_h, aJ cy (ad 47) 4 a11_sums, aJ cy (ad 56) 4 a11_now, aJ cy (ad 57) 4 a11_to, aI cy (ad 58) 3 a11_made, aJ cy (ad 59) 16388 a11_path] sz) := by
  refine k_ofW (cc := cX11_ring) (maxL := 6) (ret := (some .int)) (fun A => va_Qi (fun (r : Int32) (u : Int32 × (Nat → Int64) × (Nat → Int64) × (Nat → Int32) × (Nat → Int64)) => K r u.1 u.2.1 u.2.2.1 u.2.2.2.1 u.2.2.2.2) (fun u t => we D ((fun u : Int32 × (Nat → Int64) × (Nat → Int64) × (Nat → Int32) × (Nat → Int64) => [oX11 ad s11_d s11_stepMany s11_kind s11_many s11_partMany s11_rule s11_ticks s11_hand s11_g s11_beganElsewhere s11_dBefore s11_fBefore s11_fFirst s11_weightMany u.1, aI cy (ad 41) 8 a11_steps, aI cy (ad 43) 16 a11_a, aI cy (ad 44) 4 a11_b, aI cy (ad 45) 4 a11_e, aI cy (ad 46) 4 a11_h, aJ cy (ad 47) 4 a11_sums, aJ cy (ad 56) 4 u.2.1, aJ cy (ad 57) 4 u.2.2.1, aI cy (ad 58) 3 u.2.2.2.1, aJ cy (ad 59) 16388 u.2.2.2.2]) u) A t) A) (by decide) rfl (Nat.le_of_ble_eq_true rfl) ?_
  intro p e s m below meth c A ls H locs hx hb hml hr hts hown hlocks hname hK hN hA hP hD hS hl
  have hl : lv_has ls 6 [(0, .ref (ad 11)), (1, .int x1)] := hl
  generalize hQ : MQ below _ _ s _ _ A = Q
  unfold v_X11_ring at hv
  refine lv_iload_n hx hb dX11_ring_0 rfl (lv_at hl 1 rfl) ?_
  have hPc := hP.sub (ws' := []) [] rfl
  have hDc := hD.sub (ws' := []) [] (by decide) rfl
  refine k_cali (wc := []) (wr := [oX11 ad s11_d s11_stepMany s11_kind s11_many s11_partMany s11_rule s11_ticks s11_hand s11_g s11_beganElsewhere s11_dBefore s11_fBefore s11_fFirst s11_weightMany s11_tailTold, aI cy (ad 41) 8 a11_steps, aI cy (ad 43) 16 a11_a, aI cy (ad 44) 4 a11_b, aI cy (ad 45) 4 a11_e, aI cy (ad 46) 4 a11_h, aJ cy (ad 47) 4 a11_sums, aJ cy (ad 56) 4 a11_now, aJ cy (ad 57) 4 a11_to, aI cy (ad 58) 3 a11_made, aJ cy (ad 59) 16388 a11_path]) (va_runS (As := [.int x1]) (rest := []) ⟨hx, hb, hml, hown, hts⟩ (m_X11_isWish l D cy ad x1 H.size hv) (va_cwS 1 hts gX11_ring_X11_isWish rfl rfl rfl (by decide +kernel) ⟨Nat.le_of_ble_eq_true rfl, Nat.le_of_ble_eq_true rfl⟩) ⟨wd_blind, wd_ok hPc hK hDc hN⟩ rfl rfl hl.1 rfl (lv_room (Nat.le_of_ble_eq_true rfl)) dX11_ring_1 ⟨Nat.le_of_ble_eq_true rfl, Nat.le_of_ble_eq_true rfl⟩) hP hD hS hA [] [0, 1, 2, 3, 4, 5, 6, 7, 8, 9, 10] rfl rfl (by decide) (by decide) (fun r1 u H locs hv hP hD hS => ?_)
  obtain ⟨hz_r1, hv⟩ := hv
  have hP : va_P D vwCl [oX11 ad s11_d s11_stepMany s11_kind s11_many s11_partMany s11_rule s11_ticks s11_hand s11_g s11_beganElsewhere s11_dBefore s11_fBefore s11_fFirst s11_weightMany s11_tailTold, aI cy (ad 41) 8 a11_steps, aI cy (ad 43) 16 a11_a, aI cy (ad 44) 4 a11_b, aI cy (ad 45) 4 a11_e, aI cy (ad 46) 4 a11_h, aJ cy (ad 47) 4 a11_sums, aJ cy (ad 56) 4 a11_now, aJ cy (ad 57) 4 a11_to, aI cy (ad 58) 3 a11_made, aJ cy (ad 59) 16388 a11_path] H := hP.sub [0, 1, 2, 3, 4, 5, 6, 7, 8, 9, 10] rfl
  have hD : va_D A [oX11 ad s11_d s11_stepMany s11_kind s11_many s11_partMany s11_rule s11_ticks s11_hand s11_g s11_beganElsewhere s11_dBefore s11_fBefore s11_fFirst s11_weightMany s11_tailTold, aI cy (ad 41) 8 a11_steps, aI cy (ad 43) 16 a11_a, aI cy (ad 44) 4 a11_b, aI cy (ad 45) 4 a11_e, aI cy (ad 46) 4 a11_h, aJ cy (ad 47) 4 a11_sums, aJ cy (ad 56) 4 a11_now, aJ cy (ad 57) 4 a11_to, aI cy (ad 58) 3 a11_made, aJ cy (ad 59) 16388 a11_path] := hD.sub [0, 1, 2, 3, 4, 5, 6, 7, 8, 9, 10] (by decide) rfl
  refine lv_if_ne (tgt := 9) hx hb dX11_ring_4 (by decide) (fun c_4 => ?_) (fun c_4 => ?_)
  · have hv := hv.1 c_4
    refine lv_aload_n hx hb dX11_ring_9 rfl (lv_at hl 0 rfl) ?_
    have hPc := hP.sub (ws' := [oX11 ad s11_d s11_stepMany s11_kind s11_many s11_partMany s11_rule s11_ticks s11_hand s11_g s11_beganElsewhere s11_dBefore s11_fBefore s11_fFirst s11_weightMany s11_tailTold, aJ cy (ad 47) 4 a11_sums, aJ cy (ad 56) 4 a11_now]) [0, 6, 7] rfl
    have hDc := hD.sub (ws' := [oX11 ad s11_d s11_stepMany s11_kind s11_many s11_partMany s11_rule s11_ticks s11_hand s11_g s11_beganElsewhere s11_dBefore s11_fBefore s11_fFirst s11_weightMany s11_tailTold, aJ cy (ad 47) 4 a11_sums, aJ cy (ad 56) 4 a11_now]) [0, 6, 7] (by decide) rfl
    refine k_calv (wc := [oX11 ad s11_d s11_stepMany s11_kind s11_many s11_partMany s11_rule s11_ticks s11_hand s11_g s11_beganElsewhere s11_dBefore s11_fBefore s11_fFirst s11_weightMany s11_tailTold, aJ cy (ad 47) 4 a11_sums, aJ cy (ad 56) 4 a11_now]) (wr := [aI cy (ad 41) 8 a11_steps, aI cy (ad 43) 16 a11_a, aI cy (ad 44) 4 a11_b, aI cy (ad 45) 4 a11_e, aI cy (ad 46) 4 a11_h, aJ cy (ad 57) 4 a11_to, aI cy (ad 58) 3 a11_made, aJ cy (ad 59) 16388 a11_path]) (va_runV (As := []) (rest := []) ⟨hx, hb, hml, hown, hts⟩ (m_X11_fromHere l D cy ad s11_d s11_stepMany s11_kind s11_many s11_partMany s11_rule s11_ticks s11_hand s11_g s11_beganElsewhere s11_dBefore s11_fBefore s11_fFirst s11_weightMany s11_tailTold a11_sums a11_now H.size hv) (cwV 0 hts gX11_ring_X11_fromHere rfl rfl rfl (by decide +kernel) ⟨Nat.le_of_ble_eq_true rfl, Nat.le_of_ble_eq_true rfl⟩) ⟨wd_blind, va_recv hK hPc (ci := 11) (q0 := 0) rfl rfl, wd_ok hPc hK hDc hN⟩ rfl rfl hl.1 rfl (lv_room (Nat.le_of_ble_eq_true rfl)) dX11_ring_10 ⟨Nat.le_of_ble_eq_true rfl, Nat.le_of_ble_eq_true rfl⟩) hP hD hS hA [0, 6, 7] [1, 2, 3, 4, 5, 8, 9, 10] rfl rfl (by decide) (by decide) (fun a11_now_2 H locs hv hP hD hS => ?_)
    have hP : va_P D vwCl [oX11 ad s11_d s11_stepMany s11_kind s11_many s11_partMany s11_rule s11_ticks s11_hand s11_g s11_beganElsewhere s11_dBefore s11_fBefore s11_fFirst s11_weightMany s11_tailTold, aI cy (ad 41) 8 a11_steps, aI cy (ad 43) 16 a11_a, aI cy (ad 44) 4 a11_b, aI cy (ad 45) 4 a11_e, aI cy (ad 46) 4 a11_h, aJ cy (ad 47) 4 a11_sums, aJ cy (ad 56) 4 a11_now_2, aJ cy (ad 57) 4 a11_to, aI cy (ad 58) 3 a11_made, aJ cy (ad 59) 16388 a11_path] H := hP.sub [8, 0, 1, 2, 3, 4, 9, 10, 5, 6, 7] rfl
    have hD : va_D A [oX11 ad s11_d s11_stepMany s11_kind s11_many s11_partMany s11_rule s11_ticks s11_hand s11_g s11_beganElsewhere s11_dBefore s11_fBefore s11_fFirst s11_weightMany s11_tailTold, aI cy (ad 41) 8 a11_steps, aI cy (ad 43) 16 a11_a, aI cy (ad 44) 4 a11_b, aI cy (ad 45) 4 a11_e, aI cy (ad 46) 4 a11_h, aJ cy (ad 47) 4 a11_sums, aJ cy (ad 56) 4 a11_now_2, aJ cy (ad 57) 4 a11_to, aI cy (ad 58) 3 a11_made, aJ cy (ad 59) 16388 a11_path] := hD.sub [8, 0, 1, 2, 3, 4, 9, 10, 5, 6, 7] (by decide) rfl
    refine lv_iconst (v := 0) hx hb dX11_ring_13 (by decide) ?_
    refine lv_istore_n (lv' := [(2, .int (0 : Int32)), (0, .ref (ad 11)), (1, .int x1)]) hx hb dX11_ring_14 rfl hl (by decide) rfl (fun ls hl => ?_)
    have lp15 : ∀ (n15 : Nat) (l2_3 : Int32) (a11_path_4 : Nat → Int64) (H : Heap) (locs : List Loc) (ls : Array Slot), vfix (vF_X11_ring_15 s11_d s11_stepMany s11_kind s11_many s11_g s11_tailTold a11_steps a11_a a11_b a11_e a11_h a11_to a11_made x1 K a11_now_2) n15 (l2_3, a11_path_4) → lv_has ls 6 [(2, .int l2_3), (0, .ref (ad 11)), (1, .int x1)] → va_P D vwCl [oX11 ad s11_d s11_stepMany s11_kind s11_many s11_partMany s11_rule s11_ticks s11_hand s11_g s11_beganElsewhere s11_dBefore s11_fBefore s11_fFirst s11_weightMany s11_tailTold, aI cy (ad 41) 8 a11_steps, aI cy (ad 43) 16 a11_a, aI cy (ad 44) 4 a11_b, aI cy (ad 45) 4 a11_e, aI cy (ad 46) 4 a11_h, aJ cy (ad 47) 4 a11_sums, aJ cy (ad 56) 4 a11_now_2, aJ cy (ad 57) 4 a11_to, aI cy (ad 58) 3 a11_made, aJ cy (ad 59) 16388 a11_path_4] H → va_D A [oX11 ad s11_d s11_stepMany s11_kind s11_many s11_partMany s11_rule s11_ticks s11_hand s11_g s11_beganElsewhere s11_dBefore s11_fBefore s11_fFirst s11_weightMany s11_tailTold, aI cy (ad 41) 8 a11_steps, aI cy (ad 43) 16 a11_a, aI cy (ad 44) 4 a11_b, aI cy (ad 45) 4 a11_e, aI cy (ad 46) 4 a11_h, aJ cy (ad 47) 4 a11_sums, aJ cy (ad 56) 4 a11_now_2, aJ cy (ad 57) 4 a11_to, aI cy (ad 58) 3 a11_made, aJ cy (ad 59) 16388 a11_path_4] → va_S A s.heap H locs → W p l e rm_X11_ring s m ([.ref (ad 11), .int x1] : List Value).toArray below meth c H locs 0 0 Q (F0 m 15 ls []) := by
      intro n15
      induction n15 with
      | zero => intro l2_3 a11_path_4 H locs ls hv; exact hv.elim
      | succ n15 ih15 =>
        intro l2_3 a11_path_4 H locs ls hv hl hP hD hS
        have hv : vB_X11_ring_15 s11_d s11_stepMany s11_kind s11_many s11_g s11_tailTold a11_steps a11_a a11_b a11_e a11_h a11_to a11_made x1 K a11_now_2 (fun z0 z1 => vfix (vF_X11_ring_15 s11_d s11_stepMany s11_kind s11_many s11_g s11_tailTold a11_steps a11_a a11_b a11_e a11_h a11_to a11_made x1 K a11_now_2) n15 (z0, z1)) l2_3 a11_path_4 := hv
        unfold vB_X11_ring_15 at hv
        refine lv_iload_n hx hb dX11_ring_15 rfl (lv_at hl 0 rfl) ?_
        refine lv_aload_n hx hb dX11_ring_16 rfl (lv_at hl 1 rfl) ?_
        refine va_get (D := D) (ci := 11) (v := .int s11_many) (C := RX11) (T := TX11) (N := 35) hx hb hts in_X11_ring_11 hown hK hP 0 rfl rfl 3 (by decide) (hts _ lk_X11_ring_16) (fun _ h9 => h9) rfl dX11_ring_17 ?_
        refine lv_icmp_ge (tgt := 41) hx hb dX11_ring_20 (by decide) (fun c_20 => ?_) (fun c_20 => ?_)
        · have hv := hv.1 c_20
          refine lv_iconst (v := 1) hx hb dX11_ring_41 (by decide) ?_
          refine lv_istore_n (lv' := [(2, .int (1 : Int32)), (0, .ref (ad 11)), (1, .int x1)]) hx hb dX11_ring_42 rfl hl (by decide) rfl (fun ls hl => ?_)
          have lp43 : ∀ (n43 : Nat) (l2_5 : Int32) (a11_now_6 : Nat → Int64) (a11_to_7 : Nat → Int64) (a11_made_8 : Nat → Int32) (a11_path_9 : Nat → Int64) (H : Heap) (locs : List Loc) (ls : Array Slot), vfix (vF_X11_ring_43 s11_d s11_stepMany s11_kind s11_many s11_g s11_tailTold a11_steps a11_a a11_b a11_e a11_h x1 K) n43 (l2_5, a11_now_6, a11_to_7, a11_made_8, a11_path_9) → lv_has ls 6 [(2, .int l2_5), (0, .ref (ad 11)), (1, .int x1)] → va_P D vwCl [oX11 ad s11_d s11_stepMany s11_kind s11_many s11_partMany s11_rule s11_ticks s11_hand s11_g s11_beganElsewhere s11_dBefore s11_fBefore s11_fFirst s11_weightMany s11_tailTold, aI cy (ad 41) 8 a11_steps, aI cy (ad 43) 16 a11_a, aI cy (ad 44) 4 a11_b, aI cy (ad 45) 4 a11_e, aI cy (ad 46) 4 a11_h, aJ cy (ad 47) 4 a11_sums, aJ cy (ad 56) 4 a11_now_6, aJ cy (ad 57) 4 a11_to_7, aI cy (ad 58) 3 a11_made_8, aJ cy (ad 59) 16388 a11_path_9] H → va_D A [oX11 ad s11_d s11_stepMany s11_kind s11_many s11_partMany s11_rule s11_ticks s11_hand s11_g s11_beganElsewhere s11_dBefore s11_fBefore s11_fFirst s11_weightMany s11_tailTold, aI cy (ad 41) 8 a11_steps, aI cy (ad 43) 16 a11_a, aI cy (ad 44) 4 a11_b, aI cy (ad 45) 4 a11_e, aI cy (ad 46) 4 a11_h, aJ cy (ad 47) 4 a11_sums, aJ cy (ad 56) 4 a11_now_6, aJ cy (ad 57) 4 a11_to_7, aI cy (ad 58) 3 a11_made_8, aJ cy (ad 59) 16388 a11_path_9] → va_S A s.heap H locs → W p l e rm_X11_ring s m ([.ref (ad 11), .int x1] : List Value).toArray below meth c H locs 0 0 Q (F0 m 43 ls []) := by
            intro n43
            induction n43 with
            | zero => intro l2_5 a11_now_6 a11_to_7 a11_made_8 a11_path_9 H locs ls hv; exact hv.elim
            | succ n43 ih43 =>
              intro l2_5 a11_now_6 a11_to_7 a11_made_8 a11_path_9 H locs ls hv hl hP hD hS
              have hv : vB_X11_ring_43 s11_d s11_stepMany s11_kind s11_many s11_g s11_tailTold a11_steps a11_a a11_b a11_e a11_h x1 K (fun z0 z1 z2 z3 z4 => vfix (vF_X11_ring_43 s11_d s11_stepMany s11_kind s11_many s11_g s11_tailTold a11_steps a11_a a11_b a11_e a11_h x1 K) n43 (z0, z1, z2, z3, z4)) l2_5 a11_now_6 a11_to_7 a11_made_8 a11_path_9 := hv
              unfold vB_X11_ring_43 at hv
              refine lv_iload_n hx hb dX11_ring_43 rfl (lv_at hl 0 rfl) ?_
              refine lv_sipush (v := 4096) hx hb dX11_ring_44 (by decide) ?_
              refine lv_icmp_gt (tgt := 194) hx hb dX11_ring_47 (by decide) (fun c_47 => ?_) (fun c_47 => ?_)
              · have hv := hv.1 c_47
                refine lv_bipush (v := -2) hx hb dX11_ring_194 (by decide) ?_
                rw [← hQ]
                exact k_iret hx hb hr hlocks hS (s11_tailTold, a11_now_6, a11_to_7, a11_made_8, a11_path_9) hP hD hv dX11_ring_196
              · have hv := hv.2 c_47
                refine lv_aload_n hx hb dX11_ring_50 rfl (lv_at hl 1 rfl) ?_
                refine lv_iload_n hx hb dX11_ring_51 rfl (lv_at hl 2 rfl) ?_
                have hPc := hP.sub (ws' := [oX11 ad s11_d s11_stepMany s11_kind s11_many s11_partMany s11_rule s11_ticks s11_hand s11_g s11_beganElsewhere s11_dBefore s11_fBefore s11_fFirst s11_weightMany s11_tailTold, aI cy (ad 41) 8 a11_steps, aI cy (ad 43) 16 a11_a, aI cy (ad 44) 4 a11_b, aI cy (ad 45) 4 a11_e, aI cy (ad 46) 4 a11_h, aJ cy (ad 56) 4 a11_now_6, aJ cy (ad 57) 4 a11_to_7, aI cy (ad 58) 3 a11_made_8]) [0, 1, 2, 3, 4, 5, 7, 8, 9] rfl
                have hDc := hD.sub (ws' := [oX11 ad s11_d s11_stepMany s11_kind s11_many s11_partMany s11_rule s11_ticks s11_hand s11_g s11_beganElsewhere s11_dBefore s11_fBefore s11_fFirst s11_weightMany s11_tailTold, aI cy (ad 41) 8 a11_steps, aI cy (ad 43) 16 a11_a, aI cy (ad 44) 4 a11_b, aI cy (ad 45) 4 a11_e, aI cy (ad 46) 4 a11_h, aJ cy (ad 56) 4 a11_now_6, aJ cy (ad 57) 4 a11_to_7, aI cy (ad 58) 3 a11_made_8]) [0, 1, 2, 3, 4, 5, 7, 8, 9] (by decide) rfl
                refine k_cali (wc := [oX11 ad s11_d s11_stepMany s11_kind s11_many s11_partMany s11_rule s11_ticks s11_hand s11_g s11_beganElsewhere s11_dBefore s11_fBefore s11_fFirst s11_weightMany s11_tailTold, aI cy (ad 41) 8 a11_steps, aI cy (ad 43) 16 a11_a, aI cy (ad 44) 4 a11_b, aI cy (ad 45) 4 a11_e, aI cy (ad 46) 4 a11_h, aJ cy (ad 56) 4 a11_now_6, aJ cy (ad 57) 4 a11_to_7, aI cy (ad 58) 3 a11_made_8]) (wr := [aJ cy (ad 47) 4 a11_sums, aJ cy (ad 59) 16388 a11_path_9]) (va_runV (As := [.int x1]) (rest := []) ⟨hx, hb, hml, hown, hts⟩ (m_X11_next l D cy ad s11_d s11_stepMany s11_kind s11_many s11_partMany s11_rule s11_ticks s11_hand s11_g s11_beganElsewhere s11_dBefore s11_fBefore s11_fFirst s11_weightMany s11_tailTold a11_steps a11_a a11_b a11_e a11_h a11_now_6 a11_to_7 a11_made_8 x1 H.size hv) (cwV 1 hts gX11_ring_X11_next rfl rfl rfl (by decide +kernel) ⟨Nat.le_of_ble_eq_true rfl, Nat.le_of_ble_eq_true rfl⟩) ⟨wd_blind, va_recv hK hPc (ci := 11) (q0 := 0) rfl rfl, wd_ok hPc hK hDc hN⟩ rfl rfl hl.1 rfl (lv_room (Nat.le_of_ble_eq_true rfl)) dX11_ring_52 ⟨Nat.le_of_ble_eq_true rfl, Nat.le_of_ble_eq_true rfl⟩) hP hD hS hA [0, 1, 2, 3, 4, 5, 7, 8, 9] [6, 10] rfl rfl (by decide) (by decide) (fun r10 u H locs hv hP hD hS => ?_)
                obtain ⟨a11_to_11, a11_made_12⟩ := u
                obtain ⟨hz_r10, hv⟩ := hv
                have hP : va_P D vwCl [oX11 ad s11_d s11_stepMany s11_kind s11_many s11_partMany s11_rule s11_ticks s11_hand s11_g s11_beganElsewhere s11_dBefore s11_fBefore s11_fFirst s11_weightMany s11_tailTold, aI cy (ad 41) 8 a11_steps, aI cy (ad 43) 16 a11_a, aI cy (ad 44) 4 a11_b, aI cy (ad 45) 4 a11_e, aI cy (ad 46) 4 a11_h, aJ cy (ad 47) 4 a11_sums, aJ cy (ad 56) 4 a11_now_6, aJ cy (ad 57) 4 a11_to_11, aI cy (ad 58) 3 a11_made_12, aJ cy (ad 59) 16388 a11_path_9] H := hP.sub [2, 3, 4, 5, 6, 7, 0, 8, 9, 10, 1] rfl
                have hD : va_D A [oX11 ad s11_d s11_stepMany s11_kind s11_many s11_partMany s11_rule s11_ticks s11_hand s11_g s11_beganElsewhere s11_dBefore s11_fBefore s11_fFirst s11_weightMany s11_tailTold, aI cy (ad 41) 8 a11_steps, aI cy (ad 43) 16 a11_a, aI cy (ad 44) 4 a11_b, aI cy (ad 45) 4 a11_e, aI cy (ad 46) 4 a11_h, aJ cy (ad 47) 4 a11_sums, aJ cy (ad 56) 4 a11_now_6, aJ cy (ad 57) 4 a11_to_11, aI cy (ad 58) 3 a11_made_12, aJ cy (ad 59) 16388 a11_path_9] := hD.sub [2, 3, 4, 5, 6, 7, 0, 8, 9, 10, 1] (by decide) rfl
                refine lv_if_ne (tgt := 61) hx hb dX11_ring_55 (by decide) (fun c_55 => ?_) (fun c_55 => ?_)
                · have hv := hv.1 c_55
                  refine lv_aload_n hx hb dX11_ring_61 rfl (lv_at hl 1 rfl) ?_
                  have hPc := hP.sub (ws' := [oX11 ad s11_d s11_stepMany s11_kind s11_many s11_partMany s11_rule s11_ticks s11_hand s11_g s11_beganElsewhere s11_dBefore s11_fBefore s11_fFirst s11_weightMany s11_tailTold, aJ cy (ad 56) 4 a11_now_6, aJ cy (ad 57) 4 a11_to_11]) [0, 7, 8] rfl
                  have hDc := hD.sub (ws' := [oX11 ad s11_d s11_stepMany s11_kind s11_many s11_partMany s11_rule s11_ticks s11_hand s11_g s11_beganElsewhere s11_dBefore s11_fBefore s11_fFirst s11_weightMany s11_tailTold, aJ cy (ad 56) 4 a11_now_6, aJ cy (ad 57) 4 a11_to_11]) [0, 7, 8] (by decide) rfl
                  refine k_calv (wc := [oX11 ad s11_d s11_stepMany s11_kind s11_many s11_partMany s11_rule s11_ticks s11_hand s11_g s11_beganElsewhere s11_dBefore s11_fBefore s11_fFirst s11_weightMany s11_tailTold, aJ cy (ad 56) 4 a11_now_6, aJ cy (ad 57) 4 a11_to_11]) (wr := [aI cy (ad 41) 8 a11_steps, aI cy (ad 43) 16 a11_a, aI cy (ad 44) 4 a11_b, aI cy (ad 45) 4 a11_e, aI cy (ad 46) 4 a11_h, aJ cy (ad 47) 4 a11_sums, aI cy (ad 58) 3 a11_made_12, aJ cy (ad 59) 16388 a11_path_9]) (va_runV (As := []) (rest := []) ⟨hx, hb, hml, hown, hts⟩ (m_X11_goOn l D cy ad s11_d s11_stepMany s11_kind s11_many s11_partMany s11_rule s11_ticks s11_hand s11_g s11_beganElsewhere s11_dBefore s11_fBefore s11_fFirst s11_weightMany s11_tailTold a11_now_6 a11_to_11 H.size hv) (cwV 0 hts gX11_ring_X11_goOn rfl rfl rfl (by decide +kernel) ⟨Nat.le_of_ble_eq_true rfl, Nat.le_of_ble_eq_true rfl⟩) ⟨wd_blind, va_recv hK hPc (ci := 11) (q0 := 0) rfl rfl, wd_ok hPc hK hDc hN⟩ rfl rfl hl.1 rfl (lv_room (Nat.le_of_ble_eq_true rfl)) dX11_ring_62 ⟨Nat.le_of_ble_eq_true rfl, Nat.le_of_ble_eq_true rfl⟩) hP hD hS hA [0, 7, 8] [1, 2, 3, 4, 5, 6, 9, 10] rfl rfl (by decide) (by decide) (fun a11_now_13 H locs hv hP hD hS => ?_)
                  have hP : va_P D vwCl [oX11 ad s11_d s11_stepMany s11_kind s11_many s11_partMany s11_rule s11_ticks s11_hand s11_g s11_beganElsewhere s11_dBefore s11_fBefore s11_fFirst s11_weightMany s11_tailTold, aI cy (ad 41) 8 a11_steps, aI cy (ad 43) 16 a11_a, aI cy (ad 44) 4 a11_b, aI cy (ad 45) 4 a11_e, aI cy (ad 46) 4 a11_h, aJ cy (ad 47) 4 a11_sums, aJ cy (ad 56) 4 a11_now_13, aJ cy (ad 57) 4 a11_to_11, aI cy (ad 58) 3 a11_made_12, aJ cy (ad 59) 16388 a11_path_9] H := hP.sub [8, 0, 1, 2, 3, 4, 5, 9, 10, 6, 7] rfl
                  have hD : va_D A [oX11 ad s11_d s11_stepMany s11_kind s11_many s11_partMany s11_rule s11_ticks s11_hand s11_g s11_beganElsewhere s11_dBefore s11_fBefore s11_fFirst s11_weightMany s11_tailTold, aI cy (ad 41) 8 a11_steps, aI cy (ad 43) 16 a11_a, aI cy (ad 44) 4 a11_b, aI cy (ad 45) 4 a11_e, aI cy (ad 46) 4 a11_h, aJ cy (ad 47) 4 a11_sums, aJ cy (ad 56) 4 a11_now_13, aJ cy (ad 57) 4 a11_to_11, aI cy (ad 58) 3 a11_made_12, aJ cy (ad 59) 16388 a11_path_9] := hD.sub [8, 0, 1, 2, 3, 4, 5, 9, 10, 6, 7] (by decide) rfl
                  refine lv_iconst (v := 0) hx hb dX11_ring_65 (by decide) ?_
                  refine lv_istore_n (lv' := [(3, .int (0 : Int32)), (2, .int l2_5), (0, .ref (ad 11)), (1, .int x1)]) hx hb dX11_ring_66 rfl hl (by decide) rfl (fun ls hl => ?_)
                  have lp67 : ∀ (n67 : Nat) (l3_14 : Int32) (a11_path_15 : Nat → Int64) (H : Heap) (locs : List Loc) (ls : Array Slot), vfix (vF_X11_ring_67 s11_many K l2_5 (fun z0 z1 z2 z3 z4 => vfix (vF_X11_ring_43 s11_d s11_stepMany s11_kind s11_many s11_g s11_tailTold a11_steps a11_a a11_b a11_e a11_h x1 K) n43 (z0, z1, z2, z3, z4)) a11_to_11 a11_made_12 a11_now_13) n67 (l3_14, a11_path_15) → lv_has ls 6 [(3, .int l3_14), (2, .int l2_5), (0, .ref (ad 11)), (1, .int x1)] → va_P D vwCl [oX11 ad s11_d s11_stepMany s11_kind s11_many s11_partMany s11_rule s11_ticks s11_hand s11_g s11_beganElsewhere s11_dBefore s11_fBefore s11_fFirst s11_weightMany s11_tailTold, aI cy (ad 41) 8 a11_steps, aI cy (ad 43) 16 a11_a, aI cy (ad 44) 4 a11_b, aI cy (ad 45) 4 a11_e, aI cy (ad 46) 4 a11_h, aJ cy (ad 47) 4 a11_sums, aJ cy (ad 56) 4 a11_now_13, aJ cy (ad 57) 4 a11_to_11, aI cy (ad 58) 3 a11_made_12, aJ cy (ad 59) 16388 a11_path_15] H → va_D A [oX11 ad s11_d s11_stepMany s11_kind s11_many s11_partMany s11_rule s11_ticks s11_hand s11_g s11_beganElsewhere s11_dBefore s11_fBefore s11_fFirst s11_weightMany s11_tailTold, aI cy (ad 41) 8 a11_steps, aI cy (ad 43) 16 a11_a, aI cy (ad 44) 4 a11_b, aI cy (ad 45) 4 a11_e, aI cy (ad 46) 4 a11_h, aJ cy (ad 47) 4 a11_sums, aJ cy (ad 56) 4 a11_now_13, aJ cy (ad 57) 4 a11_to_11, aI cy (ad 58) 3 a11_made_12, aJ cy (ad 59) 16388 a11_path_15] → va_S A s.heap H locs → W p l e rm_X11_ring s m ([.ref (ad 11), .int x1] : List Value).toArray below meth c H locs 0 0 Q (F0 m 67 ls []) := by
                    intro n67
                    induction n67 with
                    | zero => intro l3_14 a11_path_15 H locs ls hv; exact hv.elim
                    | succ n67 ih67 =>
                      intro l3_14 a11_path_15 H locs ls hv hl hP hD hS
                      have hv : vB_X11_ring_67 s11_many K l2_5 (fun z0 z1 z2 z3 z4 => vfix (vF_X11_ring_43 s11_d s11_stepMany s11_kind s11_many s11_g s11_tailTold a11_steps a11_a a11_b a11_e a11_h x1 K) n43 (z0, z1, z2, z3, z4)) a11_to_11 a11_made_12 a11_now_13 (fun z0 z1 => vfix (vF_X11_ring_67 s11_many K l2_5 (fun z0 z1 z2 z3 z4 => vfix (vF_X11_ring_43 s11_d s11_stepMany s11_kind s11_many s11_g s11_tailTold a11_steps a11_a a11_b a11_e a11_h x1 K) n43 (z0, z1, z2, z3, z4)) a11_to_11 a11_made_12 a11_now_13) n67 (z0, z1)) l3_14 a11_path_15 := hv
                      unfold vB_X11_ring_67 at hv
                      refine lv_iload_n hx hb dX11_ring_67 rfl (lv_at hl 0 rfl) ?_
                      refine lv_aload_n hx hb dX11_ring_68 rfl (lv_at hl 2 rfl) ?_
                      refine va_get (D := D) (ci := 11) (v := .int s11_many) (C := RX11) (T := TX11) (N := 35) hx hb hts in_X11_ring_11 hown hK hP 0 rfl rfl 3 (by decide) (hts _ lk_X11_ring_16) (fun _ h9 => h9) rfl dX11_ring_69 ?_
                      refine lv_icmp_ge (tgt := 100) hx hb dX11_ring_72 (by decide) (fun c_72 => ?_) (fun c_72 => ?_)
                      · have hv := hv.1 c_72
                        refine lv_iconst (v := 0) hx hb dX11_ring_100 (by decide) ?_
                        refine lv_istore_n (lv' := [(3, .int (0 : Int32)), (2, .int l2_5), (0, .ref (ad 11)), (1, .int x1)]) hx hb dX11_ring_101 rfl hl (by decide) rfl (fun ls hl => ?_)
                        have lp102 : ∀ (n102 : Nat) (l3_16 : Int32) (H : Heap) (locs : List Loc) (ls : Array Slot), vfix (vF_X11_ring_102 s11_many K l2_5 (fun z0 z1 z2 z3 z4 => vfix (vF_X11_ring_43 s11_d s11_stepMany s11_kind s11_many s11_g s11_tailTold a11_steps a11_a a11_b a11_e a11_h x1 K) n43 (z0, z1, z2, z3, z4)) a11_to_11 a11_made_12 a11_now_13 a11_path_15) n102 l3_16 → lv_has ls 6 [(3, .int l3_16), (2, .int l2_5), (0, .ref (ad 11)), (1, .int x1)] → va_P D vwCl [oX11 ad s11_d s11_stepMany s11_kind s11_many s11_partMany s11_rule s11_ticks s11_hand s11_g s11_beganElsewhere s11_dBefore s11_fBefore s11_fFirst s11_weightMany s11_tailTold, aI cy (ad 41) 8 a11_steps, aI cy (ad 43) 16 a11_a, aI cy (ad 44) 4 a11_b, aI cy (ad 45) 4 a11_e, aI cy (ad 46) 4 a11_h, aJ cy (ad 47) 4 a11_sums, aJ cy (ad 56) 4 a11_now_13, aJ cy (ad 57) 4 a11_to_11, aI cy (ad 58) 3 a11_made_12, aJ cy (ad 59) 16388 a11_path_15] H → va_D A [oX11 ad s11_d s11_stepMany s11_kind s11_many s11_partMany s11_rule s11_ticks s11_hand s11_g s11_beganElsewhere s11_dBefore s11_fBefore s11_fFirst s11_weightMany s11_tailTold, aI cy (ad 41) 8 a11_steps, aI cy (ad 43) 16 a11_a, aI cy (ad 44) 4 a11_b, aI cy (ad 45) 4 a11_e, aI cy (ad 46) 4 a11_h, aJ cy (ad 47) 4 a11_sums, aJ cy (ad 56) 4 a11_now_13, aJ cy (ad 57) 4 a11_to_11, aI cy (ad 58) 3 a11_made_12, aJ cy (ad 59) 16388 a11_path_15] → va_S A s.heap H locs → W p l e rm_X11_ring s m ([.ref (ad 11), .int x1] : List Value).toArray below meth c H locs 0 0 Q (F0 m 102 ls []) := by
                          intro n102
                          induction n102 with
                          | zero => intro l3_16 H locs ls hv; exact hv.elim
                          | succ n102 ih102 =>
                            intro l3_16 H locs ls hv hl hP hD hS
                            have hv : vB_X11_ring_102 s11_many K l2_5 (fun z0 z1 z2 z3 z4 => vfix (vF_X11_ring_43 s11_d s11_stepMany s11_kind s11_many s11_g s11_tailTold a11_steps a11_a a11_b a11_e a11_h x1 K) n43 (z0, z1, z2, z3, z4)) a11_to_11 a11_made_12 a11_now_13 a11_path_15 (fun z0 => vfix (vF_X11_ring_102 s11_many K l2_5 (fun z0 z1 z2 z3 z4 => vfix (vF_X11_ring_43 s11_d s11_stepMany s11_kind s11_many s11_g s11_tailTold a11_steps a11_a a11_b a11_e a11_h x1 K) n43 (z0, z1, z2, z3, z4)) a11_to_11 a11_made_12 a11_now_13 a11_path_15) n102 z0) l3_16 := hv
                            unfold vB_X11_ring_102 at hv
                            refine lv_iload_n hx hb dX11_ring_102 rfl (lv_at hl 0 rfl) ?_
                            refine lv_iload_n hx hb dX11_ring_103 rfl (lv_at hl 1 rfl) ?_
                            refine lv_icmp_ge (tgt := 188) hx hb dX11_ring_104 (by decide) (fun c_104 => ?_) (fun c_104 => ?_)
                            · have hv := hv.1 c_104
                              obtain ⟨i17, h_i17⟩ : ∃ y : Int32, y = l2_5 + 1 := ⟨_, rfl⟩
                              refine lv_iinc (v := i17) (lv' := [(2, .int i17), (3, .int l3_16), (0, .ref (ad 11)), (1, .int x1)]) hx hb dX11_ring_188 hl (k := 1) rfl (by rw [h_i17]; rfl) (by decide) rfl (fun ls hl => ?_)
                              have hv := hv i17 h_i17
                              refine lv_goto (tgt := 43) hx hb dX11_ring_191 (by decide) ?_
                              exact ih43 i17 a11_now_13 a11_to_11 a11_made_12 a11_path_15 H locs ls hv (lv_sub hl [0, 2, 3] rfl) hP hD hS
                            · have hv := hv.2 c_104
                              refine lv_iconst (v := 1) hx hb dX11_ring_107 (by decide) ?_
                              refine lv_istore (lv' := [(4, .int (1 : Int32)), (3, .int l3_16), (2, .int l2_5), (0, .ref (ad 11)), (1, .int x1)]) hx hb dX11_ring_108 hl (by decide) rfl (fun ls hl => ?_)
                              refine lv_iconst (v := 0) hx hb dX11_ring_110 (by decide) ?_
                              refine lv_istore (lv' := [(5, .int (0 : Int32)), (4, .int (1 : Int32)), (3, .int l3_16), (2, .int l2_5), (0, .ref (ad 11)), (1, .int x1)]) hx hb dX11_ring_111 hl (by decide) rfl (fun ls hl => ?_)
                              have lp113 : ∀ (n113 : Nat) (l5_18 : Int32) (l4_19 : Int32) (H : Heap) (locs : List Loc) (ls : Array Slot), vfix (vF_X11_ring_113 s11_many K l2_5 a11_to_11 a11_made_12 a11_now_13 a11_path_15 l3_16 (fun z0 => vfix (vF_X11_ring_102 s11_many K l2_5 (fun z0 z1 z2 z3 z4 => vfix (vF_X11_ring_43 s11_d s11_stepMany s11_kind s11_many s11_g s11_tailTold a11_steps a11_a a11_b a11_e a11_h x1 K) n43 (z0, z1, z2, z3, z4)) a11_to_11 a11_made_12 a11_now_13 a11_path_15) n102 z0)) n113 (l5_18, l4_19) → lv_has ls 6 [(5, .int l5_18), (4, .int l4_19), (3, .int l3_16), (2, .int l2_5), (0, .ref (ad 11)), (1, .int x1)] → va_P D vwCl [oX11 ad s11_d s11_stepMany s11_kind s11_many s11_partMany s11_rule s11_ticks s11_hand s11_g s11_beganElsewhere s11_dBefore s11_fBefore s11_fFirst s11_weightMany s11_tailTold, aI cy (ad 41) 8 a11_steps, aI cy (ad 43) 16 a11_a, aI cy (ad 44) 4 a11_b, aI cy (ad 45) 4 a11_e, aI cy (ad 46) 4 a11_h, aJ cy (ad 47) 4 a11_sums, aJ cy (ad 56) 4 a11_now_13, aJ cy (ad 57) 4 a11_to_11, aI cy (ad 58) 3 a11_made_12, aJ cy (ad 59) 16388 a11_path_15] H → va_D A [oX11 ad s11_d s11_stepMany s11_kind s11_many s11_partMany s11_rule s11_ticks s11_hand s11_g s11_beganElsewhere s11_dBefore s11_fBefore s11_fFirst s11_weightMany s11_tailTold, aI cy (ad 41) 8 a11_steps, aI cy (ad 43) 16 a11_a, aI cy (ad 44) 4 a11_b, aI cy (ad 45) 4 a11_e, aI cy (ad 46) 4 a11_h, aJ cy (ad 47) 4 a11_sums, aJ cy (ad 56) 4 a11_now_13, aJ cy (ad 57) 4 a11_to_11, aI cy (ad 58) 3 a11_made_12, aJ cy (ad 59) 16388 a11_path_15] → va_S A s.heap H locs → W p l e rm_X11_ring s m ([.ref (ad 11), .int x1] : List Value).toArray below meth c H locs 0 0 Q (F0 m 113 ls []) := by
                                intro n113
                                induction n113 with
                                | zero => intro l5_18 l4_19 H locs ls hv; exact hv.elim
                                | succ n113 ih113 =>
                                  intro l5_18 l4_19 H locs ls hv hl hP hD hS
                                  have hv : vB_X11_ring_113 s11_many K l2_5 a11_to_11 a11_made_12 a11_now_13 a11_path_15 l3_16 (fun z0 => vfix (vF_X11_ring_102 s11_many K l2_5 (fun z0 z1 z2 z3 z4 => vfix (vF_X11_ring_43 s11_d s11_stepMany s11_kind s11_many s11_g s11_tailTold a11_steps a11_a a11_b a11_e a11_h x1 K) n43 (z0, z1, z2, z3, z4)) a11_to_11 a11_made_12 a11_now_13 a11_path_15) n102 z0) (fun z0 z1 => vfix (vF_X11_ring_113 s11_many K l2_5 a11_to_11 a11_made_12 a11_now_13 a11_path_15 l3_16 (fun z0 => vfix (vF_X11_ring_102 s11_many K l2_5 (fun z0 z1 z2 z3 z4 => vfix (vF_X11_ring_43 s11_d s11_stepMany s11_kind s11_many s11_g s11_tailTold a11_steps a11_a a11_b a11_e a11_h x1 K) n43 (z0, z1, z2, z3, z4)) a11_to_11 a11_made_12 a11_now_13 a11_path_15) n102 z0)) n113 (z0, z1)) l5_18 l4_19 := hv
                                  unfold vB_X11_ring_113 at hv
                                  refine lv_iload hx hb dX11_ring_113 (lv_at hl 0 rfl) ?_
                                  refine lv_aload_n hx hb dX11_ring_115 rfl (lv_at hl 4 rfl) ?_
                                  refine va_get (D := D) (ci := 11) (v := .int s11_many) (C := RX11) (T := TX11) (N := 35) hx hb hts in_X11_ring_11 hown hK hP 0 rfl rfl 3 (by decide) (hts _ lk_X11_ring_16) (fun _ h9 => h9) rfl dX11_ring_116 ?_
                                  have jn165 : ∀ (H : Heap) (locs : List Loc) (ls : Array Slot), vJ_X11_ring_165 K l2_5 a11_to_11 a11_made_12 a11_now_13 a11_path_15 l3_16 (fun z0 => vfix (vF_X11_ring_102 s11_many K l2_5 (fun z0 z1 z2 z3 z4 => vfix (vF_X11_ring_43 s11_d s11_stepMany s11_kind s11_many s11_g s11_tailTold a11_steps a11_a a11_b a11_e a11_h x1 K) n43 (z0, z1, z2, z3, z4)) a11_to_11 a11_made_12 a11_now_13 a11_path_15) n102 z0) l4_19 → lv_has ls 6 [(4, .int l4_19), (3, .int l3_16), (2, .int l2_5), (0, .ref (ad 11)), (1, .int x1)] → va_P D vwCl [oX11 ad s11_d s11_stepMany s11_kind s11_many s11_partMany s11_rule s11_ticks s11_hand s11_g s11_beganElsewhere s11_dBefore s11_fBefore s11_fFirst s11_weightMany s11_tailTold, aI cy (ad 41) 8 a11_steps, aI cy (ad 43) 16 a11_a, aI cy (ad 44) 4 a11_b, aI cy (ad 45) 4 a11_e, aI cy (ad 46) 4 a11_h, aJ cy (ad 47) 4 a11_sums, aJ cy (ad 56) 4 a11_now_13, aJ cy (ad 57) 4 a11_to_11, aI cy (ad 58) 3 a11_made_12, aJ cy (ad 59) 16388 a11_path_15] H → va_D A [oX11 ad s11_d s11_stepMany s11_kind s11_many s11_partMany s11_rule s11_ticks s11_hand s11_g s11_beganElsewhere s11_dBefore s11_fBefore s11_fFirst s11_weightMany s11_tailTold, aI cy (ad 41) 8 a11_steps, aI cy (ad 43) 16 a11_a, aI cy (ad 44) 4 a11_b, aI cy (ad 45) 4 a11_e, aI cy (ad 46) 4 a11_h, aJ cy (ad 47) 4 a11_sums, aJ cy (ad 56) 4 a11_now_13, aJ cy (ad 57) 4 a11_to_11, aI cy (ad 58) 3 a11_made_12, aJ cy (ad 59) 16388 a11_path_15] → va_S A s.heap H locs → W p l e rm_X11_ring s m ([.ref (ad 11), .int x1] : List Value).toArray below meth c H locs 0 0 Q (F0 m 165 ls []) := by
                                    intro H locs ls hv hl hP hD hS
                                    unfold vJ_X11_ring_165 at hv
                                    refine lv_iload hx hb dX11_ring_165 (lv_at hl 0 rfl) ?_
                                    refine lv_if_ne (tgt := 173) hx hb dX11_ring_167 (by decide) (fun c_167 => ?_) (fun c_167 => ?_)
                                    · have hv := hv.1 c_167
                                      refine lv_aload_n hx hb dX11_ring_173 rfl (lv_at hl 3 rfl) ?_
                                      refine lv_iload_n hx hb dX11_ring_174 rfl (lv_at hl 1 rfl) ?_
                                      refine va_put (D := D) (ci := 11) (v := .int l3_16) (ty := .int) (C := RX11) (T := TX11) (N := 35) hx hb hts in_X11_ring_11 tyX11 tyX11_ok nmX11 hown hK hP hD hS 0 rfl rfl 29 (by decide) (hts _ lk_X11_ring_163) (fun _ h9 => h9) rfl (by decide +kernel) rfl rfl (Nat.le_of_ble_eq_true rfl) dX11_ring_175 (fun H locs hP hD hS => ?_)
                                      have hP : va_P D vwCl [oX11 ad s11_d s11_stepMany s11_kind s11_many s11_partMany s11_rule s11_ticks s11_hand s11_g s11_beganElsewhere s11_dBefore s11_fBefore s11_fFirst s11_weightMany l3_16, aI cy (ad 41) 8 a11_steps, aI cy (ad 43) 16 a11_a, aI cy (ad 44) 4 a11_b, aI cy (ad 45) 4 a11_e, aI cy (ad 46) 4 a11_h, aJ cy (ad 47) 4 a11_sums, aJ cy (ad 56) 4 a11_now_13, aJ cy (ad 57) 4 a11_to_11, aI cy (ad 58) 3 a11_made_12, aJ cy (ad 59) 16388 a11_path_15] H := hP
                                      have hD : va_D A [oX11 ad s11_d s11_stepMany s11_kind s11_many s11_partMany s11_rule s11_ticks s11_hand s11_g s11_beganElsewhere s11_dBefore s11_fBefore s11_fFirst s11_weightMany l3_16, aI cy (ad 41) 8 a11_steps, aI cy (ad 43) 16 a11_a, aI cy (ad 44) 4 a11_b, aI cy (ad 45) 4 a11_e, aI cy (ad 46) 4 a11_h, aJ cy (ad 47) 4 a11_sums, aJ cy (ad 56) 4 a11_now_13, aJ cy (ad 57) 4 a11_to_11, aI cy (ad 58) 3 a11_made_12, aJ cy (ad 59) 16388 a11_path_15] := hD
                                      refine lv_iload_n hx hb dX11_ring_178 rfl (lv_at hl 2 rfl) ?_
                                      refine lv_iload_n hx hb dX11_ring_179 rfl (lv_at hl 1 rfl) ?_
                                      refine lv_isub hx hb dX11_ring_180 ?_
                                      refine lv_topi (fun e20 h_e20 => ?_)
                                      have hv := hv e20 h_e20
                                      rw [← hQ]
                                      exact k_iret hx hb hr hlocks hS (l3_16, a11_now_13, a11_to_11, a11_made_12, a11_path_15) hP hD hv dX11_ring_181
                                    · have hv := hv.2 c_167
                                      refine lv_goto (tgt := 182) hx hb dX11_ring_170 (by decide) ?_
                                      obtain ⟨i21, h_i21⟩ : ∃ y : Int32, y = l3_16 + 1 := ⟨_, rfl⟩
                                      refine lv_iinc (v := i21) (lv' := [(3, .int i21), (4, .int l4_19), (2, .int l2_5), (0, .ref (ad 11)), (1, .int x1)]) hx hb dX11_ring_182 hl (k := 1) rfl (by rw [h_i21]; rfl) (by decide) rfl (fun ls hl => ?_)
                                      have hv := hv i21 h_i21
                                      refine lv_goto (tgt := 102) hx hb dX11_ring_185 (by decide) ?_
                                      exact ih102 i21 H locs ls hv (lv_sub hl [0, 2, 3, 4] rfl) hP hD hS
                                  refine lv_icmp_ge (tgt := 165) hx hb dX11_ring_119 (by decide) (fun c_119 => ?_) (fun c_119 => ?_)
                                  · have hv := hv.1 c_119
                                    exact jn165  H locs ls hv (lv_sub hl [1, 2, 3, 4, 5] rfl) hP hD hS
                                  · have hv := hv.2 c_119
                                    refine lv_iload hx hb dX11_ring_122 (lv_at hl 1 rfl) ?_
                                    refine lv_if_eq (tgt := 165) hx hb dX11_ring_124 (by decide) (fun c_124 => ?_) (fun c_124 => ?_)
                                    · have hv := hv.1 c_124
                                      exact jn165  H locs ls hv (lv_sub hl [1, 2, 3, 4, 5] rfl) hP hD hS
                                    · have hv := hv.2 c_124
                                      refine lv_aload_n hx hb dX11_ring_127 rfl (lv_at hl 4 rfl) ?_
                                      refine va_get (D := D) (ci := 11) (v := .ref (ad 59)) (C := RX11) (T := TX11) (N := 35) hx hb hts in_X11_ring_11 hown hK hP 0 rfl rfl 33 (by decide) (hts _ lk_X11_ring_75) (fun _ h9 => h9) rfl dX11_ring_128 ?_
                                      refine lv_aload_n hx hb dX11_ring_131 rfl (lv_at hl 4 rfl) ?_
                                      refine va_get (D := D) (ci := 11) (v := .int s11_many) (C := RX11) (T := TX11) (N := 35) hx hb hts in_X11_ring_11 hown hK hP 0 rfl rfl 3 (by decide) (hts _ lk_X11_ring_16) (fun _ h9 => h9) rfl dX11_ring_132 ?_
                                      refine lv_iload_n hx hb dX11_ring_135 rfl (lv_at hl 2 rfl) ?_
                                      refine lv_imul hx hb dX11_ring_136 ?_
                                      refine lv_topi (fun e22 h_e22 => ?_)
                                      have hv := hv e22 h_e22
                                      refine lv_iload hx hb dX11_ring_137 (lv_at hl 0 rfl) ?_
                                      refine lv_iadd hx hb dX11_ring_139 ?_
                                      refine lv_topi (fun e23 h_e23 => ?_)
                                      have hv := hv e23 h_e23
                                      refine va_lald hx hb hK hP 10 1 rfl rfl hv.1 dX11_ring_140 ?_
                                      refine lv_topl (fun g24 h_g24 => ?_)
                                      have hv := hv.2 g24 h_g24
                                      refine lv_aload_n hx hb dX11_ring_141 rfl (lv_at hl 4 rfl) ?_
                                      refine va_get (D := D) (ci := 11) (v := .ref (ad 56)) (C := RX11) (T := TX11) (N := 35) hx hb hts in_X11_ring_11 hown hK hP 0 rfl rfl 30 (by decide) (hts _ lk_X11_ring_66) (fun _ h9 => h9) rfl dX11_ring_142 ?_
                                      refine lv_iload hx hb dX11_ring_145 (lv_at hl 0 rfl) ?_
                                      refine va_lald hx hb hK hP 7 1 rfl rfl hv.1 dX11_ring_147 ?_
                                      refine lv_topl (fun g25 h_g25 => ?_)
                                      have hv := hv.2 g25 h_g25
                                      have jn157 : ∀ (t26 : Int32) (H : Heap) (locs : List Loc) (ls : Array Slot), vJ_X11_ring_157 l5_18 (fun z0 z1 => vfix (vF_X11_ring_113 s11_many K l2_5 a11_to_11 a11_made_12 a11_now_13 a11_path_15 l3_16 (fun z0 => vfix (vF_X11_ring_102 s11_many K l2_5 (fun z0 z1 z2 z3 z4 => vfix (vF_X11_ring_43 s11_d s11_stepMany s11_kind s11_many s11_g s11_tailTold a11_steps a11_a a11_b a11_e a11_h x1 K) n43 (z0, z1, z2, z3, z4)) a11_to_11 a11_made_12 a11_now_13 a11_path_15) n102 z0)) n113 (z0, z1)) t26 → lv_has ls 6 [(5, .int l5_18), (3, .int l3_16), (2, .int l2_5), (0, .ref (ad 11)), (1, .int x1)] → va_P D vwCl [oX11 ad s11_d s11_stepMany s11_kind s11_many s11_partMany s11_rule s11_ticks s11_hand s11_g s11_beganElsewhere s11_dBefore s11_fBefore s11_fFirst s11_weightMany s11_tailTold, aI cy (ad 41) 8 a11_steps, aI cy (ad 43) 16 a11_a, aI cy (ad 44) 4 a11_b, aI cy (ad 45) 4 a11_e, aI cy (ad 46) 4 a11_h, aJ cy (ad 47) 4 a11_sums, aJ cy (ad 56) 4 a11_now_13, aJ cy (ad 57) 4 a11_to_11, aI cy (ad 58) 3 a11_made_12, aJ cy (ad 59) 16388 a11_path_15] H → va_D A [oX11 ad s11_d s11_stepMany s11_kind s11_many s11_partMany s11_rule s11_ticks s11_hand s11_g s11_beganElsewhere s11_dBefore s11_fBefore s11_fFirst s11_weightMany s11_tailTold, aI cy (ad 41) 8 a11_steps, aI cy (ad 43) 16 a11_a, aI cy (ad 44) 4 a11_b, aI cy (ad 45) 4 a11_e, aI cy (ad 46) 4 a11_h, aJ cy (ad 47) 4 a11_sums, aJ cy (ad 56) 4 a11_now_13, aJ cy (ad 57) 4 a11_to_11, aI cy (ad 58) 3 a11_made_12, aJ cy (ad 59) 16388 a11_path_15] → va_S A s.heap H locs → W p l e rm_X11_ring s m ([.ref (ad 11), .int x1] : List Value).toArray below meth c H locs 0 0 Q (F0 m 157 ls [.int t26]) := by
                                        intro t26 H locs ls hv hl hP hD hS
                                        unfold vJ_X11_ring_157 at hv
                                        refine lv_istore (lv' := [(4, .int t26), (5, .int l5_18), (3, .int l3_16), (2, .int l2_5), (0, .ref (ad 11)), (1, .int x1)]) hx hb dX11_ring_157 hl (by decide) rfl (fun ls hl => ?_)
                                        obtain ⟨i27, h_i27⟩ : ∃ y : Int32, y = l5_18 + 1 := ⟨_, rfl⟩
                                        refine lv_iinc (v := i27) (lv' := [(5, .int i27), (4, .int t26), (3, .int l3_16), (2, .int l2_5), (0, .ref (ad 11)), (1, .int x1)]) hx hb dX11_ring_159 hl (k := 1) rfl (by rw [h_i27]; rfl) (by decide) rfl (fun ls hl => ?_)
                                        have hv := hv i27 h_i27
                                        refine lv_goto (tgt := 113) hx hb dX11_ring_162 (by decide) ?_
                                        exact ih113 i27 t26 H locs ls hv (lv_sub hl [0, 1, 2, 3, 4, 5] rfl) hP hD hS
                                      refine k_lc_ne (tgt := 156) hx hb dX11_ring_148 dX11_ring_149 (by decide) (fun c_148 => ?_) (fun c_148 => ?_)
                                      · have hv := hv.1 c_148
                                        refine lv_iconst (v := 0) hx hb dX11_ring_156 (by decide) ?_
                                        exact jn157 (0 : Int32) H locs ls hv (lv_sub hl [0, 2, 3, 4, 5] rfl) hP hD hS
                                      · have hv := hv.2 c_148
                                        refine lv_iconst (v := 1) hx hb dX11_ring_152 (by decide) ?_
                                        refine lv_goto (tgt := 157) hx hb dX11_ring_153 (by decide) ?_
                                        exact jn157 (1 : Int32) H locs ls hv (lv_sub hl [0, 2, 3, 4, 5] rfl) hP hD hS
                              obtain ⟨nn, hv⟩ := hv
                              exact lp113 nn (0 : Int32) (1 : Int32) H locs ls hv (lv_sub hl [0, 1, 2, 3, 4, 5] rfl) hP hD hS
                        obtain ⟨nn, hv⟩ := hv
                        exact lp102 nn (0 : Int32) H locs ls hv (lv_sub hl [0, 1, 2, 3] rfl) hP hD hS
                      · have hv := hv.2 c_72
                        refine lv_aload_n hx hb dX11_ring_75 rfl (lv_at hl 2 rfl) ?_
                        refine va_get (D := D) (ci := 11) (v := .ref (ad 59)) (C := RX11) (T := TX11) (N := 35) hx hb hts in_X11_ring_11 hown hK hP 0 rfl rfl 33 (by decide) (hts _ lk_X11_ring_75) (fun _ h9 => h9) rfl dX11_ring_76 ?_
                        refine lv_aload_n hx hb dX11_ring_79 rfl (lv_at hl 2 rfl) ?_
                        refine va_get (D := D) (ci := 11) (v := .int s11_many) (C := RX11) (T := TX11) (N := 35) hx hb hts in_X11_ring_11 hown hK hP 0 rfl rfl 3 (by decide) (hts _ lk_X11_ring_16) (fun _ h9 => h9) rfl dX11_ring_80 ?_
                        refine lv_iload_n hx hb dX11_ring_83 rfl (lv_at hl 1 rfl) ?_
                        refine lv_imul hx hb dX11_ring_84 ?_
                        refine lv_topi (fun e28 h_e28 => ?_)
                        have hv := hv e28 h_e28
                        refine lv_iload_n hx hb dX11_ring_85 rfl (lv_at hl 0 rfl) ?_
                        refine lv_iadd hx hb dX11_ring_86 ?_
                        refine lv_topi (fun e29 h_e29 => ?_)
                        have hv := hv e29 h_e29
                        refine lv_aload_n hx hb dX11_ring_87 rfl (lv_at hl 2 rfl) ?_
                        refine va_get (D := D) (ci := 11) (v := .ref (ad 56)) (C := RX11) (T := TX11) (N := 35) hx hb hts in_X11_ring_11 hown hK hP 0 rfl rfl 30 (by decide) (hts _ lk_X11_ring_66) (fun _ h9 => h9) rfl dX11_ring_88 ?_
                        refine lv_iload_n hx hb dX11_ring_91 rfl (lv_at hl 0 rfl) ?_
                        refine va_lald hx hb hK hP 7 1 rfl rfl hv.1 dX11_ring_92 ?_
                        refine lv_topl (fun g30 h_g30 => ?_)
                        have hv := hv.2 g30 h_g30
                        refine k_last hx hb hK hP hD hS 10 1 rfl rfl hv.1 dX11_ring_93 (fun a11_path_31 H locs h_a11_path_31 hP hD hS => ?_)
                        have hv := hv.2 a11_path_31 h_a11_path_31
                        have hP : va_P D vwCl [oX11 ad s11_d s11_stepMany s11_kind s11_many s11_partMany s11_rule s11_ticks s11_hand s11_g s11_beganElsewhere s11_dBefore s11_fBefore s11_fFirst s11_weightMany s11_tailTold, aI cy (ad 41) 8 a11_steps, aI cy (ad 43) 16 a11_a, aI cy (ad 44) 4 a11_b, aI cy (ad 45) 4 a11_e, aI cy (ad 46) 4 a11_h, aJ cy (ad 47) 4 a11_sums, aJ cy (ad 56) 4 a11_now_13, aJ cy (ad 57) 4 a11_to_11, aI cy (ad 58) 3 a11_made_12, aJ cy (ad 59) 16388 a11_path_31] H := hP
                        have hD : va_D A [oX11 ad s11_d s11_stepMany s11_kind s11_many s11_partMany s11_rule s11_ticks s11_hand s11_g s11_beganElsewhere s11_dBefore s11_fBefore s11_fFirst s11_weightMany s11_tailTold, aI cy (ad 41) 8 a11_steps, aI cy (ad 43) 16 a11_a, aI cy (ad 44) 4 a11_b, aI cy (ad 45) 4 a11_e, aI cy (ad 46) 4 a11_h, aJ cy (ad 47) 4 a11_sums, aJ cy (ad 56) 4 a11_now_13, aJ cy (ad 57) 4 a11_to_11, aI cy (ad 58) 3 a11_made_12, aJ cy (ad 59) 16388 a11_path_31] := hD
                        obtain ⟨i32, h_i32⟩ : ∃ y : Int32, y = l3_14 + 1 := ⟨_, rfl⟩
                        refine lv_iinc (v := i32) (lv' := [(3, .int i32), (2, .int l2_5), (0, .ref (ad 11)), (1, .int x1)]) hx hb dX11_ring_94 hl (k := 0) rfl (by rw [h_i32]; rfl) (by decide) rfl (fun ls hl => ?_)
                        have hv := hv i32 h_i32
                        refine lv_goto (tgt := 67) hx hb dX11_ring_97 (by decide) ?_
                        exact ih67 i32 a11_path_31 H locs ls hv (lv_sub hl [0, 1, 2, 3] rfl) hP hD hS
                  obtain ⟨nn, hv⟩ := hv
                  exact lp67 nn (0 : Int32) a11_path_9 H locs ls hv (lv_sub hl [0, 1, 2, 3] rfl) hP hD hS
                · have hv := hv.2 c_55
                  refine lv_bipush (v := -3) hx hb dX11_ring_58 (by decide) ?_
                  rw [← hQ]
                  exact k_iret hx hb hr hlocks hS (s11_tailTold, a11_now_6, a11_to_11, a11_made_12, a11_path_9) hP hD hv dX11_ring_60
          obtain ⟨nn, hv⟩ := hv
          exact lp43 nn (1 : Int32) a11_now_2 a11_to a11_made a11_path_4 H locs ls hv (lv_sub hl [0, 1, 2] rfl) hP hD hS
        · have hv := hv.2 c_20
          refine lv_aload_n hx hb dX11_ring_23 rfl (lv_at hl 1 rfl) ?_
          refine va_get (D := D) (ci := 11) (v := .ref (ad 59)) (C := RX11) (T := TX11) (N := 35) hx hb hts in_X11_ring_11 hown hK hP 0 rfl rfl 33 (by decide) (hts _ lk_X11_ring_75) (fun _ h9 => h9) rfl dX11_ring_24 ?_
          refine lv_iload_n hx hb dX11_ring_27 rfl (lv_at hl 0 rfl) ?_
          refine lv_aload_n hx hb dX11_ring_28 rfl (lv_at hl 1 rfl) ?_
          refine va_get (D := D) (ci := 11) (v := .ref (ad 56)) (C := RX11) (T := TX11) (N := 35) hx hb hts in_X11_ring_11 hown hK hP 0 rfl rfl 30 (by decide) (hts _ lk_X11_ring_66) (fun _ h9 => h9) rfl dX11_ring_29 ?_
          refine lv_iload_n hx hb dX11_ring_32 rfl (lv_at hl 0 rfl) ?_
          refine va_lald hx hb hK hP 7 1 rfl rfl hv.1 dX11_ring_33 ?_
          refine lv_topl (fun g33 h_g33 => ?_)
          have hv := hv.2 g33 h_g33
          refine k_last hx hb hK hP hD hS 10 1 rfl rfl hv.1 dX11_ring_34 (fun a11_path_34 H locs h_a11_path_34 hP hD hS => ?_)
          have hv := hv.2 a11_path_34 h_a11_path_34
          have hP : va_P D vwCl [oX11 ad s11_d s11_stepMany s11_kind s11_many s11_partMany s11_rule s11_ticks s11_hand s11_g s11_beganElsewhere s11_dBefore s11_fBefore s11_fFirst s11_weightMany s11_tailTold, aI cy (ad 41) 8 a11_steps, aI cy (ad 43) 16 a11_a, aI cy (ad 44) 4 a11_b, aI cy (ad 45) 4 a11_e, aI cy (ad 46) 4 a11_h, aJ cy (ad 47) 4 a11_sums, aJ cy (ad 56) 4 a11_now_2, aJ cy (ad 57) 4 a11_to, aI cy (ad 58) 3 a11_made, aJ cy (ad 59) 16388 a11_path_34] H := hP
          have hD : va_D A [oX11 ad s11_d s11_stepMany s11_kind s11_many s11_partMany s11_rule s11_ticks s11_hand s11_g s11_beganElsewhere s11_dBefore s11_fBefore s11_fFirst s11_weightMany s11_tailTold, aI cy (ad 41) 8 a11_steps, aI cy (ad 43) 16 a11_a, aI cy (ad 44) 4 a11_b, aI cy (ad 45) 4 a11_e, aI cy (ad 46) 4 a11_h, aJ cy (ad 47) 4 a11_sums, aJ cy (ad 56) 4 a11_now_2, aJ cy (ad 57) 4 a11_to, aI cy (ad 58) 3 a11_made, aJ cy (ad 59) 16388 a11_path_34] := hD
          obtain ⟨i35, h_i35⟩ : ∃ y : Int32, y = l2_3 + 1 := ⟨_, rfl⟩
          refine lv_iinc (v := i35) (lv' := [(2, .int i35), (0, .ref (ad 11)), (1, .int x1)]) hx hb dX11_ring_35 hl (k := 0) rfl (by rw [h_i35]; rfl) (by decide) rfl (fun ls hl => ?_)
          have hv := hv i35 h_i35
          refine lv_goto (tgt := 15) hx hb dX11_ring_38 (by decide) ?_
          exact ih15 i35 a11_path_34 H locs ls hv (lv_sub hl [0, 1, 2] rfl) hP hD hS
    obtain ⟨nn, hv⟩ := hv
    exact lp15 nn (0 : Int32) a11_path H locs ls hv (lv_sub hl [0, 1, 2] rfl) hP hD hS
  · have hv := hv.2 c_4
    refine lv_iconst (v := -1) hx hb dX11_ring_7 (by decide) ?_
    rw [← hQ]
    exact k_iret hx hb hr hlocks hS (s11_tailTold, a11_now, a11_to, a11_made, a11_path) hP hD hv dX11_ring_8
theorem lk_X11_tail_163 : Cond.fieldLink RX11 163 "CoarseStepsModel" "tailTold" "I" ∈ wsX11_tail := by decide +kernel
theorem in_X11_tail_11 : ∀ w ∈ wsX110, w ∈ wsX11_tail := by decide +kernel
abbrev rm_X11_tail : Room := { frames := 0, cells := 0, slots := 0, locals := 0 }
set_option maxHeartbeats 4000000 in
set_option maxRecDepth 100000 in
theorem m_X11_tail (l : Launch) (D : va_G) (cy : ClassId × ClassId × ClassId) (ad : Nat → Nat) (s11_d : Int32) (s11_stepMany : Int32) (s11_kind : Int32) (s11_many : Int32) (s11_partMany : Int32) (s11_rule : Int32) (s11_ticks : Int32) (s11_hand : Int32) (s11_g : Int32) (s11_beganElsewhere : Int32) (s11_dBefore : Int32) (s11_fBefore : Int32) (s11_fFirst : Int32) (s11_weightMany : Int32) (s11_tailTold : Int32) (sz : Nat) {K : Int32 → Prop} (hv : v_X11_tail s11_tailTold K) : Met l yX11_tail wsX11_tail rm_X11_tail (va_Pc [.ref (ad 11)] (wd D cy [oX11 ad s11_d s11_stepMany s11_kind s11_many s11_partMany s11_rule s11_ticks s11_hand s11_g s11_beganElsewhere s11_dBefore s11_fBefore s11_fFirst s11_weightMany s11_tailTold] sz)) (va_Qi (fun (r : Int32) (u : Unit) => K r) (fun u t => we D ((fun u : Unit => [oX11 ad s11_d s11_stepMany s11_kind s11_many s11_partMany s11_rule s11_ticks s11_hand s11_g s11_beganElsewhere s11_dBefore s11_fBefore s11_fFirst s11_weightMany s11_tailTold]) u) (va_A [oX11 ad s11_d s11_stepMany s11_kind s11_many s11_partMany s11_rule s11_ticks s11_hand s11_g s11_beganElsewhere s11_dBefore s11_fBefore s11_fFirst s11_weightMany s11_tailTold] sz) t) (va_A [oX11 ad s11_d s11_stepMany s11_kind s11_many s11_partMany s11_rule s11_ticks s11_hand s11_g s11_beganElsewhere s11_dBefore s11_fBefore s11_fFirst s11_weightMany s11_tailTold] sz)) 0 0 (va_A [oX11 ad s11_d s11_stepMany s11_kind s11_many s11_partMany s11_rule s11_ticks s11_hand s11_g s11_beganElsewhere s11_dBefore s11_fBefore s11_fFirst s11_weightMany s11_tailTold] sz) := by
  refine k_ofW (cc := cX11_tail) (maxL := 1) (ret := (some .int)) (fun A => va_Qi (fun (r : Int32) (u : Unit) => K r) (fun u t => we D ((fun u : Unit => [oX11 ad s11_d s11_stepMany s11_kind s11_many s11_partMany s11_rule s11_ticks s11_hand s11_g s11_beganElsewhere s11_dBefore s11_fBefore s11_fFirst s11_weightMany s11_tailTold]) u) A t) A) (by decide) rfl (Nat.le_of_ble_eq_true rfl) ?_
  intro p e s m below meth c A ls H locs hx hb hml hr hts hown hlocks hname hK hN hA hP hD hS hl
  have hl : lv_has ls 1 [(0, .ref (ad 11))] := hl
  generalize hQ : MQ below _ _ s _ _ A = Q
  unfold v_X11_tail at hv
  refine lv_aload_n hx hb dX11_tail_0 rfl (lv_at hl 0 rfl) ?_
  refine va_get (D := D) (ci := 11) (v := .int s11_tailTold) (C := RX11) (T := TX11) (N := 35) hx hb hts in_X11_tail_11 hown hK hP 0 rfl rfl 29 (by decide) (hts _ lk_X11_tail_163) (fun _ h9 => h9) rfl dX11_tail_1 ?_
  rw [← hQ]
  exact k_iret hx hb hr hlocks hS () hP hD hv dX11_tail_4
theorem lk_X11_leaves_16 : Cond.fieldLink RX11 16 "CoarseStepsModel" "many" "I" ∈ wsX11_leaves := by decide +kernel
theorem in_X11_leaves_11 : ∀ w ∈ wsX110, w ∈ wsX11_leaves := by decide +kernel
theorem lk_X11_leaves_69 : Cond.fieldLink RX11 69 "CoarseStepsModel" "to" "[J" ∈ wsX11_leaves := by decide +kernel
abbrev rm_X11_leaves : Room := { frames := 2, cells := 0, slots := 0, locals := 50 }
set_option maxHeartbeats 4000000 in
set_option maxRecDepth 100000 in
theorem m_X11_leaves (l : Launch) (D : va_G) (cy : ClassId × ClassId × ClassId) (ad : Nat → Nat) (s11_d : Int32) (s11_stepMany : Int32) (s11_kind : Int32) (s11_many : Int32) (s11_partMany : Int32) (s11_rule : Int32) (s11_ticks : Int32) (s11_hand : Int32) (s11_g : Int32) (s11_beganElsewhere : Int32) (s11_dBefore : Int32) (s11_fBefore : Int32) (s11_fFirst : Int32) (s11_weightMany : Int32) (s11_tailTold : Int32) (a11_steps : Nat → Int32) (a11_a : Nat → Int32) (a11_b : Nat → Int32) (a11_e : Nat → Int32) (a11_h : Nat → Int32) (a11_sums : Nat → Int64) (a11_now : Nat → Int64) (a11_to : Nat → Int64) (a11_made : Nat → Int32) (x1 : Int32) (x2 : Int64) (sz : Nat) {K : Int32 → (Nat → Int64) → (Nat → Int64) → (Nat → Int32) → Prop} (hv : v_X11_leaves s11_d s11_stepMany s11_kind s11_many s11_g a11_steps a11_a a11_b a11_e a11_h a11_sums a11_now a11_to a11_made x1 x2 K) : Met l yX11_leaves wsX11_leaves rm_X11_leaves (va_Pc [.ref (ad 11), .int x1, .long x2] (wd D cy [oX11 ad s11_d s11_stepMany s11_kind s11_many s11_partMany s11_rule s11_ticks s11_hand s11_g s11_beganElsewhere s11_dBefore s11_fBefore s11_fFirst s11_weightMany s11_tailTold, aI cy (ad 41) 8 a11_steps, aI cy (ad 43) 16 a11_a, aI cy (ad 44) 4 a11_b, aI cy (ad 45) 4 a11_e, aI cy (ad 46) 4 a11_h, aJ cy (ad 47) 4 a11_sums, aJ cy (ad 56) 4 a11_now, aJ cy (ad 57) 4 a11_to, aI cy (ad 58) 3 a11_made] sz)) (va_Qi (fun (r : Int32) (u : (Nat → Int64) × (Nat → Int64) × (Nat → Int32)) => K r u.1 u.2.1 u.2.2) (fun u t => we D ((fun u : (Nat → Int64) × (Nat → Int64) × (Nat → Int32) => [oX11 ad s11_d s11_stepMany s11_kind s11_many s11_partMany s11_rule s11_ticks s11_hand s11_g s11_beganElsewhere s11_dBefore s11_fBefore s11_fFirst s11_weightMany s11_tailTold, aI cy (ad 41) 8 a11_steps, aI cy (ad 43) 16 a11_a, aI cy (ad 44) 4 a11_b, aI cy (ad 45) 4 a11_e, aI cy (ad 46) 4 a11_h, aJ cy (ad 47) 4 a11_sums, aJ cy (ad 56) 4 u.1, aJ cy (ad 57) 4 u.2.1, aI cy (ad 58) 3 u.2.2]) u) (va_A [oX11 ad s11_d s11_stepMany s11_kind s11_many s11_partMany s11_rule s11_ticks s11_hand s11_g s11_beganElsewhere s11_dBefore s11_fBefore s11_fFirst s11_weightMany s11_tailTold, aI cy (ad 41) 8 a11_steps, aI cy (ad 43) 16 a11_a, aI cy (ad 44) 4 a11_b, aI cy (ad 45) 4 a11_e, aI cy (ad 46) 4 a11_h, aJ cy (ad 47) 4 a11_sums, aJ cy (ad 56) 4 a11_now, aJ cy (ad 57) 4 a11_to, aI cy (ad 58) 3 a11_made] sz) t) (va_A [oX11 ad s11_d s11_stepMany s11_kind s11_many s11_partMany s11_rule s11_ticks s11_hand s11_g s11_beganElsewhere s11_dBefore s11_fBefore s11_fFirst s11_weightMany s11_tailTold, aI cy (ad 41) 8 a11_steps, aI cy (ad 43) 16 a11_a, aI cy (ad 44) 4 a11_b, aI cy (ad 45) 4 a11_e, aI cy (ad 46) 4 a11_h, aJ cy (ad 47) 4 a11_sums, aJ cy (ad 56) 4 a11_now, aJ cy (ad 57) 4 a11_to, aI cy (ad 58) 3 a11_made] sz)) 0 0 (va_A [oX11 ad s11_d s11_stepMany s11_kind s11_many s11_partMany s11_rule s11_ticks s11_hand s11_g s11_beganElsewhere s11_dBefore s11_fBefore s11_fFirst s11_weightMany s11_tailTold, aI cy (ad 41) 8 a11_steps, aI cy (ad 43) 16 a11_a, aI cy (ad 44) 4 a11_b, aI cy (ad 45) 4 a11_e, aI cy (ad 46) 4 a11_h, aJ cy (ad 47) 4 a11_sums, aJ cy (ad 56) 4 a11_now, aJ cy (ad 57) 4 a11_to, aI cy (ad 58) 3 a11_made] sz) := by
  refine k_ofW (cc := cX11_leaves) (maxL := 7) (ret := (some .int)) (fun A => va_Qi (fun (r : Int32) (u : (Nat → Int64) × (Nat → Int64) × (Nat → Int32)) => K r u.1 u.2.1 u.2.2) (fun u t => we D ((fun u : (Nat → Int64) × (Nat → Int64) × (Nat → Int32) => [oX11 ad s11_d s11_stepMany s11_kind s11_many s11_partMany s11_rule s11_ticks s11_hand s11_g s11_beganElsewhere s11_dBefore s11_fBefore s11_fFirst s11_weightMany s11_tailTold, aI cy (ad 41) 8 a11_steps, aI cy (ad 43) 16 a11_a, aI cy (ad 44) 4 a11_b, aI cy (ad 45) 4 a11_e, aI cy (ad 46) 4 a11_h, aJ cy (ad 47) 4 a11_sums, aJ cy (ad 56) 4 u.1, aJ cy (ad 57) 4 u.2.1, aI cy (ad 58) 3 u.2.2]) u) A t) A) (by decide) rfl (Nat.le_of_ble_eq_true rfl) ?_
  intro p e s m below meth c A ls H locs hx hb hml hr hts hown hlocks hname hK hN hA hP hD hS hl
  have hl : lv_has ls 7 [(0, .ref (ad 11)), (1, .int x1), (2, .long x2)] := hl
  generalize hQ : MQ below _ _ s _ _ A = Q
  unfold v_X11_leaves at hv
  refine lv_iload_n hx hb dX11_leaves_0 rfl (lv_at hl 1 rfl) ?_
  have hPc := hP.sub (ws' := []) [] rfl
  have hDc := hD.sub (ws' := []) [] (by decide) rfl
  refine k_cali (wc := []) (wr := [oX11 ad s11_d s11_stepMany s11_kind s11_many s11_partMany s11_rule s11_ticks s11_hand s11_g s11_beganElsewhere s11_dBefore s11_fBefore s11_fFirst s11_weightMany s11_tailTold, aI cy (ad 41) 8 a11_steps, aI cy (ad 43) 16 a11_a, aI cy (ad 44) 4 a11_b, aI cy (ad 45) 4 a11_e, aI cy (ad 46) 4 a11_h, aJ cy (ad 47) 4 a11_sums, aJ cy (ad 56) 4 a11_now, aJ cy (ad 57) 4 a11_to, aI cy (ad 58) 3 a11_made]) (va_runS (As := [.int x1]) (rest := []) ⟨hx, hb, hml, hown, hts⟩ (m_X11_isWish l D cy ad x1 H.size hv) (va_cwS 1 hts gX11_leaves_X11_isWish rfl rfl rfl (by decide +kernel) ⟨Nat.le_of_ble_eq_true rfl, Nat.le_of_ble_eq_true rfl⟩) ⟨wd_blind, wd_ok hPc hK hDc hN⟩ rfl rfl hl.1 rfl (lv_room (Nat.le_of_ble_eq_true rfl)) dX11_leaves_1 ⟨Nat.le_of_ble_eq_true rfl, Nat.le_of_ble_eq_true rfl⟩) hP hD hS hA [] [0, 1, 2, 3, 4, 5, 6, 7, 8, 9] rfl rfl (by decide) (by decide) (fun r1 u H locs hv hP hD hS => ?_)
  obtain ⟨hz_r1, hv⟩ := hv
  have hP : va_P D vwCl [oX11 ad s11_d s11_stepMany s11_kind s11_many s11_partMany s11_rule s11_ticks s11_hand s11_g s11_beganElsewhere s11_dBefore s11_fBefore s11_fFirst s11_weightMany s11_tailTold, aI cy (ad 41) 8 a11_steps, aI cy (ad 43) 16 a11_a, aI cy (ad 44) 4 a11_b, aI cy (ad 45) 4 a11_e, aI cy (ad 46) 4 a11_h, aJ cy (ad 47) 4 a11_sums, aJ cy (ad 56) 4 a11_now, aJ cy (ad 57) 4 a11_to, aI cy (ad 58) 3 a11_made] H := hP.sub [0, 1, 2, 3, 4, 5, 6, 7, 8, 9] rfl
  have hD : va_D A [oX11 ad s11_d s11_stepMany s11_kind s11_many s11_partMany s11_rule s11_ticks s11_hand s11_g s11_beganElsewhere s11_dBefore s11_fBefore s11_fFirst s11_weightMany s11_tailTold, aI cy (ad 41) 8 a11_steps, aI cy (ad 43) 16 a11_a, aI cy (ad 44) 4 a11_b, aI cy (ad 45) 4 a11_e, aI cy (ad 46) 4 a11_h, aJ cy (ad 47) 4 a11_sums, aJ cy (ad 56) 4 a11_now, aJ cy (ad 57) 4 a11_to, aI cy (ad 58) 3 a11_made] := hD.sub [0, 1, 2, 3, 4, 5, 6, 7, 8, 9] (by decide) rfl
  refine lv_if_eq (tgt := 13) hx hb dX11_leaves_4 (by decide) (fun c_4 => ?_) (fun c_4 => ?_)
  · have hv := hv.1 c_4
    refine lv_iconst (v := -1) hx hb dX11_leaves_13 (by decide) ?_
    rw [← hQ]
    exact k_iret hx hb hr hlocks hS (a11_now, a11_to, a11_made) hP hD hv dX11_leaves_14
  · have hv := hv.2 c_4
    refine lv_lload_n hx hb dX11_leaves_7 rfl (lv_at hl 2 rfl) ?_
    refine lv_lconst (v := 0) hx hb dX11_leaves_8 (by decide) ?_
    refine k_lc_ge (tgt := 15) hx hb dX11_leaves_9 dX11_leaves_10 (by decide) (fun c_9 => ?_) (fun c_9 => ?_)
    · have hv := hv.1 c_9
      refine lv_aload_n hx hb dX11_leaves_15 rfl (lv_at hl 0 rfl) ?_
      have hPc := hP.sub (ws' := [oX11 ad s11_d s11_stepMany s11_kind s11_many s11_partMany s11_rule s11_ticks s11_hand s11_g s11_beganElsewhere s11_dBefore s11_fBefore s11_fFirst s11_weightMany s11_tailTold, aJ cy (ad 47) 4 a11_sums, aJ cy (ad 56) 4 a11_now]) [0, 6, 7] rfl
      have hDc := hD.sub (ws' := [oX11 ad s11_d s11_stepMany s11_kind s11_many s11_partMany s11_rule s11_ticks s11_hand s11_g s11_beganElsewhere s11_dBefore s11_fBefore s11_fFirst s11_weightMany s11_tailTold, aJ cy (ad 47) 4 a11_sums, aJ cy (ad 56) 4 a11_now]) [0, 6, 7] (by decide) rfl
      refine k_calv (wc := [oX11 ad s11_d s11_stepMany s11_kind s11_many s11_partMany s11_rule s11_ticks s11_hand s11_g s11_beganElsewhere s11_dBefore s11_fBefore s11_fFirst s11_weightMany s11_tailTold, aJ cy (ad 47) 4 a11_sums, aJ cy (ad 56) 4 a11_now]) (wr := [aI cy (ad 41) 8 a11_steps, aI cy (ad 43) 16 a11_a, aI cy (ad 44) 4 a11_b, aI cy (ad 45) 4 a11_e, aI cy (ad 46) 4 a11_h, aJ cy (ad 57) 4 a11_to, aI cy (ad 58) 3 a11_made]) (va_runV (As := []) (rest := []) ⟨hx, hb, hml, hown, hts⟩ (m_X11_fromHere l D cy ad s11_d s11_stepMany s11_kind s11_many s11_partMany s11_rule s11_ticks s11_hand s11_g s11_beganElsewhere s11_dBefore s11_fBefore s11_fFirst s11_weightMany s11_tailTold a11_sums a11_now H.size hv) (cwV 0 hts gX11_leaves_X11_fromHere rfl rfl rfl (by decide +kernel) ⟨Nat.le_of_ble_eq_true rfl, Nat.le_of_ble_eq_true rfl⟩) ⟨wd_blind, va_recv hK hPc (ci := 11) (q0 := 0) rfl rfl, wd_ok hPc hK hDc hN⟩ rfl rfl hl.1 rfl (lv_room (Nat.le_of_ble_eq_true rfl)) dX11_leaves_16 ⟨Nat.le_of_ble_eq_true rfl, Nat.le_of_ble_eq_true rfl⟩) hP hD hS hA [0, 6, 7] [1, 2, 3, 4, 5, 8, 9] rfl rfl (by decide) (by decide) (fun a11_now_2 H locs hv hP hD hS => ?_)
      have hP : va_P D vwCl [oX11 ad s11_d s11_stepMany s11_kind s11_many s11_partMany s11_rule s11_ticks s11_hand s11_g s11_beganElsewhere s11_dBefore s11_fBefore s11_fFirst s11_weightMany s11_tailTold, aI cy (ad 41) 8 a11_steps, aI cy (ad 43) 16 a11_a, aI cy (ad 44) 4 a11_b, aI cy (ad 45) 4 a11_e, aI cy (ad 46) 4 a11_h, aJ cy (ad 47) 4 a11_sums, aJ cy (ad 56) 4 a11_now_2, aJ cy (ad 57) 4 a11_to, aI cy (ad 58) 3 a11_made] H := hP.sub [7, 0, 1, 2, 3, 4, 8, 9, 5, 6] rfl
      have hD : va_D A [oX11 ad s11_d s11_stepMany s11_kind s11_many s11_partMany s11_rule s11_ticks s11_hand s11_g s11_beganElsewhere s11_dBefore s11_fBefore s11_fFirst s11_weightMany s11_tailTold, aI cy (ad 41) 8 a11_steps, aI cy (ad 43) 16 a11_a, aI cy (ad 44) 4 a11_b, aI cy (ad 45) 4 a11_e, aI cy (ad 46) 4 a11_h, aJ cy (ad 47) 4 a11_sums, aJ cy (ad 56) 4 a11_now_2, aJ cy (ad 57) 4 a11_to, aI cy (ad 58) 3 a11_made] := hD.sub [7, 0, 1, 2, 3, 4, 8, 9, 5, 6] (by decide) rfl
      refine lv_iconst (v := 1) hx hb dX11_leaves_19 (by decide) ?_
      refine lv_istore (lv' := [(4, .int (1 : Int32)), (0, .ref (ad 11)), (1, .int x1), (2, .long x2)]) hx hb dX11_leaves_20 hl (by decide) rfl (fun ls hl => ?_)
      have lp22 : ∀ (n22 : Nat) (l4_3 : Int32) (a11_now_4 : Nat → Int64) (a11_to_5 : Nat → Int64) (a11_made_6 : Nat → Int32) (H : Heap) (locs : List Loc) (ls : Array Slot), vfix (vF_X11_leaves_22 s11_d s11_stepMany s11_kind s11_many s11_g a11_steps a11_a a11_b a11_e a11_h x1 x2 K) n22 (l4_3, a11_now_4, a11_to_5, a11_made_6) → lv_has ls 7 [(4, .int l4_3), (0, .ref (ad 11)), (1, .int x1), (2, .long x2)] → va_P D vwCl [oX11 ad s11_d s11_stepMany s11_kind s11_many s11_partMany s11_rule s11_ticks s11_hand s11_g s11_beganElsewhere s11_dBefore s11_fBefore s11_fFirst s11_weightMany s11_tailTold, aI cy (ad 41) 8 a11_steps, aI cy (ad 43) 16 a11_a, aI cy (ad 44) 4 a11_b, aI cy (ad 45) 4 a11_e, aI cy (ad 46) 4 a11_h, aJ cy (ad 47) 4 a11_sums, aJ cy (ad 56) 4 a11_now_4, aJ cy (ad 57) 4 a11_to_5, aI cy (ad 58) 3 a11_made_6] H → va_D A [oX11 ad s11_d s11_stepMany s11_kind s11_many s11_partMany s11_rule s11_ticks s11_hand s11_g s11_beganElsewhere s11_dBefore s11_fBefore s11_fFirst s11_weightMany s11_tailTold, aI cy (ad 41) 8 a11_steps, aI cy (ad 43) 16 a11_a, aI cy (ad 44) 4 a11_b, aI cy (ad 45) 4 a11_e, aI cy (ad 46) 4 a11_h, aJ cy (ad 47) 4 a11_sums, aJ cy (ad 56) 4 a11_now_4, aJ cy (ad 57) 4 a11_to_5, aI cy (ad 58) 3 a11_made_6] → va_S A s.heap H locs → W p l e rm_X11_leaves s m ([.ref (ad 11), .int x1, .long x2] : List Value).toArray below meth c H locs 0 0 Q (F0 m 22 ls []) := by
        intro n22
        induction n22 with
        | zero => intro l4_3 a11_now_4 a11_to_5 a11_made_6 H locs ls hv; exact hv.elim
        | succ n22 ih22 =>
          intro l4_3 a11_now_4 a11_to_5 a11_made_6 H locs ls hv hl hP hD hS
          have hv : vB_X11_leaves_22 s11_d s11_stepMany s11_kind s11_many s11_g a11_steps a11_a a11_b a11_e a11_h x1 x2 K (fun z0 z1 z2 z3 => vfix (vF_X11_leaves_22 s11_d s11_stepMany s11_kind s11_many s11_g a11_steps a11_a a11_b a11_e a11_h x1 x2 K) n22 (z0, z1, z2, z3)) l4_3 a11_now_4 a11_to_5 a11_made_6 := hv
          unfold vB_X11_leaves_22 at hv
          refine lv_iload hx hb dX11_leaves_22 (lv_at hl 0 rfl) ?_
          refine lv_sipush (v := 4096) hx hb dX11_leaves_24 (by decide) ?_
          refine lv_icmp_gt (tgt := 118) hx hb dX11_leaves_27 (by decide) (fun c_27 => ?_) (fun c_27 => ?_)
          · have hv := hv.1 c_27
            refine lv_bipush (v := -2) hx hb dX11_leaves_118 (by decide) ?_
            rw [← hQ]
            exact k_iret hx hb hr hlocks hS (a11_now_4, a11_to_5, a11_made_6) hP hD hv dX11_leaves_120
          · have hv := hv.2 c_27
            refine lv_aload_n hx hb dX11_leaves_30 rfl (lv_at hl 1 rfl) ?_
            refine lv_iload_n hx hb dX11_leaves_31 rfl (lv_at hl 2 rfl) ?_
            have hPc := hP.sub (ws' := [oX11 ad s11_d s11_stepMany s11_kind s11_many s11_partMany s11_rule s11_ticks s11_hand s11_g s11_beganElsewhere s11_dBefore s11_fBefore s11_fFirst s11_weightMany s11_tailTold, aI cy (ad 41) 8 a11_steps, aI cy (ad 43) 16 a11_a, aI cy (ad 44) 4 a11_b, aI cy (ad 45) 4 a11_e, aI cy (ad 46) 4 a11_h, aJ cy (ad 56) 4 a11_now_4, aJ cy (ad 57) 4 a11_to_5, aI cy (ad 58) 3 a11_made_6]) [0, 1, 2, 3, 4, 5, 7, 8, 9] rfl
            have hDc := hD.sub (ws' := [oX11 ad s11_d s11_stepMany s11_kind s11_many s11_partMany s11_rule s11_ticks s11_hand s11_g s11_beganElsewhere s11_dBefore s11_fBefore s11_fFirst s11_weightMany s11_tailTold, aI cy (ad 41) 8 a11_steps, aI cy (ad 43) 16 a11_a, aI cy (ad 44) 4 a11_b, aI cy (ad 45) 4 a11_e, aI cy (ad 46) 4 a11_h, aJ cy (ad 56) 4 a11_now_4, aJ cy (ad 57) 4 a11_to_5, aI cy (ad 58) 3 a11_made_6]) [0, 1, 2, 3, 4, 5, 7, 8, 9] (by decide) rfl
            refine k_cali (wc := [oX11 ad s11_d s11_stepMany s11_kind s11_many s11_partMany s11_rule s11_ticks s11_hand s11_g s11_beganElsewhere s11_dBefore s11_fBefore s11_fFirst s11_weightMany s11_tailTold, aI cy (ad 41) 8 a11_steps, aI cy (ad 43) 16 a11_a, aI cy (ad 44) 4 a11_b, aI cy (ad 45) 4 a11_e, aI cy (ad 46) 4 a11_h, aJ cy (ad 56) 4 a11_now_4, aJ cy (ad 57) 4 a11_to_5, aI cy (ad 58) 3 a11_made_6]) (wr := [aJ cy (ad 47) 4 a11_sums]) (va_runV (As := [.int x1]) (rest := []) ⟨hx, hb, hml, hown, hts⟩ (m_X11_next l D cy ad s11_d s11_stepMany s11_kind s11_many s11_partMany s11_rule s11_ticks s11_hand s11_g s11_beganElsewhere s11_dBefore s11_fBefore s11_fFirst s11_weightMany s11_tailTold a11_steps a11_a a11_b a11_e a11_h a11_now_4 a11_to_5 a11_made_6 x1 H.size hv) (cwV 1 hts gX11_leaves_X11_next rfl rfl rfl (by decide +kernel) ⟨Nat.le_of_ble_eq_true rfl, Nat.le_of_ble_eq_true rfl⟩) ⟨wd_blind, va_recv hK hPc (ci := 11) (q0 := 0) rfl rfl, wd_ok hPc hK hDc hN⟩ rfl rfl hl.1 rfl (lv_room (Nat.le_of_ble_eq_true rfl)) dX11_leaves_32 ⟨Nat.le_of_ble_eq_true rfl, Nat.le_of_ble_eq_true rfl⟩) hP hD hS hA [0, 1, 2, 3, 4, 5, 7, 8, 9] [6] rfl rfl (by decide) (by decide) (fun r7 u H locs hv hP hD hS => ?_)
            obtain ⟨a11_to_8, a11_made_9⟩ := u
            obtain ⟨hz_r7, hv⟩ := hv
            have hP : va_P D vwCl [oX11 ad s11_d s11_stepMany s11_kind s11_many s11_partMany s11_rule s11_ticks s11_hand s11_g s11_beganElsewhere s11_dBefore s11_fBefore s11_fFirst s11_weightMany s11_tailTold, aI cy (ad 41) 8 a11_steps, aI cy (ad 43) 16 a11_a, aI cy (ad 44) 4 a11_b, aI cy (ad 45) 4 a11_e, aI cy (ad 46) 4 a11_h, aJ cy (ad 47) 4 a11_sums, aJ cy (ad 56) 4 a11_now_4, aJ cy (ad 57) 4 a11_to_8, aI cy (ad 58) 3 a11_made_9] H := hP.sub [1, 2, 3, 4, 5, 6, 0, 7, 8, 9] rfl
            have hD : va_D A [oX11 ad s11_d s11_stepMany s11_kind s11_many s11_partMany s11_rule s11_ticks s11_hand s11_g s11_beganElsewhere s11_dBefore s11_fBefore s11_fFirst s11_weightMany s11_tailTold, aI cy (ad 41) 8 a11_steps, aI cy (ad 43) 16 a11_a, aI cy (ad 44) 4 a11_b, aI cy (ad 45) 4 a11_e, aI cy (ad 46) 4 a11_h, aJ cy (ad 47) 4 a11_sums, aJ cy (ad 56) 4 a11_now_4, aJ cy (ad 57) 4 a11_to_8, aI cy (ad 58) 3 a11_made_9] := hD.sub [1, 2, 3, 4, 5, 6, 0, 7, 8, 9] (by decide) rfl
            have jn43 : ∀ (t10 : Int32) (H : Heap) (locs : List Loc) (ls : Array Slot), vJ_X11_leaves_43 s11_many x2 K l4_3 a11_now_4 (fun z0 z1 z2 z3 => vfix (vF_X11_leaves_22 s11_d s11_stepMany s11_kind s11_many s11_g a11_steps a11_a a11_b a11_e a11_h x1 x2 K) n22 (z0, z1, z2, z3)) a11_to_8 a11_made_9 t10 → lv_has ls 7 [(4, .int l4_3), (0, .ref (ad 11)), (1, .int x1), (2, .long x2)] → va_P D vwCl [oX11 ad s11_d s11_stepMany s11_kind s11_many s11_partMany s11_rule s11_ticks s11_hand s11_g s11_beganElsewhere s11_dBefore s11_fBefore s11_fFirst s11_weightMany s11_tailTold, aI cy (ad 41) 8 a11_steps, aI cy (ad 43) 16 a11_a, aI cy (ad 44) 4 a11_b, aI cy (ad 45) 4 a11_e, aI cy (ad 46) 4 a11_h, aJ cy (ad 47) 4 a11_sums, aJ cy (ad 56) 4 a11_now_4, aJ cy (ad 57) 4 a11_to_8, aI cy (ad 58) 3 a11_made_9] H → va_D A [oX11 ad s11_d s11_stepMany s11_kind s11_many s11_partMany s11_rule s11_ticks s11_hand s11_g s11_beganElsewhere s11_dBefore s11_fBefore s11_fFirst s11_weightMany s11_tailTold, aI cy (ad 41) 8 a11_steps, aI cy (ad 43) 16 a11_a, aI cy (ad 44) 4 a11_b, aI cy (ad 45) 4 a11_e, aI cy (ad 46) 4 a11_h, aJ cy (ad 47) 4 a11_sums, aJ cy (ad 56) 4 a11_now_4, aJ cy (ad 57) 4 a11_to_8, aI cy (ad 58) 3 a11_made_9] → va_S A s.heap H locs → W p l e rm_X11_leaves s m ([.ref (ad 11), .int x1, .long x2] : List Value).toArray below meth c H locs 0 0 Q (F0 m 43 ls [.int t10]) := by
              intro t10 H locs ls hv hl hP hD hS
              unfold vJ_X11_leaves_43 at hv
              refine lv_istore (lv' := [(5, .int t10), (4, .int l4_3), (0, .ref (ad 11)), (1, .int x1), (2, .long x2)]) hx hb dX11_leaves_43 hl (by decide) rfl (fun ls hl => ?_)
              refine lv_iconst (v := 0) hx hb dX11_leaves_45 (by decide) ?_
              refine lv_istore (lv' := [(6, .int (0 : Int32)), (5, .int t10), (4, .int l4_3), (0, .ref (ad 11)), (1, .int x1), (2, .long x2)]) hx hb dX11_leaves_46 hl (by decide) rfl (fun ls hl => ?_)
              have lp48 : ∀ (n48 : Nat) (l6_11 : Int32) (l5_12 : Int32) (H : Heap) (locs : List Loc) (ls : Array Slot), vfix (vF_X11_leaves_48 s11_many x2 K l4_3 a11_now_4 (fun z0 z1 z2 z3 => vfix (vF_X11_leaves_22 s11_d s11_stepMany s11_kind s11_many s11_g a11_steps a11_a a11_b a11_e a11_h x1 x2 K) n22 (z0, z1, z2, z3)) a11_to_8 a11_made_9) n48 (l6_11, l5_12) → lv_has ls 7 [(6, .int l6_11), (5, .int l5_12), (4, .int l4_3), (0, .ref (ad 11)), (1, .int x1), (2, .long x2)] → va_P D vwCl [oX11 ad s11_d s11_stepMany s11_kind s11_many s11_partMany s11_rule s11_ticks s11_hand s11_g s11_beganElsewhere s11_dBefore s11_fBefore s11_fFirst s11_weightMany s11_tailTold, aI cy (ad 41) 8 a11_steps, aI cy (ad 43) 16 a11_a, aI cy (ad 44) 4 a11_b, aI cy (ad 45) 4 a11_e, aI cy (ad 46) 4 a11_h, aJ cy (ad 47) 4 a11_sums, aJ cy (ad 56) 4 a11_now_4, aJ cy (ad 57) 4 a11_to_8, aI cy (ad 58) 3 a11_made_9] H → va_D A [oX11 ad s11_d s11_stepMany s11_kind s11_many s11_partMany s11_rule s11_ticks s11_hand s11_g s11_beganElsewhere s11_dBefore s11_fBefore s11_fFirst s11_weightMany s11_tailTold, aI cy (ad 41) 8 a11_steps, aI cy (ad 43) 16 a11_a, aI cy (ad 44) 4 a11_b, aI cy (ad 45) 4 a11_e, aI cy (ad 46) 4 a11_h, aJ cy (ad 47) 4 a11_sums, aJ cy (ad 56) 4 a11_now_4, aJ cy (ad 57) 4 a11_to_8, aI cy (ad 58) 3 a11_made_9] → va_S A s.heap H locs → W p l e rm_X11_leaves s m ([.ref (ad 11), .int x1, .long x2] : List Value).toArray below meth c H locs 0 0 Q (F0 m 48 ls []) := by
                intro n48
                induction n48 with
                | zero => intro l6_11 l5_12 H locs ls hv; exact hv.elim
                | succ n48 ih48 =>
                  intro l6_11 l5_12 H locs ls hv hl hP hD hS
                  have hv : vB_X11_leaves_48 s11_many x2 K l4_3 a11_now_4 (fun z0 z1 z2 z3 => vfix (vF_X11_leaves_22 s11_d s11_stepMany s11_kind s11_many s11_g a11_steps a11_a a11_b a11_e a11_h x1 x2 K) n22 (z0, z1, z2, z3)) a11_to_8 a11_made_9 (fun z0 z1 => vfix (vF_X11_leaves_48 s11_many x2 K l4_3 a11_now_4 (fun z0 z1 z2 z3 => vfix (vF_X11_leaves_22 s11_d s11_stepMany s11_kind s11_many s11_g a11_steps a11_a a11_b a11_e a11_h x1 x2 K) n22 (z0, z1, z2, z3)) a11_to_8 a11_made_9) n48 (z0, z1)) l6_11 l5_12 := hv
                  unfold vB_X11_leaves_48 at hv
                  refine lv_iload hx hb dX11_leaves_48 (lv_at hl 0 rfl) ?_
                  refine lv_aload_n hx hb dX11_leaves_50 rfl (lv_at hl 3 rfl) ?_
                  refine va_get (D := D) (ci := 11) (v := .int s11_many) (C := RX11) (T := TX11) (N := 35) hx hb hts in_X11_leaves_11 hown hK hP 0 rfl rfl 3 (by decide) (hts _ lk_X11_leaves_16) (fun _ h9 => h9) rfl dX11_leaves_51 ?_
                  refine lv_icmp_ge (tgt := 100) hx hb dX11_leaves_54 (by decide) (fun c_54 => ?_) (fun c_54 => ?_)
                  · have hv := hv.1 c_54
                    refine lv_iload hx hb dX11_leaves_100 (lv_at hl 1 rfl) ?_
                    refine lv_if_eq (tgt := 108) hx hb dX11_leaves_102 (by decide) (fun c_102 => ?_) (fun c_102 => ?_)
                    · have hv := hv.1 c_102
                      refine lv_aload_n hx hb dX11_leaves_108 rfl (lv_at hl 3 rfl) ?_
                      have hPc := hP.sub (ws' := [oX11 ad s11_d s11_stepMany s11_kind s11_many s11_partMany s11_rule s11_ticks s11_hand s11_g s11_beganElsewhere s11_dBefore s11_fBefore s11_fFirst s11_weightMany s11_tailTold, aJ cy (ad 56) 4 a11_now_4, aJ cy (ad 57) 4 a11_to_8]) [0, 7, 8] rfl
                      have hDc := hD.sub (ws' := [oX11 ad s11_d s11_stepMany s11_kind s11_many s11_partMany s11_rule s11_ticks s11_hand s11_g s11_beganElsewhere s11_dBefore s11_fBefore s11_fFirst s11_weightMany s11_tailTold, aJ cy (ad 56) 4 a11_now_4, aJ cy (ad 57) 4 a11_to_8]) [0, 7, 8] (by decide) rfl
                      refine k_calv (wc := [oX11 ad s11_d s11_stepMany s11_kind s11_many s11_partMany s11_rule s11_ticks s11_hand s11_g s11_beganElsewhere s11_dBefore s11_fBefore s11_fFirst s11_weightMany s11_tailTold, aJ cy (ad 56) 4 a11_now_4, aJ cy (ad 57) 4 a11_to_8]) (wr := [aI cy (ad 41) 8 a11_steps, aI cy (ad 43) 16 a11_a, aI cy (ad 44) 4 a11_b, aI cy (ad 45) 4 a11_e, aI cy (ad 46) 4 a11_h, aJ cy (ad 47) 4 a11_sums, aI cy (ad 58) 3 a11_made_9]) (va_runV (As := []) (rest := []) ⟨hx, hb, hml, hown, hts⟩ (m_X11_goOn l D cy ad s11_d s11_stepMany s11_kind s11_many s11_partMany s11_rule s11_ticks s11_hand s11_g s11_beganElsewhere s11_dBefore s11_fBefore s11_fFirst s11_weightMany s11_tailTold a11_now_4 a11_to_8 H.size hv) (cwV 0 hts gX11_leaves_X11_goOn rfl rfl rfl (by decide +kernel) ⟨Nat.le_of_ble_eq_true rfl, Nat.le_of_ble_eq_true rfl⟩) ⟨wd_blind, va_recv hK hPc (ci := 11) (q0 := 0) rfl rfl, wd_ok hPc hK hDc hN⟩ rfl rfl hl.1 rfl (lv_room (Nat.le_of_ble_eq_true rfl)) dX11_leaves_109 ⟨Nat.le_of_ble_eq_true rfl, Nat.le_of_ble_eq_true rfl⟩) hP hD hS hA [0, 7, 8] [1, 2, 3, 4, 5, 6, 9] rfl rfl (by decide) (by decide) (fun a11_now_13 H locs hv hP hD hS => ?_)
                      have hP : va_P D vwCl [oX11 ad s11_d s11_stepMany s11_kind s11_many s11_partMany s11_rule s11_ticks s11_hand s11_g s11_beganElsewhere s11_dBefore s11_fBefore s11_fFirst s11_weightMany s11_tailTold, aI cy (ad 41) 8 a11_steps, aI cy (ad 43) 16 a11_a, aI cy (ad 44) 4 a11_b, aI cy (ad 45) 4 a11_e, aI cy (ad 46) 4 a11_h, aJ cy (ad 47) 4 a11_sums, aJ cy (ad 56) 4 a11_now_13, aJ cy (ad 57) 4 a11_to_8, aI cy (ad 58) 3 a11_made_9] H := hP.sub [7, 0, 1, 2, 3, 4, 5, 8, 9, 6] rfl
                      have hD : va_D A [oX11 ad s11_d s11_stepMany s11_kind s11_many s11_partMany s11_rule s11_ticks s11_hand s11_g s11_beganElsewhere s11_dBefore s11_fBefore s11_fFirst s11_weightMany s11_tailTold, aI cy (ad 41) 8 a11_steps, aI cy (ad 43) 16 a11_a, aI cy (ad 44) 4 a11_b, aI cy (ad 45) 4 a11_e, aI cy (ad 46) 4 a11_h, aJ cy (ad 47) 4 a11_sums, aJ cy (ad 56) 4 a11_now_13, aJ cy (ad 57) 4 a11_to_8, aI cy (ad 58) 3 a11_made_9] := hD.sub [7, 0, 1, 2, 3, 4, 5, 8, 9, 6] (by decide) rfl
                      obtain ⟨i14, h_i14⟩ : ∃ y : Int32, y = l4_3 + 1 := ⟨_, rfl⟩
                      refine lv_iinc (v := i14) (lv' := [(4, .int i14), (6, .int l6_11), (5, .int l5_12), (0, .ref (ad 11)), (1, .int x1), (2, .long x2)]) hx hb dX11_leaves_112 hl (k := 2) rfl (by rw [h_i14]; rfl) (by decide) rfl (fun ls hl => ?_)
                      have hv := hv i14 h_i14
                      refine lv_goto (tgt := 22) hx hb dX11_leaves_115 (by decide) ?_
                      exact ih22 i14 a11_now_13 a11_to_8 a11_made_9 H locs ls hv (lv_sub hl [0, 3, 4, 5] rfl) hP hD hS
                    · have hv := hv.2 c_102
                      refine lv_iload hx hb dX11_leaves_105 (lv_at hl 2 rfl) ?_
                      rw [← hQ]
                      exact k_iret hx hb hr hlocks hS (a11_now_4, a11_to_8, a11_made_9) hP hD hv dX11_leaves_107
                  · have hv := hv.2 c_54
                    refine lv_iload hx hb dX11_leaves_57 (lv_at hl 1 rfl) ?_
                    have jn92 : ∀ (t15 : Int32) (H : Heap) (locs : List Loc) (ls : Array Slot), vJ_X11_leaves_92 l6_11 (fun z0 z1 => vfix (vF_X11_leaves_48 s11_many x2 K l4_3 a11_now_4 (fun z0 z1 z2 z3 => vfix (vF_X11_leaves_22 s11_d s11_stepMany s11_kind s11_many s11_g a11_steps a11_a a11_b a11_e a11_h x1 x2 K) n22 (z0, z1, z2, z3)) a11_to_8 a11_made_9) n48 (z0, z1)) t15 → lv_has ls 7 [(6, .int l6_11), (4, .int l4_3), (0, .ref (ad 11)), (1, .int x1), (2, .long x2)] → va_P D vwCl [oX11 ad s11_d s11_stepMany s11_kind s11_many s11_partMany s11_rule s11_ticks s11_hand s11_g s11_beganElsewhere s11_dBefore s11_fBefore s11_fFirst s11_weightMany s11_tailTold, aI cy (ad 41) 8 a11_steps, aI cy (ad 43) 16 a11_a, aI cy (ad 44) 4 a11_b, aI cy (ad 45) 4 a11_e, aI cy (ad 46) 4 a11_h, aJ cy (ad 47) 4 a11_sums, aJ cy (ad 56) 4 a11_now_4, aJ cy (ad 57) 4 a11_to_8, aI cy (ad 58) 3 a11_made_9] H → va_D A [oX11 ad s11_d s11_stepMany s11_kind s11_many s11_partMany s11_rule s11_ticks s11_hand s11_g s11_beganElsewhere s11_dBefore s11_fBefore s11_fFirst s11_weightMany s11_tailTold, aI cy (ad 41) 8 a11_steps, aI cy (ad 43) 16 a11_a, aI cy (ad 44) 4 a11_b, aI cy (ad 45) 4 a11_e, aI cy (ad 46) 4 a11_h, aJ cy (ad 47) 4 a11_sums, aJ cy (ad 56) 4 a11_now_4, aJ cy (ad 57) 4 a11_to_8, aI cy (ad 58) 3 a11_made_9] → va_S A s.heap H locs → W p l e rm_X11_leaves s m ([.ref (ad 11), .int x1, .long x2] : List Value).toArray below meth c H locs 0 0 Q (F0 m 92 ls [.int t15]) := by
                      intro t15 H locs ls hv hl hP hD hS
                      unfold vJ_X11_leaves_92 at hv
                      refine lv_istore (lv' := [(5, .int t15), (6, .int l6_11), (4, .int l4_3), (0, .ref (ad 11)), (1, .int x1), (2, .long x2)]) hx hb dX11_leaves_92 hl (by decide) rfl (fun ls hl => ?_)
                      obtain ⟨i16, h_i16⟩ : ∃ y : Int32, y = l6_11 + 1 := ⟨_, rfl⟩
                      refine lv_iinc (v := i16) (lv' := [(6, .int i16), (5, .int t15), (4, .int l4_3), (0, .ref (ad 11)), (1, .int x1), (2, .long x2)]) hx hb dX11_leaves_94 hl (k := 1) rfl (by rw [h_i16]; rfl) (by decide) rfl (fun ls hl => ?_)
                      have hv := hv i16 h_i16
                      refine lv_goto (tgt := 48) hx hb dX11_leaves_97 (by decide) ?_
                      exact ih48 i16 t15 H locs ls hv (lv_sub hl [0, 1, 2, 3, 4, 5] rfl) hP hD hS
                    have jn87 : ∀ (H : Heap) (locs : List Loc) (ls : Array Slot), vJ_X11_leaves_87 l6_11 (fun z0 z1 => vfix (vF_X11_leaves_48 s11_many x2 K l4_3 a11_now_4 (fun z0 z1 z2 z3 => vfix (vF_X11_leaves_22 s11_d s11_stepMany s11_kind s11_many s11_g a11_steps a11_a a11_b a11_e a11_h x1 x2 K) n22 (z0, z1, z2, z3)) a11_to_8 a11_made_9) n48 (z0, z1)) → lv_has ls 7 [(6, .int l6_11), (4, .int l4_3), (0, .ref (ad 11)), (1, .int x1), (2, .long x2)] → va_P D vwCl [oX11 ad s11_d s11_stepMany s11_kind s11_many s11_partMany s11_rule s11_ticks s11_hand s11_g s11_beganElsewhere s11_dBefore s11_fBefore s11_fFirst s11_weightMany s11_tailTold, aI cy (ad 41) 8 a11_steps, aI cy (ad 43) 16 a11_a, aI cy (ad 44) 4 a11_b, aI cy (ad 45) 4 a11_e, aI cy (ad 46) 4 a11_h, aJ cy (ad 47) 4 a11_sums, aJ cy (ad 56) 4 a11_now_4, aJ cy (ad 57) 4 a11_to_8, aI cy (ad 58) 3 a11_made_9] H → va_D A [oX11 ad s11_d s11_stepMany s11_kind s11_many s11_partMany s11_rule s11_ticks s11_hand s11_g s11_beganElsewhere s11_dBefore s11_fBefore s11_fFirst s11_weightMany s11_tailTold, aI cy (ad 41) 8 a11_steps, aI cy (ad 43) 16 a11_a, aI cy (ad 44) 4 a11_b, aI cy (ad 45) 4 a11_e, aI cy (ad 46) 4 a11_h, aJ cy (ad 47) 4 a11_sums, aJ cy (ad 56) 4 a11_now_4, aJ cy (ad 57) 4 a11_to_8, aI cy (ad 58) 3 a11_made_9] → va_S A s.heap H locs → W p l e rm_X11_leaves s m ([.ref (ad 11), .int x1, .long x2] : List Value).toArray below meth c H locs 0 0 Q (F0 m 87 ls []) := by
                      intro H locs ls hv hl hP hD hS
                      unfold vJ_X11_leaves_87 at hv
                      refine lv_iconst (v := 1) hx hb dX11_leaves_87 (by decide) ?_
                      refine lv_goto (tgt := 92) hx hb dX11_leaves_88 (by decide) ?_
                      exact jn92 (1 : Int32) H locs ls hv (lv_sub hl [0, 1, 2, 3, 4] rfl) hP hD hS
                    refine lv_if_ne (tgt := 87) hx hb dX11_leaves_59 (by decide) (fun c_59 => ?_) (fun c_59 => ?_)
                    · have hv := hv.1 c_59
                      exact jn87  H locs ls hv (lv_sub hl [0, 2, 3, 4, 5] rfl) hP hD hS
                    · have hv := hv.2 c_59
                      refine lv_aload_n hx hb dX11_leaves_62 rfl (lv_at hl 3 rfl) ?_
                      refine va_get (D := D) (ci := 11) (v := .ref (ad 57)) (C := RX11) (T := TX11) (N := 35) hx hb hts in_X11_leaves_11 hown hK hP 0 rfl rfl 31 (by decide) (hts _ lk_X11_leaves_69) (fun _ h9 => h9) rfl dX11_leaves_63 ?_
                      refine lv_iload hx hb dX11_leaves_66 (lv_at hl 0 rfl) ?_
                      refine va_lald hx hb hK hP 8 1 rfl rfl hv.1 dX11_leaves_68 ?_
                      refine lv_topl (fun g17 h_g17 => ?_)
                      have hv := hv.2 g17 h_g17
                      refine lv_lload_n hx hb dX11_leaves_69 rfl (lv_at hl 5 rfl) ?_
                      refine k_lc_gt (tgt := 87) hx hb dX11_leaves_70 dX11_leaves_71 (by decide) (fun c_70 => ?_) (fun c_70 => ?_)
                      · have hv := hv.1 c_70
                        exact jn87  H locs ls hv (lv_sub hl [0, 2, 3, 4, 5] rfl) hP hD hS
                      · have hv := hv.2 c_70
                        refine lv_aload_n hx hb dX11_leaves_74 rfl (lv_at hl 3 rfl) ?_
                        refine va_get (D := D) (ci := 11) (v := .ref (ad 57)) (C := RX11) (T := TX11) (N := 35) hx hb hts in_X11_leaves_11 hown hK hP 0 rfl rfl 31 (by decide) (hts _ lk_X11_leaves_69) (fun _ h9 => h9) rfl dX11_leaves_75 ?_
                        refine lv_iload hx hb dX11_leaves_78 (lv_at hl 0 rfl) ?_
                        refine va_lald hx hb hK hP 8 1 rfl rfl hv.1 dX11_leaves_80 ?_
                        refine lv_topl (fun g18 h_g18 => ?_)
                        have hv := hv.2 g18 h_g18
                        refine lv_lload_n hx hb dX11_leaves_81 rfl (lv_at hl 5 rfl) ?_
                        refine lv_lneg hx hb dX11_leaves_82 ?_
                        refine lv_topl (fun e19 h_e19 => ?_)
                        have hv := hv e19 h_e19
                        refine k_lc_ge (tgt := 91) hx hb dX11_leaves_83 dX11_leaves_84 (by decide) (fun c_83 => ?_) (fun c_83 => ?_)
                        · have hv := hv.1 c_83
                          refine lv_iconst (v := 0) hx hb dX11_leaves_91 (by decide) ?_
                          exact jn92 (0 : Int32) H locs ls hv (lv_sub hl [0, 2, 3, 4, 5] rfl) hP hD hS
                        · have hv := hv.2 c_83
                          exact jn87  H locs ls hv (lv_sub hl [0, 2, 3, 4, 5] rfl) hP hD hS
              obtain ⟨nn, hv⟩ := hv
              exact lp48 nn (0 : Int32) t10 H locs ls hv (lv_sub hl [0, 1, 2, 3, 4, 5] rfl) hP hD hS
            refine lv_if_ne (tgt := 42) hx hb dX11_leaves_35 (by decide) (fun c_35 => ?_) (fun c_35 => ?_)
            · have hv := hv.1 c_35
              refine lv_iconst (v := 0) hx hb dX11_leaves_42 (by decide) ?_
              exact jn43 (0 : Int32) H locs ls hv (lv_sub hl [0, 1, 2, 3] rfl) hP hD hS
            · have hv := hv.2 c_35
              refine lv_iconst (v := 1) hx hb dX11_leaves_38 (by decide) ?_
              refine lv_goto (tgt := 43) hx hb dX11_leaves_39 (by decide) ?_
              exact jn43 (1 : Int32) H locs ls hv (lv_sub hl [0, 1, 2, 3] rfl) hP hD hS
      obtain ⟨nn, hv⟩ := hv
      exact lp22 nn (1 : Int32) a11_now_2 a11_to a11_made H locs ls hv (lv_sub hl [0, 1, 2, 3] rfl) hP hD hS
    · have hv := hv.2 c_9
      refine lv_iconst (v := -1) hx hb dX11_leaves_13 (by decide) ?_
      rw [← hQ]
      exact k_iret hx hb hr hlocks hS (a11_now, a11_to, a11_made) hP hD hv dX11_leaves_14
theorem lk_X11_box_42 : Cond.fieldLink RX11 42 "CoarseStepsModel" "least" "[J" ∈ wsX11_box := by decide +kernel
theorem in_X11_box_11 : ∀ w ∈ wsX110, w ∈ wsX11_box := by decide +kernel
theorem lk_X11_box_45 : Cond.fieldLink RX11 45 "CoarseStepsModel" "most" "[J" ∈ wsX11_box := by decide +kernel
abbrev rm_X11_box : Room := { frames := 1, cells := 0, slots := 0, locals := 21 }
set_option maxHeartbeats 4000000 in
set_option maxRecDepth 100000 in
theorem m_X11_box (l : Launch) (D : va_G) (cy : ClassId × ClassId × ClassId) (ad : Nat → Nat) (s11_d : Int32) (s11_stepMany : Int32) (s11_kind : Int32) (s11_many : Int32) (s11_partMany : Int32) (s11_rule : Int32) (s11_ticks : Int32) (s11_hand : Int32) (s11_g : Int32) (s11_beganElsewhere : Int32) (s11_dBefore : Int32) (s11_fBefore : Int32) (s11_fFirst : Int32) (s11_weightMany : Int32) (s11_tailTold : Int32) (a11_least : Nat → Int64) (a11_most : Nat → Int64) (x1 : Int32) (x2 : Int64) (x4 : Int64) (sz : Nat) {K : Int32 → (Nat → Int64) → (Nat → Int64) → Prop} (hv : v_X11_box s11_many a11_least a11_most x1 x2 x4 K) : Met l yX11_box wsX11_box rm_X11_box (va_Pc [.ref (ad 11), .int x1, .long x2, .long x4] (wd D cy [oX11 ad s11_d s11_stepMany s11_kind s11_many s11_partMany s11_rule s11_ticks s11_hand s11_g s11_beganElsewhere s11_dBefore s11_fBefore s11_fFirst s11_weightMany s11_tailTold, aJ cy (ad 48) 4 a11_least, aJ cy (ad 49) 4 a11_most] sz)) (va_Qi (fun (r : Int32) (u : (Nat → Int64) × (Nat → Int64)) => (r = 0 ∨ r = 1) ∧ K r u.1 u.2) (fun u t => we D ((fun u : (Nat → Int64) × (Nat → Int64) => [oX11 ad s11_d s11_stepMany s11_kind s11_many s11_partMany s11_rule s11_ticks s11_hand s11_g s11_beganElsewhere s11_dBefore s11_fBefore s11_fFirst s11_weightMany s11_tailTold, aJ cy (ad 48) 4 u.1, aJ cy (ad 49) 4 u.2]) u) (va_A [oX11 ad s11_d s11_stepMany s11_kind s11_many s11_partMany s11_rule s11_ticks s11_hand s11_g s11_beganElsewhere s11_dBefore s11_fBefore s11_fFirst s11_weightMany s11_tailTold, aJ cy (ad 48) 4 a11_least, aJ cy (ad 49) 4 a11_most] sz) t) (va_A [oX11 ad s11_d s11_stepMany s11_kind s11_many s11_partMany s11_rule s11_ticks s11_hand s11_g s11_beganElsewhere s11_dBefore s11_fBefore s11_fFirst s11_weightMany s11_tailTold, aJ cy (ad 48) 4 a11_least, aJ cy (ad 49) 4 a11_most] sz)) 0 0 (va_A [oX11 ad s11_d s11_stepMany s11_kind s11_many s11_partMany s11_rule s11_ticks s11_hand s11_g s11_beganElsewhere s11_dBefore s11_fBefore s11_fFirst s11_weightMany s11_tailTold, aJ cy (ad 48) 4 a11_least, aJ cy (ad 49) 4 a11_most] sz) := by
  refine k_ofW (cc := cX11_box) (maxL := 6) (ret := (some .boolean)) (fun A => va_Qi (fun (r : Int32) (u : (Nat → Int64) × (Nat → Int64)) => (r = 0 ∨ r = 1) ∧ K r u.1 u.2) (fun u t => we D ((fun u : (Nat → Int64) × (Nat → Int64) => [oX11 ad s11_d s11_stepMany s11_kind s11_many s11_partMany s11_rule s11_ticks s11_hand s11_g s11_beganElsewhere s11_dBefore s11_fBefore s11_fFirst s11_weightMany s11_tailTold, aJ cy (ad 48) 4 u.1, aJ cy (ad 49) 4 u.2]) u) A t) A) (by decide) rfl (Nat.le_of_ble_eq_true rfl) ?_
  intro p e s m below meth c A ls H locs hx hb hml hr hts hown hlocks hname hK hN hA hP hD hS hl
  have hl : lv_has ls 6 [(0, .ref (ad 11)), (1, .int x1), (2, .long x2), (4, .long x4)] := hl
  generalize hQ : MQ below _ _ s _ _ A = Q
  unfold v_X11_box at hv
  refine lv_aload_n hx hb dX11_box_0 rfl (lv_at hl 0 rfl) ?_
  refine lv_iload_n hx hb dX11_box_1 rfl (lv_at hl 1 rfl) ?_
  have hPc := hP.sub (ws' := [oX11 ad s11_d s11_stepMany s11_kind s11_many s11_partMany s11_rule s11_ticks s11_hand s11_g s11_beganElsewhere s11_dBefore s11_fBefore s11_fFirst s11_weightMany s11_tailTold]) [0] rfl
  have hDc := hD.sub (ws' := [oX11 ad s11_d s11_stepMany s11_kind s11_many s11_partMany s11_rule s11_ticks s11_hand s11_g s11_beganElsewhere s11_dBefore s11_fBefore s11_fFirst s11_weightMany s11_tailTold]) [0] (by decide) rfl
  refine k_cali (wc := [oX11 ad s11_d s11_stepMany s11_kind s11_many s11_partMany s11_rule s11_ticks s11_hand s11_g s11_beganElsewhere s11_dBefore s11_fBefore s11_fFirst s11_weightMany s11_tailTold]) (wr := [aJ cy (ad 48) 4 a11_least, aJ cy (ad 49) 4 a11_most]) (va_runV (As := [.int x1]) (rest := []) ⟨hx, hb, hml, hown, hts⟩ (m_X11_isSum l D cy ad s11_d s11_stepMany s11_kind s11_many s11_partMany s11_rule s11_ticks s11_hand s11_g s11_beganElsewhere s11_dBefore s11_fBefore s11_fFirst s11_weightMany s11_tailTold x1 H.size hv) (cwV 1 hts gX11_box_X11_isSum rfl rfl rfl (by decide +kernel) ⟨Nat.le_of_ble_eq_true rfl, Nat.le_of_ble_eq_true rfl⟩) ⟨wd_blind, va_recv hK hPc (ci := 11) (q0 := 0) rfl rfl, wd_ok hPc hK hDc hN⟩ rfl rfl hl.1 rfl (lv_room (Nat.le_of_ble_eq_true rfl)) dX11_box_2 ⟨Nat.le_of_ble_eq_true rfl, Nat.le_of_ble_eq_true rfl⟩) hP hD hS hA [0] [1, 2] rfl rfl (by decide) (by decide) (fun r1 u H locs hv hP hD hS => ?_)
  obtain ⟨hz_r1, hv⟩ := hv
  have hP : va_P D vwCl [oX11 ad s11_d s11_stepMany s11_kind s11_many s11_partMany s11_rule s11_ticks s11_hand s11_g s11_beganElsewhere s11_dBefore s11_fBefore s11_fFirst s11_weightMany s11_tailTold, aJ cy (ad 48) 4 a11_least, aJ cy (ad 49) 4 a11_most] H := hP.sub [2, 0, 1] rfl
  have hD : va_D A [oX11 ad s11_d s11_stepMany s11_kind s11_many s11_partMany s11_rule s11_ticks s11_hand s11_g s11_beganElsewhere s11_dBefore s11_fBefore s11_fFirst s11_weightMany s11_tailTold, aJ cy (ad 48) 4 a11_least, aJ cy (ad 49) 4 a11_most] := hD.sub [2, 0, 1] (by decide) rfl
  refine lv_if_eq (tgt := 30) hx hb dX11_box_5 (by decide) (fun c_5 => ?_) (fun c_5 => ?_)
  · have hv := hv.1 c_5
    refine lv_iconst (v := 0) hx hb dX11_box_30 (by decide) ?_
    rw [← hQ]
    exact k_zret hx hb hr hlocks hS (a11_least, a11_most) hP hD (by decide) hv dX11_box_31
  · have hv := hv.2 c_5
    refine lv_lload_n hx hb dX11_box_8 rfl (lv_at hl 2 rfl) ?_
    refine lv_lload hx hb dX11_box_9 (lv_at hl 3 rfl) ?_
    refine k_lc_gt (tgt := 30) hx hb dX11_box_11 dX11_box_12 (by decide) (fun c_11 => ?_) (fun c_11 => ?_)
    · have hv := hv.1 c_11
      refine lv_iconst (v := 0) hx hb dX11_box_30 (by decide) ?_
      rw [← hQ]
      exact k_zret hx hb hr hlocks hS (a11_least, a11_most) hP hD (by decide) hv dX11_box_31
    · have hv := hv.2 c_11
      refine lv_lload_n hx hb dX11_box_15 rfl (lv_at hl 2 rfl) ?_
      have hPc := hP.sub (ws' := []) [] rfl
      have hDc := hD.sub (ws' := []) [] (by decide) rfl
      refine k_cali (wc := []) (wr := [oX11 ad s11_d s11_stepMany s11_kind s11_many s11_partMany s11_rule s11_ticks s11_hand s11_g s11_beganElsewhere s11_dBefore s11_fBefore s11_fFirst s11_weightMany s11_tailTold, aJ cy (ad 48) 4 a11_least, aJ cy (ad 49) 4 a11_most]) (va_runS (As := [.long x2]) (rest := []) ⟨hx, hb, hml, hown, hts⟩ (m_X11_isNear l D cy ad x2 H.size hv) (va_cwS 1 hts gX11_box_X11_isNear rfl rfl rfl (by decide +kernel) ⟨Nat.le_of_ble_eq_true rfl, Nat.le_of_ble_eq_true rfl⟩) ⟨wd_blind, wd_ok hPc hK hDc hN⟩ rfl rfl hl.1 rfl (lv_room (Nat.le_of_ble_eq_true rfl)) dX11_box_16 ⟨Nat.le_of_ble_eq_true rfl, Nat.le_of_ble_eq_true rfl⟩) hP hD hS hA [] [0, 1, 2] rfl rfl (by decide) (by decide) (fun r2 u H locs hv hP hD hS => ?_)
      obtain ⟨hz_r2, hv⟩ := hv
      have hP : va_P D vwCl [oX11 ad s11_d s11_stepMany s11_kind s11_many s11_partMany s11_rule s11_ticks s11_hand s11_g s11_beganElsewhere s11_dBefore s11_fBefore s11_fFirst s11_weightMany s11_tailTold, aJ cy (ad 48) 4 a11_least, aJ cy (ad 49) 4 a11_most] H := hP.sub [0, 1, 2] rfl
      have hD : va_D A [oX11 ad s11_d s11_stepMany s11_kind s11_many s11_partMany s11_rule s11_ticks s11_hand s11_g s11_beganElsewhere s11_dBefore s11_fBefore s11_fFirst s11_weightMany s11_tailTold, aJ cy (ad 48) 4 a11_least, aJ cy (ad 49) 4 a11_most] := hD.sub [0, 1, 2] (by decide) rfl
      refine lv_if_eq (tgt := 30) hx hb dX11_box_19 (by decide) (fun c_19 => ?_) (fun c_19 => ?_)
      · have hv := hv.1 c_19
        refine lv_iconst (v := 0) hx hb dX11_box_30 (by decide) ?_
        rw [← hQ]
        exact k_zret hx hb hr hlocks hS (a11_least, a11_most) hP hD (by decide) hv dX11_box_31
      · have hv := hv.2 c_19
        refine lv_lload hx hb dX11_box_22 (lv_at hl 3 rfl) ?_
        have hPc := hP.sub (ws' := []) [] rfl
        have hDc := hD.sub (ws' := []) [] (by decide) rfl
        refine k_cali (wc := []) (wr := [oX11 ad s11_d s11_stepMany s11_kind s11_many s11_partMany s11_rule s11_ticks s11_hand s11_g s11_beganElsewhere s11_dBefore s11_fBefore s11_fFirst s11_weightMany s11_tailTold, aJ cy (ad 48) 4 a11_least, aJ cy (ad 49) 4 a11_most]) (va_runS (As := [.long x4]) (rest := []) ⟨hx, hb, hml, hown, hts⟩ (m_X11_isNear l D cy ad x4 H.size hv) (va_cwS 1 hts gX11_box_X11_isNear rfl rfl rfl (by decide +kernel) ⟨Nat.le_of_ble_eq_true rfl, Nat.le_of_ble_eq_true rfl⟩) ⟨wd_blind, wd_ok hPc hK hDc hN⟩ rfl rfl hl.1 rfl (lv_room (Nat.le_of_ble_eq_true rfl)) dX11_box_24 ⟨Nat.le_of_ble_eq_true rfl, Nat.le_of_ble_eq_true rfl⟩) hP hD hS hA [] [0, 1, 2] rfl rfl (by decide) (by decide) (fun r3 u H locs hv hP hD hS => ?_)
        obtain ⟨hz_r3, hv⟩ := hv
        have hP : va_P D vwCl [oX11 ad s11_d s11_stepMany s11_kind s11_many s11_partMany s11_rule s11_ticks s11_hand s11_g s11_beganElsewhere s11_dBefore s11_fBefore s11_fFirst s11_weightMany s11_tailTold, aJ cy (ad 48) 4 a11_least, aJ cy (ad 49) 4 a11_most] H := hP.sub [0, 1, 2] rfl
        have hD : va_D A [oX11 ad s11_d s11_stepMany s11_kind s11_many s11_partMany s11_rule s11_ticks s11_hand s11_g s11_beganElsewhere s11_dBefore s11_fBefore s11_fFirst s11_weightMany s11_tailTold, aJ cy (ad 48) 4 a11_least, aJ cy (ad 49) 4 a11_most] := hD.sub [0, 1, 2] (by decide) rfl
        refine lv_if_ne (tgt := 32) hx hb dX11_box_27 (by decide) (fun c_27 => ?_) (fun c_27 => ?_)
        · have hv := hv.1 c_27
          refine lv_aload_n hx hb dX11_box_32 rfl (lv_at hl 0 rfl) ?_
          refine va_get (D := D) (ci := 11) (v := .ref (ad 48)) (C := RX11) (T := TX11) (N := 35) hx hb hts in_X11_box_11 hown hK hP 0 rfl rfl 16 (by decide) (hts _ lk_X11_box_42) (fun _ h9 => h9) rfl dX11_box_33 ?_
          refine lv_iload_n hx hb dX11_box_36 rfl (lv_at hl 1 rfl) ?_
          refine lv_lload_n hx hb dX11_box_37 rfl (lv_at hl 2 rfl) ?_
          refine k_last hx hb hK hP hD hS 1 1 rfl rfl hv.1 dX11_box_38 (fun a11_least_4 H locs h_a11_least_4 hP hD hS => ?_)
          have hv := hv.2 a11_least_4 h_a11_least_4
          have hP : va_P D vwCl [oX11 ad s11_d s11_stepMany s11_kind s11_many s11_partMany s11_rule s11_ticks s11_hand s11_g s11_beganElsewhere s11_dBefore s11_fBefore s11_fFirst s11_weightMany s11_tailTold, aJ cy (ad 48) 4 a11_least_4, aJ cy (ad 49) 4 a11_most] H := hP
          have hD : va_D A [oX11 ad s11_d s11_stepMany s11_kind s11_many s11_partMany s11_rule s11_ticks s11_hand s11_g s11_beganElsewhere s11_dBefore s11_fBefore s11_fFirst s11_weightMany s11_tailTold, aJ cy (ad 48) 4 a11_least_4, aJ cy (ad 49) 4 a11_most] := hD
          refine lv_aload_n hx hb dX11_box_39 rfl (lv_at hl 0 rfl) ?_
          refine va_get (D := D) (ci := 11) (v := .ref (ad 49)) (C := RX11) (T := TX11) (N := 35) hx hb hts in_X11_box_11 hown hK hP 0 rfl rfl 17 (by decide) (hts _ lk_X11_box_45) (fun _ h9 => h9) rfl dX11_box_40 ?_
          refine lv_iload_n hx hb dX11_box_43 rfl (lv_at hl 1 rfl) ?_
          refine lv_lload hx hb dX11_box_44 (lv_at hl 3 rfl) ?_
          refine k_last hx hb hK hP hD hS 2 1 rfl rfl hv.1 dX11_box_46 (fun a11_most_5 H locs h_a11_most_5 hP hD hS => ?_)
          have hv := hv.2 a11_most_5 h_a11_most_5
          have hP : va_P D vwCl [oX11 ad s11_d s11_stepMany s11_kind s11_many s11_partMany s11_rule s11_ticks s11_hand s11_g s11_beganElsewhere s11_dBefore s11_fBefore s11_fFirst s11_weightMany s11_tailTold, aJ cy (ad 48) 4 a11_least_4, aJ cy (ad 49) 4 a11_most_5] H := hP
          have hD : va_D A [oX11 ad s11_d s11_stepMany s11_kind s11_many s11_partMany s11_rule s11_ticks s11_hand s11_g s11_beganElsewhere s11_dBefore s11_fBefore s11_fFirst s11_weightMany s11_tailTold, aJ cy (ad 48) 4 a11_least_4, aJ cy (ad 49) 4 a11_most_5] := hD
          refine lv_iconst (v := 1) hx hb dX11_box_47 (by decide) ?_
          rw [← hQ]
          exact k_zret hx hb hr hlocks hS (a11_least_4, a11_most_5) hP hD (by decide) hv dX11_box_48
        · have hv := hv.2 c_27
          refine lv_iconst (v := 0) hx hb dX11_box_30 (by decide) ?_
          rw [← hQ]
          exact k_zret hx hb hr hlocks hS (a11_least, a11_most) hP hD (by decide) hv dX11_box_31
