theorem lk_X11_done_72 : Cond.fieldLink RX11 72 "CoarseStepsModel" "made" "[I" ∈ wsX11_done := by decide +kernel
theorem in_X11_done_11 : ∀ w ∈ wsX110, w ∈ wsX11_done := by decide +kernel
theorem lk_X11_done_103 : Cond.fieldLink RX11 103 "CoarseStepsModel" "kind" "I" ∈ wsX11_done := by decide +kernel
theorem lk_X11_done_16 : Cond.fieldLink RX11 16 "CoarseStepsModel" "many" "I" ∈ wsX11_done := by decide +kernel
theorem lk_X11_done_54 : Cond.fieldLink RX11 54 "CoarseStepsModel" "given" "[I" ∈ wsX11_done := by decide +kernel
theorem lk_X11_done_81 : Cond.fieldLink RX11 81 "CoarseStepsModel" "ticks" "I" ∈ wsX11_done := by decide +kernel
theorem lk_X11_done_57 : Cond.fieldLink RX11 57 "CoarseStepsModel" "wished" "[I" ∈ wsX11_done := by decide +kernel
theorem lk_X11_done_60 : Cond.fieldLink RX11 60 "CoarseStepsModel" "firstSum" "[J" ∈ wsX11_done := by decide +kernel
theorem lk_X11_done_38 : Cond.fieldLink RX11 38 "CoarseStepsModel" "sums" "[J" ∈ wsX11_done := by decide +kernel
theorem lk_X11_done_69 : Cond.fieldLink RX11 69 "CoarseStepsModel" "to" "[J" ∈ wsX11_done := by decide +kernel
theorem lk_X11_done_87 : Cond.fieldLink RX11 87 "CoarseStepsModel" "dBefore" "I" ∈ wsX11_done := by decide +kernel
theorem lk_X11_done_90 : Cond.fieldLink RX11 90 "CoarseStepsModel" "fBefore" "I" ∈ wsX11_done := by decide +kernel
theorem lk_X11_done_93 : Cond.fieldLink RX11 93 "CoarseStepsModel" "fFirst" "I" ∈ wsX11_done := by decide +kernel
abbrev rm_X11_done : Room := { frames := 2, cells := 0, slots := 0, locals := 50 }
set_option maxHeartbeats 4000000 in
set_option maxRecDepth 100000 in
theorem m_X11_done (l : Launch) (D : va_G) (cy : ClassId × ClassId × ClassId) (ad : Nat → Nat) (s11_d : Int32) (s11_stepMany : Int32) (s11_kind : Int32) (s11_many : Int32) (s11_partMany : Int32) (s11_rule : Int32) (s11_ticks : Int32) (s11_hand : Int32) (s11_g : Int32) (s11_beganElsewhere : Int32) (s11_dBefore : Int32) (s11_fBefore : Int32) (s11_fFirst : Int32) (s11_weightMany : Int32) (s11_tailTold : Int32) (a11_steps : Nat → Int32) (a11_a : Nat → Int32) (a11_b : Nat → Int32) (a11_e : Nat → Int32) (a11_h : Nat → Int32) (a11_sums : Nat → Int64) (a11_on : Nat → Int32) (a11_often : Nat → Int32) (a11_given : Nat → Int32) (a11_wished : Nat → Int32) (a11_firstSum : Nat → Int64) (a11_now : Nat → Int64) (a11_to : Nat → Int64) (a11_made : Nat → Int32) (x1 : Int32) (sz : Nat) {K : Int32 → Int32 → Int32 → Int32 → Int32 → Int32 → (Nat → Int64) → (Nat → Int32) → (Nat → Int32) → (Nat → Int32) → (Nat → Int32) → (Nat → Int64) → (Nat → Int64) → (Nat → Int64) → (Nat → Int32) → Prop} (hv : v_X11_done s11_d s11_stepMany s11_kind s11_many s11_partMany s11_rule s11_ticks s11_hand s11_g s11_dBefore s11_fBefore s11_fFirst a11_steps a11_a a11_b a11_e a11_h a11_sums a11_on a11_often a11_given a11_wished a11_firstSum a11_now a11_to a11_made x1 K) : Met l yX11_done wsX11_done rm_X11_done (va_Pc [.ref (ad 11), .int x1] (wd D cy [oX11 ad s11_d s11_stepMany s11_kind s11_many s11_partMany s11_rule s11_ticks s11_hand s11_g s11_beganElsewhere s11_dBefore s11_fBefore s11_fFirst s11_weightMany s11_tailTold, aI cy (ad 41) 8 a11_steps, aI cy (ad 43) 16 a11_a, aI cy (ad 44) 4 a11_b, aI cy (ad 45) 4 a11_e, aI cy (ad 46) 4 a11_h, aJ cy (ad 47) 4 a11_sums, aI cy (ad 50) 16 a11_on, aI cy (ad 51) 16 a11_often, aI cy (ad 52) 256 a11_given, aI cy (ad 53) 256 a11_wished, aJ cy (ad 54) 256 a11_firstSum, aJ cy (ad 56) 4 a11_now, aJ cy (ad 57) 4 a11_to, aI cy (ad 58) 3 a11_made] sz)) (va_Qi (fun (r : Int32) (u : Int32 × Int32 × Int32 × Int32 × Int32 × (Nat → Int64) × (Nat → Int32) × (Nat → Int32) × (Nat → Int32) × (Nat → Int32) × (Nat → Int64) × (Nat → Int64) × (Nat → Int64) × (Nat → Int32)) => (r = 0 ∨ r = 1) ∧ K r u.1 u.2.1 u.2.2.1 u.2.2.2.1 u.2.2.2.2.1 u.2.2.2.2.2.1 u.2.2.2.2.2.2.1 u.2.2.2.2.2.2.2.1 u.2.2.2.2.2.2.2.2.1 u.2.2.2.2.2.2.2.2.2.1 u.2.2.2.2.2.2.2.2.2.2.1 u.2.2.2.2.2.2.2.2.2.2.2.1 u.2.2.2.2.2.2.2.2.2.2.2.2.1 u.2.2.2.2.2.2.2.2.2.2.2.2.2) (fun u t => we D ((fun u : Int32 × Int32 × Int32 × Int32 × Int32 × (Nat → Int64) × (Nat → Int32) × (Nat → Int32) × (Nat → Int32) × (Nat → Int32) × (Nat → Int64) × (Nat → Int64) × (Nat → Int64) × (Nat → Int32) => [oX11 ad s11_d s11_stepMany s11_kind s11_many s11_partMany s11_rule u.1 u.2.1 s11_g s11_beganElsewhere u.2.2.1 u.2.2.2.1 u.2.2.2.2.1 s11_weightMany s11_tailTold, aI cy (ad 41) 8 a11_steps, aI cy (ad 43) 16 a11_a, aI cy (ad 44) 4 a11_b, aI cy (ad 45) 4 a11_e, aI cy (ad 46) 4 a11_h, aJ cy (ad 47) 4 u.2.2.2.2.2.1, aI cy (ad 50) 16 u.2.2.2.2.2.2.1, aI cy (ad 51) 16 u.2.2.2.2.2.2.2.1, aI cy (ad 52) 256 u.2.2.2.2.2.2.2.2.1, aI cy (ad 53) 256 u.2.2.2.2.2.2.2.2.2.1, aJ cy (ad 54) 256 u.2.2.2.2.2.2.2.2.2.2.1, aJ cy (ad 56) 4 u.2.2.2.2.2.2.2.2.2.2.2.1, aJ cy (ad 57) 4 u.2.2.2.2.2.2.2.2.2.2.2.2.1, aI cy (ad 58) 3 u.2.2.2.2.2.2.2.2.2.2.2.2.2]) u) (va_A [oX11 ad s11_d s11_stepMany s11_kind s11_many s11_partMany s11_rule s11_ticks s11_hand s11_g s11_beganElsewhere s11_dBefore s11_fBefore s11_fFirst s11_weightMany s11_tailTold, aI cy (ad 41) 8 a11_steps, aI cy (ad 43) 16 a11_a, aI cy (ad 44) 4 a11_b, aI cy (ad 45) 4 a11_e, aI cy (ad 46) 4 a11_h, aJ cy (ad 47) 4 a11_sums, aI cy (ad 50) 16 a11_on, aI cy (ad 51) 16 a11_often, aI cy (ad 52) 256 a11_given, aI cy (ad 53) 256 a11_wished, aJ cy (ad 54) 256 a11_firstSum, aJ cy (ad 56) 4 a11_now, aJ cy (ad 57) 4 a11_to, aI cy (ad 58) 3 a11_made] sz) t) (va_A [oX11 ad s11_d s11_stepMany s11_kind s11_many s11_partMany s11_rule s11_ticks s11_hand s11_g s11_beganElsewhere s11_dBefore s11_fBefore s11_fFirst s11_weightMany s11_tailTold, aI cy (ad 41) 8 a11_steps, aI cy (ad 43) 16 a11_a, aI cy (ad 44) 4 a11_b, aI cy (ad 45) 4 a11_e, aI cy (ad 46) 4 a11_h, aJ cy (ad 47) 4 a11_sums, aI cy (ad 50) 16 a11_on, aI cy (ad 51) 16 a11_often, aI cy (ad 52) 256 a11_given, aI cy (ad 53) 256 a11_wished, aJ cy (ad 54) 256 a11_firstSum, aJ cy (ad 56) 4 a11_now, aJ cy (ad 57) 4 a11_to, aI cy (ad 58) 3 a11_made] sz)) 0 0 (va_A [oX11 ad s11_d s11_stepMany s11_kind s11_many s11_partMany s11_rule s11_ticks s11_hand s11_g s11_beganElsewhere s11_dBefore s11_fBefore s11_fFirst s11_weightMany s11_tailTold, aI cy (ad 41) 8 a11_steps, aI cy (ad 43) 16 a11_a, aI cy (ad 44) 4 a11_b, aI cy (ad 45) 4 a11_e, aI cy (ad 46) 4 a11_h, aJ cy (ad 47) 4 a11_sums, aI cy (ad 50) 16 a11_on, aI cy (ad 51) 16 a11_often, aI cy (ad 52) 256 a11_given, aI cy (ad 53) 256 a11_wished, aJ cy (ad 54) 256 a11_firstSum, aJ cy (ad 56) 4 a11_now, aJ cy (ad 57) 4 a11_to, aI cy (ad 58) 3 a11_made] sz) := by
  refine k_ofW (cc := cX11_done) (maxL := 4) (ret := (some .boolean)) (fun A => va_Qi (fun (r : Int32) (u : Int32 × Int32 × Int32 × Int32 × Int32 × (Nat → Int64) × (Nat → Int32) × (Nat → Int32) × (Nat → Int32) × (Nat → Int32) × (Nat → Int64) × (Nat → Int64) × (Nat → Int64) × (Nat → Int32)) => (r = 0 ∨ r = 1) ∧ K r u.1 u.2.1 u.2.2.1 u.2.2.2.1 u.2.2.2.2.1 u.2.2.2.2.2.1 u.2.2.2.2.2.2.1 u.2.2.2.2.2.2.2.1 u.2.2.2.2.2.2.2.2.1 u.2.2.2.2.2.2.2.2.2.1 u.2.2.2.2.2.2.2.2.2.2.1 u.2.2.2.2.2.2.2.2.2.2.2.1 u.2.2.2.2.2.2.2.2.2.2.2.2.1 u.2.2.2.2.2.2.2.2.2.2.2.2.2) (fun u t => we D ((fun u : Int32 × Int32 × Int32 × Int32 × Int32 × (Nat → Int64) × (Nat → Int32) × (Nat → Int32) × (Nat → Int32) × (Nat → Int32) × (Nat → Int64) × (Nat → Int64) × (Nat → Int64) × (Nat → Int32) => [oX11 ad s11_d s11_stepMany s11_kind s11_many s11_partMany s11_rule u.1 u.2.1 s11_g s11_beganElsewhere u.2.2.1 u.2.2.2.1 u.2.2.2.2.1 s11_weightMany s11_tailTold, aI cy (ad 41) 8 a11_steps, aI cy (ad 43) 16 a11_a, aI cy (ad 44) 4 a11_b, aI cy (ad 45) 4 a11_e, aI cy (ad 46) 4 a11_h, aJ cy (ad 47) 4 u.2.2.2.2.2.1, aI cy (ad 50) 16 u.2.2.2.2.2.2.1, aI cy (ad 51) 16 u.2.2.2.2.2.2.2.1, aI cy (ad 52) 256 u.2.2.2.2.2.2.2.2.1, aI cy (ad 53) 256 u.2.2.2.2.2.2.2.2.2.1, aJ cy (ad 54) 256 u.2.2.2.2.2.2.2.2.2.2.1, aJ cy (ad 56) 4 u.2.2.2.2.2.2.2.2.2.2.2.1, aJ cy (ad 57) 4 u.2.2.2.2.2.2.2.2.2.2.2.2.1, aI cy (ad 58) 3 u.2.2.2.2.2.2.2.2.2.2.2.2.2]) u) A t) A) (by decide) rfl (Nat.le_of_ble_eq_true rfl) ?_
  intro p e s m below meth c A ls H locs hx hb hml hr hts hown hlocks hname hK hN hA hP hD hS hl
  have hl : lv_has ls 4 [(0, .ref (ad 11)), (1, .int x1)] := hl
  generalize hQ : MQ below _ _ s _ _ A = Q
  unfold v_X11_done at hv
  refine lv_aload_n hx hb dX11_done_0 rfl (lv_at hl 0 rfl) ?_
  have hPc := hP.sub (ws' := [oX11 ad s11_d s11_stepMany s11_kind s11_many s11_partMany s11_rule s11_ticks s11_hand s11_g s11_beganElsewhere s11_dBefore s11_fBefore s11_fFirst s11_weightMany s11_tailTold, aJ cy (ad 47) 4 a11_sums, aJ cy (ad 56) 4 a11_now]) [0, 6, 12] rfl
  have hDc := hD.sub (ws' := [oX11 ad s11_d s11_stepMany s11_kind s11_many s11_partMany s11_rule s11_ticks s11_hand s11_g s11_beganElsewhere s11_dBefore s11_fBefore s11_fFirst s11_weightMany s11_tailTold, aJ cy (ad 47) 4 a11_sums, aJ cy (ad 56) 4 a11_now]) [0, 6, 12] (by decide) rfl
  refine k_calv (wc := [oX11 ad s11_d s11_stepMany s11_kind s11_many s11_partMany s11_rule s11_ticks s11_hand s11_g s11_beganElsewhere s11_dBefore s11_fBefore s11_fFirst s11_weightMany s11_tailTold, aJ cy (ad 47) 4 a11_sums, aJ cy (ad 56) 4 a11_now]) (wr := [aI cy (ad 41) 8 a11_steps, aI cy (ad 43) 16 a11_a, aI cy (ad 44) 4 a11_b, aI cy (ad 45) 4 a11_e, aI cy (ad 46) 4 a11_h, aI cy (ad 50) 16 a11_on, aI cy (ad 51) 16 a11_often, aI cy (ad 52) 256 a11_given, aI cy (ad 53) 256 a11_wished, aJ cy (ad 54) 256 a11_firstSum, aJ cy (ad 57) 4 a11_to, aI cy (ad 58) 3 a11_made]) (va_runV (As := []) (rest := []) ⟨hx, hb, hml, hown, hts⟩ (m_X11_fromHere l D cy ad s11_d s11_stepMany s11_kind s11_many s11_partMany s11_rule s11_ticks s11_hand s11_g s11_beganElsewhere s11_dBefore s11_fBefore s11_fFirst s11_weightMany s11_tailTold a11_sums a11_now H.size hv) (cwV 0 hts gX11_done_X11_fromHere rfl rfl rfl (by decide +kernel) ⟨Nat.le_of_ble_eq_true rfl, Nat.le_of_ble_eq_true rfl⟩) ⟨wd_blind, va_recv hK hPc (ci := 11) (q0 := 0) rfl rfl, wd_ok hPc hK hDc hN⟩ rfl rfl hl.1 rfl (lv_room (Nat.le_of_ble_eq_true rfl)) dX11_done_1 ⟨Nat.le_of_ble_eq_true rfl, Nat.le_of_ble_eq_true rfl⟩) hP hD hS hA [0, 6, 12] [1, 2, 3, 4, 5, 7, 8, 9, 10, 11, 13, 14] rfl rfl (by decide) (by decide) (fun a11_now_1 H locs hv hP hD hS => ?_)
  have hP : va_P D vwCl [oX11 ad s11_d s11_stepMany s11_kind s11_many s11_partMany s11_rule s11_ticks s11_hand s11_g s11_beganElsewhere s11_dBefore s11_fBefore s11_fFirst s11_weightMany s11_tailTold, aI cy (ad 41) 8 a11_steps, aI cy (ad 43) 16 a11_a, aI cy (ad 44) 4 a11_b, aI cy (ad 45) 4 a11_e, aI cy (ad 46) 4 a11_h, aJ cy (ad 47) 4 a11_sums, aI cy (ad 50) 16 a11_on, aI cy (ad 51) 16 a11_often, aI cy (ad 52) 256 a11_given, aI cy (ad 53) 256 a11_wished, aJ cy (ad 54) 256 a11_firstSum, aJ cy (ad 56) 4 a11_now_1, aJ cy (ad 57) 4 a11_to, aI cy (ad 58) 3 a11_made] H := hP.sub [12, 0, 1, 2, 3, 4, 13, 5, 6, 7, 8, 9, 14, 10, 11] rfl
  have hD : va_D A [oX11 ad s11_d s11_stepMany s11_kind s11_many s11_partMany s11_rule s11_ticks s11_hand s11_g s11_beganElsewhere s11_dBefore s11_fBefore s11_fFirst s11_weightMany s11_tailTold, aI cy (ad 41) 8 a11_steps, aI cy (ad 43) 16 a11_a, aI cy (ad 44) 4 a11_b, aI cy (ad 45) 4 a11_e, aI cy (ad 46) 4 a11_h, aJ cy (ad 47) 4 a11_sums, aI cy (ad 50) 16 a11_on, aI cy (ad 51) 16 a11_often, aI cy (ad 52) 256 a11_given, aI cy (ad 53) 256 a11_wished, aJ cy (ad 54) 256 a11_firstSum, aJ cy (ad 56) 4 a11_now_1, aJ cy (ad 57) 4 a11_to, aI cy (ad 58) 3 a11_made] := hD.sub [12, 0, 1, 2, 3, 4, 13, 5, 6, 7, 8, 9, 14, 10, 11] (by decide) rfl
  refine lv_aload_n hx hb dX11_done_4 rfl (lv_at hl 0 rfl) ?_
  refine lv_iload_n hx hb dX11_done_5 rfl (lv_at hl 1 rfl) ?_
  have hPc := hP.sub (ws' := [oX11 ad s11_d s11_stepMany s11_kind s11_many s11_partMany s11_rule s11_ticks s11_hand s11_g s11_beganElsewhere s11_dBefore s11_fBefore s11_fFirst s11_weightMany s11_tailTold, aI cy (ad 41) 8 a11_steps, aI cy (ad 43) 16 a11_a, aI cy (ad 44) 4 a11_b, aI cy (ad 45) 4 a11_e, aI cy (ad 46) 4 a11_h, aJ cy (ad 56) 4 a11_now_1, aJ cy (ad 57) 4 a11_to, aI cy (ad 58) 3 a11_made]) [0, 1, 2, 3, 4, 5, 12, 13, 14] rfl
  have hDc := hD.sub (ws' := [oX11 ad s11_d s11_stepMany s11_kind s11_many s11_partMany s11_rule s11_ticks s11_hand s11_g s11_beganElsewhere s11_dBefore s11_fBefore s11_fFirst s11_weightMany s11_tailTold, aI cy (ad 41) 8 a11_steps, aI cy (ad 43) 16 a11_a, aI cy (ad 44) 4 a11_b, aI cy (ad 45) 4 a11_e, aI cy (ad 46) 4 a11_h, aJ cy (ad 56) 4 a11_now_1, aJ cy (ad 57) 4 a11_to, aI cy (ad 58) 3 a11_made]) [0, 1, 2, 3, 4, 5, 12, 13, 14] (by decide) rfl
  refine k_cali (wc := [oX11 ad s11_d s11_stepMany s11_kind s11_many s11_partMany s11_rule s11_ticks s11_hand s11_g s11_beganElsewhere s11_dBefore s11_fBefore s11_fFirst s11_weightMany s11_tailTold, aI cy (ad 41) 8 a11_steps, aI cy (ad 43) 16 a11_a, aI cy (ad 44) 4 a11_b, aI cy (ad 45) 4 a11_e, aI cy (ad 46) 4 a11_h, aJ cy (ad 56) 4 a11_now_1, aJ cy (ad 57) 4 a11_to, aI cy (ad 58) 3 a11_made]) (wr := [aJ cy (ad 47) 4 a11_sums, aI cy (ad 50) 16 a11_on, aI cy (ad 51) 16 a11_often, aI cy (ad 52) 256 a11_given, aI cy (ad 53) 256 a11_wished, aJ cy (ad 54) 256 a11_firstSum]) (va_runV (As := [.int x1]) (rest := []) ⟨hx, hb, hml, hown, hts⟩ (m_X11_next l D cy ad s11_d s11_stepMany s11_kind s11_many s11_partMany s11_rule s11_ticks s11_hand s11_g s11_beganElsewhere s11_dBefore s11_fBefore s11_fFirst s11_weightMany s11_tailTold a11_steps a11_a a11_b a11_e a11_h a11_now_1 a11_to a11_made x1 H.size hv) (cwV 1 hts gX11_done_X11_next rfl rfl rfl (by decide +kernel) ⟨Nat.le_of_ble_eq_true rfl, Nat.le_of_ble_eq_true rfl⟩) ⟨wd_blind, va_recv hK hPc (ci := 11) (q0 := 0) rfl rfl, wd_ok hPc hK hDc hN⟩ rfl rfl hl.1 rfl (lv_room (Nat.le_of_ble_eq_true rfl)) dX11_done_6 ⟨Nat.le_of_ble_eq_true rfl, Nat.le_of_ble_eq_true rfl⟩) hP hD hS hA [0, 1, 2, 3, 4, 5, 12, 13, 14] [6, 7, 8, 9, 10, 11] rfl rfl (by decide) (by decide) (fun r2 u H locs hv hP hD hS => ?_)
  obtain ⟨a11_to_3, a11_made_4⟩ := u
  obtain ⟨hz_r2, hv⟩ := hv
  have hP : va_P D vwCl [oX11 ad s11_d s11_stepMany s11_kind s11_many s11_partMany s11_rule s11_ticks s11_hand s11_g s11_beganElsewhere s11_dBefore s11_fBefore s11_fFirst s11_weightMany s11_tailTold, aI cy (ad 41) 8 a11_steps, aI cy (ad 43) 16 a11_a, aI cy (ad 44) 4 a11_b, aI cy (ad 45) 4 a11_e, aI cy (ad 46) 4 a11_h, aJ cy (ad 47) 4 a11_sums, aI cy (ad 50) 16 a11_on, aI cy (ad 51) 16 a11_often, aI cy (ad 52) 256 a11_given, aI cy (ad 53) 256 a11_wished, aJ cy (ad 54) 256 a11_firstSum, aJ cy (ad 56) 4 a11_now_1, aJ cy (ad 57) 4 a11_to_3, aI cy (ad 58) 3 a11_made_4] H := hP.sub [6, 7, 8, 9, 10, 11, 0, 1, 2, 3, 4, 5, 12, 13, 14] rfl
  have hD : va_D A [oX11 ad s11_d s11_stepMany s11_kind s11_many s11_partMany s11_rule s11_ticks s11_hand s11_g s11_beganElsewhere s11_dBefore s11_fBefore s11_fFirst s11_weightMany s11_tailTold, aI cy (ad 41) 8 a11_steps, aI cy (ad 43) 16 a11_a, aI cy (ad 44) 4 a11_b, aI cy (ad 45) 4 a11_e, aI cy (ad 46) 4 a11_h, aJ cy (ad 47) 4 a11_sums, aI cy (ad 50) 16 a11_on, aI cy (ad 51) 16 a11_often, aI cy (ad 52) 256 a11_given, aI cy (ad 53) 256 a11_wished, aJ cy (ad 54) 256 a11_firstSum, aJ cy (ad 56) 4 a11_now_1, aJ cy (ad 57) 4 a11_to_3, aI cy (ad 58) 3 a11_made_4] := hD.sub [6, 7, 8, 9, 10, 11, 0, 1, 2, 3, 4, 5, 12, 13, 14] (by decide) rfl
  refine lv_if_ne (tgt := 14) hx hb dX11_done_9 (by decide) (fun c_9 => ?_) (fun c_9 => ?_)
  · have hv := hv.1 c_9
    refine lv_aload_n hx hb dX11_done_14 rfl (lv_at hl 0 rfl) ?_
    refine va_get (D := D) (ci := 11) (v := .ref (ad 58)) (C := RX11) (T := TX11) (N := 35) hx hb hts in_X11_done_11 hown hK hP 0 rfl rfl 32 (by decide) (hts _ lk_X11_done_72) (fun _ h9 => h9) rfl dX11_done_15 ?_
    refine lv_iconst (v := 0) hx hb dX11_done_18 (by decide) ?_
    refine va_iald hx hb hK hP 14 0 rfl rfl hv.1 dX11_done_19 ?_
    refine lv_topi (fun g5 h_g5 => ?_)
    have hv := hv.2 g5 h_g5
    refine lv_istore_n (lv' := [(2, .int g5), (0, .ref (ad 11)), (1, .int x1)]) hx hb dX11_done_20 rfl hl (by decide) rfl (fun ls hl => ?_)
    refine lv_aload_n hx hb dX11_done_21 rfl (lv_at hl 1 rfl) ?_
    refine va_get (D := D) (ci := 11) (v := .int s11_kind) (C := RX11) (T := TX11) (N := 35) hx hb hts in_X11_done_11 hown hK hP 0 rfl rfl 2 (by decide) (hts _ lk_X11_done_103) (fun _ h9 => h9) rfl dX11_done_22 ?_
    refine lv_iconst (v := 3) hx hb dX11_done_25 (by decide) ?_
    have jn99 : ∀ (l2_6 : Int32) (s11_dBefore_7 : Int32) (s11_fBefore_8 : Int32) (s11_fFirst_9 : Int32) (H : Heap) (locs : List Loc) (ls : Array Slot), vJ_X11_done_99 s11_kind s11_many s11_partMany s11_rule s11_ticks s11_hand a11_sums a11_on a11_often a11_given a11_wished a11_firstSum x1 K a11_now_1 a11_to_3 a11_made_4 l2_6 s11_dBefore_7 s11_fBefore_8 s11_fFirst_9 → lv_has ls 4 [(2, .int l2_6), (0, .ref (ad 11)), (1, .int x1)] → va_P D vwCl [oX11 ad s11_d s11_stepMany s11_kind s11_many s11_partMany s11_rule s11_ticks s11_hand s11_g s11_beganElsewhere s11_dBefore_7 s11_fBefore_8 s11_fFirst_9 s11_weightMany s11_tailTold, aI cy (ad 41) 8 a11_steps, aI cy (ad 43) 16 a11_a, aI cy (ad 44) 4 a11_b, aI cy (ad 45) 4 a11_e, aI cy (ad 46) 4 a11_h, aJ cy (ad 47) 4 a11_sums, aI cy (ad 50) 16 a11_on, aI cy (ad 51) 16 a11_often, aI cy (ad 52) 256 a11_given, aI cy (ad 53) 256 a11_wished, aJ cy (ad 54) 256 a11_firstSum, aJ cy (ad 56) 4 a11_now_1, aJ cy (ad 57) 4 a11_to_3, aI cy (ad 58) 3 a11_made_4] H → va_D A [oX11 ad s11_d s11_stepMany s11_kind s11_many s11_partMany s11_rule s11_ticks s11_hand s11_g s11_beganElsewhere s11_dBefore_7 s11_fBefore_8 s11_fFirst_9 s11_weightMany s11_tailTold, aI cy (ad 41) 8 a11_steps, aI cy (ad 43) 16 a11_a, aI cy (ad 44) 4 a11_b, aI cy (ad 45) 4 a11_e, aI cy (ad 46) 4 a11_h, aJ cy (ad 47) 4 a11_sums, aI cy (ad 50) 16 a11_on, aI cy (ad 51) 16 a11_often, aI cy (ad 52) 256 a11_given, aI cy (ad 53) 256 a11_wished, aJ cy (ad 54) 256 a11_firstSum, aJ cy (ad 56) 4 a11_now_1, aJ cy (ad 57) 4 a11_to_3, aI cy (ad 58) 3 a11_made_4] → va_S A s.heap H locs → W p l e rm_X11_done s m ([.ref (ad 11), .int x1] : List Value).toArray below meth c H locs 0 0 Q (F0 m 99 ls []) := by
      intro l2_6 s11_dBefore_7 s11_fBefore_8 s11_fFirst_9 H locs ls hv hl hP hD hS
      unfold vJ_X11_done_99 at hv
      refine lv_iconst (v := 0) hx hb dX11_done_99 (by decide) ?_
      refine lv_istore_n (lv' := [(3, .int (0 : Int32)), (2, .int l2_6), (0, .ref (ad 11)), (1, .int x1)]) hx hb dX11_done_100 rfl hl (by decide) rfl (fun ls hl => ?_)
      have lp101 : ∀ (n101 : Nat) (l3_10 : Int32) (a11_sums_11 : Nat → Int64) (H : Heap) (locs : List Loc) (ls : Array Slot), vfix (vF_X11_done_101 s11_kind s11_many s11_partMany s11_rule s11_ticks s11_hand a11_on a11_often a11_given a11_wished a11_firstSum x1 K a11_now_1 a11_to_3 a11_made_4 l2_6 s11_dBefore_7 s11_fBefore_8 s11_fFirst_9) n101 (l3_10, a11_sums_11) → lv_has ls 4 [(3, .int l3_10), (2, .int l2_6), (0, .ref (ad 11)), (1, .int x1)] → va_P D vwCl [oX11 ad s11_d s11_stepMany s11_kind s11_many s11_partMany s11_rule s11_ticks s11_hand s11_g s11_beganElsewhere s11_dBefore_7 s11_fBefore_8 s11_fFirst_9 s11_weightMany s11_tailTold, aI cy (ad 41) 8 a11_steps, aI cy (ad 43) 16 a11_a, aI cy (ad 44) 4 a11_b, aI cy (ad 45) 4 a11_e, aI cy (ad 46) 4 a11_h, aJ cy (ad 47) 4 a11_sums_11, aI cy (ad 50) 16 a11_on, aI cy (ad 51) 16 a11_often, aI cy (ad 52) 256 a11_given, aI cy (ad 53) 256 a11_wished, aJ cy (ad 54) 256 a11_firstSum, aJ cy (ad 56) 4 a11_now_1, aJ cy (ad 57) 4 a11_to_3, aI cy (ad 58) 3 a11_made_4] H → va_D A [oX11 ad s11_d s11_stepMany s11_kind s11_many s11_partMany s11_rule s11_ticks s11_hand s11_g s11_beganElsewhere s11_dBefore_7 s11_fBefore_8 s11_fFirst_9 s11_weightMany s11_tailTold, aI cy (ad 41) 8 a11_steps, aI cy (ad 43) 16 a11_a, aI cy (ad 44) 4 a11_b, aI cy (ad 45) 4 a11_e, aI cy (ad 46) 4 a11_h, aJ cy (ad 47) 4 a11_sums_11, aI cy (ad 50) 16 a11_on, aI cy (ad 51) 16 a11_often, aI cy (ad 52) 256 a11_given, aI cy (ad 53) 256 a11_wished, aJ cy (ad 54) 256 a11_firstSum, aJ cy (ad 56) 4 a11_now_1, aJ cy (ad 57) 4 a11_to_3, aI cy (ad 58) 3 a11_made_4] → va_S A s.heap H locs → W p l e rm_X11_done s m ([.ref (ad 11), .int x1] : List Value).toArray below meth c H locs 0 0 Q (F0 m 101 ls []) := by
        intro n101
        induction n101 with
        | zero => intro l3_10 a11_sums_11 H locs ls hv; exact hv.elim
        | succ n101 ih101 =>
          intro l3_10 a11_sums_11 H locs ls hv hl hP hD hS
          have hv : vB_X11_done_101 s11_kind s11_many s11_partMany s11_rule s11_ticks s11_hand a11_on a11_often a11_given a11_wished a11_firstSum x1 K a11_now_1 a11_to_3 a11_made_4 l2_6 s11_dBefore_7 s11_fBefore_8 s11_fFirst_9 (fun z0 z1 => vfix (vF_X11_done_101 s11_kind s11_many s11_partMany s11_rule s11_ticks s11_hand a11_on a11_often a11_given a11_wished a11_firstSum x1 K a11_now_1 a11_to_3 a11_made_4 l2_6 s11_dBefore_7 s11_fBefore_8 s11_fFirst_9) n101 (z0, z1)) l3_10 a11_sums_11 := hv
          unfold vB_X11_done_101 at hv
          refine lv_iload_n hx hb dX11_done_101 rfl (lv_at hl 0 rfl) ?_
          refine lv_aload_n hx hb dX11_done_102 rfl (lv_at hl 2 rfl) ?_
          refine va_get (D := D) (ci := 11) (v := .int s11_many) (C := RX11) (T := TX11) (N := 35) hx hb hts in_X11_done_11 hown hK hP 0 rfl rfl 3 (by decide) (hts _ lk_X11_done_16) (fun _ h9 => h9) rfl dX11_done_103 ?_
          refine lv_icmp_ge (tgt := 127) hx hb dX11_done_106 (by decide) (fun c_106 => ?_) (fun c_106 => ?_)
          · have hv := hv.1 c_106
            refine lv_aload_n hx hb dX11_done_127 rfl (lv_at hl 2 rfl) ?_
            refine va_get (D := D) (ci := 11) (v := .ref (ad 52)) (C := RX11) (T := TX11) (N := 35) hx hb hts in_X11_done_11 hown hK hP 0 rfl rfl 24 (by decide) (hts _ lk_X11_done_54) (fun _ h9 => h9) rfl dX11_done_128 ?_
            refine lv_aload_n hx hb dX11_done_131 rfl (lv_at hl 2 rfl) ?_
            refine va_get (D := D) (ci := 11) (v := .int s11_ticks) (C := RX11) (T := TX11) (N := 35) hx hb hts in_X11_done_11 hown hK hP 0 rfl rfl 6 (by decide) (hts _ lk_X11_done_81) (fun _ h9 => h9) rfl dX11_done_132 ?_
            refine lv_sipush (v := 256) hx hb dX11_done_135 (by decide) ?_
            refine lv_irem hx hb dX11_done_138 (by decide) ?_
            refine lv_topi (fun e12 h_e12 => ?_)
            have hv := hv e12 h_e12
            refine lv_iload_n hx hb dX11_done_139 rfl (lv_at hl 1 rfl) ?_
            refine k_iast hx hb hK hP hD hS 9 0 rfl rfl hv.1 dX11_done_140 (fun a11_given_13 H locs h_a11_given_13 hP hD hS => ?_)
            have hv := hv.2 a11_given_13 h_a11_given_13
            have hP : va_P D vwCl [oX11 ad s11_d s11_stepMany s11_kind s11_many s11_partMany s11_rule s11_ticks s11_hand s11_g s11_beganElsewhere s11_dBefore_7 s11_fBefore_8 s11_fFirst_9 s11_weightMany s11_tailTold, aI cy (ad 41) 8 a11_steps, aI cy (ad 43) 16 a11_a, aI cy (ad 44) 4 a11_b, aI cy (ad 45) 4 a11_e, aI cy (ad 46) 4 a11_h, aJ cy (ad 47) 4 a11_sums_11, aI cy (ad 50) 16 a11_on, aI cy (ad 51) 16 a11_often, aI cy (ad 52) 256 a11_given_13, aI cy (ad 53) 256 a11_wished, aJ cy (ad 54) 256 a11_firstSum, aJ cy (ad 56) 4 a11_now_1, aJ cy (ad 57) 4 a11_to_3, aI cy (ad 58) 3 a11_made_4] H := hP
            have hD : va_D A [oX11 ad s11_d s11_stepMany s11_kind s11_many s11_partMany s11_rule s11_ticks s11_hand s11_g s11_beganElsewhere s11_dBefore_7 s11_fBefore_8 s11_fFirst_9 s11_weightMany s11_tailTold, aI cy (ad 41) 8 a11_steps, aI cy (ad 43) 16 a11_a, aI cy (ad 44) 4 a11_b, aI cy (ad 45) 4 a11_e, aI cy (ad 46) 4 a11_h, aJ cy (ad 47) 4 a11_sums_11, aI cy (ad 50) 16 a11_on, aI cy (ad 51) 16 a11_often, aI cy (ad 52) 256 a11_given_13, aI cy (ad 53) 256 a11_wished, aJ cy (ad 54) 256 a11_firstSum, aJ cy (ad 56) 4 a11_now_1, aJ cy (ad 57) 4 a11_to_3, aI cy (ad 58) 3 a11_made_4] := hD
            refine lv_aload_n hx hb dX11_done_141 rfl (lv_at hl 2 rfl) ?_
            refine va_get (D := D) (ci := 11) (v := .ref (ad 53)) (C := RX11) (T := TX11) (N := 35) hx hb hts in_X11_done_11 hown hK hP 0 rfl rfl 25 (by decide) (hts _ lk_X11_done_57) (fun _ h9 => h9) rfl dX11_done_142 ?_
            refine lv_aload_n hx hb dX11_done_145 rfl (lv_at hl 2 rfl) ?_
            refine va_get (D := D) (ci := 11) (v := .int s11_ticks) (C := RX11) (T := TX11) (N := 35) hx hb hts in_X11_done_11 hown hK hP 0 rfl rfl 6 (by decide) (hts _ lk_X11_done_81) (fun _ h9 => h9) rfl dX11_done_146 ?_
            refine lv_sipush (v := 256) hx hb dX11_done_149 (by decide) ?_
            refine lv_irem hx hb dX11_done_152 (by decide) ?_
            refine lv_topi (fun e14 h_e14 => ?_)
            have hv := hv e14 h_e14
            refine lv_iload_n hx hb dX11_done_153 rfl (lv_at hl 3 rfl) ?_
            refine k_iast hx hb hK hP hD hS 10 0 rfl rfl hv.1 dX11_done_154 (fun a11_wished_15 H locs h_a11_wished_15 hP hD hS => ?_)
            have hv := hv.2 a11_wished_15 h_a11_wished_15
            have hP : va_P D vwCl [oX11 ad s11_d s11_stepMany s11_kind s11_many s11_partMany s11_rule s11_ticks s11_hand s11_g s11_beganElsewhere s11_dBefore_7 s11_fBefore_8 s11_fFirst_9 s11_weightMany s11_tailTold, aI cy (ad 41) 8 a11_steps, aI cy (ad 43) 16 a11_a, aI cy (ad 44) 4 a11_b, aI cy (ad 45) 4 a11_e, aI cy (ad 46) 4 a11_h, aJ cy (ad 47) 4 a11_sums_11, aI cy (ad 50) 16 a11_on, aI cy (ad 51) 16 a11_often, aI cy (ad 52) 256 a11_given_13, aI cy (ad 53) 256 a11_wished_15, aJ cy (ad 54) 256 a11_firstSum, aJ cy (ad 56) 4 a11_now_1, aJ cy (ad 57) 4 a11_to_3, aI cy (ad 58) 3 a11_made_4] H := hP
            have hD : va_D A [oX11 ad s11_d s11_stepMany s11_kind s11_many s11_partMany s11_rule s11_ticks s11_hand s11_g s11_beganElsewhere s11_dBefore_7 s11_fBefore_8 s11_fFirst_9 s11_weightMany s11_tailTold, aI cy (ad 41) 8 a11_steps, aI cy (ad 43) 16 a11_a, aI cy (ad 44) 4 a11_b, aI cy (ad 45) 4 a11_e, aI cy (ad 46) 4 a11_h, aJ cy (ad 47) 4 a11_sums_11, aI cy (ad 50) 16 a11_on, aI cy (ad 51) 16 a11_often, aI cy (ad 52) 256 a11_given_13, aI cy (ad 53) 256 a11_wished_15, aJ cy (ad 54) 256 a11_firstSum, aJ cy (ad 56) 4 a11_now_1, aJ cy (ad 57) 4 a11_to_3, aI cy (ad 58) 3 a11_made_4] := hD
            refine lv_aload_n hx hb dX11_done_155 rfl (lv_at hl 2 rfl) ?_
            refine va_get (D := D) (ci := 11) (v := .ref (ad 54)) (C := RX11) (T := TX11) (N := 35) hx hb hts in_X11_done_11 hown hK hP 0 rfl rfl 26 (by decide) (hts _ lk_X11_done_60) (fun _ h9 => h9) rfl dX11_done_156 ?_
            refine lv_aload_n hx hb dX11_done_159 rfl (lv_at hl 2 rfl) ?_
            refine va_get (D := D) (ci := 11) (v := .int s11_ticks) (C := RX11) (T := TX11) (N := 35) hx hb hts in_X11_done_11 hown hK hP 0 rfl rfl 6 (by decide) (hts _ lk_X11_done_81) (fun _ h9 => h9) rfl dX11_done_160 ?_
            refine lv_sipush (v := 256) hx hb dX11_done_163 (by decide) ?_
            refine lv_irem hx hb dX11_done_166 (by decide) ?_
            refine lv_topi (fun e16 h_e16 => ?_)
            have hv := hv e16 h_e16
            refine lv_aload_n hx hb dX11_done_167 rfl (lv_at hl 2 rfl) ?_
            refine va_get (D := D) (ci := 11) (v := .ref (ad 47)) (C := RX11) (T := TX11) (N := 35) hx hb hts in_X11_done_11 hown hK hP 0 rfl rfl 15 (by decide) (hts _ lk_X11_done_38) (fun _ h9 => h9) rfl dX11_done_168 ?_
            refine lv_iconst (v := 0) hx hb dX11_done_171 (by decide) ?_
            refine va_lald hx hb hK hP 6 1 rfl rfl hv.1 dX11_done_172 ?_
            refine lv_topl (fun g17 h_g17 => ?_)
            have hv := hv.2 g17 h_g17
            refine k_last hx hb hK hP hD hS 11 1 rfl rfl hv.1 dX11_done_173 (fun a11_firstSum_18 H locs h_a11_firstSum_18 hP hD hS => ?_)
            have hv := hv.2 a11_firstSum_18 h_a11_firstSum_18
            have hP : va_P D vwCl [oX11 ad s11_d s11_stepMany s11_kind s11_many s11_partMany s11_rule s11_ticks s11_hand s11_g s11_beganElsewhere s11_dBefore_7 s11_fBefore_8 s11_fFirst_9 s11_weightMany s11_tailTold, aI cy (ad 41) 8 a11_steps, aI cy (ad 43) 16 a11_a, aI cy (ad 44) 4 a11_b, aI cy (ad 45) 4 a11_e, aI cy (ad 46) 4 a11_h, aJ cy (ad 47) 4 a11_sums_11, aI cy (ad 50) 16 a11_on, aI cy (ad 51) 16 a11_often, aI cy (ad 52) 256 a11_given_13, aI cy (ad 53) 256 a11_wished_15, aJ cy (ad 54) 256 a11_firstSum_18, aJ cy (ad 56) 4 a11_now_1, aJ cy (ad 57) 4 a11_to_3, aI cy (ad 58) 3 a11_made_4] H := hP
            have hD : va_D A [oX11 ad s11_d s11_stepMany s11_kind s11_many s11_partMany s11_rule s11_ticks s11_hand s11_g s11_beganElsewhere s11_dBefore_7 s11_fBefore_8 s11_fFirst_9 s11_weightMany s11_tailTold, aI cy (ad 41) 8 a11_steps, aI cy (ad 43) 16 a11_a, aI cy (ad 44) 4 a11_b, aI cy (ad 45) 4 a11_e, aI cy (ad 46) 4 a11_h, aJ cy (ad 47) 4 a11_sums_11, aI cy (ad 50) 16 a11_on, aI cy (ad 51) 16 a11_often, aI cy (ad 52) 256 a11_given_13, aI cy (ad 53) 256 a11_wished_15, aJ cy (ad 54) 256 a11_firstSum_18, aJ cy (ad 56) 4 a11_now_1, aJ cy (ad 57) 4 a11_to_3, aI cy (ad 58) 3 a11_made_4] := hD
            refine lv_aload_n hx hb dX11_done_174 rfl (lv_at hl 2 rfl) ?_
            refine lv_dup hx hb dX11_done_175 rfl ?_
            refine va_get (D := D) (ci := 11) (v := .int s11_ticks) (C := RX11) (T := TX11) (N := 35) hx hb hts in_X11_done_11 hown hK hP 0 rfl rfl 6 (by decide) (hts _ lk_X11_done_81) (fun _ h9 => h9) rfl dX11_done_176 ?_
            refine lv_iconst (v := 1) hx hb dX11_done_179 (by decide) ?_
            refine lv_iadd hx hb dX11_done_180 ?_
            refine lv_topi (fun e19 h_e19 => ?_)
            have hv := hv e19 h_e19
            refine va_put (D := D) (ci := 11) (v := .int e19) (ty := .int) (C := RX11) (T := TX11) (N := 35) hx hb hts in_X11_done_11 tyX11 tyX11_ok nmX11 hown hK hP hD hS 0 rfl rfl 6 (by decide) (hts _ lk_X11_done_81) (fun _ h9 => h9) rfl (by decide +kernel) rfl rfl (Nat.le_of_ble_eq_true rfl) dX11_done_181 (fun H locs hP hD hS => ?_)
            have hP : va_P D vwCl [oX11 ad s11_d s11_stepMany s11_kind s11_many s11_partMany s11_rule e19 s11_hand s11_g s11_beganElsewhere s11_dBefore_7 s11_fBefore_8 s11_fFirst_9 s11_weightMany s11_tailTold, aI cy (ad 41) 8 a11_steps, aI cy (ad 43) 16 a11_a, aI cy (ad 44) 4 a11_b, aI cy (ad 45) 4 a11_e, aI cy (ad 46) 4 a11_h, aJ cy (ad 47) 4 a11_sums_11, aI cy (ad 50) 16 a11_on, aI cy (ad 51) 16 a11_often, aI cy (ad 52) 256 a11_given_13, aI cy (ad 53) 256 a11_wished_15, aJ cy (ad 54) 256 a11_firstSum_18, aJ cy (ad 56) 4 a11_now_1, aJ cy (ad 57) 4 a11_to_3, aI cy (ad 58) 3 a11_made_4] H := hP
            have hD : va_D A [oX11 ad s11_d s11_stepMany s11_kind s11_many s11_partMany s11_rule e19 s11_hand s11_g s11_beganElsewhere s11_dBefore_7 s11_fBefore_8 s11_fFirst_9 s11_weightMany s11_tailTold, aI cy (ad 41) 8 a11_steps, aI cy (ad 43) 16 a11_a, aI cy (ad 44) 4 a11_b, aI cy (ad 45) 4 a11_e, aI cy (ad 46) 4 a11_h, aJ cy (ad 47) 4 a11_sums_11, aI cy (ad 50) 16 a11_on, aI cy (ad 51) 16 a11_often, aI cy (ad 52) 256 a11_given_13, aI cy (ad 53) 256 a11_wished_15, aJ cy (ad 54) 256 a11_firstSum_18, aJ cy (ad 56) 4 a11_now_1, aJ cy (ad 57) 4 a11_to_3, aI cy (ad 58) 3 a11_made_4] := hD
            refine lv_aload_n hx hb dX11_done_184 rfl (lv_at hl 2 rfl) ?_
            refine va_get (D := D) (ci := 11) (v := .int s11_kind) (C := RX11) (T := TX11) (N := 35) hx hb hts in_X11_done_11 hown hK hP 0 rfl rfl 2 (by decide) (hts _ lk_X11_done_103) (fun _ h9 => h9) rfl dX11_done_185 ?_
            refine lv_iconst (v := 4) hx hb dX11_done_188 (by decide) ?_
            refine lv_icmp_ne (tgt := 197) hx hb dX11_done_189 (by decide) (fun c_189 => ?_) (fun c_189 => ?_)
            · have hv := hv.1 c_189
              refine lv_iconst (v := 1) hx hb dX11_done_197 (by decide) ?_
              rw [← hQ]
              exact k_zret hx hb hr hlocks hS (e19, s11_hand, s11_dBefore_7, s11_fBefore_8, s11_fFirst_9, a11_sums_11, a11_on, a11_often, a11_given_13, a11_wished_15, a11_firstSum_18, a11_now_1, a11_to_3, a11_made_4) hP hD (by decide) hv dX11_done_198
            · have hv := hv.2 c_189
              refine lv_aload_n hx hb dX11_done_192 rfl (lv_at hl 2 rfl) ?_
              refine lv_iload_n hx hb dX11_done_193 rfl (lv_at hl 1 rfl) ?_
              have hPc := hP.sub (ws' := [oX11 ad s11_d s11_stepMany s11_kind s11_many s11_partMany s11_rule e19 s11_hand s11_g s11_beganElsewhere s11_dBefore_7 s11_fBefore_8 s11_fFirst_9 s11_weightMany s11_tailTold, aI cy (ad 50) 16 a11_on, aI cy (ad 51) 16 a11_often]) [0, 7, 8] rfl
              have hDc := hD.sub (ws' := [oX11 ad s11_d s11_stepMany s11_kind s11_many s11_partMany s11_rule e19 s11_hand s11_g s11_beganElsewhere s11_dBefore_7 s11_fBefore_8 s11_fFirst_9 s11_weightMany s11_tailTold, aI cy (ad 50) 16 a11_on, aI cy (ad 51) 16 a11_often]) [0, 7, 8] (by decide) rfl
              refine k_calv (wc := [oX11 ad s11_d s11_stepMany s11_kind s11_many s11_partMany s11_rule e19 s11_hand s11_g s11_beganElsewhere s11_dBefore_7 s11_fBefore_8 s11_fFirst_9 s11_weightMany s11_tailTold, aI cy (ad 50) 16 a11_on, aI cy (ad 51) 16 a11_often]) (wr := [aI cy (ad 41) 8 a11_steps, aI cy (ad 43) 16 a11_a, aI cy (ad 44) 4 a11_b, aI cy (ad 45) 4 a11_e, aI cy (ad 46) 4 a11_h, aJ cy (ad 47) 4 a11_sums_11, aI cy (ad 52) 256 a11_given_13, aI cy (ad 53) 256 a11_wished_15, aJ cy (ad 54) 256 a11_firstSum_18, aJ cy (ad 56) 4 a11_now_1, aJ cy (ad 57) 4 a11_to_3, aI cy (ad 58) 3 a11_made_4]) (va_runV (As := [.int l2_6]) (rest := []) ⟨hx, hb, hml, hown, hts⟩ (m_X11_turn l D cy ad s11_d s11_stepMany s11_kind s11_many s11_partMany s11_rule e19 s11_hand s11_g s11_beganElsewhere s11_dBefore_7 s11_fBefore_8 s11_fFirst_9 s11_weightMany s11_tailTold a11_on a11_often l2_6 H.size hv) (cwV 1 hts gX11_done_X11_turn rfl rfl rfl (by decide +kernel) ⟨Nat.le_of_ble_eq_true rfl, Nat.le_of_ble_eq_true rfl⟩) ⟨wd_blind, va_recv hK hPc (ci := 11) (q0 := 0) rfl rfl, wd_ok hPc hK hDc hN⟩ rfl rfl hl.1 rfl (lv_room (Nat.le_of_ble_eq_true rfl)) dX11_done_194 ⟨Nat.le_of_ble_eq_true rfl, Nat.le_of_ble_eq_true rfl⟩) hP hD hS hA [0, 7, 8] [1, 2, 3, 4, 5, 6, 9, 10, 11, 12, 13, 14] rfl rfl (by decide) (by decide) (fun u H locs hv hP hD hS => ?_)
              obtain ⟨s11_hand_20, a11_on_21, a11_often_22⟩ := u
              have hP : va_P D vwCl [oX11 ad s11_d s11_stepMany s11_kind s11_many s11_partMany s11_rule e19 s11_hand_20 s11_g s11_beganElsewhere s11_dBefore_7 s11_fBefore_8 s11_fFirst_9 s11_weightMany s11_tailTold, aI cy (ad 41) 8 a11_steps, aI cy (ad 43) 16 a11_a, aI cy (ad 44) 4 a11_b, aI cy (ad 45) 4 a11_e, aI cy (ad 46) 4 a11_h, aJ cy (ad 47) 4 a11_sums_11, aI cy (ad 50) 16 a11_on_21, aI cy (ad 51) 16 a11_often_22, aI cy (ad 52) 256 a11_given_13, aI cy (ad 53) 256 a11_wished_15, aJ cy (ad 54) 256 a11_firstSum_18, aJ cy (ad 56) 4 a11_now_1, aJ cy (ad 57) 4 a11_to_3, aI cy (ad 58) 3 a11_made_4] H := hP.sub [12, 0, 1, 2, 3, 4, 5, 13, 14, 6, 7, 8, 9, 10, 11] rfl
              have hD : va_D A [oX11 ad s11_d s11_stepMany s11_kind s11_many s11_partMany s11_rule e19 s11_hand_20 s11_g s11_beganElsewhere s11_dBefore_7 s11_fBefore_8 s11_fFirst_9 s11_weightMany s11_tailTold, aI cy (ad 41) 8 a11_steps, aI cy (ad 43) 16 a11_a, aI cy (ad 44) 4 a11_b, aI cy (ad 45) 4 a11_e, aI cy (ad 46) 4 a11_h, aJ cy (ad 47) 4 a11_sums_11, aI cy (ad 50) 16 a11_on_21, aI cy (ad 51) 16 a11_often_22, aI cy (ad 52) 256 a11_given_13, aI cy (ad 53) 256 a11_wished_15, aJ cy (ad 54) 256 a11_firstSum_18, aJ cy (ad 56) 4 a11_now_1, aJ cy (ad 57) 4 a11_to_3, aI cy (ad 58) 3 a11_made_4] := hD.sub [12, 0, 1, 2, 3, 4, 5, 13, 14, 6, 7, 8, 9, 10, 11] (by decide) rfl
              refine lv_iconst (v := 1) hx hb dX11_done_197 (by decide) ?_
              rw [← hQ]
              exact k_zret hx hb hr hlocks hS (e19, s11_hand_20, s11_dBefore_7, s11_fBefore_8, s11_fFirst_9, a11_sums_11, a11_on_21, a11_often_22, a11_given_13, a11_wished_15, a11_firstSum_18, a11_now_1, a11_to_3, a11_made_4) hP hD (by decide) hv dX11_done_198
          · have hv := hv.2 c_106
            refine lv_aload_n hx hb dX11_done_109 rfl (lv_at hl 2 rfl) ?_
            refine va_get (D := D) (ci := 11) (v := .ref (ad 47)) (C := RX11) (T := TX11) (N := 35) hx hb hts in_X11_done_11 hown hK hP 0 rfl rfl 15 (by decide) (hts _ lk_X11_done_38) (fun _ h9 => h9) rfl dX11_done_110 ?_
            refine lv_iload_n hx hb dX11_done_113 rfl (lv_at hl 0 rfl) ?_
            refine lv_aload_n hx hb dX11_done_114 rfl (lv_at hl 2 rfl) ?_
            refine va_get (D := D) (ci := 11) (v := .ref (ad 57)) (C := RX11) (T := TX11) (N := 35) hx hb hts in_X11_done_11 hown hK hP 0 rfl rfl 31 (by decide) (hts _ lk_X11_done_69) (fun _ h9 => h9) rfl dX11_done_115 ?_
            refine lv_iload_n hx hb dX11_done_118 rfl (lv_at hl 0 rfl) ?_
            refine va_lald hx hb hK hP 13 1 rfl rfl hv.1 dX11_done_119 ?_
            refine lv_topl (fun g23 h_g23 => ?_)
            have hv := hv.2 g23 h_g23
            refine k_last hx hb hK hP hD hS 6 1 rfl rfl hv.1 dX11_done_120 (fun a11_sums_24 H locs h_a11_sums_24 hP hD hS => ?_)
            have hv := hv.2 a11_sums_24 h_a11_sums_24
            have hP : va_P D vwCl [oX11 ad s11_d s11_stepMany s11_kind s11_many s11_partMany s11_rule s11_ticks s11_hand s11_g s11_beganElsewhere s11_dBefore_7 s11_fBefore_8 s11_fFirst_9 s11_weightMany s11_tailTold, aI cy (ad 41) 8 a11_steps, aI cy (ad 43) 16 a11_a, aI cy (ad 44) 4 a11_b, aI cy (ad 45) 4 a11_e, aI cy (ad 46) 4 a11_h, aJ cy (ad 47) 4 a11_sums_24, aI cy (ad 50) 16 a11_on, aI cy (ad 51) 16 a11_often, aI cy (ad 52) 256 a11_given, aI cy (ad 53) 256 a11_wished, aJ cy (ad 54) 256 a11_firstSum, aJ cy (ad 56) 4 a11_now_1, aJ cy (ad 57) 4 a11_to_3, aI cy (ad 58) 3 a11_made_4] H := hP
            have hD : va_D A [oX11 ad s11_d s11_stepMany s11_kind s11_many s11_partMany s11_rule s11_ticks s11_hand s11_g s11_beganElsewhere s11_dBefore_7 s11_fBefore_8 s11_fFirst_9 s11_weightMany s11_tailTold, aI cy (ad 41) 8 a11_steps, aI cy (ad 43) 16 a11_a, aI cy (ad 44) 4 a11_b, aI cy (ad 45) 4 a11_e, aI cy (ad 46) 4 a11_h, aJ cy (ad 47) 4 a11_sums_24, aI cy (ad 50) 16 a11_on, aI cy (ad 51) 16 a11_often, aI cy (ad 52) 256 a11_given, aI cy (ad 53) 256 a11_wished, aJ cy (ad 54) 256 a11_firstSum, aJ cy (ad 56) 4 a11_now_1, aJ cy (ad 57) 4 a11_to_3, aI cy (ad 58) 3 a11_made_4] := hD
            obtain ⟨i25, h_i25⟩ : ∃ y : Int32, y = l3_10 + 1 := ⟨_, rfl⟩
            refine lv_iinc (v := i25) (lv' := [(3, .int i25), (2, .int l2_6), (0, .ref (ad 11)), (1, .int x1)]) hx hb dX11_done_121 hl (k := 0) rfl (by rw [h_i25]; rfl) (by decide) rfl (fun ls hl => ?_)
            have hv := hv i25 h_i25
            refine lv_goto (tgt := 101) hx hb dX11_done_124 (by decide) ?_
            exact ih101 i25 a11_sums_24 H locs ls hv (lv_sub hl [0, 1, 2, 3] rfl) hP hD hS
      obtain ⟨nn, hv⟩ := hv
      exact lp101 nn (0 : Int32) a11_sums H locs ls hv (lv_sub hl [0, 1, 2, 3] rfl) hP hD hS
    refine lv_icmp_ne (tgt := 99) hx hb dX11_done_26 (by decide) (fun c_26 => ?_) (fun c_26 => ?_)
    · have hv := hv.1 c_26
      exact jn99 g5 s11_dBefore s11_fBefore s11_fFirst H locs ls hv (lv_sub hl [0, 1, 2] rfl) hP hD hS
    · have hv := hv.2 c_26
      refine lv_aload_n hx hb dX11_done_29 rfl (lv_at hl 1 rfl) ?_
      refine va_get (D := D) (ci := 11) (v := .int s11_many) (C := RX11) (T := TX11) (N := 35) hx hb hts in_X11_done_11 hown hK hP 0 rfl rfl 3 (by decide) (hts _ lk_X11_done_16) (fun _ h9 => h9) rfl dX11_done_30 ?_
      refine lv_iconst (v := 3) hx hb dX11_done_33 (by decide) ?_
      have jn47 : ∀ (t26 : Int32) (H : Heap) (locs : List Loc) (ls : Array Slot), vJ_X11_done_47 s11_kind s11_many s11_partMany s11_rule s11_ticks s11_hand s11_dBefore s11_fBefore s11_fFirst a11_sums a11_on a11_often a11_given a11_wished a11_firstSum x1 K a11_now_1 a11_to_3 a11_made_4 g5 t26 → lv_has ls 4 [(2, .int g5), (0, .ref (ad 11)), (1, .int x1)] → va_P D vwCl [oX11 ad s11_d s11_stepMany s11_kind s11_many s11_partMany s11_rule s11_ticks s11_hand s11_g s11_beganElsewhere s11_dBefore s11_fBefore s11_fFirst s11_weightMany s11_tailTold, aI cy (ad 41) 8 a11_steps, aI cy (ad 43) 16 a11_a, aI cy (ad 44) 4 a11_b, aI cy (ad 45) 4 a11_e, aI cy (ad 46) 4 a11_h, aJ cy (ad 47) 4 a11_sums, aI cy (ad 50) 16 a11_on, aI cy (ad 51) 16 a11_often, aI cy (ad 52) 256 a11_given, aI cy (ad 53) 256 a11_wished, aJ cy (ad 54) 256 a11_firstSum, aJ cy (ad 56) 4 a11_now_1, aJ cy (ad 57) 4 a11_to_3, aI cy (ad 58) 3 a11_made_4] H → va_D A [oX11 ad s11_d s11_stepMany s11_kind s11_many s11_partMany s11_rule s11_ticks s11_hand s11_g s11_beganElsewhere s11_dBefore s11_fBefore s11_fFirst s11_weightMany s11_tailTold, aI cy (ad 41) 8 a11_steps, aI cy (ad 43) 16 a11_a, aI cy (ad 44) 4 a11_b, aI cy (ad 45) 4 a11_e, aI cy (ad 46) 4 a11_h, aJ cy (ad 47) 4 a11_sums, aI cy (ad 50) 16 a11_on, aI cy (ad 51) 16 a11_often, aI cy (ad 52) 256 a11_given, aI cy (ad 53) 256 a11_wished, aJ cy (ad 54) 256 a11_firstSum, aJ cy (ad 56) 4 a11_now_1, aJ cy (ad 57) 4 a11_to_3, aI cy (ad 58) 3 a11_made_4] → va_S A s.heap H locs → W p l e rm_X11_done s m ([.ref (ad 11), .int x1] : List Value).toArray below meth c H locs 0 0 Q (F0 m 47 ls [.int t26]) := by
        intro t26 H locs ls hv hl hP hD hS
        unfold vJ_X11_done_47 at hv
        refine lv_istore_n (lv' := [(3, .int t26), (2, .int g5), (0, .ref (ad 11)), (1, .int x1)]) hx hb dX11_done_47 rfl hl (by decide) rfl (fun ls hl => ?_)
        refine lv_iload_n hx hb dX11_done_48 rfl (lv_at hl 1 rfl) ?_
        refine lv_aload_n hx hb dX11_done_49 rfl (lv_at hl 2 rfl) ?_
        refine va_get (D := D) (ci := 11) (v := .ref (ad 58)) (C := RX11) (T := TX11) (N := 35) hx hb hts in_X11_done_11 hown hK hP 0 rfl rfl 32 (by decide) (hts _ lk_X11_done_72) (fun _ h9 => h9) rfl dX11_done_50 ?_
        refine lv_iconst (v := 1) hx hb dX11_done_53 (by decide) ?_
        refine va_iald hx hb hK hP 14 0 rfl rfl hv.1 dX11_done_54 ?_
        refine lv_topi (fun g27 h_g27 => ?_)
        have hv := hv.2 g27 h_g27
        refine lv_aload_n hx hb dX11_done_55 rfl (lv_at hl 2 rfl) ?_
        refine va_get (D := D) (ci := 11) (v := .int s11_dBefore) (C := RX11) (T := TX11) (N := 35) hx hb hts in_X11_done_11 hown hK hP 0 rfl rfl 19 (by decide) (hts _ lk_X11_done_87) (fun _ h9 => h9) rfl dX11_done_56 ?_
        refine lv_isub hx hb dX11_done_59 ?_
        refine lv_topi (fun e28 h_e28 => ?_)
        have hv := hv e28 h_e28
        refine lv_iload_n hx hb dX11_done_60 rfl (lv_at hl 0 rfl) ?_
        refine lv_iadd hx hb dX11_done_61 ?_
        refine lv_topi (fun e29 h_e29 => ?_)
        have hv := hv e29 h_e29
        refine lv_iconst (v := 2) hx hb dX11_done_62 (by decide) ?_
        refine lv_aload_n hx hb dX11_done_63 rfl (lv_at hl 2 rfl) ?_
        refine va_get (D := D) (ci := 11) (v := .int s11_fBefore) (C := RX11) (T := TX11) (N := 35) hx hb hts in_X11_done_11 hown hK hP 0 rfl rfl 20 (by decide) (hts _ lk_X11_done_90) (fun _ h9 => h9) rfl dX11_done_64 ?_
        refine lv_imul hx hb dX11_done_67 ?_
        refine lv_topi (fun e30 h_e30 => ?_)
        have hv := hv e30 h_e30
        refine lv_isub hx hb dX11_done_68 ?_
        refine lv_topi (fun e31 h_e31 => ?_)
        have hv := hv e31 h_e31
        refine lv_aload_n hx hb dX11_done_69 rfl (lv_at hl 2 rfl) ?_
        refine va_get (D := D) (ci := 11) (v := .int s11_fFirst) (C := RX11) (T := TX11) (N := 35) hx hb hts in_X11_done_11 hown hK hP 0 rfl rfl 21 (by decide) (hts _ lk_X11_done_93) (fun _ h9 => h9) rfl dX11_done_70 ?_
        refine lv_iadd hx hb dX11_done_73 ?_
        refine lv_topi (fun e32 h_e32 => ?_)
        have hv := hv e32 h_e32
        refine lv_iadd hx hb dX11_done_74 ?_
        refine lv_topi (fun e33 h_e33 => ?_)
        have hv := hv e33 h_e33
        refine lv_istore_n (lv' := [(2, .int e33), (3, .int t26), (0, .ref (ad 11)), (1, .int x1)]) hx hb dX11_done_75 rfl hl (by decide) rfl (fun ls hl => ?_)
        refine lv_aload_n hx hb dX11_done_76 rfl (lv_at hl 2 rfl) ?_
        refine lv_aload_n hx hb dX11_done_77 rfl (lv_at hl 2 rfl) ?_
        refine va_get (D := D) (ci := 11) (v := .ref (ad 58)) (C := RX11) (T := TX11) (N := 35) hx hb hts in_X11_done_11 hown hK hP 0 rfl rfl 32 (by decide) (hts _ lk_X11_done_72) (fun _ h9 => h9) rfl dX11_done_78 ?_
        refine lv_iconst (v := 1) hx hb dX11_done_81 (by decide) ?_
        refine va_iald hx hb hK hP 14 0 rfl rfl hv.1 dX11_done_82 ?_
        refine lv_topi (fun g34 h_g34 => ?_)
        have hv := hv.2 g34 h_g34
        refine va_put (D := D) (ci := 11) (v := .int g34) (ty := .int) (C := RX11) (T := TX11) (N := 35) hx hb hts in_X11_done_11 tyX11 tyX11_ok nmX11 hown hK hP hD hS 0 rfl rfl 19 (by decide) (hts _ lk_X11_done_87) (fun _ h9 => h9) rfl (by decide +kernel) rfl rfl (Nat.le_of_ble_eq_true rfl) dX11_done_83 (fun H locs hP hD hS => ?_)
        have hP : va_P D vwCl [oX11 ad s11_d s11_stepMany s11_kind s11_many s11_partMany s11_rule s11_ticks s11_hand s11_g s11_beganElsewhere g34 s11_fBefore s11_fFirst s11_weightMany s11_tailTold, aI cy (ad 41) 8 a11_steps, aI cy (ad 43) 16 a11_a, aI cy (ad 44) 4 a11_b, aI cy (ad 45) 4 a11_e, aI cy (ad 46) 4 a11_h, aJ cy (ad 47) 4 a11_sums, aI cy (ad 50) 16 a11_on, aI cy (ad 51) 16 a11_often, aI cy (ad 52) 256 a11_given, aI cy (ad 53) 256 a11_wished, aJ cy (ad 54) 256 a11_firstSum, aJ cy (ad 56) 4 a11_now_1, aJ cy (ad 57) 4 a11_to_3, aI cy (ad 58) 3 a11_made_4] H := hP
        have hD : va_D A [oX11 ad s11_d s11_stepMany s11_kind s11_many s11_partMany s11_rule s11_ticks s11_hand s11_g s11_beganElsewhere g34 s11_fBefore s11_fFirst s11_weightMany s11_tailTold, aI cy (ad 41) 8 a11_steps, aI cy (ad 43) 16 a11_a, aI cy (ad 44) 4 a11_b, aI cy (ad 45) 4 a11_e, aI cy (ad 46) 4 a11_h, aJ cy (ad 47) 4 a11_sums, aI cy (ad 50) 16 a11_on, aI cy (ad 51) 16 a11_often, aI cy (ad 52) 256 a11_given, aI cy (ad 53) 256 a11_wished, aJ cy (ad 54) 256 a11_firstSum, aJ cy (ad 56) 4 a11_now_1, aJ cy (ad 57) 4 a11_to_3, aI cy (ad 58) 3 a11_made_4] := hD
        refine lv_aload_n hx hb dX11_done_86 rfl (lv_at hl 2 rfl) ?_
        refine lv_aload_n hx hb dX11_done_87 rfl (lv_at hl 2 rfl) ?_
        refine va_get (D := D) (ci := 11) (v := .int s11_fBefore) (C := RX11) (T := TX11) (N := 35) hx hb hts in_X11_done_11 hown hK hP 0 rfl rfl 20 (by decide) (hts _ lk_X11_done_90) (fun _ h9 => h9) rfl dX11_done_88 ?_
        refine va_put (D := D) (ci := 11) (v := .int s11_fBefore) (ty := .int) (C := RX11) (T := TX11) (N := 35) hx hb hts in_X11_done_11 tyX11 tyX11_ok nmX11 hown hK hP hD hS 0 rfl rfl 21 (by decide) (hts _ lk_X11_done_93) (fun _ h9 => h9) rfl (by decide +kernel) rfl rfl (Nat.le_of_ble_eq_true rfl) dX11_done_91 (fun H locs hP hD hS => ?_)
        have hP : va_P D vwCl [oX11 ad s11_d s11_stepMany s11_kind s11_many s11_partMany s11_rule s11_ticks s11_hand s11_g s11_beganElsewhere g34 s11_fBefore s11_fBefore s11_weightMany s11_tailTold, aI cy (ad 41) 8 a11_steps, aI cy (ad 43) 16 a11_a, aI cy (ad 44) 4 a11_b, aI cy (ad 45) 4 a11_e, aI cy (ad 46) 4 a11_h, aJ cy (ad 47) 4 a11_sums, aI cy (ad 50) 16 a11_on, aI cy (ad 51) 16 a11_often, aI cy (ad 52) 256 a11_given, aI cy (ad 53) 256 a11_wished, aJ cy (ad 54) 256 a11_firstSum, aJ cy (ad 56) 4 a11_now_1, aJ cy (ad 57) 4 a11_to_3, aI cy (ad 58) 3 a11_made_4] H := hP
        have hD : va_D A [oX11 ad s11_d s11_stepMany s11_kind s11_many s11_partMany s11_rule s11_ticks s11_hand s11_g s11_beganElsewhere g34 s11_fBefore s11_fBefore s11_weightMany s11_tailTold, aI cy (ad 41) 8 a11_steps, aI cy (ad 43) 16 a11_a, aI cy (ad 44) 4 a11_b, aI cy (ad 45) 4 a11_e, aI cy (ad 46) 4 a11_h, aJ cy (ad 47) 4 a11_sums, aI cy (ad 50) 16 a11_on, aI cy (ad 51) 16 a11_often, aI cy (ad 52) 256 a11_given, aI cy (ad 53) 256 a11_wished, aJ cy (ad 54) 256 a11_firstSum, aJ cy (ad 56) 4 a11_now_1, aJ cy (ad 57) 4 a11_to_3, aI cy (ad 58) 3 a11_made_4] := hD
        refine lv_aload_n hx hb dX11_done_94 rfl (lv_at hl 2 rfl) ?_
        refine lv_iload_n hx hb dX11_done_95 rfl (lv_at hl 1 rfl) ?_
        refine va_put (D := D) (ci := 11) (v := .int t26) (ty := .int) (C := RX11) (T := TX11) (N := 35) hx hb hts in_X11_done_11 tyX11 tyX11_ok nmX11 hown hK hP hD hS 0 rfl rfl 20 (by decide) (hts _ lk_X11_done_90) (fun _ h9 => h9) rfl (by decide +kernel) rfl rfl (Nat.le_of_ble_eq_true rfl) dX11_done_96 (fun H locs hP hD hS => ?_)
        have hP : va_P D vwCl [oX11 ad s11_d s11_stepMany s11_kind s11_many s11_partMany s11_rule s11_ticks s11_hand s11_g s11_beganElsewhere g34 t26 s11_fBefore s11_weightMany s11_tailTold, aI cy (ad 41) 8 a11_steps, aI cy (ad 43) 16 a11_a, aI cy (ad 44) 4 a11_b, aI cy (ad 45) 4 a11_e, aI cy (ad 46) 4 a11_h, aJ cy (ad 47) 4 a11_sums, aI cy (ad 50) 16 a11_on, aI cy (ad 51) 16 a11_often, aI cy (ad 52) 256 a11_given, aI cy (ad 53) 256 a11_wished, aJ cy (ad 54) 256 a11_firstSum, aJ cy (ad 56) 4 a11_now_1, aJ cy (ad 57) 4 a11_to_3, aI cy (ad 58) 3 a11_made_4] H := hP
        have hD : va_D A [oX11 ad s11_d s11_stepMany s11_kind s11_many s11_partMany s11_rule s11_ticks s11_hand s11_g s11_beganElsewhere g34 t26 s11_fBefore s11_weightMany s11_tailTold, aI cy (ad 41) 8 a11_steps, aI cy (ad 43) 16 a11_a, aI cy (ad 44) 4 a11_b, aI cy (ad 45) 4 a11_e, aI cy (ad 46) 4 a11_h, aJ cy (ad 47) 4 a11_sums, aI cy (ad 50) 16 a11_on, aI cy (ad 51) 16 a11_often, aI cy (ad 52) 256 a11_given, aI cy (ad 53) 256 a11_wished, aJ cy (ad 54) 256 a11_firstSum, aJ cy (ad 56) 4 a11_now_1, aJ cy (ad 57) 4 a11_to_3, aI cy (ad 58) 3 a11_made_4] := hD
        exact jn99 e33 g34 t26 s11_fBefore H locs ls hv (lv_sub hl [0, 2, 3] rfl) hP hD hS
      refine lv_icmp_ne (tgt := 46) hx hb dX11_done_34 (by decide) (fun c_34 => ?_) (fun c_34 => ?_)
      · have hv := hv.1 c_34
        refine lv_iconst (v := 0) hx hb dX11_done_46 (by decide) ?_
        exact jn47 (0 : Int32) H locs ls hv (lv_sub hl [0, 1, 2] rfl) hP hD hS
      · have hv := hv.2 c_34
        refine lv_aload_n hx hb dX11_done_37 rfl (lv_at hl 1 rfl) ?_
        refine va_get (D := D) (ci := 11) (v := .ref (ad 58)) (C := RX11) (T := TX11) (N := 35) hx hb hts in_X11_done_11 hown hK hP 0 rfl rfl 32 (by decide) (hts _ lk_X11_done_72) (fun _ h9 => h9) rfl dX11_done_38 ?_
        refine lv_iconst (v := 2) hx hb dX11_done_41 (by decide) ?_
        refine va_iald hx hb hK hP 14 0 rfl rfl hv.1 dX11_done_42 ?_
        refine lv_topi (fun g35 h_g35 => ?_)
        have hv := hv.2 g35 h_g35
        refine lv_goto (tgt := 47) hx hb dX11_done_43 (by decide) ?_
        exact jn47 g35 H locs ls hv (lv_sub hl [0, 1, 2] rfl) hP hD hS
  · have hv := hv.2 c_9
    refine lv_iconst (v := 0) hx hb dX11_done_12 (by decide) ?_
    rw [← hQ]
    exact k_zret hx hb hr hlocks hS (s11_ticks, s11_hand, s11_dBefore, s11_fBefore, s11_fFirst, a11_sums, a11_on, a11_often, a11_given, a11_wished, a11_firstSum, a11_now_1, a11_to_3, a11_made_4) hP hD (by decide) hv dX11_done_13
theorem lk_X11_tick_151 : Cond.constant RX11 151 (-2147483648) ∈ wsX11_tick := by decide +kernel
theorem lk_X11_tick_54 : Cond.fieldLink RX11 54 "CoarseStepsModel" "given" "[I" ∈ wsX11_tick := by decide +kernel
theorem in_X11_tick_11 : ∀ w ∈ wsX110, w ∈ wsX11_tick := by decide +kernel
theorem lk_X11_tick_81 : Cond.fieldLink RX11 81 "CoarseStepsModel" "ticks" "I" ∈ wsX11_tick := by decide +kernel
abbrev rm_X11_tick : Room := { frames := 3, cells := 0, slots := 0, locals := 73 }
set_option maxHeartbeats 4000000 in
set_option maxRecDepth 100000 in
theorem m_X11_tick (l : Launch) (D : va_G) (cy : ClassId × ClassId × ClassId) (ad : Nat → Nat) (s11_d : Int32) (s11_stepMany : Int32) (s11_kind : Int32) (s11_many : Int32) (s11_partMany : Int32) (s11_rule : Int32) (s11_ticks : Int32) (s11_hand : Int32) (s11_g : Int32) (s11_beganElsewhere : Int32) (s11_dBefore : Int32) (s11_fBefore : Int32) (s11_fFirst : Int32) (s11_weightMany : Int32) (s11_tailTold : Int32) (a11_steps : Nat → Int32) (a11_a : Nat → Int32) (a11_b : Nat → Int32) (a11_e : Nat → Int32) (a11_h : Nat → Int32) (a11_sums : Nat → Int64) (a11_on : Nat → Int32) (a11_often : Nat → Int32) (a11_given : Nat → Int32) (a11_wished : Nat → Int32) (a11_firstSum : Nat → Int64) (a11_now : Nat → Int64) (a11_to : Nat → Int64) (a11_made : Nat → Int32) (x1 : Int32) (sz : Nat) {K : Int32 → Int32 → Int32 → Int32 → Int32 → Int32 → (Nat → Int64) → (Nat → Int32) → (Nat → Int32) → (Nat → Int32) → (Nat → Int32) → (Nat → Int64) → (Nat → Int64) → (Nat → Int64) → (Nat → Int32) → Prop} (hv : v_X11_tick s11_d s11_stepMany s11_kind s11_many s11_partMany s11_rule s11_ticks s11_hand s11_g s11_dBefore s11_fBefore s11_fFirst a11_steps a11_a a11_b a11_e a11_h a11_sums a11_on a11_often a11_given a11_wished a11_firstSum a11_now a11_to a11_made x1 K) : Met l yX11_tick wsX11_tick rm_X11_tick (va_Pc [.ref (ad 11), .int x1] (wd D cy [oX11 ad s11_d s11_stepMany s11_kind s11_many s11_partMany s11_rule s11_ticks s11_hand s11_g s11_beganElsewhere s11_dBefore s11_fBefore s11_fFirst s11_weightMany s11_tailTold, aI cy (ad 41) 8 a11_steps, aI cy (ad 43) 16 a11_a, aI cy (ad 44) 4 a11_b, aI cy (ad 45) 4 a11_e, aI cy (ad 46) 4 a11_h, aJ cy (ad 47) 4 a11_sums, aI cy (ad 50) 16 a11_on, aI cy (ad 51) 16 a11_often, aI cy (ad 52) 256 a11_given, aI cy (ad 53) 256 a11_wished, aJ cy (ad 54) 256 a11_firstSum, aJ cy (ad 56) 4 a11_now, aJ cy (ad 57) 4 a11_to, aI cy (ad 58) 3 a11_made] sz)) (va_Qi (fun (r : Int32) (u : Int32 × Int32 × Int32 × Int32 × Int32 × (Nat → Int64) × (Nat → Int32) × (Nat → Int32) × (Nat → Int32) × (Nat → Int32) × (Nat → Int64) × (Nat → Int64) × (Nat → Int64) × (Nat → Int32)) => K r u.1 u.2.1 u.2.2.1 u.2.2.2.1 u.2.2.2.2.1 u.2.2.2.2.2.1 u.2.2.2.2.2.2.1 u.2.2.2.2.2.2.2.1 u.2.2.2.2.2.2.2.2.1 u.2.2.2.2.2.2.2.2.2.1 u.2.2.2.2.2.2.2.2.2.2.1 u.2.2.2.2.2.2.2.2.2.2.2.1 u.2.2.2.2.2.2.2.2.2.2.2.2.1 u.2.2.2.2.2.2.2.2.2.2.2.2.2) (fun u t => we D ((fun u : Int32 × Int32 × Int32 × Int32 × Int32 × (Nat → Int64) × (Nat → Int32) × (Nat → Int32) × (Nat → Int32) × (Nat → Int32) × (Nat → Int64) × (Nat → Int64) × (Nat → Int64) × (Nat → Int32) => [oX11 ad s11_d s11_stepMany s11_kind s11_many s11_partMany s11_rule u.1 u.2.1 s11_g s11_beganElsewhere u.2.2.1 u.2.2.2.1 u.2.2.2.2.1 s11_weightMany s11_tailTold, aI cy (ad 41) 8 a11_steps, aI cy (ad 43) 16 a11_a, aI cy (ad 44) 4 a11_b, aI cy (ad 45) 4 a11_e, aI cy (ad 46) 4 a11_h, aJ cy (ad 47) 4 u.2.2.2.2.2.1, aI cy (ad 50) 16 u.2.2.2.2.2.2.1, aI cy (ad 51) 16 u.2.2.2.2.2.2.2.1, aI cy (ad 52) 256 u.2.2.2.2.2.2.2.2.1, aI cy (ad 53) 256 u.2.2.2.2.2.2.2.2.2.1, aJ cy (ad 54) 256 u.2.2.2.2.2.2.2.2.2.2.1, aJ cy (ad 56) 4 u.2.2.2.2.2.2.2.2.2.2.2.1, aJ cy (ad 57) 4 u.2.2.2.2.2.2.2.2.2.2.2.2.1, aI cy (ad 58) 3 u.2.2.2.2.2.2.2.2.2.2.2.2.2]) u) (va_A [oX11 ad s11_d s11_stepMany s11_kind s11_many s11_partMany s11_rule s11_ticks s11_hand s11_g s11_beganElsewhere s11_dBefore s11_fBefore s11_fFirst s11_weightMany s11_tailTold, aI cy (ad 41) 8 a11_steps, aI cy (ad 43) 16 a11_a, aI cy (ad 44) 4 a11_b, aI cy (ad 45) 4 a11_e, aI cy (ad 46) 4 a11_h, aJ cy (ad 47) 4 a11_sums, aI cy (ad 50) 16 a11_on, aI cy (ad 51) 16 a11_often, aI cy (ad 52) 256 a11_given, aI cy (ad 53) 256 a11_wished, aJ cy (ad 54) 256 a11_firstSum, aJ cy (ad 56) 4 a11_now, aJ cy (ad 57) 4 a11_to, aI cy (ad 58) 3 a11_made] sz) t) (va_A [oX11 ad s11_d s11_stepMany s11_kind s11_many s11_partMany s11_rule s11_ticks s11_hand s11_g s11_beganElsewhere s11_dBefore s11_fBefore s11_fFirst s11_weightMany s11_tailTold, aI cy (ad 41) 8 a11_steps, aI cy (ad 43) 16 a11_a, aI cy (ad 44) 4 a11_b, aI cy (ad 45) 4 a11_e, aI cy (ad 46) 4 a11_h, aJ cy (ad 47) 4 a11_sums, aI cy (ad 50) 16 a11_on, aI cy (ad 51) 16 a11_often, aI cy (ad 52) 256 a11_given, aI cy (ad 53) 256 a11_wished, aJ cy (ad 54) 256 a11_firstSum, aJ cy (ad 56) 4 a11_now, aJ cy (ad 57) 4 a11_to, aI cy (ad 58) 3 a11_made] sz)) 0 0 (va_A [oX11 ad s11_d s11_stepMany s11_kind s11_many s11_partMany s11_rule s11_ticks s11_hand s11_g s11_beganElsewhere s11_dBefore s11_fBefore s11_fFirst s11_weightMany s11_tailTold, aI cy (ad 41) 8 a11_steps, aI cy (ad 43) 16 a11_a, aI cy (ad 44) 4 a11_b, aI cy (ad 45) 4 a11_e, aI cy (ad 46) 4 a11_h, aJ cy (ad 47) 4 a11_sums, aI cy (ad 50) 16 a11_on, aI cy (ad 51) 16 a11_often, aI cy (ad 52) 256 a11_given, aI cy (ad 53) 256 a11_wished, aJ cy (ad 54) 256 a11_firstSum, aJ cy (ad 56) 4 a11_now, aJ cy (ad 57) 4 a11_to, aI cy (ad 58) 3 a11_made] sz) := by
  refine k_ofW (cc := cX11_tick) (maxL := 2) (ret := (some .int)) (fun A => va_Qi (fun (r : Int32) (u : Int32 × Int32 × Int32 × Int32 × Int32 × (Nat → Int64) × (Nat → Int32) × (Nat → Int32) × (Nat → Int32) × (Nat → Int32) × (Nat → Int64) × (Nat → Int64) × (Nat → Int64) × (Nat → Int32)) => K r u.1 u.2.1 u.2.2.1 u.2.2.2.1 u.2.2.2.2.1 u.2.2.2.2.2.1 u.2.2.2.2.2.2.1 u.2.2.2.2.2.2.2.1 u.2.2.2.2.2.2.2.2.1 u.2.2.2.2.2.2.2.2.2.1 u.2.2.2.2.2.2.2.2.2.2.1 u.2.2.2.2.2.2.2.2.2.2.2.1 u.2.2.2.2.2.2.2.2.2.2.2.2.1 u.2.2.2.2.2.2.2.2.2.2.2.2.2) (fun u t => we D ((fun u : Int32 × Int32 × Int32 × Int32 × Int32 × (Nat → Int64) × (Nat → Int32) × (Nat → Int32) × (Nat → Int32) × (Nat → Int32) × (Nat → Int64) × (Nat → Int64) × (Nat → Int64) × (Nat → Int32) => [oX11 ad s11_d s11_stepMany s11_kind s11_many s11_partMany s11_rule u.1 u.2.1 s11_g s11_beganElsewhere u.2.2.1 u.2.2.2.1 u.2.2.2.2.1 s11_weightMany s11_tailTold, aI cy (ad 41) 8 a11_steps, aI cy (ad 43) 16 a11_a, aI cy (ad 44) 4 a11_b, aI cy (ad 45) 4 a11_e, aI cy (ad 46) 4 a11_h, aJ cy (ad 47) 4 u.2.2.2.2.2.1, aI cy (ad 50) 16 u.2.2.2.2.2.2.1, aI cy (ad 51) 16 u.2.2.2.2.2.2.2.1, aI cy (ad 52) 256 u.2.2.2.2.2.2.2.2.1, aI cy (ad 53) 256 u.2.2.2.2.2.2.2.2.2.1, aJ cy (ad 54) 256 u.2.2.2.2.2.2.2.2.2.2.1, aJ cy (ad 56) 4 u.2.2.2.2.2.2.2.2.2.2.2.1, aJ cy (ad 57) 4 u.2.2.2.2.2.2.2.2.2.2.2.2.1, aI cy (ad 58) 3 u.2.2.2.2.2.2.2.2.2.2.2.2.2]) u) A t) A) (by decide) rfl (Nat.le_of_ble_eq_true rfl) ?_
  intro p e s m below meth c A ls H locs hx hb hml hr hts hown hlocks hname hK hN hA hP hD hS hl
  have hl : lv_has ls 2 [(0, .ref (ad 11)), (1, .int x1)] := hl
  generalize hQ : MQ below _ _ s _ _ A = Q
  unfold v_X11_tick at hv
  refine lv_iload_n hx hb dX11_tick_0 rfl (lv_at hl 1 rfl) ?_
  have hPc := hP.sub (ws' := []) [] rfl
  have hDc := hD.sub (ws' := []) [] (by decide) rfl
  refine k_cali (wc := []) (wr := [oX11 ad s11_d s11_stepMany s11_kind s11_many s11_partMany s11_rule s11_ticks s11_hand s11_g s11_beganElsewhere s11_dBefore s11_fBefore s11_fFirst s11_weightMany s11_tailTold, aI cy (ad 41) 8 a11_steps, aI cy (ad 43) 16 a11_a, aI cy (ad 44) 4 a11_b, aI cy (ad 45) 4 a11_e, aI cy (ad 46) 4 a11_h, aJ cy (ad 47) 4 a11_sums, aI cy (ad 50) 16 a11_on, aI cy (ad 51) 16 a11_often, aI cy (ad 52) 256 a11_given, aI cy (ad 53) 256 a11_wished, aJ cy (ad 54) 256 a11_firstSum, aJ cy (ad 56) 4 a11_now, aJ cy (ad 57) 4 a11_to, aI cy (ad 58) 3 a11_made]) (va_runS (As := [.int x1]) (rest := []) ⟨hx, hb, hml, hown, hts⟩ (m_X11_isWish l D cy ad x1 H.size hv) (va_cwS 1 hts gX11_tick_X11_isWish rfl rfl rfl (by decide +kernel) ⟨Nat.le_of_ble_eq_true rfl, Nat.le_of_ble_eq_true rfl⟩) ⟨wd_blind, wd_ok hPc hK hDc hN⟩ rfl rfl hl.1 rfl (lv_room (Nat.le_of_ble_eq_true rfl)) dX11_tick_1 ⟨Nat.le_of_ble_eq_true rfl, Nat.le_of_ble_eq_true rfl⟩) hP hD hS hA [] [0, 1, 2, 3, 4, 5, 6, 7, 8, 9, 10, 11, 12, 13, 14] rfl rfl (by decide) (by decide) (fun r1 u H locs hv hP hD hS => ?_)
  obtain ⟨hz_r1, hv⟩ := hv
  have hP : va_P D vwCl [oX11 ad s11_d s11_stepMany s11_kind s11_many s11_partMany s11_rule s11_ticks s11_hand s11_g s11_beganElsewhere s11_dBefore s11_fBefore s11_fFirst s11_weightMany s11_tailTold, aI cy (ad 41) 8 a11_steps, aI cy (ad 43) 16 a11_a, aI cy (ad 44) 4 a11_b, aI cy (ad 45) 4 a11_e, aI cy (ad 46) 4 a11_h, aJ cy (ad 47) 4 a11_sums, aI cy (ad 50) 16 a11_on, aI cy (ad 51) 16 a11_often, aI cy (ad 52) 256 a11_given, aI cy (ad 53) 256 a11_wished, aJ cy (ad 54) 256 a11_firstSum, aJ cy (ad 56) 4 a11_now, aJ cy (ad 57) 4 a11_to, aI cy (ad 58) 3 a11_made] H := hP.sub [0, 1, 2, 3, 4, 5, 6, 7, 8, 9, 10, 11, 12, 13, 14] rfl
  have hD : va_D A [oX11 ad s11_d s11_stepMany s11_kind s11_many s11_partMany s11_rule s11_ticks s11_hand s11_g s11_beganElsewhere s11_dBefore s11_fBefore s11_fFirst s11_weightMany s11_tailTold, aI cy (ad 41) 8 a11_steps, aI cy (ad 43) 16 a11_a, aI cy (ad 44) 4 a11_b, aI cy (ad 45) 4 a11_e, aI cy (ad 46) 4 a11_h, aJ cy (ad 47) 4 a11_sums, aI cy (ad 50) 16 a11_on, aI cy (ad 51) 16 a11_often, aI cy (ad 52) 256 a11_given, aI cy (ad 53) 256 a11_wished, aJ cy (ad 54) 256 a11_firstSum, aJ cy (ad 56) 4 a11_now, aJ cy (ad 57) 4 a11_to, aI cy (ad 58) 3 a11_made] := hD.sub [0, 1, 2, 3, 4, 5, 6, 7, 8, 9, 10, 11, 12, 13, 14] (by decide) rfl
  refine lv_if_eq (tgt := 33) hx hb dX11_tick_4 (by decide) (fun c_4 => ?_) (fun c_4 => ?_)
  · have hv := hv.1 c_4
    refine lv_ldc hx hb hown (hts _ lk_X11_tick_151) dX11_tick_33 ?_
    rw [← hQ]
    exact k_iret hx hb hr hlocks hS (s11_ticks, s11_hand, s11_dBefore, s11_fBefore, s11_fFirst, a11_sums, a11_on, a11_often, a11_given, a11_wished, a11_firstSum, a11_now, a11_to, a11_made) hP hD hv dX11_tick_35
  · have hv := hv.2 c_4
    refine lv_aload_n hx hb dX11_tick_7 rfl (lv_at hl 0 rfl) ?_
    refine lv_iload_n hx hb dX11_tick_8 rfl (lv_at hl 1 rfl) ?_
    have hPc := hP.sub (ws' := [oX11 ad s11_d s11_stepMany s11_kind s11_many s11_partMany s11_rule s11_ticks s11_hand s11_g s11_beganElsewhere s11_dBefore s11_fBefore s11_fFirst s11_weightMany s11_tailTold, aI cy (ad 41) 8 a11_steps, aI cy (ad 43) 16 a11_a, aI cy (ad 44) 4 a11_b, aI cy (ad 45) 4 a11_e, aI cy (ad 46) 4 a11_h, aJ cy (ad 47) 4 a11_sums, aI cy (ad 50) 16 a11_on, aI cy (ad 51) 16 a11_often, aI cy (ad 52) 256 a11_given, aI cy (ad 53) 256 a11_wished, aJ cy (ad 54) 256 a11_firstSum, aJ cy (ad 56) 4 a11_now, aJ cy (ad 57) 4 a11_to, aI cy (ad 58) 3 a11_made]) [0, 1, 2, 3, 4, 5, 6, 7, 8, 9, 10, 11, 12, 13, 14] rfl
    have hDc := hD.sub (ws' := [oX11 ad s11_d s11_stepMany s11_kind s11_many s11_partMany s11_rule s11_ticks s11_hand s11_g s11_beganElsewhere s11_dBefore s11_fBefore s11_fFirst s11_weightMany s11_tailTold, aI cy (ad 41) 8 a11_steps, aI cy (ad 43) 16 a11_a, aI cy (ad 44) 4 a11_b, aI cy (ad 45) 4 a11_e, aI cy (ad 46) 4 a11_h, aJ cy (ad 47) 4 a11_sums, aI cy (ad 50) 16 a11_on, aI cy (ad 51) 16 a11_often, aI cy (ad 52) 256 a11_given, aI cy (ad 53) 256 a11_wished, aJ cy (ad 54) 256 a11_firstSum, aJ cy (ad 56) 4 a11_now, aJ cy (ad 57) 4 a11_to, aI cy (ad 58) 3 a11_made]) [0, 1, 2, 3, 4, 5, 6, 7, 8, 9, 10, 11, 12, 13, 14] (by decide) rfl
    refine k_cali (wc := [oX11 ad s11_d s11_stepMany s11_kind s11_many s11_partMany s11_rule s11_ticks s11_hand s11_g s11_beganElsewhere s11_dBefore s11_fBefore s11_fFirst s11_weightMany s11_tailTold, aI cy (ad 41) 8 a11_steps, aI cy (ad 43) 16 a11_a, aI cy (ad 44) 4 a11_b, aI cy (ad 45) 4 a11_e, aI cy (ad 46) 4 a11_h, aJ cy (ad 47) 4 a11_sums, aI cy (ad 50) 16 a11_on, aI cy (ad 51) 16 a11_often, aI cy (ad 52) 256 a11_given, aI cy (ad 53) 256 a11_wished, aJ cy (ad 54) 256 a11_firstSum, aJ cy (ad 56) 4 a11_now, aJ cy (ad 57) 4 a11_to, aI cy (ad 58) 3 a11_made]) (wr := []) (va_runV (As := [.int x1]) (rest := []) ⟨hx, hb, hml, hown, hts⟩ (m_X11_done l D cy ad s11_d s11_stepMany s11_kind s11_many s11_partMany s11_rule s11_ticks s11_hand s11_g s11_beganElsewhere s11_dBefore s11_fBefore s11_fFirst s11_weightMany s11_tailTold a11_steps a11_a a11_b a11_e a11_h a11_sums a11_on a11_often a11_given a11_wished a11_firstSum a11_now a11_to a11_made x1 H.size hv) (cwV 1 hts gX11_tick_X11_done rfl rfl rfl (by decide +kernel) ⟨Nat.le_of_ble_eq_true rfl, Nat.le_of_ble_eq_true rfl⟩) ⟨wd_blind, va_recv hK hPc (ci := 11) (q0 := 0) rfl rfl, wd_ok hPc hK hDc hN⟩ rfl rfl hl.1 rfl (lv_room (Nat.le_of_ble_eq_true rfl)) dX11_tick_9 ⟨Nat.le_of_ble_eq_true rfl, Nat.le_of_ble_eq_true rfl⟩) hP hD hS hA [0, 1, 2, 3, 4, 5, 6, 7, 8, 9, 10, 11, 12, 13, 14] [] rfl rfl (by decide) (by decide) (fun r2 u H locs hv hP hD hS => ?_)
    obtain ⟨s11_ticks_3, s11_hand_4, s11_dBefore_5, s11_fBefore_6, s11_fFirst_7, a11_sums_8, a11_on_9, a11_often_10, a11_given_11, a11_wished_12, a11_firstSum_13, a11_now_14, a11_to_15, a11_made_16⟩ := u
    obtain ⟨hz_r2, hv⟩ := hv
    have hP : va_P D vwCl [oX11 ad s11_d s11_stepMany s11_kind s11_many s11_partMany s11_rule s11_ticks_3 s11_hand_4 s11_g s11_beganElsewhere s11_dBefore_5 s11_fBefore_6 s11_fFirst_7 s11_weightMany s11_tailTold, aI cy (ad 41) 8 a11_steps, aI cy (ad 43) 16 a11_a, aI cy (ad 44) 4 a11_b, aI cy (ad 45) 4 a11_e, aI cy (ad 46) 4 a11_h, aJ cy (ad 47) 4 a11_sums_8, aI cy (ad 50) 16 a11_on_9, aI cy (ad 51) 16 a11_often_10, aI cy (ad 52) 256 a11_given_11, aI cy (ad 53) 256 a11_wished_12, aJ cy (ad 54) 256 a11_firstSum_13, aJ cy (ad 56) 4 a11_now_14, aJ cy (ad 57) 4 a11_to_15, aI cy (ad 58) 3 a11_made_16] H := hP.sub [0, 1, 2, 3, 4, 5, 6, 7, 8, 9, 10, 11, 12, 13, 14] rfl
    have hD : va_D A [oX11 ad s11_d s11_stepMany s11_kind s11_many s11_partMany s11_rule s11_ticks_3 s11_hand_4 s11_g s11_beganElsewhere s11_dBefore_5 s11_fBefore_6 s11_fFirst_7 s11_weightMany s11_tailTold, aI cy (ad 41) 8 a11_steps, aI cy (ad 43) 16 a11_a, aI cy (ad 44) 4 a11_b, aI cy (ad 45) 4 a11_e, aI cy (ad 46) 4 a11_h, aJ cy (ad 47) 4 a11_sums_8, aI cy (ad 50) 16 a11_on_9, aI cy (ad 51) 16 a11_often_10, aI cy (ad 52) 256 a11_given_11, aI cy (ad 53) 256 a11_wished_12, aJ cy (ad 54) 256 a11_firstSum_13, aJ cy (ad 56) 4 a11_now_14, aJ cy (ad 57) 4 a11_to_15, aI cy (ad 58) 3 a11_made_16] := hD.sub [0, 1, 2, 3, 4, 5, 6, 7, 8, 9, 10, 11, 12, 13, 14] (by decide) rfl
    refine lv_if_eq (tgt := 33) hx hb dX11_tick_12 (by decide) (fun c_12 => ?_) (fun c_12 => ?_)
    · have hv := hv.1 c_12
      refine lv_ldc hx hb hown (hts _ lk_X11_tick_151) dX11_tick_33 ?_
      rw [← hQ]
      exact k_iret hx hb hr hlocks hS (s11_ticks_3, s11_hand_4, s11_dBefore_5, s11_fBefore_6, s11_fFirst_7, a11_sums_8, a11_on_9, a11_often_10, a11_given_11, a11_wished_12, a11_firstSum_13, a11_now_14, a11_to_15, a11_made_16) hP hD hv dX11_tick_35
    · have hv := hv.2 c_12
      refine lv_aload_n hx hb dX11_tick_15 rfl (lv_at hl 0 rfl) ?_
      refine va_get (D := D) (ci := 11) (v := .ref (ad 52)) (C := RX11) (T := TX11) (N := 35) hx hb hts in_X11_tick_11 hown hK hP 0 rfl rfl 24 (by decide) (hts _ lk_X11_tick_54) (fun _ h9 => h9) rfl dX11_tick_16 ?_
      refine lv_aload_n hx hb dX11_tick_19 rfl (lv_at hl 0 rfl) ?_
      refine va_get (D := D) (ci := 11) (v := .int s11_ticks_3) (C := RX11) (T := TX11) (N := 35) hx hb hts in_X11_tick_11 hown hK hP 0 rfl rfl 6 (by decide) (hts _ lk_X11_tick_81) (fun _ h9 => h9) rfl dX11_tick_20 ?_
      refine lv_iconst (v := 1) hx hb dX11_tick_23 (by decide) ?_
      refine lv_isub hx hb dX11_tick_24 ?_
      refine lv_topi (fun e17 h_e17 => ?_)
      have hv := hv e17 h_e17
      refine lv_sipush (v := 256) hx hb dX11_tick_25 (by decide) ?_
      refine lv_irem hx hb dX11_tick_28 (by decide) ?_
      refine lv_topi (fun e18 h_e18 => ?_)
      have hv := hv e18 h_e18
      refine va_iald hx hb hK hP 9 0 rfl rfl hv.1 dX11_tick_29 ?_
      refine lv_topi (fun g19 h_g19 => ?_)
      have hv := hv.2 g19 h_g19
      refine lv_goto (tgt := 35) hx hb dX11_tick_30 (by decide) ?_
      rw [← hQ]
      exact k_iret hx hb hr hlocks hS (s11_ticks_3, s11_hand_4, s11_dBefore_5, s11_fBefore_6, s11_fFirst_7, a11_sums_8, a11_on_9, a11_often_10, a11_given_11, a11_wished_12, a11_firstSum_13, a11_now_14, a11_to_15, a11_made_16) hP hD hv dX11_tick_35
abbrev rm_X11_run : Room := { frames := 3, cells := 0, slots := 0, locals := 73 }
set_option maxHeartbeats 4000000 in
set_option maxRecDepth 100000 in
theorem m_X11_run (l : Launch) (D : va_G) (cy : ClassId × ClassId × ClassId) (ad : Nat → Nat) (s11_d : Int32) (s11_stepMany : Int32) (s11_kind : Int32) (s11_many : Int32) (s11_partMany : Int32) (s11_rule : Int32) (s11_ticks : Int32) (s11_hand : Int32) (s11_g : Int32) (s11_beganElsewhere : Int32) (s11_dBefore : Int32) (s11_fBefore : Int32) (s11_fFirst : Int32) (s11_weightMany : Int32) (s11_tailTold : Int32) (a11_steps : Nat → Int32) (a11_a : Nat → Int32) (a11_b : Nat → Int32) (a11_e : Nat → Int32) (a11_h : Nat → Int32) (a11_sums : Nat → Int64) (a11_on : Nat → Int32) (a11_often : Nat → Int32) (a11_given : Nat → Int32) (a11_wished : Nat → Int32) (a11_firstSum : Nat → Int64) (a11_now : Nat → Int64) (a11_to : Nat → Int64) (a11_made : Nat → Int32) (x1 : Int32) (x2 : Int32) (sz : Nat) {K : Int32 → Int32 → Int32 → Int32 → Int32 → Int32 → (Nat → Int64) → (Nat → Int32) → (Nat → Int32) → (Nat → Int32) → (Nat → Int32) → (Nat → Int64) → (Nat → Int64) → (Nat → Int64) → (Nat → Int32) → Prop} (hv : v_X11_run s11_d s11_stepMany s11_kind s11_many s11_partMany s11_rule s11_ticks s11_hand s11_g s11_dBefore s11_fBefore s11_fFirst a11_steps a11_a a11_b a11_e a11_h a11_sums a11_on a11_often a11_given a11_wished a11_firstSum a11_now a11_to a11_made x1 x2 K) : Met l yX11_run wsX11_run rm_X11_run (va_Pc [.ref (ad 11), .int x1, .int x2] (wd D cy [oX11 ad s11_d s11_stepMany s11_kind s11_many s11_partMany s11_rule s11_ticks s11_hand s11_g s11_beganElsewhere s11_dBefore s11_fBefore s11_fFirst s11_weightMany s11_tailTold, aI cy (ad 41) 8 a11_steps, aI cy (ad 43) 16 a11_a, aI cy (ad 44) 4 a11_b, aI cy (ad 45) 4 a11_e, aI cy (ad 46) 4 a11_h, aJ cy (ad 47) 4 a11_sums, aI cy (ad 50) 16 a11_on, aI cy (ad 51) 16 a11_often, aI cy (ad 52) 256 a11_given, aI cy (ad 53) 256 a11_wished, aJ cy (ad 54) 256 a11_firstSum, aJ cy (ad 56) 4 a11_now, aJ cy (ad 57) 4 a11_to, aI cy (ad 58) 3 a11_made] sz)) (va_Qi (fun (r : Int32) (u : Int32 × Int32 × Int32 × Int32 × Int32 × (Nat → Int64) × (Nat → Int32) × (Nat → Int32) × (Nat → Int32) × (Nat → Int32) × (Nat → Int64) × (Nat → Int64) × (Nat → Int64) × (Nat → Int32)) => K r u.1 u.2.1 u.2.2.1 u.2.2.2.1 u.2.2.2.2.1 u.2.2.2.2.2.1 u.2.2.2.2.2.2.1 u.2.2.2.2.2.2.2.1 u.2.2.2.2.2.2.2.2.1 u.2.2.2.2.2.2.2.2.2.1 u.2.2.2.2.2.2.2.2.2.2.1 u.2.2.2.2.2.2.2.2.2.2.2.1 u.2.2.2.2.2.2.2.2.2.2.2.2.1 u.2.2.2.2.2.2.2.2.2.2.2.2.2) (fun u t => we D ((fun u : Int32 × Int32 × Int32 × Int32 × Int32 × (Nat → Int64) × (Nat → Int32) × (Nat → Int32) × (Nat → Int32) × (Nat → Int32) × (Nat → Int64) × (Nat → Int64) × (Nat → Int64) × (Nat → Int32) => [oX11 ad s11_d s11_stepMany s11_kind s11_many s11_partMany s11_rule u.1 u.2.1 s11_g s11_beganElsewhere u.2.2.1 u.2.2.2.1 u.2.2.2.2.1 s11_weightMany s11_tailTold, aI cy (ad 41) 8 a11_steps, aI cy (ad 43) 16 a11_a, aI cy (ad 44) 4 a11_b, aI cy (ad 45) 4 a11_e, aI cy (ad 46) 4 a11_h, aJ cy (ad 47) 4 u.2.2.2.2.2.1, aI cy (ad 50) 16 u.2.2.2.2.2.2.1, aI cy (ad 51) 16 u.2.2.2.2.2.2.2.1, aI cy (ad 52) 256 u.2.2.2.2.2.2.2.2.1, aI cy (ad 53) 256 u.2.2.2.2.2.2.2.2.2.1, aJ cy (ad 54) 256 u.2.2.2.2.2.2.2.2.2.2.1, aJ cy (ad 56) 4 u.2.2.2.2.2.2.2.2.2.2.2.1, aJ cy (ad 57) 4 u.2.2.2.2.2.2.2.2.2.2.2.2.1, aI cy (ad 58) 3 u.2.2.2.2.2.2.2.2.2.2.2.2.2]) u) (va_A [oX11 ad s11_d s11_stepMany s11_kind s11_many s11_partMany s11_rule s11_ticks s11_hand s11_g s11_beganElsewhere s11_dBefore s11_fBefore s11_fFirst s11_weightMany s11_tailTold, aI cy (ad 41) 8 a11_steps, aI cy (ad 43) 16 a11_a, aI cy (ad 44) 4 a11_b, aI cy (ad 45) 4 a11_e, aI cy (ad 46) 4 a11_h, aJ cy (ad 47) 4 a11_sums, aI cy (ad 50) 16 a11_on, aI cy (ad 51) 16 a11_often, aI cy (ad 52) 256 a11_given, aI cy (ad 53) 256 a11_wished, aJ cy (ad 54) 256 a11_firstSum, aJ cy (ad 56) 4 a11_now, aJ cy (ad 57) 4 a11_to, aI cy (ad 58) 3 a11_made] sz) t) (va_A [oX11 ad s11_d s11_stepMany s11_kind s11_many s11_partMany s11_rule s11_ticks s11_hand s11_g s11_beganElsewhere s11_dBefore s11_fBefore s11_fFirst s11_weightMany s11_tailTold, aI cy (ad 41) 8 a11_steps, aI cy (ad 43) 16 a11_a, aI cy (ad 44) 4 a11_b, aI cy (ad 45) 4 a11_e, aI cy (ad 46) 4 a11_h, aJ cy (ad 47) 4 a11_sums, aI cy (ad 50) 16 a11_on, aI cy (ad 51) 16 a11_often, aI cy (ad 52) 256 a11_given, aI cy (ad 53) 256 a11_wished, aJ cy (ad 54) 256 a11_firstSum, aJ cy (ad 56) 4 a11_now, aJ cy (ad 57) 4 a11_to, aI cy (ad 58) 3 a11_made] sz)) 0 0 (va_A [oX11 ad s11_d s11_stepMany s11_kind s11_many s11_partMany s11_rule s11_ticks s11_hand s11_g s11_beganElsewhere s11_dBefore s11_fBefore s11_fFirst s11_weightMany s11_tailTold, aI cy (ad 41) 8 a11_steps, aI cy (ad 43) 16 a11_a, aI cy (ad 44) 4 a11_b, aI cy (ad 45) 4 a11_e, aI cy (ad 46) 4 a11_h, aJ cy (ad 47) 4 a11_sums, aI cy (ad 50) 16 a11_on, aI cy (ad 51) 16 a11_often, aI cy (ad 52) 256 a11_given, aI cy (ad 53) 256 a11_wished, aJ cy (ad 54) 256 a11_firstSum, aJ cy (ad 56) 4 a11_now, aJ cy (ad 57) 4 a11_to, aI cy (ad 58) 3 a11_made] sz) := by
  refine k_ofW (cc := cX11_run) (maxL := 4) (ret := (some .int)) (fun A => va_Qi (fun (r : Int32) (u : Int32 × Int32 × Int32 × Int32 × Int32 × (Nat → Int64) × (Nat → Int32) × (Nat → Int32) × (Nat → Int32) × (Nat → Int32) × (Nat → Int64) × (Nat → Int64) × (Nat → Int64) × (Nat → Int32)) => K r u.1 u.2.1 u.2.2.1 u.2.2.2.1 u.2.2.2.2.1 u.2.2.2.2.2.1 u.2.2.2.2.2.2.1 u.2.2.2.2.2.2.2.1 u.2.2.2.2.2.2.2.2.1 u.2.2.2.2.2.2.2.2.2.1 u.2.2.2.2.2.2.2.2.2.2.1 u.2.2.2.2.2.2.2.2.2.2.2.1 u.2.2.2.2.2.2.2.2.2.2.2.2.1 u.2.2.2.2.2.2.2.2.2.2.2.2.2) (fun u t => we D ((fun u : Int32 × Int32 × Int32 × Int32 × Int32 × (Nat → Int64) × (Nat → Int32) × (Nat → Int32) × (Nat → Int32) × (Nat → Int32) × (Nat → Int64) × (Nat → Int64) × (Nat → Int64) × (Nat → Int32) => [oX11 ad s11_d s11_stepMany s11_kind s11_many s11_partMany s11_rule u.1 u.2.1 s11_g s11_beganElsewhere u.2.2.1 u.2.2.2.1 u.2.2.2.2.1 s11_weightMany s11_tailTold, aI cy (ad 41) 8 a11_steps, aI cy (ad 43) 16 a11_a, aI cy (ad 44) 4 a11_b, aI cy (ad 45) 4 a11_e, aI cy (ad 46) 4 a11_h, aJ cy (ad 47) 4 u.2.2.2.2.2.1, aI cy (ad 50) 16 u.2.2.2.2.2.2.1, aI cy (ad 51) 16 u.2.2.2.2.2.2.2.1, aI cy (ad 52) 256 u.2.2.2.2.2.2.2.2.1, aI cy (ad 53) 256 u.2.2.2.2.2.2.2.2.2.1, aJ cy (ad 54) 256 u.2.2.2.2.2.2.2.2.2.2.1, aJ cy (ad 56) 4 u.2.2.2.2.2.2.2.2.2.2.2.1, aJ cy (ad 57) 4 u.2.2.2.2.2.2.2.2.2.2.2.2.1, aI cy (ad 58) 3 u.2.2.2.2.2.2.2.2.2.2.2.2.2]) u) A t) A) (by decide) rfl (Nat.le_of_ble_eq_true rfl) ?_
  intro p e s m below meth c A ls H locs hx hb hml hr hts hown hlocks hname hK hN hA hP hD hS hl
  have hl : lv_has ls 4 [(0, .ref (ad 11)), (1, .int x1), (2, .int x2)] := hl
  generalize hQ : MQ below _ _ s _ _ A = Q
  unfold v_X11_run at hv
  refine lv_iload_n hx hb dX11_run_0 rfl (lv_at hl 1 rfl) ?_
  refine lv_if_lt (tgt := 18) hx hb dX11_run_1 (by decide) (fun c_1 => ?_) (fun c_1 => ?_)
  · have hv := hv.1 c_1
    refine lv_iconst (v := -1) hx hb dX11_run_18 (by decide) ?_
    rw [← hQ]
    exact k_iret hx hb hr hlocks hS (s11_ticks, s11_hand, s11_dBefore, s11_fBefore, s11_fFirst, a11_sums, a11_on, a11_often, a11_given, a11_wished, a11_firstSum, a11_now, a11_to, a11_made) hP hD hv dX11_run_19
  · have hv := hv.2 c_1
    refine lv_iload_n hx hb dX11_run_4 rfl (lv_at hl 1 rfl) ?_
    refine lv_sipush (v := 10000) hx hb dX11_run_5 (by decide) ?_
    refine lv_icmp_gt (tgt := 18) hx hb dX11_run_8 (by decide) (fun c_8 => ?_) (fun c_8 => ?_)
    · have hv := hv.1 c_8
      refine lv_iconst (v := -1) hx hb dX11_run_18 (by decide) ?_
      rw [← hQ]
      exact k_iret hx hb hr hlocks hS (s11_ticks, s11_hand, s11_dBefore, s11_fBefore, s11_fFirst, a11_sums, a11_on, a11_often, a11_given, a11_wished, a11_firstSum, a11_now, a11_to, a11_made) hP hD hv dX11_run_19
    · have hv := hv.2 c_8
      refine lv_iload_n hx hb dX11_run_11 rfl (lv_at hl 2 rfl) ?_
      have hPc := hP.sub (ws' := []) [] rfl
      have hDc := hD.sub (ws' := []) [] (by decide) rfl
      refine k_cali (wc := []) (wr := [oX11 ad s11_d s11_stepMany s11_kind s11_many s11_partMany s11_rule s11_ticks s11_hand s11_g s11_beganElsewhere s11_dBefore s11_fBefore s11_fFirst s11_weightMany s11_tailTold, aI cy (ad 41) 8 a11_steps, aI cy (ad 43) 16 a11_a, aI cy (ad 44) 4 a11_b, aI cy (ad 45) 4 a11_e, aI cy (ad 46) 4 a11_h, aJ cy (ad 47) 4 a11_sums, aI cy (ad 50) 16 a11_on, aI cy (ad 51) 16 a11_often, aI cy (ad 52) 256 a11_given, aI cy (ad 53) 256 a11_wished, aJ cy (ad 54) 256 a11_firstSum, aJ cy (ad 56) 4 a11_now, aJ cy (ad 57) 4 a11_to, aI cy (ad 58) 3 a11_made]) (va_runS (As := [.int x2]) (rest := []) ⟨hx, hb, hml, hown, hts⟩ (m_X11_isWish l D cy ad x2 H.size hv) (va_cwS 1 hts gX11_run_X11_isWish rfl rfl rfl (by decide +kernel) ⟨Nat.le_of_ble_eq_true rfl, Nat.le_of_ble_eq_true rfl⟩) ⟨wd_blind, wd_ok hPc hK hDc hN⟩ rfl rfl hl.1 rfl (lv_room (Nat.le_of_ble_eq_true rfl)) dX11_run_12 ⟨Nat.le_of_ble_eq_true rfl, Nat.le_of_ble_eq_true rfl⟩) hP hD hS hA [] [0, 1, 2, 3, 4, 5, 6, 7, 8, 9, 10, 11, 12, 13, 14] rfl rfl (by decide) (by decide) (fun r1 u H locs hv hP hD hS => ?_)
      obtain ⟨hz_r1, hv⟩ := hv
      have hP : va_P D vwCl [oX11 ad s11_d s11_stepMany s11_kind s11_many s11_partMany s11_rule s11_ticks s11_hand s11_g s11_beganElsewhere s11_dBefore s11_fBefore s11_fFirst s11_weightMany s11_tailTold, aI cy (ad 41) 8 a11_steps, aI cy (ad 43) 16 a11_a, aI cy (ad 44) 4 a11_b, aI cy (ad 45) 4 a11_e, aI cy (ad 46) 4 a11_h, aJ cy (ad 47) 4 a11_sums, aI cy (ad 50) 16 a11_on, aI cy (ad 51) 16 a11_often, aI cy (ad 52) 256 a11_given, aI cy (ad 53) 256 a11_wished, aJ cy (ad 54) 256 a11_firstSum, aJ cy (ad 56) 4 a11_now, aJ cy (ad 57) 4 a11_to, aI cy (ad 58) 3 a11_made] H := hP.sub [0, 1, 2, 3, 4, 5, 6, 7, 8, 9, 10, 11, 12, 13, 14] rfl
      have hD : va_D A [oX11 ad s11_d s11_stepMany s11_kind s11_many s11_partMany s11_rule s11_ticks s11_hand s11_g s11_beganElsewhere s11_dBefore s11_fBefore s11_fFirst s11_weightMany s11_tailTold, aI cy (ad 41) 8 a11_steps, aI cy (ad 43) 16 a11_a, aI cy (ad 44) 4 a11_b, aI cy (ad 45) 4 a11_e, aI cy (ad 46) 4 a11_h, aJ cy (ad 47) 4 a11_sums, aI cy (ad 50) 16 a11_on, aI cy (ad 51) 16 a11_often, aI cy (ad 52) 256 a11_given, aI cy (ad 53) 256 a11_wished, aJ cy (ad 54) 256 a11_firstSum, aJ cy (ad 56) 4 a11_now, aJ cy (ad 57) 4 a11_to, aI cy (ad 58) 3 a11_made] := hD.sub [0, 1, 2, 3, 4, 5, 6, 7, 8, 9, 10, 11, 12, 13, 14] (by decide) rfl
      refine lv_if_ne (tgt := 20) hx hb dX11_run_15 (by decide) (fun c_15 => ?_) (fun c_15 => ?_)
      · have hv := hv.1 c_15
        refine lv_iconst (v := 0) hx hb dX11_run_20 (by decide) ?_
        refine lv_istore_n (lv' := [(3, .int (0 : Int32)), (0, .ref (ad 11)), (1, .int x1), (2, .int x2)]) hx hb dX11_run_21 rfl hl (by decide) rfl (fun ls hl => ?_)
        have lp22 : ∀ (n22 : Nat) (l3_2 : Int32) (s11_ticks_3 : Int32) (s11_hand_4 : Int32) (s11_dBefore_5 : Int32) (s11_fBefore_6 : Int32) (s11_fFirst_7 : Int32) (a11_sums_8 : Nat → Int64) (a11_on_9 : Nat → Int32) (a11_often_10 : Nat → Int32) (a11_given_11 : Nat → Int32) (a11_wished_12 : Nat → Int32) (a11_firstSum_13 : Nat → Int64) (a11_now_14 : Nat → Int64) (a11_to_15 : Nat → Int64) (a11_made_16 : Nat → Int32) (H : Heap) (locs : List Loc) (ls : Array Slot), vfix (vF_X11_run_22 s11_d s11_stepMany s11_kind s11_many s11_partMany s11_rule s11_g a11_steps a11_a a11_b a11_e a11_h x1 x2 K) n22 (l3_2, s11_ticks_3, s11_hand_4, s11_dBefore_5, s11_fBefore_6, s11_fFirst_7, a11_sums_8, a11_on_9, a11_often_10, a11_given_11, a11_wished_12, a11_firstSum_13, a11_now_14, a11_to_15, a11_made_16) → lv_has ls 4 [(3, .int l3_2), (0, .ref (ad 11)), (1, .int x1), (2, .int x2)] → va_P D vwCl [oX11 ad s11_d s11_stepMany s11_kind s11_many s11_partMany s11_rule s11_ticks_3 s11_hand_4 s11_g s11_beganElsewhere s11_dBefore_5 s11_fBefore_6 s11_fFirst_7 s11_weightMany s11_tailTold, aI cy (ad 41) 8 a11_steps, aI cy (ad 43) 16 a11_a, aI cy (ad 44) 4 a11_b, aI cy (ad 45) 4 a11_e, aI cy (ad 46) 4 a11_h, aJ cy (ad 47) 4 a11_sums_8, aI cy (ad 50) 16 a11_on_9, aI cy (ad 51) 16 a11_often_10, aI cy (ad 52) 256 a11_given_11, aI cy (ad 53) 256 a11_wished_12, aJ cy (ad 54) 256 a11_firstSum_13, aJ cy (ad 56) 4 a11_now_14, aJ cy (ad 57) 4 a11_to_15, aI cy (ad 58) 3 a11_made_16] H → va_D A [oX11 ad s11_d s11_stepMany s11_kind s11_many s11_partMany s11_rule s11_ticks_3 s11_hand_4 s11_g s11_beganElsewhere s11_dBefore_5 s11_fBefore_6 s11_fFirst_7 s11_weightMany s11_tailTold, aI cy (ad 41) 8 a11_steps, aI cy (ad 43) 16 a11_a, aI cy (ad 44) 4 a11_b, aI cy (ad 45) 4 a11_e, aI cy (ad 46) 4 a11_h, aJ cy (ad 47) 4 a11_sums_8, aI cy (ad 50) 16 a11_on_9, aI cy (ad 51) 16 a11_often_10, aI cy (ad 52) 256 a11_given_11, aI cy (ad 53) 256 a11_wished_12, aJ cy (ad 54) 256 a11_firstSum_13, aJ cy (ad 56) 4 a11_now_14, aJ cy (ad 57) 4 a11_to_15, aI cy (ad 58) 3 a11_made_16] → va_S A s.heap H locs → W p l e rm_X11_run s m ([.ref (ad 11), .int x1, .int x2] : List Value).toArray below meth c H locs 0 0 Q (F0 m 22 ls []) := by
          intro n22
          induction n22 with
          | zero => intro l3_2 s11_ticks_3 s11_hand_4 s11_dBefore_5 s11_fBefore_6 s11_fFirst_7 a11_sums_8 a11_on_9 a11_often_10 a11_given_11 a11_wished_12 a11_firstSum_13 a11_now_14 a11_to_15 a11_made_16 H locs ls hv; exact hv.elim
          | succ n22 ih22 =>
            intro l3_2 s11_ticks_3 s11_hand_4 s11_dBefore_5 s11_fBefore_6 s11_fFirst_7 a11_sums_8 a11_on_9 a11_often_10 a11_given_11 a11_wished_12 a11_firstSum_13 a11_now_14 a11_to_15 a11_made_16 H locs ls hv hl hP hD hS
            have hv : vB_X11_run_22 s11_d s11_stepMany s11_kind s11_many s11_partMany s11_rule s11_g a11_steps a11_a a11_b a11_e a11_h x1 x2 K (fun z0 z1 z2 z3 z4 z5 z6 z7 z8 z9 z10 z11 z12 z13 z14 => vfix (vF_X11_run_22 s11_d s11_stepMany s11_kind s11_many s11_partMany s11_rule s11_g a11_steps a11_a a11_b a11_e a11_h x1 x2 K) n22 (z0, z1, z2, z3, z4, z5, z6, z7, z8, z9, z10, z11, z12, z13, z14)) l3_2 s11_ticks_3 s11_hand_4 s11_dBefore_5 s11_fBefore_6 s11_fFirst_7 a11_sums_8 a11_on_9 a11_often_10 a11_given_11 a11_wished_12 a11_firstSum_13 a11_now_14 a11_to_15 a11_made_16 := hv
            unfold vB_X11_run_22 at hv
            refine lv_iload_n hx hb dX11_run_22 rfl (lv_at hl 0 rfl) ?_
            refine lv_iload_n hx hb dX11_run_23 rfl (lv_at hl 2 rfl) ?_
            refine lv_icmp_ge (tgt := 41) hx hb dX11_run_24 (by decide) (fun c_24 => ?_) (fun c_24 => ?_)
            · have hv := hv.1 c_24
              refine lv_iload_n hx hb dX11_run_41 rfl (lv_at hl 0 rfl) ?_
              rw [← hQ]
              exact k_iret hx hb hr hlocks hS (s11_ticks_3, s11_hand_4, s11_dBefore_5, s11_fBefore_6, s11_fFirst_7, a11_sums_8, a11_on_9, a11_often_10, a11_given_11, a11_wished_12, a11_firstSum_13, a11_now_14, a11_to_15, a11_made_16) hP hD hv dX11_run_42
            · have hv := hv.2 c_24
              refine lv_aload_n hx hb dX11_run_27 rfl (lv_at hl 1 rfl) ?_
              refine lv_iload_n hx hb dX11_run_28 rfl (lv_at hl 3 rfl) ?_
              have hPc := hP.sub (ws' := [oX11 ad s11_d s11_stepMany s11_kind s11_many s11_partMany s11_rule s11_ticks_3 s11_hand_4 s11_g s11_beganElsewhere s11_dBefore_5 s11_fBefore_6 s11_fFirst_7 s11_weightMany s11_tailTold, aI cy (ad 41) 8 a11_steps, aI cy (ad 43) 16 a11_a, aI cy (ad 44) 4 a11_b, aI cy (ad 45) 4 a11_e, aI cy (ad 46) 4 a11_h, aJ cy (ad 47) 4 a11_sums_8, aI cy (ad 50) 16 a11_on_9, aI cy (ad 51) 16 a11_often_10, aI cy (ad 52) 256 a11_given_11, aI cy (ad 53) 256 a11_wished_12, aJ cy (ad 54) 256 a11_firstSum_13, aJ cy (ad 56) 4 a11_now_14, aJ cy (ad 57) 4 a11_to_15, aI cy (ad 58) 3 a11_made_16]) [0, 1, 2, 3, 4, 5, 6, 7, 8, 9, 10, 11, 12, 13, 14] rfl
              have hDc := hD.sub (ws' := [oX11 ad s11_d s11_stepMany s11_kind s11_many s11_partMany s11_rule s11_ticks_3 s11_hand_4 s11_g s11_beganElsewhere s11_dBefore_5 s11_fBefore_6 s11_fFirst_7 s11_weightMany s11_tailTold, aI cy (ad 41) 8 a11_steps, aI cy (ad 43) 16 a11_a, aI cy (ad 44) 4 a11_b, aI cy (ad 45) 4 a11_e, aI cy (ad 46) 4 a11_h, aJ cy (ad 47) 4 a11_sums_8, aI cy (ad 50) 16 a11_on_9, aI cy (ad 51) 16 a11_often_10, aI cy (ad 52) 256 a11_given_11, aI cy (ad 53) 256 a11_wished_12, aJ cy (ad 54) 256 a11_firstSum_13, aJ cy (ad 56) 4 a11_now_14, aJ cy (ad 57) 4 a11_to_15, aI cy (ad 58) 3 a11_made_16]) [0, 1, 2, 3, 4, 5, 6, 7, 8, 9, 10, 11, 12, 13, 14] (by decide) rfl
              refine k_cali (wc := [oX11 ad s11_d s11_stepMany s11_kind s11_many s11_partMany s11_rule s11_ticks_3 s11_hand_4 s11_g s11_beganElsewhere s11_dBefore_5 s11_fBefore_6 s11_fFirst_7 s11_weightMany s11_tailTold, aI cy (ad 41) 8 a11_steps, aI cy (ad 43) 16 a11_a, aI cy (ad 44) 4 a11_b, aI cy (ad 45) 4 a11_e, aI cy (ad 46) 4 a11_h, aJ cy (ad 47) 4 a11_sums_8, aI cy (ad 50) 16 a11_on_9, aI cy (ad 51) 16 a11_often_10, aI cy (ad 52) 256 a11_given_11, aI cy (ad 53) 256 a11_wished_12, aJ cy (ad 54) 256 a11_firstSum_13, aJ cy (ad 56) 4 a11_now_14, aJ cy (ad 57) 4 a11_to_15, aI cy (ad 58) 3 a11_made_16]) (wr := []) (va_runV (As := [.int x2]) (rest := []) ⟨hx, hb, hml, hown, hts⟩ (m_X11_done l D cy ad s11_d s11_stepMany s11_kind s11_many s11_partMany s11_rule s11_ticks_3 s11_hand_4 s11_g s11_beganElsewhere s11_dBefore_5 s11_fBefore_6 s11_fFirst_7 s11_weightMany s11_tailTold a11_steps a11_a a11_b a11_e a11_h a11_sums_8 a11_on_9 a11_often_10 a11_given_11 a11_wished_12 a11_firstSum_13 a11_now_14 a11_to_15 a11_made_16 x2 H.size hv) (cwV 1 hts gX11_run_X11_done rfl rfl rfl (by decide +kernel) ⟨Nat.le_of_ble_eq_true rfl, Nat.le_of_ble_eq_true rfl⟩) ⟨wd_blind, va_recv hK hPc (ci := 11) (q0 := 0) rfl rfl, wd_ok hPc hK hDc hN⟩ rfl rfl hl.1 rfl (lv_room (Nat.le_of_ble_eq_true rfl)) dX11_run_29 ⟨Nat.le_of_ble_eq_true rfl, Nat.le_of_ble_eq_true rfl⟩) hP hD hS hA [0, 1, 2, 3, 4, 5, 6, 7, 8, 9, 10, 11, 12, 13, 14] [] rfl rfl (by decide) (by decide) (fun r17 u H locs hv hP hD hS => ?_)
              obtain ⟨s11_ticks_18, s11_hand_19, s11_dBefore_20, s11_fBefore_21, s11_fFirst_22, a11_sums_23, a11_on_24, a11_often_25, a11_given_26, a11_wished_27, a11_firstSum_28, a11_now_29, a11_to_30, a11_made_31⟩ := u
              obtain ⟨hz_r17, hv⟩ := hv
              have hP : va_P D vwCl [oX11 ad s11_d s11_stepMany s11_kind s11_many s11_partMany s11_rule s11_ticks_18 s11_hand_19 s11_g s11_beganElsewhere s11_dBefore_20 s11_fBefore_21 s11_fFirst_22 s11_weightMany s11_tailTold, aI cy (ad 41) 8 a11_steps, aI cy (ad 43) 16 a11_a, aI cy (ad 44) 4 a11_b, aI cy (ad 45) 4 a11_e, aI cy (ad 46) 4 a11_h, aJ cy (ad 47) 4 a11_sums_23, aI cy (ad 50) 16 a11_on_24, aI cy (ad 51) 16 a11_often_25, aI cy (ad 52) 256 a11_given_26, aI cy (ad 53) 256 a11_wished_27, aJ cy (ad 54) 256 a11_firstSum_28, aJ cy (ad 56) 4 a11_now_29, aJ cy (ad 57) 4 a11_to_30, aI cy (ad 58) 3 a11_made_31] H := hP.sub [0, 1, 2, 3, 4, 5, 6, 7, 8, 9, 10, 11, 12, 13, 14] rfl
              have hD : va_D A [oX11 ad s11_d s11_stepMany s11_kind s11_many s11_partMany s11_rule s11_ticks_18 s11_hand_19 s11_g s11_beganElsewhere s11_dBefore_20 s11_fBefore_21 s11_fFirst_22 s11_weightMany s11_tailTold, aI cy (ad 41) 8 a11_steps, aI cy (ad 43) 16 a11_a, aI cy (ad 44) 4 a11_b, aI cy (ad 45) 4 a11_e, aI cy (ad 46) 4 a11_h, aJ cy (ad 47) 4 a11_sums_23, aI cy (ad 50) 16 a11_on_24, aI cy (ad 51) 16 a11_often_25, aI cy (ad 52) 256 a11_given_26, aI cy (ad 53) 256 a11_wished_27, aJ cy (ad 54) 256 a11_firstSum_28, aJ cy (ad 56) 4 a11_now_29, aJ cy (ad 57) 4 a11_to_30, aI cy (ad 58) 3 a11_made_31] := hD.sub [0, 1, 2, 3, 4, 5, 6, 7, 8, 9, 10, 11, 12, 13, 14] (by decide) rfl
              refine lv_if_eq (tgt := 41) hx hb dX11_run_32 (by decide) (fun c_32 => ?_) (fun c_32 => ?_)
              · have hv := hv.1 c_32
                refine lv_iload_n hx hb dX11_run_41 rfl (lv_at hl 0 rfl) ?_
                rw [← hQ]
                exact k_iret hx hb hr hlocks hS (s11_ticks_18, s11_hand_19, s11_dBefore_20, s11_fBefore_21, s11_fFirst_22, a11_sums_23, a11_on_24, a11_often_25, a11_given_26, a11_wished_27, a11_firstSum_28, a11_now_29, a11_to_30, a11_made_31) hP hD hv dX11_run_42
              · have hv := hv.2 c_32
                obtain ⟨i32, h_i32⟩ : ∃ y : Int32, y = l3_2 + 1 := ⟨_, rfl⟩
                refine lv_iinc (v := i32) (lv' := [(3, .int i32), (0, .ref (ad 11)), (1, .int x1), (2, .int x2)]) hx hb dX11_run_35 hl (k := 0) rfl (by rw [h_i32]; rfl) (by decide) rfl (fun ls hl => ?_)
                have hv := hv i32 h_i32
                refine lv_goto (tgt := 22) hx hb dX11_run_38 (by decide) ?_
                exact ih22 i32 s11_ticks_18 s11_hand_19 s11_dBefore_20 s11_fBefore_21 s11_fFirst_22 a11_sums_23 a11_on_24 a11_often_25 a11_given_26 a11_wished_27 a11_firstSum_28 a11_now_29 a11_to_30 a11_made_31 H locs ls hv (lv_sub hl [0, 1, 2, 3] rfl) hP hD hS
        obtain ⟨nn, hv⟩ := hv
        exact lp22 nn (0 : Int32) s11_ticks s11_hand s11_dBefore s11_fBefore s11_fFirst a11_sums a11_on a11_often a11_given a11_wished a11_firstSum a11_now a11_to a11_made H locs ls hv (lv_sub hl [0, 1, 2, 3] rfl) hP hD hS
      · have hv := hv.2 c_15
        refine lv_iconst (v := -1) hx hb dX11_run_18 (by decide) ?_
        rw [← hQ]
        exact k_iret hx hb hr hlocks hS (s11_ticks, s11_hand, s11_dBefore, s11_fBefore, s11_fFirst, a11_sums, a11_on, a11_often, a11_given, a11_wished, a11_firstSum, a11_now, a11_to, a11_made) hP hD hv dX11_run_19
theorem lk_X11_sum_38 : Cond.fieldLink RX11 38 "CoarseStepsModel" "sums" "[J" ∈ wsX11_sum := by decide +kernel
theorem in_X11_sum_11 : ∀ w ∈ wsX110, w ∈ wsX11_sum := by decide +kernel
abbrev rm_X11_sum : Room := { frames := 1, cells := 0, slots := 0, locals := 21 }
set_option maxHeartbeats 4000000 in
set_option maxRecDepth 100000 in
theorem m_X11_sum (l : Launch) (D : va_G) (cy : ClassId × ClassId × ClassId) (ad : Nat → Nat) (s11_d : Int32) (s11_stepMany : Int32) (s11_kind : Int32) (s11_many : Int32) (s11_partMany : Int32) (s11_rule : Int32) (s11_ticks : Int32) (s11_hand : Int32) (s11_g : Int32) (s11_beganElsewhere : Int32) (s11_dBefore : Int32) (s11_fBefore : Int32) (s11_fFirst : Int32) (s11_weightMany : Int32) (s11_tailTold : Int32) (a11_sums : Nat → Int64) (x1 : Int32) (sz : Nat) {K : Int64 → Prop} (hv : v_X11_sum s11_many a11_sums x1 K) : Met l yX11_sum wsX11_sum rm_X11_sum (va_Pc [.ref (ad 11), .int x1] (wd D cy [oX11 ad s11_d s11_stepMany s11_kind s11_many s11_partMany s11_rule s11_ticks s11_hand s11_g s11_beganElsewhere s11_dBefore s11_fBefore s11_fFirst s11_weightMany s11_tailTold, aJ cy (ad 47) 4 a11_sums] sz)) (va_Ql (fun (r : Int64) (u : Unit) => K r) (fun u t => we D ((fun u : Unit => [oX11 ad s11_d s11_stepMany s11_kind s11_many s11_partMany s11_rule s11_ticks s11_hand s11_g s11_beganElsewhere s11_dBefore s11_fBefore s11_fFirst s11_weightMany s11_tailTold, aJ cy (ad 47) 4 a11_sums]) u) (va_A [oX11 ad s11_d s11_stepMany s11_kind s11_many s11_partMany s11_rule s11_ticks s11_hand s11_g s11_beganElsewhere s11_dBefore s11_fBefore s11_fFirst s11_weightMany s11_tailTold, aJ cy (ad 47) 4 a11_sums] sz) t) (va_A [oX11 ad s11_d s11_stepMany s11_kind s11_many s11_partMany s11_rule s11_ticks s11_hand s11_g s11_beganElsewhere s11_dBefore s11_fBefore s11_fFirst s11_weightMany s11_tailTold, aJ cy (ad 47) 4 a11_sums] sz)) 0 0 (va_A [oX11 ad s11_d s11_stepMany s11_kind s11_many s11_partMany s11_rule s11_ticks s11_hand s11_g s11_beganElsewhere s11_dBefore s11_fBefore s11_fFirst s11_weightMany s11_tailTold, aJ cy (ad 47) 4 a11_sums] sz) := by
  refine k_ofW (cc := cX11_sum) (maxL := 2) (ret := (some .long)) (fun A => va_Ql (fun (r : Int64) (u : Unit) => K r) (fun u t => we D ((fun u : Unit => [oX11 ad s11_d s11_stepMany s11_kind s11_many s11_partMany s11_rule s11_ticks s11_hand s11_g s11_beganElsewhere s11_dBefore s11_fBefore s11_fFirst s11_weightMany s11_tailTold, aJ cy (ad 47) 4 a11_sums]) u) A t) A) (by decide) rfl (Nat.le_of_ble_eq_true rfl) ?_
  intro p e s m below meth c A ls H locs hx hb hml hr hts hown hlocks hname hK hN hA hP hD hS hl
  have hl : lv_has ls 2 [(0, .ref (ad 11)), (1, .int x1)] := hl
  generalize hQ : MQ below _ _ s _ _ A = Q
  unfold v_X11_sum at hv
  refine lv_aload_n hx hb dX11_sum_0 rfl (lv_at hl 0 rfl) ?_
  refine lv_iload_n hx hb dX11_sum_1 rfl (lv_at hl 1 rfl) ?_
  have hPc := hP.sub (ws' := [oX11 ad s11_d s11_stepMany s11_kind s11_many s11_partMany s11_rule s11_ticks s11_hand s11_g s11_beganElsewhere s11_dBefore s11_fBefore s11_fFirst s11_weightMany s11_tailTold]) [0] rfl
  have hDc := hD.sub (ws' := [oX11 ad s11_d s11_stepMany s11_kind s11_many s11_partMany s11_rule s11_ticks s11_hand s11_g s11_beganElsewhere s11_dBefore s11_fBefore s11_fFirst s11_weightMany s11_tailTold]) [0] (by decide) rfl
  refine k_cali (wc := [oX11 ad s11_d s11_stepMany s11_kind s11_many s11_partMany s11_rule s11_ticks s11_hand s11_g s11_beganElsewhere s11_dBefore s11_fBefore s11_fFirst s11_weightMany s11_tailTold]) (wr := [aJ cy (ad 47) 4 a11_sums]) (va_runV (As := [.int x1]) (rest := []) ⟨hx, hb, hml, hown, hts⟩ (m_X11_isSum l D cy ad s11_d s11_stepMany s11_kind s11_many s11_partMany s11_rule s11_ticks s11_hand s11_g s11_beganElsewhere s11_dBefore s11_fBefore s11_fFirst s11_weightMany s11_tailTold x1 H.size hv) (cwV 1 hts gX11_sum_X11_isSum rfl rfl rfl (by decide +kernel) ⟨Nat.le_of_ble_eq_true rfl, Nat.le_of_ble_eq_true rfl⟩) ⟨wd_blind, va_recv hK hPc (ci := 11) (q0 := 0) rfl rfl, wd_ok hPc hK hDc hN⟩ rfl rfl hl.1 rfl (lv_room (Nat.le_of_ble_eq_true rfl)) dX11_sum_2 ⟨Nat.le_of_ble_eq_true rfl, Nat.le_of_ble_eq_true rfl⟩) hP hD hS hA [0] [1] rfl rfl (by decide) (by decide) (fun r1 u H locs hv hP hD hS => ?_)
  obtain ⟨hz_r1, hv⟩ := hv
  have hP : va_P D vwCl [oX11 ad s11_d s11_stepMany s11_kind s11_many s11_partMany s11_rule s11_ticks s11_hand s11_g s11_beganElsewhere s11_dBefore s11_fBefore s11_fFirst s11_weightMany s11_tailTold, aJ cy (ad 47) 4 a11_sums] H := hP.sub [1, 0] rfl
  have hD : va_D A [oX11 ad s11_d s11_stepMany s11_kind s11_many s11_partMany s11_rule s11_ticks s11_hand s11_g s11_beganElsewhere s11_dBefore s11_fBefore s11_fFirst s11_weightMany s11_tailTold, aJ cy (ad 47) 4 a11_sums] := hD.sub [1, 0] (by decide) rfl
  refine lv_if_eq (tgt := 17) hx hb dX11_sum_5 (by decide) (fun c_5 => ?_) (fun c_5 => ?_)
  · have hv := hv.1 c_5
    refine lv_lconst (v := 0) hx hb dX11_sum_17 (by decide) ?_
    rw [← hQ]
    exact k_lret hx hb hr hlocks hS () hP hD hv dX11_sum_18
  · have hv := hv.2 c_5
    refine lv_aload_n hx hb dX11_sum_8 rfl (lv_at hl 0 rfl) ?_
    refine va_get (D := D) (ci := 11) (v := .ref (ad 47)) (C := RX11) (T := TX11) (N := 35) hx hb hts in_X11_sum_11 hown hK hP 0 rfl rfl 15 (by decide) (hts _ lk_X11_sum_38) (fun _ h9 => h9) rfl dX11_sum_9 ?_
    refine lv_iload_n hx hb dX11_sum_12 rfl (lv_at hl 1 rfl) ?_
    refine va_lald hx hb hK hP 1 1 rfl rfl hv.1 dX11_sum_13 ?_
    refine lv_topl (fun g2 h_g2 => ?_)
    have hv := hv.2 g2 h_g2
    refine lv_goto (tgt := 18) hx hb dX11_sum_14 (by decide) ?_
    rw [← hQ]
    exact k_lret hx hb hr hlocks hS () hP hD hv dX11_sum_18
theorem lk_X11_kept_81 : Cond.fieldLink RX11 81 "CoarseStepsModel" "ticks" "I" ∈ wsX11_kept := by decide +kernel
theorem in_X11_kept_11 : ∀ w ∈ wsX110, w ∈ wsX11_kept := by decide +kernel
abbrev rm_X11_kept : Room := { frames := 0, cells := 0, slots := 0, locals := 0 }
set_option maxHeartbeats 4000000 in
set_option maxRecDepth 100000 in
theorem m_X11_kept (l : Launch) (D : va_G) (cy : ClassId × ClassId × ClassId) (ad : Nat → Nat) (s11_d : Int32) (s11_stepMany : Int32) (s11_kind : Int32) (s11_many : Int32) (s11_partMany : Int32) (s11_rule : Int32) (s11_ticks : Int32) (s11_hand : Int32) (s11_g : Int32) (s11_beganElsewhere : Int32) (s11_dBefore : Int32) (s11_fBefore : Int32) (s11_fFirst : Int32) (s11_weightMany : Int32) (s11_tailTold : Int32) (sz : Nat) {K : Int32 → Prop} (hv : v_X11_kept s11_ticks K) : Met l yX11_kept wsX11_kept rm_X11_kept (va_Pc [.ref (ad 11)] (wd D cy [oX11 ad s11_d s11_stepMany s11_kind s11_many s11_partMany s11_rule s11_ticks s11_hand s11_g s11_beganElsewhere s11_dBefore s11_fBefore s11_fFirst s11_weightMany s11_tailTold] sz)) (va_Qi (fun (r : Int32) (u : Unit) => K r) (fun u t => we D ((fun u : Unit => [oX11 ad s11_d s11_stepMany s11_kind s11_many s11_partMany s11_rule s11_ticks s11_hand s11_g s11_beganElsewhere s11_dBefore s11_fBefore s11_fFirst s11_weightMany s11_tailTold]) u) (va_A [oX11 ad s11_d s11_stepMany s11_kind s11_many s11_partMany s11_rule s11_ticks s11_hand s11_g s11_beganElsewhere s11_dBefore s11_fBefore s11_fFirst s11_weightMany s11_tailTold] sz) t) (va_A [oX11 ad s11_d s11_stepMany s11_kind s11_many s11_partMany s11_rule s11_ticks s11_hand s11_g s11_beganElsewhere s11_dBefore s11_fBefore s11_fFirst s11_weightMany s11_tailTold] sz)) 0 0 (va_A [oX11 ad s11_d s11_stepMany s11_kind s11_many s11_partMany s11_rule s11_ticks s11_hand s11_g s11_beganElsewhere s11_dBefore s11_fBefore s11_fFirst s11_weightMany s11_tailTold] sz) := by
  refine k_ofW (cc := cX11_kept) (maxL := 1) (ret := (some .int)) (fun A => va_Qi (fun (r : Int32) (u : Unit) => K r) (fun u t => we D ((fun u : Unit => [oX11 ad s11_d s11_stepMany s11_kind s11_many s11_partMany s11_rule s11_ticks s11_hand s11_g s11_beganElsewhere s11_dBefore s11_fBefore s11_fFirst s11_weightMany s11_tailTold]) u) A t) A) (by decide) rfl (Nat.le_of_ble_eq_true rfl) ?_
  intro p e s m below meth c A ls H locs hx hb hml hr hts hown hlocks hname hK hN hA hP hD hS hl
  have hl : lv_has ls 1 [(0, .ref (ad 11))] := hl
  generalize hQ : MQ below _ _ s _ _ A = Q
  unfold v_X11_kept at hv
  refine lv_aload_n hx hb dX11_kept_0 rfl (lv_at hl 0 rfl) ?_
  refine va_get (D := D) (ci := 11) (v := .int s11_ticks) (C := RX11) (T := TX11) (N := 35) hx hb hts in_X11_kept_11 hown hK hP 0 rfl rfl 6 (by decide) (hts _ lk_X11_kept_81) (fun _ h9 => h9) rfl dX11_kept_1 ?_
  refine lv_sipush (v := 256) hx hb dX11_kept_4 (by decide) ?_
  refine lv_icmp_ge (tgt := 17) hx hb dX11_kept_7 (by decide) (fun c_7 => ?_) (fun c_7 => ?_)
  · have hv := hv.1 c_7
    refine lv_sipush (v := 256) hx hb dX11_kept_17 (by decide) ?_
    rw [← hQ]
    exact k_iret hx hb hr hlocks hS () hP hD hv dX11_kept_20
  · have hv := hv.2 c_7
    refine lv_aload_n hx hb dX11_kept_10 rfl (lv_at hl 0 rfl) ?_
    refine va_get (D := D) (ci := 11) (v := .int s11_ticks) (C := RX11) (T := TX11) (N := 35) hx hb hts in_X11_kept_11 hown hK hP 0 rfl rfl 6 (by decide) (hts _ lk_X11_kept_81) (fun _ h9 => h9) rfl dX11_kept_11 ?_
    refine lv_goto (tgt := 20) hx hb dX11_kept_14 (by decide) ?_
    rw [← hQ]
    exact k_iret hx hb hr hlocks hS () hP hD hv dX11_kept_20
theorem lk_X11_latest_81 : Cond.fieldLink RX11 81 "CoarseStepsModel" "ticks" "I" ∈ wsX11_latest := by decide +kernel
theorem in_X11_latest_11 : ∀ w ∈ wsX110, w ∈ wsX11_latest := by decide +kernel
abbrev rm_X11_latest : Room := { frames := 0, cells := 0, slots := 0, locals := 0 }
set_option maxHeartbeats 4000000 in
set_option maxRecDepth 100000 in
theorem m_X11_latest (l : Launch) (D : va_G) (cy : ClassId × ClassId × ClassId) (ad : Nat → Nat) (s11_d : Int32) (s11_stepMany : Int32) (s11_kind : Int32) (s11_many : Int32) (s11_partMany : Int32) (s11_rule : Int32) (s11_ticks : Int32) (s11_hand : Int32) (s11_g : Int32) (s11_beganElsewhere : Int32) (s11_dBefore : Int32) (s11_fBefore : Int32) (s11_fFirst : Int32) (s11_weightMany : Int32) (s11_tailTold : Int32) (x1 : Int32) (sz : Nat) {K : Int32 → Prop} (hv : v_X11_latest s11_ticks x1 K) : Met l yX11_latest wsX11_latest rm_X11_latest (va_Pc [.ref (ad 11), .int x1] (wd D cy [oX11 ad s11_d s11_stepMany s11_kind s11_many s11_partMany s11_rule s11_ticks s11_hand s11_g s11_beganElsewhere s11_dBefore s11_fBefore s11_fFirst s11_weightMany s11_tailTold] sz)) (va_Qi (fun (r : Int32) (u : Unit) => K r) (fun u t => we D ((fun u : Unit => [oX11 ad s11_d s11_stepMany s11_kind s11_many s11_partMany s11_rule s11_ticks s11_hand s11_g s11_beganElsewhere s11_dBefore s11_fBefore s11_fFirst s11_weightMany s11_tailTold]) u) (va_A [oX11 ad s11_d s11_stepMany s11_kind s11_many s11_partMany s11_rule s11_ticks s11_hand s11_g s11_beganElsewhere s11_dBefore s11_fBefore s11_fFirst s11_weightMany s11_tailTold] sz) t) (va_A [oX11 ad s11_d s11_stepMany s11_kind s11_many s11_partMany s11_rule s11_ticks s11_hand s11_g s11_beganElsewhere s11_dBefore s11_fBefore s11_fFirst s11_weightMany s11_tailTold] sz)) 0 0 (va_A [oX11 ad s11_d s11_stepMany s11_kind s11_many s11_partMany s11_rule s11_ticks s11_hand s11_g s11_beganElsewhere s11_dBefore s11_fBefore s11_fFirst s11_weightMany s11_tailTold] sz) := by
  refine k_ofW (cc := cX11_latest) (maxL := 2) (ret := (some .int)) (fun A => va_Qi (fun (r : Int32) (u : Unit) => K r) (fun u t => we D ((fun u : Unit => [oX11 ad s11_d s11_stepMany s11_kind s11_many s11_partMany s11_rule s11_ticks s11_hand s11_g s11_beganElsewhere s11_dBefore s11_fBefore s11_fFirst s11_weightMany s11_tailTold]) u) A t) A) (by decide) rfl (Nat.le_of_ble_eq_true rfl) ?_
  intro p e s m below meth c A ls H locs hx hb hml hr hts hown hlocks hname hK hN hA hP hD hS hl
  have hl : lv_has ls 2 [(0, .ref (ad 11)), (1, .int x1)] := hl
  generalize hQ : MQ below _ _ s _ _ A = Q
  unfold v_X11_latest at hv
  refine lv_aload_n hx hb dX11_latest_0 rfl (lv_at hl 0 rfl) ?_
  refine va_get (D := D) (ci := 11) (v := .int s11_ticks) (C := RX11) (T := TX11) (N := 35) hx hb hts in_X11_latest_11 hown hK hP 0 rfl rfl 6 (by decide) (hts _ lk_X11_latest_81) (fun _ h9 => h9) rfl dX11_latest_1 ?_
  refine lv_iconst (v := 1) hx hb dX11_latest_4 (by decide) ?_
  refine lv_isub hx hb dX11_latest_5 ?_
  refine lv_topi (fun e1 h_e1 => ?_)
  have hv := hv e1 h_e1
  refine lv_iload_n hx hb dX11_latest_6 rfl (lv_at hl 1 rfl) ?_
  refine lv_isub hx hb dX11_latest_7 ?_
  refine lv_topi (fun e2 h_e2 => ?_)
  have hv := hv e2 h_e2
  refine lv_sipush (v := 256) hx hb dX11_latest_8 (by decide) ?_
  refine lv_irem hx hb dX11_latest_11 (by decide) ?_
  refine lv_topi (fun e3 h_e3 => ?_)
  have hv := hv e3 h_e3
  rw [← hQ]
  exact k_iret hx hb hr hlocks hS () hP hD hv dX11_latest_12
theorem lk_X11_was_151 : Cond.constant RX11 151 (-2147483648) ∈ wsX11_was := by decide +kernel
theorem lk_X11_was_57 : Cond.fieldLink RX11 57 "CoarseStepsModel" "wished" "[I" ∈ wsX11_was := by decide +kernel
theorem in_X11_was_11 : ∀ w ∈ wsX110, w ∈ wsX11_was := by decide +kernel
theorem lk_X11_was_54 : Cond.fieldLink RX11 54 "CoarseStepsModel" "given" "[I" ∈ wsX11_was := by decide +kernel
abbrev rm_X11_was : Room := { frames := 1, cells := 0, slots := 0, locals := 21 }
set_option maxHeartbeats 4000000 in
set_option maxRecDepth 100000 in
theorem m_X11_was (l : Launch) (D : va_G) (cy : ClassId × ClassId × ClassId) (ad : Nat → Nat) (s11_d : Int32) (s11_stepMany : Int32) (s11_kind : Int32) (s11_many : Int32) (s11_partMany : Int32) (s11_rule : Int32) (s11_ticks : Int32) (s11_hand : Int32) (s11_g : Int32) (s11_beganElsewhere : Int32) (s11_dBefore : Int32) (s11_fBefore : Int32) (s11_fFirst : Int32) (s11_weightMany : Int32) (s11_tailTold : Int32) (a11_given : Nat → Int32) (a11_wished : Nat → Int32) (x1 : Int32) (x2 : Int32) (sz : Nat) {K : Int32 → Prop} (hv : v_X11_was s11_ticks a11_given a11_wished x1 x2 K) : Met l yX11_was wsX11_was rm_X11_was (va_Pc [.ref (ad 11), .int x1, .int x2] (wd D cy [oX11 ad s11_d s11_stepMany s11_kind s11_many s11_partMany s11_rule s11_ticks s11_hand s11_g s11_beganElsewhere s11_dBefore s11_fBefore s11_fFirst s11_weightMany s11_tailTold, aI cy (ad 52) 256 a11_given, aI cy (ad 53) 256 a11_wished] sz)) (va_Qi (fun (r : Int32) (u : Unit) => K r) (fun u t => we D ((fun u : Unit => [oX11 ad s11_d s11_stepMany s11_kind s11_many s11_partMany s11_rule s11_ticks s11_hand s11_g s11_beganElsewhere s11_dBefore s11_fBefore s11_fFirst s11_weightMany s11_tailTold, aI cy (ad 52) 256 a11_given, aI cy (ad 53) 256 a11_wished]) u) (va_A [oX11 ad s11_d s11_stepMany s11_kind s11_many s11_partMany s11_rule s11_ticks s11_hand s11_g s11_beganElsewhere s11_dBefore s11_fBefore s11_fFirst s11_weightMany s11_tailTold, aI cy (ad 52) 256 a11_given, aI cy (ad 53) 256 a11_wished] sz) t) (va_A [oX11 ad s11_d s11_stepMany s11_kind s11_many s11_partMany s11_rule s11_ticks s11_hand s11_g s11_beganElsewhere s11_dBefore s11_fBefore s11_fFirst s11_weightMany s11_tailTold, aI cy (ad 52) 256 a11_given, aI cy (ad 53) 256 a11_wished] sz)) 0 0 (va_A [oX11 ad s11_d s11_stepMany s11_kind s11_many s11_partMany s11_rule s11_ticks s11_hand s11_g s11_beganElsewhere s11_dBefore s11_fBefore s11_fFirst s11_weightMany s11_tailTold, aI cy (ad 52) 256 a11_given, aI cy (ad 53) 256 a11_wished] sz) := by
  refine k_ofW (cc := cX11_was) (maxL := 3) (ret := (some .int)) (fun A => va_Qi (fun (r : Int32) (u : Unit) => K r) (fun u t => we D ((fun u : Unit => [oX11 ad s11_d s11_stepMany s11_kind s11_many s11_partMany s11_rule s11_ticks s11_hand s11_g s11_beganElsewhere s11_dBefore s11_fBefore s11_fFirst s11_weightMany s11_tailTold, aI cy (ad 52) 256 a11_given, aI cy (ad 53) 256 a11_wished]) u) A t) A) (by decide) rfl (Nat.le_of_ble_eq_true rfl) ?_
  intro p e s m below meth c A ls H locs hx hb hml hr hts hown hlocks hname hK hN hA hP hD hS hl
  have hl : lv_has ls 3 [(0, .ref (ad 11)), (1, .int x1), (2, .int x2)] := hl
  generalize hQ : MQ below _ _ s _ _ A = Q
  unfold v_X11_was at hv
  refine lv_iload_n hx hb dX11_was_0 rfl (lv_at hl 1 rfl) ?_
  refine lv_if_lt (tgt := 21) hx hb dX11_was_1 (by decide) (fun c_1 => ?_) (fun c_1 => ?_)
  · have hv := hv.1 c_1
    refine lv_ldc hx hb hown (hts _ lk_X11_was_151) dX11_was_21 ?_
    refine lv_goto (tgt := 53) hx hb dX11_was_23 (by decide) ?_
    rw [← hQ]
    exact k_iret hx hb hr hlocks hS () hP hD hv dX11_was_53
  · have hv := hv.2 c_1
    refine lv_iload_n hx hb dX11_was_4 rfl (lv_at hl 1 rfl) ?_
    refine lv_aload_n hx hb dX11_was_5 rfl (lv_at hl 0 rfl) ?_
    have hPc := hP.sub (ws' := [oX11 ad s11_d s11_stepMany s11_kind s11_many s11_partMany s11_rule s11_ticks s11_hand s11_g s11_beganElsewhere s11_dBefore s11_fBefore s11_fFirst s11_weightMany s11_tailTold]) [0] rfl
    have hDc := hD.sub (ws' := [oX11 ad s11_d s11_stepMany s11_kind s11_many s11_partMany s11_rule s11_ticks s11_hand s11_g s11_beganElsewhere s11_dBefore s11_fBefore s11_fFirst s11_weightMany s11_tailTold]) [0] (by decide) rfl
    refine k_cali (wc := [oX11 ad s11_d s11_stepMany s11_kind s11_many s11_partMany s11_rule s11_ticks s11_hand s11_g s11_beganElsewhere s11_dBefore s11_fBefore s11_fFirst s11_weightMany s11_tailTold]) (wr := [aI cy (ad 52) 256 a11_given, aI cy (ad 53) 256 a11_wished]) (va_runV (As := []) (rest := [.int x1]) ⟨hx, hb, hml, hown, hts⟩ (m_X11_kept l D cy ad s11_d s11_stepMany s11_kind s11_many s11_partMany s11_rule s11_ticks s11_hand s11_g s11_beganElsewhere s11_dBefore s11_fBefore s11_fFirst s11_weightMany s11_tailTold H.size hv) (cwV 0 hts gX11_was_X11_kept rfl rfl rfl (by decide +kernel) ⟨Nat.le_of_ble_eq_true rfl, Nat.le_of_ble_eq_true rfl⟩) ⟨wd_blind, va_recv hK hPc (ci := 11) (q0 := 0) rfl rfl, wd_ok hPc hK hDc hN⟩ rfl rfl hl.1 rfl (lv_room (Nat.le_of_ble_eq_true rfl)) dX11_was_6 ⟨Nat.le_of_ble_eq_true rfl, Nat.le_of_ble_eq_true rfl⟩) hP hD hS hA [0] [1, 2] rfl rfl (by decide) (by decide) (fun r1 u H locs hv hP hD hS => ?_)
    have hP : va_P D vwCl [oX11 ad s11_d s11_stepMany s11_kind s11_many s11_partMany s11_rule s11_ticks s11_hand s11_g s11_beganElsewhere s11_dBefore s11_fBefore s11_fFirst s11_weightMany s11_tailTold, aI cy (ad 52) 256 a11_given, aI cy (ad 53) 256 a11_wished] H := hP.sub [2, 0, 1] rfl
    have hD : va_D A [oX11 ad s11_d s11_stepMany s11_kind s11_many s11_partMany s11_rule s11_ticks s11_hand s11_g s11_beganElsewhere s11_dBefore s11_fBefore s11_fFirst s11_weightMany s11_tailTold, aI cy (ad 52) 256 a11_given, aI cy (ad 53) 256 a11_wished] := hD.sub [2, 0, 1] (by decide) rfl
    refine lv_icmp_ge (tgt := 21) hx hb dX11_was_9 (by decide) (fun c_9 => ?_) (fun c_9 => ?_)
    · have hv := hv.1 c_9
      refine lv_ldc hx hb hown (hts _ lk_X11_was_151) dX11_was_21 ?_
      refine lv_goto (tgt := 53) hx hb dX11_was_23 (by decide) ?_
      rw [← hQ]
      exact k_iret hx hb hr hlocks hS () hP hD hv dX11_was_53
    · have hv := hv.2 c_9
      refine lv_iload_n hx hb dX11_was_12 rfl (lv_at hl 2 rfl) ?_
      refine lv_if_lt (tgt := 21) hx hb dX11_was_13 (by decide) (fun c_13 => ?_) (fun c_13 => ?_)
      · have hv := hv.1 c_13
        refine lv_ldc hx hb hown (hts _ lk_X11_was_151) dX11_was_21 ?_
        refine lv_goto (tgt := 53) hx hb dX11_was_23 (by decide) ?_
        rw [← hQ]
        exact k_iret hx hb hr hlocks hS () hP hD hv dX11_was_53
      · have hv := hv.2 c_13
        refine lv_iload_n hx hb dX11_was_16 rfl (lv_at hl 2 rfl) ?_
        refine lv_iconst (v := 1) hx hb dX11_was_17 (by decide) ?_
        refine lv_icmp_le (tgt := 26) hx hb dX11_was_18 (by decide) (fun c_18 => ?_) (fun c_18 => ?_)
        · have hv := hv.1 c_18
          refine lv_iload_n hx hb dX11_was_26 rfl (lv_at hl 2 rfl) ?_
          refine lv_if_ne (tgt := 43) hx hb dX11_was_27 (by decide) (fun c_27 => ?_) (fun c_27 => ?_)
          · have hv := hv.1 c_27
            refine lv_aload_n hx hb dX11_was_43 rfl (lv_at hl 0 rfl) ?_
            refine va_get (D := D) (ci := 11) (v := .ref (ad 53)) (C := RX11) (T := TX11) (N := 35) hx hb hts in_X11_was_11 hown hK hP 0 rfl rfl 25 (by decide) (hts _ lk_X11_was_57) (fun _ h9 => h9) rfl dX11_was_44 ?_
            refine lv_aload_n hx hb dX11_was_47 rfl (lv_at hl 0 rfl) ?_
            refine lv_iload_n hx hb dX11_was_48 rfl (lv_at hl 1 rfl) ?_
            have hPc := hP.sub (ws' := [oX11 ad s11_d s11_stepMany s11_kind s11_many s11_partMany s11_rule s11_ticks s11_hand s11_g s11_beganElsewhere s11_dBefore s11_fBefore s11_fFirst s11_weightMany s11_tailTold]) [0] rfl
            have hDc := hD.sub (ws' := [oX11 ad s11_d s11_stepMany s11_kind s11_many s11_partMany s11_rule s11_ticks s11_hand s11_g s11_beganElsewhere s11_dBefore s11_fBefore s11_fFirst s11_weightMany s11_tailTold]) [0] (by decide) rfl
            refine k_cali (wc := [oX11 ad s11_d s11_stepMany s11_kind s11_many s11_partMany s11_rule s11_ticks s11_hand s11_g s11_beganElsewhere s11_dBefore s11_fBefore s11_fFirst s11_weightMany s11_tailTold]) (wr := [aI cy (ad 52) 256 a11_given, aI cy (ad 53) 256 a11_wished]) (va_runV (As := [.int x1]) (rest := [.ref (ad 53)]) ⟨hx, hb, hml, hown, hts⟩ (m_X11_latest l D cy ad s11_d s11_stepMany s11_kind s11_many s11_partMany s11_rule s11_ticks s11_hand s11_g s11_beganElsewhere s11_dBefore s11_fBefore s11_fFirst s11_weightMany s11_tailTold x1 H.size hv) (cwV 1 hts gX11_was_X11_latest rfl rfl rfl (by decide +kernel) ⟨Nat.le_of_ble_eq_true rfl, Nat.le_of_ble_eq_true rfl⟩) ⟨wd_blind, va_recv hK hPc (ci := 11) (q0 := 0) rfl rfl, wd_ok hPc hK hDc hN⟩ rfl rfl hl.1 rfl (lv_room (Nat.le_of_ble_eq_true rfl)) dX11_was_49 ⟨Nat.le_of_ble_eq_true rfl, Nat.le_of_ble_eq_true rfl⟩) hP hD hS hA [0] [1, 2] rfl rfl (by decide) (by decide) (fun r2 u H locs hv hP hD hS => ?_)
            have hP : va_P D vwCl [oX11 ad s11_d s11_stepMany s11_kind s11_many s11_partMany s11_rule s11_ticks s11_hand s11_g s11_beganElsewhere s11_dBefore s11_fBefore s11_fFirst s11_weightMany s11_tailTold, aI cy (ad 52) 256 a11_given, aI cy (ad 53) 256 a11_wished] H := hP.sub [2, 0, 1] rfl
            have hD : va_D A [oX11 ad s11_d s11_stepMany s11_kind s11_many s11_partMany s11_rule s11_ticks s11_hand s11_g s11_beganElsewhere s11_dBefore s11_fBefore s11_fFirst s11_weightMany s11_tailTold, aI cy (ad 52) 256 a11_given, aI cy (ad 53) 256 a11_wished] := hD.sub [2, 0, 1] (by decide) rfl
            refine va_iald hx hb hK hP 2 0 rfl rfl hv.1 dX11_was_52 ?_
            refine lv_topi (fun g3 h_g3 => ?_)
            have hv := hv.2 g3 h_g3
            rw [← hQ]
            exact k_iret hx hb hr hlocks hS () hP hD hv dX11_was_53
          · have hv := hv.2 c_27
            refine lv_aload_n hx hb dX11_was_30 rfl (lv_at hl 0 rfl) ?_
            refine va_get (D := D) (ci := 11) (v := .ref (ad 52)) (C := RX11) (T := TX11) (N := 35) hx hb hts in_X11_was_11 hown hK hP 0 rfl rfl 24 (by decide) (hts _ lk_X11_was_54) (fun _ h9 => h9) rfl dX11_was_31 ?_
            refine lv_aload_n hx hb dX11_was_34 rfl (lv_at hl 0 rfl) ?_
            refine lv_iload_n hx hb dX11_was_35 rfl (lv_at hl 1 rfl) ?_
            have hPc := hP.sub (ws' := [oX11 ad s11_d s11_stepMany s11_kind s11_many s11_partMany s11_rule s11_ticks s11_hand s11_g s11_beganElsewhere s11_dBefore s11_fBefore s11_fFirst s11_weightMany s11_tailTold]) [0] rfl
            have hDc := hD.sub (ws' := [oX11 ad s11_d s11_stepMany s11_kind s11_many s11_partMany s11_rule s11_ticks s11_hand s11_g s11_beganElsewhere s11_dBefore s11_fBefore s11_fFirst s11_weightMany s11_tailTold]) [0] (by decide) rfl
            refine k_cali (wc := [oX11 ad s11_d s11_stepMany s11_kind s11_many s11_partMany s11_rule s11_ticks s11_hand s11_g s11_beganElsewhere s11_dBefore s11_fBefore s11_fFirst s11_weightMany s11_tailTold]) (wr := [aI cy (ad 52) 256 a11_given, aI cy (ad 53) 256 a11_wished]) (va_runV (As := [.int x1]) (rest := [.ref (ad 52)]) ⟨hx, hb, hml, hown, hts⟩ (m_X11_latest l D cy ad s11_d s11_stepMany s11_kind s11_many s11_partMany s11_rule s11_ticks s11_hand s11_g s11_beganElsewhere s11_dBefore s11_fBefore s11_fFirst s11_weightMany s11_tailTold x1 H.size hv) (cwV 1 hts gX11_was_X11_latest rfl rfl rfl (by decide +kernel) ⟨Nat.le_of_ble_eq_true rfl, Nat.le_of_ble_eq_true rfl⟩) ⟨wd_blind, va_recv hK hPc (ci := 11) (q0 := 0) rfl rfl, wd_ok hPc hK hDc hN⟩ rfl rfl hl.1 rfl (lv_room (Nat.le_of_ble_eq_true rfl)) dX11_was_36 ⟨Nat.le_of_ble_eq_true rfl, Nat.le_of_ble_eq_true rfl⟩) hP hD hS hA [0] [1, 2] rfl rfl (by decide) (by decide) (fun r4 u H locs hv hP hD hS => ?_)
            have hP : va_P D vwCl [oX11 ad s11_d s11_stepMany s11_kind s11_many s11_partMany s11_rule s11_ticks s11_hand s11_g s11_beganElsewhere s11_dBefore s11_fBefore s11_fFirst s11_weightMany s11_tailTold, aI cy (ad 52) 256 a11_given, aI cy (ad 53) 256 a11_wished] H := hP.sub [2, 0, 1] rfl
            have hD : va_D A [oX11 ad s11_d s11_stepMany s11_kind s11_many s11_partMany s11_rule s11_ticks s11_hand s11_g s11_beganElsewhere s11_dBefore s11_fBefore s11_fFirst s11_weightMany s11_tailTold, aI cy (ad 52) 256 a11_given, aI cy (ad 53) 256 a11_wished] := hD.sub [2, 0, 1] (by decide) rfl
            refine va_iald hx hb hK hP 1 0 rfl rfl hv.1 dX11_was_39 ?_
            refine lv_topi (fun g5 h_g5 => ?_)
            have hv := hv.2 g5 h_g5
            refine lv_goto (tgt := 53) hx hb dX11_was_40 (by decide) ?_
            rw [← hQ]
            exact k_iret hx hb hr hlocks hS () hP hD hv dX11_was_53
        · have hv := hv.2 c_18
          refine lv_ldc hx hb hown (hts _ lk_X11_was_151) dX11_was_21 ?_
          refine lv_goto (tgt := 53) hx hb dX11_was_23 (by decide) ?_
          rw [← hQ]
          exact k_iret hx hb hr hlocks hS () hP hD hv dX11_was_53
theorem lk_X11_behind_60 : Cond.fieldLink RX11 60 "CoarseStepsModel" "firstSum" "[J" ∈ wsX11_behind := by decide +kernel
theorem in_X11_behind_11 : ∀ w ∈ wsX110, w ∈ wsX11_behind := by decide +kernel
abbrev rm_X11_behind : Room := { frames := 1, cells := 0, slots := 0, locals := 21 }
set_option maxHeartbeats 4000000 in
set_option maxRecDepth 100000 in
theorem m_X11_behind (l : Launch) (D : va_G) (cy : ClassId × ClassId × ClassId) (ad : Nat → Nat) (s11_d : Int32) (s11_stepMany : Int32) (s11_kind : Int32) (s11_many : Int32) (s11_partMany : Int32) (s11_rule : Int32) (s11_ticks : Int32) (s11_hand : Int32) (s11_g : Int32) (s11_beganElsewhere : Int32) (s11_dBefore : Int32) (s11_fBefore : Int32) (s11_fFirst : Int32) (s11_weightMany : Int32) (s11_tailTold : Int32) (a11_firstSum : Nat → Int64) (x1 : Int32) (sz : Nat) {K : Int64 → Prop} (hv : v_X11_behind s11_ticks a11_firstSum x1 K) : Met l yX11_behind wsX11_behind rm_X11_behind (va_Pc [.ref (ad 11), .int x1] (wd D cy [oX11 ad s11_d s11_stepMany s11_kind s11_many s11_partMany s11_rule s11_ticks s11_hand s11_g s11_beganElsewhere s11_dBefore s11_fBefore s11_fFirst s11_weightMany s11_tailTold, aJ cy (ad 54) 256 a11_firstSum] sz)) (va_Ql (fun (r : Int64) (u : Unit) => K r) (fun u t => we D ((fun u : Unit => [oX11 ad s11_d s11_stepMany s11_kind s11_many s11_partMany s11_rule s11_ticks s11_hand s11_g s11_beganElsewhere s11_dBefore s11_fBefore s11_fFirst s11_weightMany s11_tailTold, aJ cy (ad 54) 256 a11_firstSum]) u) (va_A [oX11 ad s11_d s11_stepMany s11_kind s11_many s11_partMany s11_rule s11_ticks s11_hand s11_g s11_beganElsewhere s11_dBefore s11_fBefore s11_fFirst s11_weightMany s11_tailTold, aJ cy (ad 54) 256 a11_firstSum] sz) t) (va_A [oX11 ad s11_d s11_stepMany s11_kind s11_many s11_partMany s11_rule s11_ticks s11_hand s11_g s11_beganElsewhere s11_dBefore s11_fBefore s11_fFirst s11_weightMany s11_tailTold, aJ cy (ad 54) 256 a11_firstSum] sz)) 0 0 (va_A [oX11 ad s11_d s11_stepMany s11_kind s11_many s11_partMany s11_rule s11_ticks s11_hand s11_g s11_beganElsewhere s11_dBefore s11_fBefore s11_fFirst s11_weightMany s11_tailTold, aJ cy (ad 54) 256 a11_firstSum] sz) := by
  refine k_ofW (cc := cX11_behind) (maxL := 2) (ret := (some .long)) (fun A => va_Ql (fun (r : Int64) (u : Unit) => K r) (fun u t => we D ((fun u : Unit => [oX11 ad s11_d s11_stepMany s11_kind s11_many s11_partMany s11_rule s11_ticks s11_hand s11_g s11_beganElsewhere s11_dBefore s11_fBefore s11_fFirst s11_weightMany s11_tailTold, aJ cy (ad 54) 256 a11_firstSum]) u) A t) A) (by decide) rfl (Nat.le_of_ble_eq_true rfl) ?_
  intro p e s m below meth c A ls H locs hx hb hml hr hts hown hlocks hname hK hN hA hP hD hS hl
  have hl : lv_has ls 2 [(0, .ref (ad 11)), (1, .int x1)] := hl
  generalize hQ : MQ below _ _ s _ _ A = Q
  unfold v_X11_behind at hv
  refine lv_iload_n hx hb dX11_behind_0 rfl (lv_at hl 1 rfl) ?_
  refine lv_if_lt (tgt := 12) hx hb dX11_behind_1 (by decide) (fun c_1 => ?_) (fun c_1 => ?_)
  · have hv := hv.1 c_1
    refine lv_lconst (v := 0) hx hb dX11_behind_12 (by decide) ?_
    refine lv_goto (tgt := 26) hx hb dX11_behind_13 (by decide) ?_
    rw [← hQ]
    exact k_lret hx hb hr hlocks hS () hP hD hv dX11_behind_26
  · have hv := hv.2 c_1
    refine lv_iload_n hx hb dX11_behind_4 rfl (lv_at hl 1 rfl) ?_
    refine lv_aload_n hx hb dX11_behind_5 rfl (lv_at hl 0 rfl) ?_
    have hPc := hP.sub (ws' := [oX11 ad s11_d s11_stepMany s11_kind s11_many s11_partMany s11_rule s11_ticks s11_hand s11_g s11_beganElsewhere s11_dBefore s11_fBefore s11_fFirst s11_weightMany s11_tailTold]) [0] rfl
    have hDc := hD.sub (ws' := [oX11 ad s11_d s11_stepMany s11_kind s11_many s11_partMany s11_rule s11_ticks s11_hand s11_g s11_beganElsewhere s11_dBefore s11_fBefore s11_fFirst s11_weightMany s11_tailTold]) [0] (by decide) rfl
    refine k_cali (wc := [oX11 ad s11_d s11_stepMany s11_kind s11_many s11_partMany s11_rule s11_ticks s11_hand s11_g s11_beganElsewhere s11_dBefore s11_fBefore s11_fFirst s11_weightMany s11_tailTold]) (wr := [aJ cy (ad 54) 256 a11_firstSum]) (va_runV (As := []) (rest := [.int x1]) ⟨hx, hb, hml, hown, hts⟩ (m_X11_kept l D cy ad s11_d s11_stepMany s11_kind s11_many s11_partMany s11_rule s11_ticks s11_hand s11_g s11_beganElsewhere s11_dBefore s11_fBefore s11_fFirst s11_weightMany s11_tailTold H.size hv) (cwV 0 hts gX11_behind_X11_kept rfl rfl rfl (by decide +kernel) ⟨Nat.le_of_ble_eq_true rfl, Nat.le_of_ble_eq_true rfl⟩) ⟨wd_blind, va_recv hK hPc (ci := 11) (q0 := 0) rfl rfl, wd_ok hPc hK hDc hN⟩ rfl rfl hl.1 rfl (lv_room (Nat.le_of_ble_eq_true rfl)) dX11_behind_6 ⟨Nat.le_of_ble_eq_true rfl, Nat.le_of_ble_eq_true rfl⟩) hP hD hS hA [0] [1] rfl rfl (by decide) (by decide) (fun r1 u H locs hv hP hD hS => ?_)
    have hP : va_P D vwCl [oX11 ad s11_d s11_stepMany s11_kind s11_many s11_partMany s11_rule s11_ticks s11_hand s11_g s11_beganElsewhere s11_dBefore s11_fBefore s11_fFirst s11_weightMany s11_tailTold, aJ cy (ad 54) 256 a11_firstSum] H := hP.sub [1, 0] rfl
    have hD : va_D A [oX11 ad s11_d s11_stepMany s11_kind s11_many s11_partMany s11_rule s11_ticks s11_hand s11_g s11_beganElsewhere s11_dBefore s11_fBefore s11_fFirst s11_weightMany s11_tailTold, aJ cy (ad 54) 256 a11_firstSum] := hD.sub [1, 0] (by decide) rfl
    refine lv_icmp_lt (tgt := 16) hx hb dX11_behind_9 (by decide) (fun c_9 => ?_) (fun c_9 => ?_)
    · have hv := hv.1 c_9
      refine lv_aload_n hx hb dX11_behind_16 rfl (lv_at hl 0 rfl) ?_
      refine va_get (D := D) (ci := 11) (v := .ref (ad 54)) (C := RX11) (T := TX11) (N := 35) hx hb hts in_X11_behind_11 hown hK hP 0 rfl rfl 26 (by decide) (hts _ lk_X11_behind_60) (fun _ h9 => h9) rfl dX11_behind_17 ?_
      refine lv_aload_n hx hb dX11_behind_20 rfl (lv_at hl 0 rfl) ?_
      refine lv_iload_n hx hb dX11_behind_21 rfl (lv_at hl 1 rfl) ?_
      have hPc := hP.sub (ws' := [oX11 ad s11_d s11_stepMany s11_kind s11_many s11_partMany s11_rule s11_ticks s11_hand s11_g s11_beganElsewhere s11_dBefore s11_fBefore s11_fFirst s11_weightMany s11_tailTold]) [0] rfl
      have hDc := hD.sub (ws' := [oX11 ad s11_d s11_stepMany s11_kind s11_many s11_partMany s11_rule s11_ticks s11_hand s11_g s11_beganElsewhere s11_dBefore s11_fBefore s11_fFirst s11_weightMany s11_tailTold]) [0] (by decide) rfl
      refine k_cali (wc := [oX11 ad s11_d s11_stepMany s11_kind s11_many s11_partMany s11_rule s11_ticks s11_hand s11_g s11_beganElsewhere s11_dBefore s11_fBefore s11_fFirst s11_weightMany s11_tailTold]) (wr := [aJ cy (ad 54) 256 a11_firstSum]) (va_runV (As := [.int x1]) (rest := [.ref (ad 54)]) ⟨hx, hb, hml, hown, hts⟩ (m_X11_latest l D cy ad s11_d s11_stepMany s11_kind s11_many s11_partMany s11_rule s11_ticks s11_hand s11_g s11_beganElsewhere s11_dBefore s11_fBefore s11_fFirst s11_weightMany s11_tailTold x1 H.size hv) (cwV 1 hts gX11_behind_X11_latest rfl rfl rfl (by decide +kernel) ⟨Nat.le_of_ble_eq_true rfl, Nat.le_of_ble_eq_true rfl⟩) ⟨wd_blind, va_recv hK hPc (ci := 11) (q0 := 0) rfl rfl, wd_ok hPc hK hDc hN⟩ rfl rfl hl.1 rfl (lv_room (Nat.le_of_ble_eq_true rfl)) dX11_behind_22 ⟨Nat.le_of_ble_eq_true rfl, Nat.le_of_ble_eq_true rfl⟩) hP hD hS hA [0] [1] rfl rfl (by decide) (by decide) (fun r2 u H locs hv hP hD hS => ?_)
      have hP : va_P D vwCl [oX11 ad s11_d s11_stepMany s11_kind s11_many s11_partMany s11_rule s11_ticks s11_hand s11_g s11_beganElsewhere s11_dBefore s11_fBefore s11_fFirst s11_weightMany s11_tailTold, aJ cy (ad 54) 256 a11_firstSum] H := hP.sub [1, 0] rfl
      have hD : va_D A [oX11 ad s11_d s11_stepMany s11_kind s11_many s11_partMany s11_rule s11_ticks s11_hand s11_g s11_beganElsewhere s11_dBefore s11_fBefore s11_fFirst s11_weightMany s11_tailTold, aJ cy (ad 54) 256 a11_firstSum] := hD.sub [1, 0] (by decide) rfl
      refine va_lald hx hb hK hP 1 1 rfl rfl hv.1 dX11_behind_25 ?_
      refine lv_topl (fun g3 h_g3 => ?_)
      have hv := hv.2 g3 h_g3
      rw [← hQ]
      exact k_lret hx hb hr hlocks hS () hP hD hv dX11_behind_26
    · have hv := hv.2 c_9
      refine lv_lconst (v := 0) hx hb dX11_behind_12 (by decide) ?_
      refine lv_goto (tgt := 26) hx hb dX11_behind_13 (by decide) ?_
      rw [← hQ]
      exact k_lret hx hb hr hlocks hS () hP hD hv dX11_behind_26
theorem lk_X11_missed_54 : Cond.fieldLink RX11 54 "CoarseStepsModel" "given" "[I" ∈ wsX11_missed := by decide +kernel
theorem in_X11_missed_11 : ∀ w ∈ wsX110, w ∈ wsX11_missed := by decide +kernel
theorem lk_X11_missed_7 : Cond.fieldLink RX11 7 "CoarseStepsModel" "d" "I" ∈ wsX11_missed := by decide +kernel
theorem lk_X11_missed_57 : Cond.fieldLink RX11 57 "CoarseStepsModel" "wished" "[I" ∈ wsX11_missed := by decide +kernel
abbrev rm_X11_missed : Room := { frames := 1, cells := 0, slots := 0, locals := 21 }
set_option maxHeartbeats 4000000 in
set_option maxRecDepth 100000 in
theorem m_X11_missed (l : Launch) (D : va_G) (cy : ClassId × ClassId × ClassId) (ad : Nat → Nat) (s11_d : Int32) (s11_stepMany : Int32) (s11_kind : Int32) (s11_many : Int32) (s11_partMany : Int32) (s11_rule : Int32) (s11_ticks : Int32) (s11_hand : Int32) (s11_g : Int32) (s11_beganElsewhere : Int32) (s11_dBefore : Int32) (s11_fBefore : Int32) (s11_fFirst : Int32) (s11_weightMany : Int32) (s11_tailTold : Int32) (a11_given : Nat → Int32) (a11_wished : Nat → Int32) (x1 : Int32) (sz : Nat) {K : Int64 → Prop} (hv : v_X11_missed s11_d s11_ticks a11_given a11_wished x1 K) : Met l yX11_missed wsX11_missed rm_X11_missed (va_Pc [.ref (ad 11), .int x1] (wd D cy [oX11 ad s11_d s11_stepMany s11_kind s11_many s11_partMany s11_rule s11_ticks s11_hand s11_g s11_beganElsewhere s11_dBefore s11_fBefore s11_fFirst s11_weightMany s11_tailTold, aI cy (ad 52) 256 a11_given, aI cy (ad 53) 256 a11_wished] sz)) (va_Ql (fun (r : Int64) (u : Unit) => K r) (fun u t => we D ((fun u : Unit => [oX11 ad s11_d s11_stepMany s11_kind s11_many s11_partMany s11_rule s11_ticks s11_hand s11_g s11_beganElsewhere s11_dBefore s11_fBefore s11_fFirst s11_weightMany s11_tailTold, aI cy (ad 52) 256 a11_given, aI cy (ad 53) 256 a11_wished]) u) (va_A [oX11 ad s11_d s11_stepMany s11_kind s11_many s11_partMany s11_rule s11_ticks s11_hand s11_g s11_beganElsewhere s11_dBefore s11_fBefore s11_fFirst s11_weightMany s11_tailTold, aI cy (ad 52) 256 a11_given, aI cy (ad 53) 256 a11_wished] sz) t) (va_A [oX11 ad s11_d s11_stepMany s11_kind s11_many s11_partMany s11_rule s11_ticks s11_hand s11_g s11_beganElsewhere s11_dBefore s11_fBefore s11_fFirst s11_weightMany s11_tailTold, aI cy (ad 52) 256 a11_given, aI cy (ad 53) 256 a11_wished] sz)) 0 0 (va_A [oX11 ad s11_d s11_stepMany s11_kind s11_many s11_partMany s11_rule s11_ticks s11_hand s11_g s11_beganElsewhere s11_dBefore s11_fBefore s11_fFirst s11_weightMany s11_tailTold, aI cy (ad 52) 256 a11_given, aI cy (ad 53) 256 a11_wished] sz) := by
  refine k_ofW (cc := cX11_missed) (maxL := 5) (ret := (some .long)) (fun A => va_Ql (fun (r : Int64) (u : Unit) => K r) (fun u t => we D ((fun u : Unit => [oX11 ad s11_d s11_stepMany s11_kind s11_many s11_partMany s11_rule s11_ticks s11_hand s11_g s11_beganElsewhere s11_dBefore s11_fBefore s11_fFirst s11_weightMany s11_tailTold, aI cy (ad 52) 256 a11_given, aI cy (ad 53) 256 a11_wished]) u) A t) A) (by decide) rfl (Nat.le_of_ble_eq_true rfl) ?_
  intro p e s m below meth c A ls H locs hx hb hml hr hts hown hlocks hname hK hN hA hP hD hS hl
  have hl : lv_has ls 5 [(0, .ref (ad 11)), (1, .int x1)] := hl
  generalize hQ : MQ below _ _ s _ _ A = Q
  unfold v_X11_missed at hv
  refine lv_iload_n hx hb dX11_missed_0 rfl (lv_at hl 1 rfl) ?_
  refine lv_iconst (v := 1) hx hb dX11_missed_1 (by decide) ?_
  refine lv_icmp_lt (tgt := 13) hx hb dX11_missed_2 (by decide) (fun c_2 => ?_) (fun c_2 => ?_)
  · have hv := hv.1 c_2
    refine lv_lconst (v := 0) hx hb dX11_missed_13 (by decide) ?_
    rw [← hQ]
    exact k_lret hx hb hr hlocks hS () hP hD hv dX11_missed_14
  · have hv := hv.2 c_2
    refine lv_iload_n hx hb dX11_missed_5 rfl (lv_at hl 1 rfl) ?_
    refine lv_aload_n hx hb dX11_missed_6 rfl (lv_at hl 0 rfl) ?_
    have hPc := hP.sub (ws' := [oX11 ad s11_d s11_stepMany s11_kind s11_many s11_partMany s11_rule s11_ticks s11_hand s11_g s11_beganElsewhere s11_dBefore s11_fBefore s11_fFirst s11_weightMany s11_tailTold]) [0] rfl
    have hDc := hD.sub (ws' := [oX11 ad s11_d s11_stepMany s11_kind s11_many s11_partMany s11_rule s11_ticks s11_hand s11_g s11_beganElsewhere s11_dBefore s11_fBefore s11_fFirst s11_weightMany s11_tailTold]) [0] (by decide) rfl
    refine k_cali (wc := [oX11 ad s11_d s11_stepMany s11_kind s11_many s11_partMany s11_rule s11_ticks s11_hand s11_g s11_beganElsewhere s11_dBefore s11_fBefore s11_fFirst s11_weightMany s11_tailTold]) (wr := [aI cy (ad 52) 256 a11_given, aI cy (ad 53) 256 a11_wished]) (va_runV (As := []) (rest := [.int x1]) ⟨hx, hb, hml, hown, hts⟩ (m_X11_kept l D cy ad s11_d s11_stepMany s11_kind s11_many s11_partMany s11_rule s11_ticks s11_hand s11_g s11_beganElsewhere s11_dBefore s11_fBefore s11_fFirst s11_weightMany s11_tailTold H.size hv) (cwV 0 hts gX11_missed_X11_kept rfl rfl rfl (by decide +kernel) ⟨Nat.le_of_ble_eq_true rfl, Nat.le_of_ble_eq_true rfl⟩) ⟨wd_blind, va_recv hK hPc (ci := 11) (q0 := 0) rfl rfl, wd_ok hPc hK hDc hN⟩ rfl rfl hl.1 rfl (lv_room (Nat.le_of_ble_eq_true rfl)) dX11_missed_7 ⟨Nat.le_of_ble_eq_true rfl, Nat.le_of_ble_eq_true rfl⟩) hP hD hS hA [0] [1, 2] rfl rfl (by decide) (by decide) (fun r1 u H locs hv hP hD hS => ?_)
    have hP : va_P D vwCl [oX11 ad s11_d s11_stepMany s11_kind s11_many s11_partMany s11_rule s11_ticks s11_hand s11_g s11_beganElsewhere s11_dBefore s11_fBefore s11_fFirst s11_weightMany s11_tailTold, aI cy (ad 52) 256 a11_given, aI cy (ad 53) 256 a11_wished] H := hP.sub [2, 0, 1] rfl
    have hD : va_D A [oX11 ad s11_d s11_stepMany s11_kind s11_many s11_partMany s11_rule s11_ticks s11_hand s11_g s11_beganElsewhere s11_dBefore s11_fBefore s11_fFirst s11_weightMany s11_tailTold, aI cy (ad 52) 256 a11_given, aI cy (ad 53) 256 a11_wished] := hD.sub [2, 0, 1] (by decide) rfl
    refine lv_icmp_le (tgt := 15) hx hb dX11_missed_10 (by decide) (fun c_10 => ?_) (fun c_10 => ?_)
    · have hv := hv.1 c_10
      refine lv_lconst (v := 0) hx hb dX11_missed_15 (by decide) ?_
      refine lv_lstore_n (lv' := [(2, .long (0 : Int64)), (0, .ref (ad 11)), (1, .int x1)]) hx hb dX11_missed_16 rfl hl (by decide) rfl (fun ls hl => ?_)
      refine lv_iconst (v := 0) hx hb dX11_missed_17 (by decide) ?_
      refine lv_istore (lv' := [(4, .int (0 : Int32)), (2, .long (0 : Int64)), (0, .ref (ad 11)), (1, .int x1)]) hx hb dX11_missed_18 hl (by decide) rfl (fun ls hl => ?_)
      have lp20 : ∀ (n20 : Nat) (l4_2 : Int32) (l2_3 : Int64) (H : Heap) (locs : List Loc) (ls : Array Slot), vfix (vF_X11_missed_20 s11_d s11_ticks a11_given a11_wished x1 K) n20 (l4_2, l2_3) → lv_has ls 5 [(4, .int l4_2), (2, .long l2_3), (0, .ref (ad 11)), (1, .int x1)] → va_P D vwCl [oX11 ad s11_d s11_stepMany s11_kind s11_many s11_partMany s11_rule s11_ticks s11_hand s11_g s11_beganElsewhere s11_dBefore s11_fBefore s11_fFirst s11_weightMany s11_tailTold, aI cy (ad 52) 256 a11_given, aI cy (ad 53) 256 a11_wished] H → va_D A [oX11 ad s11_d s11_stepMany s11_kind s11_many s11_partMany s11_rule s11_ticks s11_hand s11_g s11_beganElsewhere s11_dBefore s11_fBefore s11_fFirst s11_weightMany s11_tailTold, aI cy (ad 52) 256 a11_given, aI cy (ad 53) 256 a11_wished] → va_S A s.heap H locs → W p l e rm_X11_missed s m ([.ref (ad 11), .int x1] : List Value).toArray below meth c H locs 0 0 Q (F0 m 20 ls []) := by
        intro n20
        induction n20 with
        | zero => intro l4_2 l2_3 H locs ls hv; exact hv.elim
        | succ n20 ih20 =>
          intro l4_2 l2_3 H locs ls hv hl hP hD hS
          have hv : vB_X11_missed_20 s11_d s11_ticks a11_given a11_wished x1 K (fun z0 z1 => vfix (vF_X11_missed_20 s11_d s11_ticks a11_given a11_wished x1 K) n20 (z0, z1)) l4_2 l2_3 := hv
          unfold vB_X11_missed_20 at hv
          refine lv_iload hx hb dX11_missed_20 (lv_at hl 0 rfl) ?_
          refine lv_iload_n hx hb dX11_missed_22 rfl (lv_at hl 3 rfl) ?_
          refine lv_icmp_ge (tgt := 66) hx hb dX11_missed_23 (by decide) (fun c_23 => ?_) (fun c_23 => ?_)
          · have hv := hv.1 c_23
            refine lv_lload_n hx hb dX11_missed_66 rfl (lv_at hl 1 rfl) ?_
            rw [← hQ]
            exact k_lret hx hb hr hlocks hS () hP hD hv dX11_missed_67
          · have hv := hv.2 c_23
            refine lv_lload_n hx hb dX11_missed_26 rfl (lv_at hl 1 rfl) ?_
            refine lv_aload_n hx hb dX11_missed_27 rfl (lv_at hl 2 rfl) ?_
            refine va_get (D := D) (ci := 11) (v := .ref (ad 52)) (C := RX11) (T := TX11) (N := 35) hx hb hts in_X11_missed_11 hown hK hP 0 rfl rfl 24 (by decide) (hts _ lk_X11_missed_54) (fun _ h9 => h9) rfl dX11_missed_28 ?_
            refine lv_aload_n hx hb dX11_missed_31 rfl (lv_at hl 2 rfl) ?_
            refine lv_iload hx hb dX11_missed_32 (lv_at hl 0 rfl) ?_
            have hPc := hP.sub (ws' := [oX11 ad s11_d s11_stepMany s11_kind s11_many s11_partMany s11_rule s11_ticks s11_hand s11_g s11_beganElsewhere s11_dBefore s11_fBefore s11_fFirst s11_weightMany s11_tailTold]) [0] rfl
            have hDc := hD.sub (ws' := [oX11 ad s11_d s11_stepMany s11_kind s11_many s11_partMany s11_rule s11_ticks s11_hand s11_g s11_beganElsewhere s11_dBefore s11_fBefore s11_fFirst s11_weightMany s11_tailTold]) [0] (by decide) rfl
            refine k_cali (wc := [oX11 ad s11_d s11_stepMany s11_kind s11_many s11_partMany s11_rule s11_ticks s11_hand s11_g s11_beganElsewhere s11_dBefore s11_fBefore s11_fFirst s11_weightMany s11_tailTold]) (wr := [aI cy (ad 52) 256 a11_given, aI cy (ad 53) 256 a11_wished]) (va_runV (As := [.int l4_2]) (rest := [.ref (ad 52), .long l2_3]) ⟨hx, hb, hml, hown, hts⟩ (m_X11_latest l D cy ad s11_d s11_stepMany s11_kind s11_many s11_partMany s11_rule s11_ticks s11_hand s11_g s11_beganElsewhere s11_dBefore s11_fBefore s11_fFirst s11_weightMany s11_tailTold l4_2 H.size hv) (cwV 1 hts gX11_missed_X11_latest rfl rfl rfl (by decide +kernel) ⟨Nat.le_of_ble_eq_true rfl, Nat.le_of_ble_eq_true rfl⟩) ⟨wd_blind, va_recv hK hPc (ci := 11) (q0 := 0) rfl rfl, wd_ok hPc hK hDc hN⟩ rfl rfl hl.1 rfl (lv_room (Nat.le_of_ble_eq_true rfl)) dX11_missed_34 ⟨Nat.le_of_ble_eq_true rfl, Nat.le_of_ble_eq_true rfl⟩) hP hD hS hA [0] [1, 2] rfl rfl (by decide) (by decide) (fun r4 u H locs hv hP hD hS => ?_)
            have hP : va_P D vwCl [oX11 ad s11_d s11_stepMany s11_kind s11_many s11_partMany s11_rule s11_ticks s11_hand s11_g s11_beganElsewhere s11_dBefore s11_fBefore s11_fFirst s11_weightMany s11_tailTold, aI cy (ad 52) 256 a11_given, aI cy (ad 53) 256 a11_wished] H := hP.sub [2, 0, 1] rfl
            have hD : va_D A [oX11 ad s11_d s11_stepMany s11_kind s11_many s11_partMany s11_rule s11_ticks s11_hand s11_g s11_beganElsewhere s11_dBefore s11_fBefore s11_fFirst s11_weightMany s11_tailTold, aI cy (ad 52) 256 a11_given, aI cy (ad 53) 256 a11_wished] := hD.sub [2, 0, 1] (by decide) rfl
            refine va_iald hx hb hK hP 1 0 rfl rfl hv.1 dX11_missed_37 ?_
            refine lv_topi (fun g5 h_g5 => ?_)
            have hv := hv.2 g5 h_g5
            refine lv_i2l hx hb dX11_missed_38 rfl ?_
            refine lv_aload_n hx hb dX11_missed_39 rfl (lv_at hl 2 rfl) ?_
            refine va_get (D := D) (ci := 11) (v := .int s11_d) (C := RX11) (T := TX11) (N := 35) hx hb hts in_X11_missed_11 hown hK hP 0 rfl rfl 0 (by decide) (hts _ lk_X11_missed_7) (fun _ h9 => h9) rfl dX11_missed_40 ?_
            refine lv_i2l hx hb dX11_missed_43 rfl ?_
            refine lv_lmul hx hb dX11_missed_44 ?_
            refine lv_topl (fun e6 h_e6 => ?_)
            have hv := hv e6 h_e6
            refine lv_aload_n hx hb dX11_missed_45 rfl (lv_at hl 2 rfl) ?_
            refine va_get (D := D) (ci := 11) (v := .ref (ad 53)) (C := RX11) (T := TX11) (N := 35) hx hb hts in_X11_missed_11 hown hK hP 0 rfl rfl 25 (by decide) (hts _ lk_X11_missed_57) (fun _ h9 => h9) rfl dX11_missed_46 ?_
            refine lv_aload_n hx hb dX11_missed_49 rfl (lv_at hl 2 rfl) ?_
            refine lv_iload hx hb dX11_missed_50 (lv_at hl 0 rfl) ?_
            have hPc := hP.sub (ws' := [oX11 ad s11_d s11_stepMany s11_kind s11_many s11_partMany s11_rule s11_ticks s11_hand s11_g s11_beganElsewhere s11_dBefore s11_fBefore s11_fFirst s11_weightMany s11_tailTold]) [0] rfl
            have hDc := hD.sub (ws' := [oX11 ad s11_d s11_stepMany s11_kind s11_many s11_partMany s11_rule s11_ticks s11_hand s11_g s11_beganElsewhere s11_dBefore s11_fBefore s11_fFirst s11_weightMany s11_tailTold]) [0] (by decide) rfl
            refine k_cali (wc := [oX11 ad s11_d s11_stepMany s11_kind s11_many s11_partMany s11_rule s11_ticks s11_hand s11_g s11_beganElsewhere s11_dBefore s11_fBefore s11_fFirst s11_weightMany s11_tailTold]) (wr := [aI cy (ad 52) 256 a11_given, aI cy (ad 53) 256 a11_wished]) (va_runV (As := [.int l4_2]) (rest := [.ref (ad 53), .long e6, .long l2_3]) ⟨hx, hb, hml, hown, hts⟩ (m_X11_latest l D cy ad s11_d s11_stepMany s11_kind s11_many s11_partMany s11_rule s11_ticks s11_hand s11_g s11_beganElsewhere s11_dBefore s11_fBefore s11_fFirst s11_weightMany s11_tailTold l4_2 H.size hv) (cwV 1 hts gX11_missed_X11_latest rfl rfl rfl (by decide +kernel) ⟨Nat.le_of_ble_eq_true rfl, Nat.le_of_ble_eq_true rfl⟩) ⟨wd_blind, va_recv hK hPc (ci := 11) (q0 := 0) rfl rfl, wd_ok hPc hK hDc hN⟩ rfl rfl hl.1 rfl (lv_room (Nat.le_of_ble_eq_true rfl)) dX11_missed_52 ⟨Nat.le_of_ble_eq_true rfl, Nat.le_of_ble_eq_true rfl⟩) hP hD hS hA [0] [1, 2] rfl rfl (by decide) (by decide) (fun r7 u H locs hv hP hD hS => ?_)
            have hP : va_P D vwCl [oX11 ad s11_d s11_stepMany s11_kind s11_many s11_partMany s11_rule s11_ticks s11_hand s11_g s11_beganElsewhere s11_dBefore s11_fBefore s11_fFirst s11_weightMany s11_tailTold, aI cy (ad 52) 256 a11_given, aI cy (ad 53) 256 a11_wished] H := hP.sub [2, 0, 1] rfl
            have hD : va_D A [oX11 ad s11_d s11_stepMany s11_kind s11_many s11_partMany s11_rule s11_ticks s11_hand s11_g s11_beganElsewhere s11_dBefore s11_fBefore s11_fFirst s11_weightMany s11_tailTold, aI cy (ad 52) 256 a11_given, aI cy (ad 53) 256 a11_wished] := hD.sub [2, 0, 1] (by decide) rfl
            refine va_iald hx hb hK hP 2 0 rfl rfl hv.1 dX11_missed_55 ?_
            refine lv_topi (fun g8 h_g8 => ?_)
            have hv := hv.2 g8 h_g8
            refine lv_i2l hx hb dX11_missed_56 rfl ?_
            refine lv_lsub hx hb dX11_missed_57 ?_
            refine lv_topl (fun e9 h_e9 => ?_)
            have hv := hv e9 h_e9
            refine lv_ladd hx hb dX11_missed_58 ?_
            refine lv_topl (fun e10 h_e10 => ?_)
            have hv := hv e10 h_e10
            refine lv_lstore_n (lv' := [(2, .long e10), (4, .int l4_2), (0, .ref (ad 11)), (1, .int x1)]) hx hb dX11_missed_59 rfl hl (by decide) rfl (fun ls hl => ?_)
            obtain ⟨i11, h_i11⟩ : ∃ y : Int32, y = l4_2 + 1 := ⟨_, rfl⟩
            refine lv_iinc (v := i11) (lv' := [(4, .int i11), (2, .long e10), (0, .ref (ad 11)), (1, .int x1)]) hx hb dX11_missed_60 hl (k := 1) rfl (by rw [h_i11]; rfl) (by decide) rfl (fun ls hl => ?_)
            have hv := hv i11 h_i11
            refine lv_goto (tgt := 20) hx hb dX11_missed_63 (by decide) ?_
            exact ih20 i11 e10 H locs ls hv (lv_sub hl [0, 1, 2, 3] rfl) hP hD hS
      obtain ⟨nn, hv⟩ := hv
      exact lp20 nn (0 : Int32) (0 : Int64) H locs ls hv (lv_sub hl [0, 1, 2, 3] rfl) hP hD hS
    · have hv := hv.2 c_10
      refine lv_lconst (v := 0) hx hb dX11_missed_13 (by decide) ?_
      rw [← hQ]
      exact k_lret hx hb hr hlocks hS () hP hD hv dX11_missed_14
