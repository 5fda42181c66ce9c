theorem lk_X11_stepFor_19 : Cond.fieldLink RX11 19 "CoarseStepsModel" "steps" "[I" ∈ wsX11_stepFor := by decide +kernel
theorem in_X11_stepFor_11 : ∀ w ∈ wsX110, w ∈ wsX11_stepFor := by decide +kernel
theorem lk_X11_stepFor_13 : Cond.fieldLink RX11 13 "CoarseStepsModel" "stepMany" "I" ∈ wsX11_stepFor := by decide +kernel
theorem lk_X11_stepFor_7 : Cond.fieldLink RX11 7 "CoarseStepsModel" "d" "I" ∈ wsX11_stepFor := by decide +kernel
abbrev rm_X11_stepFor : Room := { frames := 0, cells := 0, slots := 0, locals := 0 }
set_option maxHeartbeats 4000000 in
set_option maxRecDepth 100000 in
theorem m_X11_stepFor (l : Launch) (D : va_G) (cy : ClassId × ClassId × ClassId) (ad : Nat → Nat) (s11_d : Int32) (s11_stepMany : Int32) (s11_kind : Int32) (s11_many : Int32) (s11_partMany : Int32) (s11_rule : Int32) (s11_ticks : Int32) (s11_hand : Int32) (s11_g : Int32) (s11_beganElsewhere : Int32) (s11_dBefore : Int32) (s11_fBefore : Int32) (s11_fFirst : Int32) (s11_weightMany : Int32) (s11_tailTold : Int32) (a11_steps : Nat → Int32) (x1 : Int64) (sz : Nat) {K : Int32 → Prop} (hv : v_X11_stepFor s11_d s11_stepMany a11_steps x1 K) : Met l yX11_stepFor wsX11_stepFor rm_X11_stepFor (va_Pc [.ref (ad 11), .long x1] (wd D cy [oX11 ad s11_d s11_stepMany s11_kind s11_many s11_partMany s11_rule s11_ticks s11_hand s11_g s11_beganElsewhere s11_dBefore s11_fBefore s11_fFirst s11_weightMany s11_tailTold, aI cy (ad 41) 8 a11_steps] sz)) (va_Qi (fun (r : Int32) (u : Unit) => K r) (fun u t => we D ((fun u : Unit => [oX11 ad s11_d s11_stepMany s11_kind s11_many s11_partMany s11_rule s11_ticks s11_hand s11_g s11_beganElsewhere s11_dBefore s11_fBefore s11_fFirst s11_weightMany s11_tailTold, aI cy (ad 41) 8 a11_steps]) u) (va_A [oX11 ad s11_d s11_stepMany s11_kind s11_many s11_partMany s11_rule s11_ticks s11_hand s11_g s11_beganElsewhere s11_dBefore s11_fBefore s11_fFirst s11_weightMany s11_tailTold, aI cy (ad 41) 8 a11_steps] sz) t) (va_A [oX11 ad s11_d s11_stepMany s11_kind s11_many s11_partMany s11_rule s11_ticks s11_hand s11_g s11_beganElsewhere s11_dBefore s11_fBefore s11_fFirst s11_weightMany s11_tailTold, aI cy (ad 41) 8 a11_steps] sz)) 0 0 (va_A [oX11 ad s11_d s11_stepMany s11_kind s11_many s11_partMany s11_rule s11_ticks s11_hand s11_g s11_beganElsewhere s11_dBefore s11_fBefore s11_fFirst s11_weightMany s11_tailTold, aI cy (ad 41) 8 a11_steps] sz) := by
  refine k_ofW (cc := cX11_stepFor) (maxL := 5) (ret := (some .int)) (fun A => va_Qi (fun (r : Int32) (u : Unit) => K r) (fun u t => we D ((fun u : Unit => [oX11 ad s11_d s11_stepMany s11_kind s11_many s11_partMany s11_rule s11_ticks s11_hand s11_g s11_beganElsewhere s11_dBefore s11_fBefore s11_fFirst s11_weightMany s11_tailTold, aI cy (ad 41) 8 a11_steps]) u) A t) A) (by decide) rfl (Nat.le_of_ble_eq_true rfl) ?_
  intro p e s m below meth c A ls H locs hx hb hml hr hts hown hlocks hname hK hN hA hP hD hS hl
  have hl : lv_has ls 5 [(0, .ref (ad 11)), (1, .long x1)] := hl
  generalize hQ : MQ below _ _ s _ _ A = Q
  unfold v_X11_stepFor at hv
  refine lv_aload_n hx hb dX11_stepFor_0 rfl (lv_at hl 0 rfl) ?_
  refine va_get (D := D) (ci := 11) (v := .ref (ad 41)) (C := RX11) (T := TX11) (N := 35) hx hb hts in_X11_stepFor_11 hown hK hP 0 rfl rfl 8 (by decide) (hts _ lk_X11_stepFor_19) (fun _ h9 => h9) rfl dX11_stepFor_1 ?_
  refine lv_iconst (v := 0) hx hb dX11_stepFor_4 (by decide) ?_
  refine va_iald hx hb hK hP 1 0 rfl rfl hv.1 dX11_stepFor_5 ?_
  refine lv_topi (fun g1 h_g1 => ?_)
  have hv := hv.2 g1 h_g1
  refine lv_istore_n (lv' := [(3, .int g1), (0, .ref (ad 11)), (1, .long x1)]) hx hb dX11_stepFor_6 rfl hl (by decide) rfl (fun ls hl => ?_)
  refine lv_iconst (v := 1) hx hb dX11_stepFor_7 (by decide) ?_
  refine lv_istore (lv' := [(4, .int (1 : Int32)), (3, .int g1), (0, .ref (ad 11)), (1, .long x1)]) hx hb dX11_stepFor_8 hl (by decide) rfl (fun ls hl => ?_)
  have lp10 : ∀ (n10 : Nat) (l4_2 : Int32) (l3_3 : Int32) (H : Heap) (locs : List Loc) (ls : Array Slot), vfix (vF_X11_stepFor_10 s11_d s11_stepMany a11_steps x1 K) n10 (l4_2, l3_3) → lv_has ls 5 [(4, .int l4_2), (3, .int l3_3), (0, .ref (ad 11)), (1, .long x1)] → va_P D vwCl [oX11 ad s11_d s11_stepMany s11_kind s11_many s11_partMany s11_rule s11_ticks s11_hand s11_g s11_beganElsewhere s11_dBefore s11_fBefore s11_fFirst s11_weightMany s11_tailTold, aI cy (ad 41) 8 a11_steps] H → va_D A [oX11 ad s11_d s11_stepMany s11_kind s11_many s11_partMany s11_rule s11_ticks s11_hand s11_g s11_beganElsewhere s11_dBefore s11_fBefore s11_fFirst s11_weightMany s11_tailTold, aI cy (ad 41) 8 a11_steps] → va_S A s.heap H locs → W p l e rm_X11_stepFor s m ([.ref (ad 11), .long x1] : List Value).toArray below meth c H locs 0 0 Q (F0 m 10 ls []) := by
    intro n10
    induction n10 with
    | zero => intro l4_2 l3_3 H locs ls hv; exact hv.elim
    | succ n10 ih10 =>
      intro l4_2 l3_3 H locs ls hv hl hP hD hS
      have hv : vB_X11_stepFor_10 s11_d s11_stepMany a11_steps x1 K (fun z0 z1 => vfix (vF_X11_stepFor_10 s11_d s11_stepMany a11_steps x1 K) n10 (z0, z1)) l4_2 l3_3 := hv
      unfold vB_X11_stepFor_10 at hv
      refine lv_iload hx hb dX11_stepFor_10 (lv_at hl 0 rfl) ?_
      refine lv_aload_n hx hb dX11_stepFor_12 rfl (lv_at hl 2 rfl) ?_
      refine va_get (D := D) (ci := 11) (v := .int s11_stepMany) (C := RX11) (T := TX11) (N := 35) hx hb hts in_X11_stepFor_11 hown hK hP 0 rfl rfl 1 (by decide) (hts _ lk_X11_stepFor_13) (fun _ h9 => h9) rfl dX11_stepFor_13 ?_
      refine lv_icmp_ge (tgt := 52) hx hb dX11_stepFor_16 (by decide) (fun c_16 => ?_) (fun c_16 => ?_)
      · have hv := hv.1 c_16
        refine lv_iload_n hx hb dX11_stepFor_52 rfl (lv_at hl 1 rfl) ?_
        rw [← hQ]
        exact k_iret hx hb hr hlocks hS () hP hD hv dX11_stepFor_53
      · have hv := hv.2 c_16
        refine lv_aload_n hx hb dX11_stepFor_19 rfl (lv_at hl 2 rfl) ?_
        refine va_get (D := D) (ci := 11) (v := .ref (ad 41)) (C := RX11) (T := TX11) (N := 35) hx hb hts in_X11_stepFor_11 hown hK hP 0 rfl rfl 8 (by decide) (hts _ lk_X11_stepFor_19) (fun _ h9 => h9) rfl dX11_stepFor_20 ?_
        refine lv_iload hx hb dX11_stepFor_23 (lv_at hl 0 rfl) ?_
        refine va_iald hx hb hK hP 1 0 rfl rfl hv.1 dX11_stepFor_25 ?_
        refine lv_topi (fun g4 h_g4 => ?_)
        have hv := hv.2 g4 h_g4
        refine lv_i2l hx hb dX11_stepFor_26 rfl ?_
        refine lv_aload_n hx hb dX11_stepFor_27 rfl (lv_at hl 2 rfl) ?_
        refine va_get (D := D) (ci := 11) (v := .int s11_d) (C := RX11) (T := TX11) (N := 35) hx hb hts in_X11_stepFor_11 hown hK hP 0 rfl rfl 0 (by decide) (hts _ lk_X11_stepFor_7) (fun _ h9 => h9) rfl dX11_stepFor_28 ?_
        refine lv_i2l hx hb dX11_stepFor_31 rfl ?_
        refine lv_lmul hx hb dX11_stepFor_32 ?_
        refine lv_topl (fun e5 h_e5 => ?_)
        have hv := hv e5 h_e5
        refine lv_lload_n hx hb dX11_stepFor_33 rfl (lv_at hl 3 rfl) ?_
        have jn46 : ∀ (l3_6 : Int32) (H : Heap) (locs : List Loc) (ls : Array Slot), vJ_X11_stepFor_46 l4_2 (fun z0 z1 => vfix (vF_X11_stepFor_10 s11_d s11_stepMany a11_steps x1 K) n10 (z0, z1)) l3_6 → lv_has ls 5 [(4, .int l4_2), (3, .int l3_6), (0, .ref (ad 11)), (1, .long x1)] → va_P D vwCl [oX11 ad s11_d s11_stepMany s11_kind s11_many s11_partMany s11_rule s11_ticks s11_hand s11_g s11_beganElsewhere s11_dBefore s11_fBefore s11_fFirst s11_weightMany s11_tailTold, aI cy (ad 41) 8 a11_steps] H → va_D A [oX11 ad s11_d s11_stepMany s11_kind s11_many s11_partMany s11_rule s11_ticks s11_hand s11_g s11_beganElsewhere s11_dBefore s11_fBefore s11_fFirst s11_weightMany s11_tailTold, aI cy (ad 41) 8 a11_steps] → va_S A s.heap H locs → W p l e rm_X11_stepFor s m ([.ref (ad 11), .long x1] : List Value).toArray below meth c H locs 0 0 Q (F0 m 46 ls []) := by
          intro l3_6 H locs ls hv hl hP hD hS
          unfold vJ_X11_stepFor_46 at hv
          obtain ⟨i7, h_i7⟩ : ∃ y : Int32, y = l4_2 + 1 := ⟨_, rfl⟩
          refine lv_iinc (v := i7) (lv' := [(4, .int i7), (3, .int l3_6), (0, .ref (ad 11)), (1, .long x1)]) hx hb dX11_stepFor_46 hl (k := 0) rfl (by rw [h_i7]; rfl) (by decide) rfl (fun ls hl => ?_)
          have hv := hv i7 h_i7
          refine lv_goto (tgt := 10) hx hb dX11_stepFor_49 (by decide) ?_
          exact ih10 i7 l3_6 H locs ls hv (lv_sub hl [0, 1, 2, 3] rfl) hP hD hS
        refine k_lc_gt (tgt := 46) hx hb dX11_stepFor_34 dX11_stepFor_35 (by decide) (fun c_34 => ?_) (fun c_34 => ?_)
        · have hv := hv.1 c_34
          exact jn46 l3_3 H locs ls hv (lv_sub hl [0, 1, 2, 3] rfl) hP hD hS
        · have hv := hv.2 c_34
          refine lv_aload_n hx hb dX11_stepFor_38 rfl (lv_at hl 2 rfl) ?_
          refine va_get (D := D) (ci := 11) (v := .ref (ad 41)) (C := RX11) (T := TX11) (N := 35) hx hb hts in_X11_stepFor_11 hown hK hP 0 rfl rfl 8 (by decide) (hts _ lk_X11_stepFor_19) (fun _ h9 => h9) rfl dX11_stepFor_39 ?_
          refine lv_iload hx hb dX11_stepFor_42 (lv_at hl 0 rfl) ?_
          refine va_iald hx hb hK hP 1 0 rfl rfl hv.1 dX11_stepFor_44 ?_
          refine lv_topi (fun g8 h_g8 => ?_)
          have hv := hv.2 g8 h_g8
          refine lv_istore_n (lv' := [(3, .int g8), (4, .int l4_2), (0, .ref (ad 11)), (1, .long x1)]) hx hb dX11_stepFor_45 rfl hl (by decide) rfl (fun ls hl => ?_)
          exact jn46 g8 H locs ls hv (lv_sub hl [1, 0, 2, 3] rfl) hP hD hS
  obtain ⟨nn, hv⟩ := hv
  exact lp10 nn (1 : Int32) g1 H locs ls hv (lv_sub hl [0, 1, 2, 3] rfl) hP hD hS
theorem lk_X11_next_103 : Cond.fieldLink RX11 103 "CoarseStepsModel" "kind" "I" ∈ wsX11_next := by decide +kernel
theorem in_X11_next_11 : ∀ w ∈ wsX110, w ∈ wsX11_next := by decide +kernel
theorem lk_X11_next_16 : Cond.fieldLink RX11 16 "CoarseStepsModel" "many" "I" ∈ wsX11_next := by decide +kernel
theorem lk_X11_next_69 : Cond.fieldLink RX11 69 "CoarseStepsModel" "to" "[J" ∈ wsX11_next := by decide +kernel
theorem lk_X11_next_127 : Cond.constantLong RX11 127 (2) ∈ wsX11_next := by decide +kernel
theorem lk_X11_next_66 : Cond.fieldLink RX11 66 "CoarseStepsModel" "now" "[J" ∈ wsX11_next := by decide +kernel
theorem lk_X11_next_72 : Cond.fieldLink RX11 72 "CoarseStepsModel" "made" "[I" ∈ wsX11_next := by decide +kernel
theorem lk_X11_next_7 : Cond.fieldLink RX11 7 "CoarseStepsModel" "d" "I" ∈ wsX11_next := by decide +kernel
theorem lk_X11_next_112 : Cond.fieldLink RX11 112 "CoarseStepsModel" "g" "I" ∈ wsX11_next := by decide +kernel
theorem lk_X11_next_29 : Cond.fieldLink RX11 29 "CoarseStepsModel" "b" "[I" ∈ wsX11_next := by decide +kernel
theorem lk_X11_next_32 : Cond.fieldLink RX11 32 "CoarseStepsModel" "e" "[I" ∈ wsX11_next := by decide +kernel
theorem lk_X11_next_26 : Cond.fieldLink RX11 26 "CoarseStepsModel" "a" "[I" ∈ wsX11_next := by decide +kernel
theorem lk_X11_next_35 : Cond.fieldLink RX11 35 "CoarseStepsModel" "h" "[I" ∈ wsX11_next := by decide +kernel
abbrev rm_X11_next : Room := { frames := 1, cells := 0, slots := 0, locals := 24 }
set_option maxHeartbeats 4000000 in
set_option maxRecDepth 100000 in
theorem m_X11_next (l : Launch) (D : va_G) (cy : ClassId × ClassId × ClassId) (ad : Nat → Nat) (s11_d : Int32) (s11_stepMany : Int32) (s11_kind : Int32) (s11_many : Int32) (s11_partMany : Int32) (s11_rule : Int32) (s11_ticks : Int32) (s11_hand : Int32) (s11_g : Int32) (s11_beganElsewhere : Int32) (s11_dBefore : Int32) (s11_fBefore : Int32) (s11_fFirst : Int32) (s11_weightMany : Int32) (s11_tailTold : Int32) (a11_steps : Nat → Int32) (a11_a : Nat → Int32) (a11_b : Nat → Int32) (a11_e : Nat → Int32) (a11_h : Nat → Int32) (a11_now : Nat → Int64) (a11_to : Nat → Int64) (a11_made : Nat → Int32) (x1 : Int32) (sz : Nat) {K : Int32 → (Nat → Int64) → (Nat → Int32) → Prop} (hv : v_X11_next s11_d s11_stepMany s11_kind s11_many s11_g a11_steps a11_a a11_b a11_e a11_h a11_now a11_to a11_made x1 K) : Met l yX11_next wsX11_next rm_X11_next (va_Pc [.ref (ad 11), .int x1] (wd D cy [oX11 ad s11_d s11_stepMany s11_kind s11_many s11_partMany s11_rule s11_ticks s11_hand s11_g s11_beganElsewhere s11_dBefore s11_fBefore s11_fFirst s11_weightMany s11_tailTold, aI cy (ad 41) 8 a11_steps, aI cy (ad 43) 16 a11_a, aI cy (ad 44) 4 a11_b, aI cy (ad 45) 4 a11_e, aI cy (ad 46) 4 a11_h, aJ cy (ad 56) 4 a11_now, aJ cy (ad 57) 4 a11_to, aI cy (ad 58) 3 a11_made] sz)) (va_Qi (fun (r : Int32) (u : (Nat → Int64) × (Nat → Int32)) => (r = 0 ∨ r = 1) ∧ K r u.1 u.2) (fun u t => we D ((fun u : (Nat → Int64) × (Nat → Int32) => [oX11 ad s11_d s11_stepMany s11_kind s11_many s11_partMany s11_rule s11_ticks s11_hand s11_g s11_beganElsewhere s11_dBefore s11_fBefore s11_fFirst s11_weightMany s11_tailTold, aI cy (ad 41) 8 a11_steps, aI cy (ad 43) 16 a11_a, aI cy (ad 44) 4 a11_b, aI cy (ad 45) 4 a11_e, aI cy (ad 46) 4 a11_h, aJ cy (ad 56) 4 a11_now, aJ cy (ad 57) 4 u.1, aI cy (ad 58) 3 u.2]) u) (va_A [oX11 ad s11_d s11_stepMany s11_kind s11_many s11_partMany s11_rule s11_ticks s11_hand s11_g s11_beganElsewhere s11_dBefore s11_fBefore s11_fFirst s11_weightMany s11_tailTold, aI cy (ad 41) 8 a11_steps, aI cy (ad 43) 16 a11_a, aI cy (ad 44) 4 a11_b, aI cy (ad 45) 4 a11_e, aI cy (ad 46) 4 a11_h, aJ cy (ad 56) 4 a11_now, aJ cy (ad 57) 4 a11_to, aI cy (ad 58) 3 a11_made] sz) t) (va_A [oX11 ad s11_d s11_stepMany s11_kind s11_many s11_partMany s11_rule s11_ticks s11_hand s11_g s11_beganElsewhere s11_dBefore s11_fBefore s11_fFirst s11_weightMany s11_tailTold, aI cy (ad 41) 8 a11_steps, aI cy (ad 43) 16 a11_a, aI cy (ad 44) 4 a11_b, aI cy (ad 45) 4 a11_e, aI cy (ad 46) 4 a11_h, aJ cy (ad 56) 4 a11_now, aJ cy (ad 57) 4 a11_to, aI cy (ad 58) 3 a11_made] sz)) 0 0 (va_A [oX11 ad s11_d s11_stepMany s11_kind s11_many s11_partMany s11_rule s11_ticks s11_hand s11_g s11_beganElsewhere s11_dBefore s11_fBefore s11_fFirst s11_weightMany s11_tailTold, aI cy (ad 41) 8 a11_steps, aI cy (ad 43) 16 a11_a, aI cy (ad 44) 4 a11_b, aI cy (ad 45) 4 a11_e, aI cy (ad 46) 4 a11_h, aJ cy (ad 56) 4 a11_now, aJ cy (ad 57) 4 a11_to, aI cy (ad 58) 3 a11_made] sz) := by
  refine k_ofW (cc := cX11_next) (maxL := 7) (ret := (some .boolean)) (fun A => va_Qi (fun (r : Int32) (u : (Nat → Int64) × (Nat → Int32)) => (r = 0 ∨ r = 1) ∧ K r u.1 u.2) (fun u t => we D ((fun u : (Nat → Int64) × (Nat → Int32) => [oX11 ad s11_d s11_stepMany s11_kind s11_many s11_partMany s11_rule s11_ticks s11_hand s11_g s11_beganElsewhere s11_dBefore s11_fBefore s11_fFirst s11_weightMany s11_tailTold, aI cy (ad 41) 8 a11_steps, aI cy (ad 43) 16 a11_a, aI cy (ad 44) 4 a11_b, aI cy (ad 45) 4 a11_e, aI cy (ad 46) 4 a11_h, aJ cy (ad 56) 4 a11_now, aJ cy (ad 57) 4 u.1, aI cy (ad 58) 3 u.2]) u) A t) A) (by decide) rfl (Nat.le_of_ble_eq_true rfl) ?_
  intro p e s m below meth c A ls H locs hx hb hml hr hts hown hlocks hname hK hN hA hP hD hS hl
  have hl : lv_has ls 7 [(0, .ref (ad 11)), (1, .int x1)] := hl
  generalize hQ : MQ below _ _ s _ _ A = Q
  unfold v_X11_next at hv
  refine lv_aload_n hx hb dX11_next_0 rfl (lv_at hl 0 rfl) ?_
  refine va_get (D := D) (ci := 11) (v := .int s11_kind) (C := RX11) (T := TX11) (N := 35) hx hb hts in_X11_next_11 hown hK hP 0 rfl rfl 2 (by decide) (hts _ lk_X11_next_103) (fun _ h9 => h9) rfl dX11_next_1 ?_
  have jn390 : ∀ (a11_to_1 : Nat → Int64) (a11_made_2 : Nat → Int32) (H : Heap) (locs : List Loc) (ls : Array Slot), vJ_X11_next_390 s11_many K a11_to_1 a11_made_2 → lv_has ls 7 [(0, .ref (ad 11))] → va_P D vwCl [oX11 ad s11_d s11_stepMany s11_kind s11_many s11_partMany s11_rule s11_ticks s11_hand s11_g s11_beganElsewhere s11_dBefore s11_fBefore s11_fFirst s11_weightMany s11_tailTold, aI cy (ad 41) 8 a11_steps, aI cy (ad 43) 16 a11_a, aI cy (ad 44) 4 a11_b, aI cy (ad 45) 4 a11_e, aI cy (ad 46) 4 a11_h, aJ cy (ad 56) 4 a11_now, aJ cy (ad 57) 4 a11_to_1, aI cy (ad 58) 3 a11_made_2] H → va_D A [oX11 ad s11_d s11_stepMany s11_kind s11_many s11_partMany s11_rule s11_ticks s11_hand s11_g s11_beganElsewhere s11_dBefore s11_fBefore s11_fFirst s11_weightMany s11_tailTold, aI cy (ad 41) 8 a11_steps, aI cy (ad 43) 16 a11_a, aI cy (ad 44) 4 a11_b, aI cy (ad 45) 4 a11_e, aI cy (ad 46) 4 a11_h, aJ cy (ad 56) 4 a11_now, aJ cy (ad 57) 4 a11_to_1, aI cy (ad 58) 3 a11_made_2] → va_S A s.heap H locs → W p l e rm_X11_next s m ([.ref (ad 11), .int x1] : List Value).toArray below meth c H locs 0 0 Q (F0 m 390 ls []) := by
    intro a11_to_1 a11_made_2 H locs ls hv hl hP hD hS
    unfold vJ_X11_next_390 at hv
    refine lv_iconst (v := 1) hx hb dX11_next_390 (by decide) ?_
    refine lv_istore (lv' := [(4, .int (1 : Int32)), (0, .ref (ad 11))]) hx hb dX11_next_391 hl (by decide) rfl (fun ls hl => ?_)
    refine lv_iconst (v := 0) hx hb dX11_next_393 (by decide) ?_
    refine lv_istore (lv' := [(5, .int (0 : Int32)), (4, .int (1 : Int32)), (0, .ref (ad 11))]) hx hb dX11_next_394 hl (by decide) rfl (fun ls hl => ?_)
    have lp396 : ∀ (n396 : Nat) (l5_3 : Int32) (l4_4 : Int32) (H : Heap) (locs : List Loc) (ls : Array Slot), vfix (vF_X11_next_396 s11_many K a11_to_1 a11_made_2) n396 (l5_3, l4_4) → lv_has ls 7 [(5, .int l5_3), (4, .int l4_4), (0, .ref (ad 11))] → va_P D vwCl [oX11 ad s11_d s11_stepMany s11_kind s11_many s11_partMany s11_rule s11_ticks s11_hand s11_g s11_beganElsewhere s11_dBefore s11_fBefore s11_fFirst s11_weightMany s11_tailTold, aI cy (ad 41) 8 a11_steps, aI cy (ad 43) 16 a11_a, aI cy (ad 44) 4 a11_b, aI cy (ad 45) 4 a11_e, aI cy (ad 46) 4 a11_h, aJ cy (ad 56) 4 a11_now, aJ cy (ad 57) 4 a11_to_1, aI cy (ad 58) 3 a11_made_2] H → va_D A [oX11 ad s11_d s11_stepMany s11_kind s11_many s11_partMany s11_rule s11_ticks s11_hand s11_g s11_beganElsewhere s11_dBefore s11_fBefore s11_fFirst s11_weightMany s11_tailTold, aI cy (ad 41) 8 a11_steps, aI cy (ad 43) 16 a11_a, aI cy (ad 44) 4 a11_b, aI cy (ad 45) 4 a11_e, aI cy (ad 46) 4 a11_h, aJ cy (ad 56) 4 a11_now, aJ cy (ad 57) 4 a11_to_1, aI cy (ad 58) 3 a11_made_2] → va_S A s.heap H locs → W p l e rm_X11_next s m ([.ref (ad 11), .int x1] : List Value).toArray below meth c H locs 0 0 Q (F0 m 396 ls []) := by
      intro n396
      induction n396 with
      | zero => intro l5_3 l4_4 H locs ls hv; exact hv.elim
      | succ n396 ih396 =>
        intro l5_3 l4_4 H locs ls hv hl hP hD hS
        have hv : vB_X11_next_396 s11_many K a11_to_1 a11_made_2 (fun z0 z1 => vfix (vF_X11_next_396 s11_many K a11_to_1 a11_made_2) n396 (z0, z1)) l5_3 l4_4 := hv
        unfold vB_X11_next_396 at hv
        refine lv_iload hx hb dX11_next_396 (lv_at hl 0 rfl) ?_
        refine lv_aload_n hx hb dX11_next_398 rfl (lv_at hl 2 rfl) ?_
        refine va_get (D := D) (ci := 11) (v := .int s11_many) (C := RX11) (T := TX11) (N := 35) hx hb hts in_X11_next_11 hown hK hP 0 rfl rfl 3 (by decide) (hts _ lk_X11_next_16) (fun _ h9 => h9) rfl dX11_next_399 ?_
        refine lv_icmp_ge (tgt := 436) hx hb dX11_next_402 (by decide) (fun c_402 => ?_) (fun c_402 => ?_)
        · have hv := hv.1 c_402
          refine lv_iload hx hb dX11_next_436 (lv_at hl 1 rfl) ?_
          rw [← hQ]
          exact k_zret hx hb hr hlocks hS (a11_to_1, a11_made_2) hP hD hv.1 hv.2 dX11_next_438
        · have hv := hv.2 c_402
          refine lv_iload hx hb dX11_next_405 (lv_at hl 1 rfl) ?_
          have jn428 : ∀ (t5 : Int32) (H : Heap) (locs : List Loc) (ls : Array Slot), vJ_X11_next_428 l5_3 (fun z0 z1 => vfix (vF_X11_next_396 s11_many K a11_to_1 a11_made_2) n396 (z0, z1)) t5 → lv_has ls 7 [(5, .int l5_3), (0, .ref (ad 11))] → va_P D vwCl [oX11 ad s11_d s11_stepMany s11_kind s11_many s11_partMany s11_rule s11_ticks s11_hand s11_g s11_beganElsewhere s11_dBefore s11_fBefore s11_fFirst s11_weightMany s11_tailTold, aI cy (ad 41) 8 a11_steps, aI cy (ad 43) 16 a11_a, aI cy (ad 44) 4 a11_b, aI cy (ad 45) 4 a11_e, aI cy (ad 46) 4 a11_h, aJ cy (ad 56) 4 a11_now, aJ cy (ad 57) 4 a11_to_1, aI cy (ad 58) 3 a11_made_2] H → va_D A [oX11 ad s11_d s11_stepMany s11_kind s11_many s11_partMany s11_rule s11_ticks s11_hand s11_g s11_beganElsewhere s11_dBefore s11_fBefore s11_fFirst s11_weightMany s11_tailTold, aI cy (ad 41) 8 a11_steps, aI cy (ad 43) 16 a11_a, aI cy (ad 44) 4 a11_b, aI cy (ad 45) 4 a11_e, aI cy (ad 46) 4 a11_h, aJ cy (ad 56) 4 a11_now, aJ cy (ad 57) 4 a11_to_1, aI cy (ad 58) 3 a11_made_2] → va_S A s.heap H locs → W p l e rm_X11_next s m ([.ref (ad 11), .int x1] : List Value).toArray below meth c H locs 0 0 Q (F0 m 428 ls [.int t5]) := by
            intro t5 H locs ls hv hl hP hD hS
            unfold vJ_X11_next_428 at hv
            refine lv_istore (lv' := [(4, .int t5), (5, .int l5_3), (0, .ref (ad 11))]) hx hb dX11_next_428 hl (by decide) rfl (fun ls hl => ?_)
            obtain ⟨i6, h_i6⟩ : ∃ y : Int32, y = l5_3 + 1 := ⟨_, rfl⟩
            refine lv_iinc (v := i6) (lv' := [(5, .int i6), (4, .int t5), (0, .ref (ad 11))]) hx hb dX11_next_430 hl (k := 1) rfl (by rw [h_i6]; rfl) (by decide) rfl (fun ls hl => ?_)
            have hv := hv i6 h_i6
            refine lv_goto (tgt := 396) hx hb dX11_next_433 (by decide) ?_
            exact ih396 i6 t5 H locs ls hv (lv_sub hl [0, 1, 2] rfl) hP hD hS
          have jn427 : ∀ (H : Heap) (locs : List Loc) (ls : Array Slot), vJ_X11_next_427 l5_3 (fun z0 z1 => vfix (vF_X11_next_396 s11_many K a11_to_1 a11_made_2) n396 (z0, z1)) → lv_has ls 7 [(5, .int l5_3), (0, .ref (ad 11))] → va_P D vwCl [oX11 ad s11_d s11_stepMany s11_kind s11_many s11_partMany s11_rule s11_ticks s11_hand s11_g s11_beganElsewhere s11_dBefore s11_fBefore s11_fFirst s11_weightMany s11_tailTold, aI cy (ad 41) 8 a11_steps, aI cy (ad 43) 16 a11_a, aI cy (ad 44) 4 a11_b, aI cy (ad 45) 4 a11_e, aI cy (ad 46) 4 a11_h, aJ cy (ad 56) 4 a11_now, aJ cy (ad 57) 4 a11_to_1, aI cy (ad 58) 3 a11_made_2] H → va_D A [oX11 ad s11_d s11_stepMany s11_kind s11_many s11_partMany s11_rule s11_ticks s11_hand s11_g s11_beganElsewhere s11_dBefore s11_fBefore s11_fFirst s11_weightMany s11_tailTold, aI cy (ad 41) 8 a11_steps, aI cy (ad 43) 16 a11_a, aI cy (ad 44) 4 a11_b, aI cy (ad 45) 4 a11_e, aI cy (ad 46) 4 a11_h, aJ cy (ad 56) 4 a11_now, aJ cy (ad 57) 4 a11_to_1, aI cy (ad 58) 3 a11_made_2] → va_S A s.heap H locs → W p l e rm_X11_next s m ([.ref (ad 11), .int x1] : List Value).toArray below meth c H locs 0 0 Q (F0 m 427 ls []) := by
            intro H locs ls hv hl hP hD hS
            unfold vJ_X11_next_427 at hv
            refine lv_iconst (v := 0) hx hb dX11_next_427 (by decide) ?_
            exact jn428 (0 : Int32) H locs ls hv (lv_sub hl [0, 1] rfl) hP hD hS
          refine lv_if_eq (tgt := 427) hx hb dX11_next_407 (by decide) (fun c_407 => ?_) (fun c_407 => ?_)
          · have hv := hv.1 c_407
            exact jn427  H locs ls hv (lv_sub hl [0, 2] rfl) hP hD hS
          · have hv := hv.2 c_407
            refine lv_aload_n hx hb dX11_next_410 rfl (lv_at hl 2 rfl) ?_
            refine va_get (D := D) (ci := 11) (v := .ref (ad 57)) (C := RX11) (T := TX11) (N := 35) hx hb hts in_X11_next_11 hown hK hP 0 rfl rfl 31 (by decide) (hts _ lk_X11_next_69) (fun _ h9 => h9) rfl dX11_next_411 ?_
            refine lv_iload hx hb dX11_next_414 (lv_at hl 0 rfl) ?_
            refine va_lald hx hb hK hP 7 1 rfl rfl hv.1 dX11_next_416 ?_
            refine lv_topl (fun g7 h_g7 => ?_)
            have hv := hv.2 g7 h_g7
            have hPc := hP.sub (ws' := []) [] rfl
            have hDc := hD.sub (ws' := []) [] (by decide) rfl
            refine k_cali (wc := []) (wr := [oX11 ad s11_d s11_stepMany s11_kind s11_many s11_partMany s11_rule s11_ticks s11_hand s11_g s11_beganElsewhere s11_dBefore s11_fBefore s11_fFirst s11_weightMany s11_tailTold, aI cy (ad 41) 8 a11_steps, aI cy (ad 43) 16 a11_a, aI cy (ad 44) 4 a11_b, aI cy (ad 45) 4 a11_e, aI cy (ad 46) 4 a11_h, aJ cy (ad 56) 4 a11_now, aJ cy (ad 57) 4 a11_to_1, aI cy (ad 58) 3 a11_made_2]) (va_runS (As := [.long g7]) (rest := []) ⟨hx, hb, hml, hown, hts⟩ (m_X11_isNear l D cy ad g7 H.size hv) (va_cwS 1 hts gX11_next_X11_isNear rfl rfl rfl (by decide +kernel) ⟨Nat.le_of_ble_eq_true rfl, Nat.le_of_ble_eq_true rfl⟩) ⟨wd_blind, wd_ok hPc hK hDc hN⟩ rfl rfl hl.1 rfl (lv_room (Nat.le_of_ble_eq_true rfl)) dX11_next_417 ⟨Nat.le_of_ble_eq_true rfl, Nat.le_of_ble_eq_true rfl⟩) hP hD hS hA [] [0, 1, 2, 3, 4, 5, 6, 7, 8] rfl rfl (by decide) (by decide) (fun r8 u H locs hv hP hD hS => ?_)
            obtain ⟨hz_r8, hv⟩ := hv
            have hP : va_P D vwCl [oX11 ad s11_d s11_stepMany s11_kind s11_many s11_partMany s11_rule s11_ticks s11_hand s11_g s11_beganElsewhere s11_dBefore s11_fBefore s11_fFirst s11_weightMany s11_tailTold, aI cy (ad 41) 8 a11_steps, aI cy (ad 43) 16 a11_a, aI cy (ad 44) 4 a11_b, aI cy (ad 45) 4 a11_e, aI cy (ad 46) 4 a11_h, aJ cy (ad 56) 4 a11_now, aJ cy (ad 57) 4 a11_to_1, aI cy (ad 58) 3 a11_made_2] H := hP.sub [0, 1, 2, 3, 4, 5, 6, 7, 8] rfl
            have hD : va_D A [oX11 ad s11_d s11_stepMany s11_kind s11_many s11_partMany s11_rule s11_ticks s11_hand s11_g s11_beganElsewhere s11_dBefore s11_fBefore s11_fFirst s11_weightMany s11_tailTold, aI cy (ad 41) 8 a11_steps, aI cy (ad 43) 16 a11_a, aI cy (ad 44) 4 a11_b, aI cy (ad 45) 4 a11_e, aI cy (ad 46) 4 a11_h, aJ cy (ad 56) 4 a11_now, aJ cy (ad 57) 4 a11_to_1, aI cy (ad 58) 3 a11_made_2] := hD.sub [0, 1, 2, 3, 4, 5, 6, 7, 8] (by decide) rfl
            refine lv_if_eq (tgt := 427) hx hb dX11_next_420 (by decide) (fun c_420 => ?_) (fun c_420 => ?_)
            · have hv := hv.1 c_420
              exact jn427  H locs ls hv (lv_sub hl [0, 2] rfl) hP hD hS
            · have hv := hv.2 c_420
              refine lv_iconst (v := 1) hx hb dX11_next_423 (by decide) ?_
              refine lv_goto (tgt := 428) hx hb dX11_next_424 (by decide) ?_
              exact jn428 (1 : Int32) H locs ls hv (lv_sub hl [0, 2] rfl) hP hD hS
    obtain ⟨nn, hv⟩ := hv
    exact lp396 nn (0 : Int32) (1 : Int32) H locs ls hv (lv_sub hl [0, 1, 2] rfl) hP hD hS
  by_cases c_4_0 : s11_kind = 1
  · refine lv_tableIn (tgt := 32) (off := 28) hx hb dX11_next_4 (by rw [c_4_0] <;> decide) (by rw [c_4_0] <;> decide) (by rw [c_4_0] <;> rfl) (by decide) ?_
    have hv := hv.1 c_4_0
    refine lv_iload_n hx hb dX11_next_32 rfl (lv_at hl 1 rfl) ?_
    refine lv_i2l hx hb dX11_next_33 rfl ?_
    refine lv_ldc2 hx hb hown (hts _ lk_X11_next_127) dX11_next_34 ?_
    refine lv_aload_n hx hb dX11_next_37 rfl (lv_at hl 0 rfl) ?_
    refine va_get (D := D) (ci := 11) (v := .ref (ad 56)) (C := RX11) (T := TX11) (N := 35) hx hb hts in_X11_next_11 hown hK hP 0 rfl rfl 30 (by decide) (hts _ lk_X11_next_66) (fun _ h9 => h9) rfl dX11_next_38 ?_
    refine lv_iconst (v := 0) hx hb dX11_next_41 (by decide) ?_
    refine va_lald hx hb hK hP 6 1 rfl rfl hv.1 dX11_next_42 ?_
    refine lv_topl (fun g9 h_g9 => ?_)
    have hv := hv.2 g9 h_g9
    refine lv_lmul hx hb dX11_next_43 ?_
    refine lv_topl (fun e10 h_e10 => ?_)
    have hv := hv e10 h_e10
    refine lv_ladd hx hb dX11_next_44 ?_
    refine lv_topl (fun e11 h_e11 => ?_)
    have hv := hv e11 h_e11
    refine lv_aload_n hx hb dX11_next_45 rfl (lv_at hl 0 rfl) ?_
    refine va_get (D := D) (ci := 11) (v := .ref (ad 56)) (C := RX11) (T := TX11) (N := 35) hx hb hts in_X11_next_11 hown hK hP 0 rfl rfl 30 (by decide) (hts _ lk_X11_next_66) (fun _ h9 => h9) rfl dX11_next_46 ?_
    refine lv_iconst (v := 1) hx hb dX11_next_49 (by decide) ?_
    refine va_lald hx hb hK hP 6 1 rfl rfl hv.1 dX11_next_50 ?_
    refine lv_topl (fun g12 h_g12 => ?_)
    have hv := hv.2 g12 h_g12
    refine lv_lsub hx hb dX11_next_51 ?_
    refine lv_topl (fun e13 h_e13 => ?_)
    have hv := hv e13 h_e13
    refine lv_lstore_n (lv' := [(2, .long e13), (0, .ref (ad 11)), (1, .int x1)]) hx hb dX11_next_52 rfl hl (by decide) rfl (fun ls hl => ?_)
    refine lv_aload_n hx hb dX11_next_53 rfl (lv_at hl 1 rfl) ?_
    refine va_get (D := D) (ci := 11) (v := .ref (ad 58)) (C := RX11) (T := TX11) (N := 35) hx hb hts in_X11_next_11 hown hK hP 0 rfl rfl 32 (by decide) (hts _ lk_X11_next_72) (fun _ h9 => h9) rfl dX11_next_54 ?_
    refine lv_iconst (v := 0) hx hb dX11_next_57 (by decide) ?_
    refine lv_aload_n hx hb dX11_next_58 rfl (lv_at hl 1 rfl) ?_
    refine lv_lload_n hx hb dX11_next_59 rfl (lv_at hl 0 rfl) ?_
    have hPc := hP.sub (ws' := [oX11 ad s11_d s11_stepMany s11_kind s11_many s11_partMany s11_rule s11_ticks s11_hand s11_g s11_beganElsewhere s11_dBefore s11_fBefore s11_fFirst s11_weightMany s11_tailTold, aI cy (ad 41) 8 a11_steps]) [0, 1] rfl
    have hDc := hD.sub (ws' := [oX11 ad s11_d s11_stepMany s11_kind s11_many s11_partMany s11_rule s11_ticks s11_hand s11_g s11_beganElsewhere s11_dBefore s11_fBefore s11_fFirst s11_weightMany s11_tailTold, aI cy (ad 41) 8 a11_steps]) [0, 1] (by decide) rfl
    refine k_cali (wc := [oX11 ad s11_d s11_stepMany s11_kind s11_many s11_partMany s11_rule s11_ticks s11_hand s11_g s11_beganElsewhere s11_dBefore s11_fBefore s11_fFirst s11_weightMany s11_tailTold, aI cy (ad 41) 8 a11_steps]) (wr := [aI cy (ad 43) 16 a11_a, aI cy (ad 44) 4 a11_b, aI cy (ad 45) 4 a11_e, aI cy (ad 46) 4 a11_h, aJ cy (ad 56) 4 a11_now, aJ cy (ad 57) 4 a11_to, aI cy (ad 58) 3 a11_made]) (va_runV (As := [.long e13]) (rest := [.int (0 : Int32), .ref (ad 58)]) ⟨hx, hb, hml, hown, hts⟩ (m_X11_stepFor l D cy ad s11_d s11_stepMany s11_kind s11_many s11_partMany s11_rule s11_ticks s11_hand s11_g s11_beganElsewhere s11_dBefore s11_fBefore s11_fFirst s11_weightMany s11_tailTold a11_steps e13 H.size hv) (cwV 1 hts gX11_next_X11_stepFor rfl rfl rfl (by decide +kernel) ⟨Nat.le_of_ble_eq_true rfl, Nat.le_of_ble_eq_true rfl⟩) ⟨wd_blind, va_recv hK hPc (ci := 11) (q0 := 0) rfl rfl, wd_ok hPc hK hDc hN⟩ rfl rfl hl.1 rfl (lv_room (Nat.le_of_ble_eq_true rfl)) dX11_next_60 ⟨Nat.le_of_ble_eq_true rfl, Nat.le_of_ble_eq_true rfl⟩) hP hD hS hA [0, 1] [2, 3, 4, 5, 6, 7, 8] rfl rfl (by decide) (by decide) (fun r14 u H locs hv hP hD hS => ?_)
    have hP : va_P D vwCl [oX11 ad s11_d s11_stepMany s11_kind s11_many s11_partMany s11_rule s11_ticks s11_hand s11_g s11_beganElsewhere s11_dBefore s11_fBefore s11_fFirst s11_weightMany s11_tailTold, aI cy (ad 41) 8 a11_steps, aI cy (ad 43) 16 a11_a, aI cy (ad 44) 4 a11_b, aI cy (ad 45) 4 a11_e, aI cy (ad 46) 4 a11_h, aJ cy (ad 56) 4 a11_now, aJ cy (ad 57) 4 a11_to, aI cy (ad 58) 3 a11_made] H := hP.sub [7, 8, 0, 1, 2, 3, 4, 5, 6] rfl
    have hD : va_D A [oX11 ad s11_d s11_stepMany s11_kind s11_many s11_partMany s11_rule s11_ticks s11_hand s11_g s11_beganElsewhere s11_dBefore s11_fBefore s11_fFirst s11_weightMany s11_tailTold, aI cy (ad 41) 8 a11_steps, aI cy (ad 43) 16 a11_a, aI cy (ad 44) 4 a11_b, aI cy (ad 45) 4 a11_e, aI cy (ad 46) 4 a11_h, aJ cy (ad 56) 4 a11_now, aJ cy (ad 57) 4 a11_to, aI cy (ad 58) 3 a11_made] := hD.sub [7, 8, 0, 1, 2, 3, 4, 5, 6] (by decide) rfl
    refine k_iast hx hb hK hP hD hS 8 0 rfl rfl hv.1 dX11_next_63 (fun a11_made_15 H locs h_a11_made_15 hP hD hS => ?_)
    have hv := hv.2 a11_made_15 h_a11_made_15
    have hP : va_P D vwCl [oX11 ad s11_d s11_stepMany s11_kind s11_many s11_partMany s11_rule s11_ticks s11_hand s11_g s11_beganElsewhere s11_dBefore s11_fBefore s11_fFirst s11_weightMany s11_tailTold, aI cy (ad 41) 8 a11_steps, aI cy (ad 43) 16 a11_a, aI cy (ad 44) 4 a11_b, aI cy (ad 45) 4 a11_e, aI cy (ad 46) 4 a11_h, aJ cy (ad 56) 4 a11_now, aJ cy (ad 57) 4 a11_to, aI cy (ad 58) 3 a11_made_15] H := hP
    have hD : va_D A [oX11 ad s11_d s11_stepMany s11_kind s11_many s11_partMany s11_rule s11_ticks s11_hand s11_g s11_beganElsewhere s11_dBefore s11_fBefore s11_fFirst s11_weightMany s11_tailTold, aI cy (ad 41) 8 a11_steps, aI cy (ad 43) 16 a11_a, aI cy (ad 44) 4 a11_b, aI cy (ad 45) 4 a11_e, aI cy (ad 46) 4 a11_h, aJ cy (ad 56) 4 a11_now, aJ cy (ad 57) 4 a11_to, aI cy (ad 58) 3 a11_made_15] := hD
    refine lv_aload_n hx hb dX11_next_64 rfl (lv_at hl 1 rfl) ?_
    refine va_get (D := D) (ci := 11) (v := .ref (ad 57)) (C := RX11) (T := TX11) (N := 35) hx hb hts in_X11_next_11 hown hK hP 0 rfl rfl 31 (by decide) (hts _ lk_X11_next_69) (fun _ h9 => h9) rfl dX11_next_65 ?_
    refine lv_iconst (v := 1) hx hb dX11_next_68 (by decide) ?_
    refine lv_aload_n hx hb dX11_next_69 rfl (lv_at hl 1 rfl) ?_
    refine va_get (D := D) (ci := 11) (v := .ref (ad 56)) (C := RX11) (T := TX11) (N := 35) hx hb hts in_X11_next_11 hown hK hP 0 rfl rfl 30 (by decide) (hts _ lk_X11_next_66) (fun _ h9 => h9) rfl dX11_next_70 ?_
    refine lv_iconst (v := 0) hx hb dX11_next_73 (by decide) ?_
    refine va_lald hx hb hK hP 6 1 rfl rfl hv.1 dX11_next_74 ?_
    refine lv_topl (fun g16 h_g16 => ?_)
    have hv := hv.2 g16 h_g16
    refine k_last hx hb hK hP hD hS 7 1 rfl rfl hv.1 dX11_next_75 (fun a11_to_17 H locs h_a11_to_17 hP hD hS => ?_)
    have hv := hv.2 a11_to_17 h_a11_to_17
    have hP : va_P D vwCl [oX11 ad s11_d s11_stepMany s11_kind s11_many s11_partMany s11_rule s11_ticks s11_hand s11_g s11_beganElsewhere s11_dBefore s11_fBefore s11_fFirst s11_weightMany s11_tailTold, aI cy (ad 41) 8 a11_steps, aI cy (ad 43) 16 a11_a, aI cy (ad 44) 4 a11_b, aI cy (ad 45) 4 a11_e, aI cy (ad 46) 4 a11_h, aJ cy (ad 56) 4 a11_now, aJ cy (ad 57) 4 a11_to_17, aI cy (ad 58) 3 a11_made_15] H := hP
    have hD : va_D A [oX11 ad s11_d s11_stepMany s11_kind s11_many s11_partMany s11_rule s11_ticks s11_hand s11_g s11_beganElsewhere s11_dBefore s11_fBefore s11_fFirst s11_weightMany s11_tailTold, aI cy (ad 41) 8 a11_steps, aI cy (ad 43) 16 a11_a, aI cy (ad 44) 4 a11_b, aI cy (ad 45) 4 a11_e, aI cy (ad 46) 4 a11_h, aJ cy (ad 56) 4 a11_now, aJ cy (ad 57) 4 a11_to_17, aI cy (ad 58) 3 a11_made_15] := hD
    refine lv_aload_n hx hb dX11_next_76 rfl (lv_at hl 1 rfl) ?_
    refine va_get (D := D) (ci := 11) (v := .ref (ad 57)) (C := RX11) (T := TX11) (N := 35) hx hb hts in_X11_next_11 hown hK hP 0 rfl rfl 31 (by decide) (hts _ lk_X11_next_69) (fun _ h9 => h9) rfl dX11_next_77 ?_
    refine lv_iconst (v := 0) hx hb dX11_next_80 (by decide) ?_
    refine lv_lload_n hx hb dX11_next_81 rfl (lv_at hl 0 rfl) ?_
    refine lv_aload_n hx hb dX11_next_82 rfl (lv_at hl 1 rfl) ?_
    refine va_get (D := D) (ci := 11) (v := .ref (ad 58)) (C := RX11) (T := TX11) (N := 35) hx hb hts in_X11_next_11 hown hK hP 0 rfl rfl 32 (by decide) (hts _ lk_X11_next_72) (fun _ h9 => h9) rfl dX11_next_83 ?_
    refine lv_iconst (v := 0) hx hb dX11_next_86 (by decide) ?_
    refine va_iald hx hb hK hP 8 0 rfl rfl hv.1 dX11_next_87 ?_
    refine lv_topi (fun g18 h_g18 => ?_)
    have hv := hv.2 g18 h_g18
    refine lv_i2l hx hb dX11_next_88 rfl ?_
    refine lv_aload_n hx hb dX11_next_89 rfl (lv_at hl 1 rfl) ?_
    refine va_get (D := D) (ci := 11) (v := .int s11_d) (C := RX11) (T := TX11) (N := 35) hx hb hts in_X11_next_11 hown hK hP 0 rfl rfl 0 (by decide) (hts _ lk_X11_next_7) (fun _ h9 => h9) rfl dX11_next_90 ?_
    refine lv_i2l hx hb dX11_next_93 rfl ?_
    refine lv_lmul hx hb dX11_next_94 ?_
    refine lv_topl (fun e19 h_e19 => ?_)
    have hv := hv e19 h_e19
    refine lv_lsub hx hb dX11_next_95 ?_
    refine lv_topl (fun e20 h_e20 => ?_)
    have hv := hv e20 h_e20
    refine k_last hx hb hK hP hD hS 7 1 rfl rfl hv.1 dX11_next_96 (fun a11_to_21 H locs h_a11_to_21 hP hD hS => ?_)
    have hv := hv.2 a11_to_21 h_a11_to_21
    have hP : va_P D vwCl [oX11 ad s11_d s11_stepMany s11_kind s11_many s11_partMany s11_rule s11_ticks s11_hand s11_g s11_beganElsewhere s11_dBefore s11_fBefore s11_fFirst s11_weightMany s11_tailTold, aI cy (ad 41) 8 a11_steps, aI cy (ad 43) 16 a11_a, aI cy (ad 44) 4 a11_b, aI cy (ad 45) 4 a11_e, aI cy (ad 46) 4 a11_h, aJ cy (ad 56) 4 a11_now, aJ cy (ad 57) 4 a11_to_21, aI cy (ad 58) 3 a11_made_15] H := hP
    have hD : va_D A [oX11 ad s11_d s11_stepMany s11_kind s11_many s11_partMany s11_rule s11_ticks s11_hand s11_g s11_beganElsewhere s11_dBefore s11_fBefore s11_fFirst s11_weightMany s11_tailTold, aI cy (ad 41) 8 a11_steps, aI cy (ad 43) 16 a11_a, aI cy (ad 44) 4 a11_b, aI cy (ad 45) 4 a11_e, aI cy (ad 46) 4 a11_h, aJ cy (ad 56) 4 a11_now, aJ cy (ad 57) 4 a11_to_21, aI cy (ad 58) 3 a11_made_15] := hD
    refine lv_goto (tgt := 390) hx hb dX11_next_97 (by decide) ?_
    exact jn390 a11_to_21 a11_made_15 H locs ls hv (lv_sub hl [1] rfl) hP hD hS
  have hv := hv.2
  by_cases c_4_1 : s11_kind = 2
  · refine lv_tableIn (tgt := 100) (off := 96) hx hb dX11_next_4 (by rw [c_4_1] <;> decide) (by rw [c_4_1] <;> decide) (by rw [c_4_1] <;> rfl) (by decide) ?_
    have hv := hv.1 c_4_1
    refine lv_aload_n hx hb dX11_next_100 rfl (lv_at hl 0 rfl) ?_
    refine va_get (D := D) (ci := 11) (v := .int s11_g) (C := RX11) (T := TX11) (N := 35) hx hb hts in_X11_next_11 hown hK hP 0 rfl rfl 14 (by decide) (hts _ lk_X11_next_112) (fun _ h9 => h9) rfl dX11_next_101 ?_
    refine lv_i2l hx hb dX11_next_104 rfl ?_
    refine lv_iload_n hx hb dX11_next_105 rfl (lv_at hl 1 rfl) ?_
    refine lv_i2l hx hb dX11_next_106 rfl ?_
    refine lv_lmul hx hb dX11_next_107 ?_
    refine lv_topl (fun e22 h_e22 => ?_)
    have hv := hv e22 h_e22
    refine lv_lstore_n (lv' := [(2, .long e22), (0, .ref (ad 11)), (1, .int x1)]) hx hb dX11_next_108 rfl hl (by decide) rfl (fun ls hl => ?_)
    refine lv_iconst (v := 0) hx hb dX11_next_109 (by decide) ?_
    refine lv_istore (lv' := [(4, .int (0 : Int32)), (2, .long e22), (0, .ref (ad 11)), (1, .int x1)]) hx hb dX11_next_110 hl (by decide) rfl (fun ls hl => ?_)
    have lp112 : ∀ (n112 : Nat) (l4_23 : Int32) (l2_24 : Int64) (H : Heap) (locs : List Loc) (ls : Array Slot), vfix (vF_X11_next_112 s11_d s11_stepMany s11_many a11_steps a11_a a11_b a11_e a11_h a11_now a11_to a11_made x1 K) n112 (l4_23, l2_24) → lv_has ls 7 [(4, .int l4_23), (2, .long l2_24), (0, .ref (ad 11)), (1, .int x1)] → va_P D vwCl [oX11 ad s11_d s11_stepMany s11_kind s11_many s11_partMany s11_rule s11_ticks s11_hand s11_g s11_beganElsewhere s11_dBefore s11_fBefore s11_fFirst s11_weightMany s11_tailTold, aI cy (ad 41) 8 a11_steps, aI cy (ad 43) 16 a11_a, aI cy (ad 44) 4 a11_b, aI cy (ad 45) 4 a11_e, aI cy (ad 46) 4 a11_h, aJ cy (ad 56) 4 a11_now, aJ cy (ad 57) 4 a11_to, aI cy (ad 58) 3 a11_made] H → va_D A [oX11 ad s11_d s11_stepMany s11_kind s11_many s11_partMany s11_rule s11_ticks s11_hand s11_g s11_beganElsewhere s11_dBefore s11_fBefore s11_fFirst s11_weightMany s11_tailTold, aI cy (ad 41) 8 a11_steps, aI cy (ad 43) 16 a11_a, aI cy (ad 44) 4 a11_b, aI cy (ad 45) 4 a11_e, aI cy (ad 46) 4 a11_h, aJ cy (ad 56) 4 a11_now, aJ cy (ad 57) 4 a11_to, aI cy (ad 58) 3 a11_made] → va_S A s.heap H locs → W p l e rm_X11_next s m ([.ref (ad 11), .int x1] : List Value).toArray below meth c H locs 0 0 Q (F0 m 112 ls []) := by
      intro n112
      induction n112 with
      | zero => intro l4_23 l2_24 H locs ls hv; exact hv.elim
      | succ n112 ih112 =>
        intro l4_23 l2_24 H locs ls hv hl hP hD hS
        have hv : vB_X11_next_112 s11_d s11_stepMany s11_many a11_steps a11_a a11_b a11_e a11_h a11_now a11_to a11_made x1 K (fun z0 z1 => vfix (vF_X11_next_112 s11_d s11_stepMany s11_many a11_steps a11_a a11_b a11_e a11_h a11_now a11_to a11_made x1 K) n112 (z0, z1)) l4_23 l2_24 := hv
        unfold vB_X11_next_112 at hv
        refine lv_iload hx hb dX11_next_112 (lv_at hl 0 rfl) ?_
        refine lv_aload_n hx hb dX11_next_114 rfl (lv_at hl 2 rfl) ?_
        refine va_get (D := D) (ci := 11) (v := .int s11_many) (C := RX11) (T := TX11) (N := 35) hx hb hts in_X11_next_11 hown hK hP 0 rfl rfl 3 (by decide) (hts _ lk_X11_next_16) (fun _ h9 => h9) rfl dX11_next_115 ?_
        refine lv_icmp_ge (tgt := 146) hx hb dX11_next_118 (by decide) (fun c_118 => ?_) (fun c_118 => ?_)
        · have hv := hv.1 c_118
          refine lv_aload_n hx hb dX11_next_146 rfl (lv_at hl 2 rfl) ?_
          refine va_get (D := D) (ci := 11) (v := .ref (ad 58)) (C := RX11) (T := TX11) (N := 35) hx hb hts in_X11_next_11 hown hK hP 0 rfl rfl 32 (by decide) (hts _ lk_X11_next_72) (fun _ h9 => h9) rfl dX11_next_147 ?_
          refine lv_iconst (v := 0) hx hb dX11_next_150 (by decide) ?_
          refine lv_aload_n hx hb dX11_next_151 rfl (lv_at hl 2 rfl) ?_
          refine lv_lload_n hx hb dX11_next_152 rfl (lv_at hl 1 rfl) ?_
          have hPc := hP.sub (ws' := [oX11 ad s11_d s11_stepMany s11_kind s11_many s11_partMany s11_rule s11_ticks s11_hand s11_g s11_beganElsewhere s11_dBefore s11_fBefore s11_fFirst s11_weightMany s11_tailTold, aI cy (ad 41) 8 a11_steps]) [0, 1] rfl
          have hDc := hD.sub (ws' := [oX11 ad s11_d s11_stepMany s11_kind s11_many s11_partMany s11_rule s11_ticks s11_hand s11_g s11_beganElsewhere s11_dBefore s11_fBefore s11_fFirst s11_weightMany s11_tailTold, aI cy (ad 41) 8 a11_steps]) [0, 1] (by decide) rfl
          refine k_cali (wc := [oX11 ad s11_d s11_stepMany s11_kind s11_many s11_partMany s11_rule s11_ticks s11_hand s11_g s11_beganElsewhere s11_dBefore s11_fBefore s11_fFirst s11_weightMany s11_tailTold, aI cy (ad 41) 8 a11_steps]) (wr := [aI cy (ad 43) 16 a11_a, aI cy (ad 44) 4 a11_b, aI cy (ad 45) 4 a11_e, aI cy (ad 46) 4 a11_h, aJ cy (ad 56) 4 a11_now, aJ cy (ad 57) 4 a11_to, aI cy (ad 58) 3 a11_made]) (va_runV (As := [.long l2_24]) (rest := [.int (0 : Int32), .ref (ad 58)]) ⟨hx, hb, hml, hown, hts⟩ (m_X11_stepFor l D cy ad s11_d s11_stepMany s11_kind s11_many s11_partMany s11_rule s11_ticks s11_hand s11_g s11_beganElsewhere s11_dBefore s11_fBefore s11_fFirst s11_weightMany s11_tailTold a11_steps l2_24 H.size hv) (cwV 1 hts gX11_next_X11_stepFor rfl rfl rfl (by decide +kernel) ⟨Nat.le_of_ble_eq_true rfl, Nat.le_of_ble_eq_true rfl⟩) ⟨wd_blind, va_recv hK hPc (ci := 11) (q0 := 0) rfl rfl, wd_ok hPc hK hDc hN⟩ rfl rfl hl.1 rfl (lv_room (Nat.le_of_ble_eq_true rfl)) dX11_next_153 ⟨Nat.le_of_ble_eq_true rfl, Nat.le_of_ble_eq_true rfl⟩) hP hD hS hA [0, 1] [2, 3, 4, 5, 6, 7, 8] rfl rfl (by decide) (by decide) (fun r25 u H locs hv hP hD hS => ?_)
          have hP : va_P D vwCl [oX11 ad s11_d s11_stepMany s11_kind s11_many s11_partMany s11_rule s11_ticks s11_hand s11_g s11_beganElsewhere s11_dBefore s11_fBefore s11_fFirst s11_weightMany s11_tailTold, aI cy (ad 41) 8 a11_steps, aI cy (ad 43) 16 a11_a, aI cy (ad 44) 4 a11_b, aI cy (ad 45) 4 a11_e, aI cy (ad 46) 4 a11_h, aJ cy (ad 56) 4 a11_now, aJ cy (ad 57) 4 a11_to, aI cy (ad 58) 3 a11_made] H := hP.sub [7, 8, 0, 1, 2, 3, 4, 5, 6] rfl
          have hD : va_D A [oX11 ad s11_d s11_stepMany s11_kind s11_many s11_partMany s11_rule s11_ticks s11_hand s11_g s11_beganElsewhere s11_dBefore s11_fBefore s11_fFirst s11_weightMany s11_tailTold, aI cy (ad 41) 8 a11_steps, aI cy (ad 43) 16 a11_a, aI cy (ad 44) 4 a11_b, aI cy (ad 45) 4 a11_e, aI cy (ad 46) 4 a11_h, aJ cy (ad 56) 4 a11_now, aJ cy (ad 57) 4 a11_to, aI cy (ad 58) 3 a11_made] := hD.sub [7, 8, 0, 1, 2, 3, 4, 5, 6] (by decide) rfl
          refine k_iast hx hb hK hP hD hS 8 0 rfl rfl hv.1 dX11_next_156 (fun a11_made_26 H locs h_a11_made_26 hP hD hS => ?_)
          have hv := hv.2 a11_made_26 h_a11_made_26
          have hP : va_P D vwCl [oX11 ad s11_d s11_stepMany s11_kind s11_many s11_partMany s11_rule s11_ticks s11_hand s11_g s11_beganElsewhere s11_dBefore s11_fBefore s11_fFirst s11_weightMany s11_tailTold, aI cy (ad 41) 8 a11_steps, aI cy (ad 43) 16 a11_a, aI cy (ad 44) 4 a11_b, aI cy (ad 45) 4 a11_e, aI cy (ad 46) 4 a11_h, aJ cy (ad 56) 4 a11_now, aJ cy (ad 57) 4 a11_to, aI cy (ad 58) 3 a11_made_26] H := hP
          have hD : va_D A [oX11 ad s11_d s11_stepMany s11_kind s11_many s11_partMany s11_rule s11_ticks s11_hand s11_g s11_beganElsewhere s11_dBefore s11_fBefore s11_fFirst s11_weightMany s11_tailTold, aI cy (ad 41) 8 a11_steps, aI cy (ad 43) 16 a11_a, aI cy (ad 44) 4 a11_b, aI cy (ad 45) 4 a11_e, aI cy (ad 46) 4 a11_h, aJ cy (ad 56) 4 a11_now, aJ cy (ad 57) 4 a11_to, aI cy (ad 58) 3 a11_made_26] := hD
          refine lv_iconst (v := 0) hx hb dX11_next_157 (by decide) ?_
          refine lv_istore (lv' := [(4, .int (0 : Int32)), (2, .long l2_24), (0, .ref (ad 11)), (1, .int x1)]) hx hb dX11_next_158 hl (by decide) rfl (fun ls hl => ?_)
          have lp160 : ∀ (n160 : Nat) (l4_27 : Int32) (a11_to_28 : Nat → Int64) (H : Heap) (locs : List Loc) (ls : Array Slot), vfix (vF_X11_next_160 s11_d s11_many a11_a a11_b a11_e a11_now x1 K a11_made_26) n160 (l4_27, a11_to_28) → lv_has ls 7 [(4, .int l4_27), (0, .ref (ad 11)), (1, .int x1)] → va_P D vwCl [oX11 ad s11_d s11_stepMany s11_kind s11_many s11_partMany s11_rule s11_ticks s11_hand s11_g s11_beganElsewhere s11_dBefore s11_fBefore s11_fFirst s11_weightMany s11_tailTold, aI cy (ad 41) 8 a11_steps, aI cy (ad 43) 16 a11_a, aI cy (ad 44) 4 a11_b, aI cy (ad 45) 4 a11_e, aI cy (ad 46) 4 a11_h, aJ cy (ad 56) 4 a11_now, aJ cy (ad 57) 4 a11_to_28, aI cy (ad 58) 3 a11_made_26] H → va_D A [oX11 ad s11_d s11_stepMany s11_kind s11_many s11_partMany s11_rule s11_ticks s11_hand s11_g s11_beganElsewhere s11_dBefore s11_fBefore s11_fFirst s11_weightMany s11_tailTold, aI cy (ad 41) 8 a11_steps, aI cy (ad 43) 16 a11_a, aI cy (ad 44) 4 a11_b, aI cy (ad 45) 4 a11_e, aI cy (ad 46) 4 a11_h, aJ cy (ad 56) 4 a11_now, aJ cy (ad 57) 4 a11_to_28, aI cy (ad 58) 3 a11_made_26] → va_S A s.heap H locs → W p l e rm_X11_next s m ([.ref (ad 11), .int x1] : List Value).toArray below meth c H locs 0 0 Q (F0 m 160 ls []) := by
            intro n160
            induction n160 with
            | zero => intro l4_27 a11_to_28 H locs ls hv; exact hv.elim
            | succ n160 ih160 =>
              intro l4_27 a11_to_28 H locs ls hv hl hP hD hS
              have hv : vB_X11_next_160 s11_d s11_many a11_a a11_b a11_e a11_now x1 K a11_made_26 (fun z0 z1 => vfix (vF_X11_next_160 s11_d s11_many a11_a a11_b a11_e a11_now x1 K a11_made_26) n160 (z0, z1)) l4_27 a11_to_28 := hv
              unfold vB_X11_next_160 at hv
              refine lv_iload hx hb dX11_next_160 (lv_at hl 0 rfl) ?_
              refine lv_aload_n hx hb dX11_next_162 rfl (lv_at hl 1 rfl) ?_
              refine va_get (D := D) (ci := 11) (v := .int s11_many) (C := RX11) (T := TX11) (N := 35) hx hb hts in_X11_next_11 hown hK hP 0 rfl rfl 3 (by decide) (hts _ lk_X11_next_16) (fun _ h9 => h9) rfl dX11_next_163 ?_
              refine lv_icmp_ge (tgt := 265) hx hb dX11_next_166 (by decide) (fun c_166 => ?_) (fun c_166 => ?_)
              · have hv := hv.1 c_166
                refine lv_goto (tgt := 390) hx hb dX11_next_265 (by decide) ?_
                exact jn390 a11_to_28 a11_made_26 H locs ls hv (lv_sub hl [1] rfl) hP hD hS
              · have hv := hv.2 c_166
                refine lv_aload_n hx hb dX11_next_169 rfl (lv_at hl 1 rfl) ?_
                refine va_get (D := D) (ci := 11) (v := .ref (ad 57)) (C := RX11) (T := TX11) (N := 35) hx hb hts in_X11_next_11 hown hK hP 0 rfl rfl 31 (by decide) (hts _ lk_X11_next_69) (fun _ h9 => h9) rfl dX11_next_170 ?_
                refine lv_iload hx hb dX11_next_173 (lv_at hl 0 rfl) ?_
                refine lv_aload_n hx hb dX11_next_175 rfl (lv_at hl 1 rfl) ?_
                refine va_get (D := D) (ci := 11) (v := .ref (ad 44)) (C := RX11) (T := TX11) (N := 35) hx hb hts in_X11_next_11 hown hK hP 0 rfl rfl 11 (by decide) (hts _ lk_X11_next_29) (fun _ h9 => h9) rfl dX11_next_176 ?_
                refine lv_iload hx hb dX11_next_179 (lv_at hl 0 rfl) ?_
                refine va_iald hx hb hK hP 3 0 rfl rfl hv.1 dX11_next_181 ?_
                refine lv_topi (fun g29 h_g29 => ?_)
                have hv := hv.2 g29 h_g29
                refine lv_i2l hx hb dX11_next_182 rfl ?_
                refine lv_iload_n hx hb dX11_next_183 rfl (lv_at hl 2 rfl) ?_
                refine lv_i2l hx hb dX11_next_184 rfl ?_
                refine lv_lmul hx hb dX11_next_185 ?_
                refine lv_topl (fun e30 h_e30 => ?_)
                have hv := hv e30 h_e30
                refine lv_aload_n hx hb dX11_next_186 rfl (lv_at hl 1 rfl) ?_
                refine va_get (D := D) (ci := 11) (v := .ref (ad 45)) (C := RX11) (T := TX11) (N := 35) hx hb hts in_X11_next_11 hown hK hP 0 rfl rfl 12 (by decide) (hts _ lk_X11_next_32) (fun _ h9 => h9) rfl dX11_next_187 ?_
                refine lv_iload hx hb dX11_next_190 (lv_at hl 0 rfl) ?_
                refine va_iald hx hb hK hP 4 0 rfl rfl hv.1 dX11_next_192 ?_
                refine lv_topi (fun g31 h_g31 => ?_)
                have hv := hv.2 g31 h_g31
                refine lv_i2l hx hb dX11_next_193 rfl ?_
                refine lv_aload_n hx hb dX11_next_194 rfl (lv_at hl 1 rfl) ?_
                refine va_get (D := D) (ci := 11) (v := .ref (ad 58)) (C := RX11) (T := TX11) (N := 35) hx hb hts in_X11_next_11 hown hK hP 0 rfl rfl 32 (by decide) (hts _ lk_X11_next_72) (fun _ h9 => h9) rfl dX11_next_195 ?_
                refine lv_iconst (v := 0) hx hb dX11_next_198 (by decide) ?_
                refine va_iald hx hb hK hP 8 0 rfl rfl hv.1 dX11_next_199 ?_
                refine lv_topi (fun g32 h_g32 => ?_)
                have hv := hv.2 g32 h_g32
                refine lv_i2l hx hb dX11_next_200 rfl ?_
                refine lv_lmul hx hb dX11_next_201 ?_
                refine lv_topl (fun e33 h_e33 => ?_)
                have hv := hv e33 h_e33
                refine lv_aload_n hx hb dX11_next_202 rfl (lv_at hl 1 rfl) ?_
                refine va_get (D := D) (ci := 11) (v := .int s11_d) (C := RX11) (T := TX11) (N := 35) hx hb hts in_X11_next_11 hown hK hP 0 rfl rfl 0 (by decide) (hts _ lk_X11_next_7) (fun _ h9 => h9) rfl dX11_next_203 ?_
                refine lv_i2l hx hb dX11_next_206 rfl ?_
                refine lv_lmul hx hb dX11_next_207 ?_
                refine lv_topl (fun e34 h_e34 => ?_)
                have hv := hv e34 h_e34
                refine lv_ladd hx hb dX11_next_208 ?_
                refine lv_topl (fun e35 h_e35 => ?_)
                have hv := hv e35 h_e35
                refine k_last hx hb hK hP hD hS 7 1 rfl rfl hv.1 dX11_next_209 (fun a11_to_36 H locs h_a11_to_36 hP hD hS => ?_)
                have hv := hv.2 a11_to_36 h_a11_to_36
                have hP : va_P D vwCl [oX11 ad s11_d s11_stepMany s11_kind s11_many s11_partMany s11_rule s11_ticks s11_hand s11_g s11_beganElsewhere s11_dBefore s11_fBefore s11_fFirst s11_weightMany s11_tailTold, aI cy (ad 41) 8 a11_steps, aI cy (ad 43) 16 a11_a, aI cy (ad 44) 4 a11_b, aI cy (ad 45) 4 a11_e, aI cy (ad 46) 4 a11_h, aJ cy (ad 56) 4 a11_now, aJ cy (ad 57) 4 a11_to_36, aI cy (ad 58) 3 a11_made_26] H := hP
                have hD : va_D A [oX11 ad s11_d s11_stepMany s11_kind s11_many s11_partMany s11_rule s11_ticks s11_hand s11_g s11_beganElsewhere s11_dBefore s11_fBefore s11_fFirst s11_weightMany s11_tailTold, aI cy (ad 41) 8 a11_steps, aI cy (ad 43) 16 a11_a, aI cy (ad 44) 4 a11_b, aI cy (ad 45) 4 a11_e, aI cy (ad 46) 4 a11_h, aJ cy (ad 56) 4 a11_now, aJ cy (ad 57) 4 a11_to_36, aI cy (ad 58) 3 a11_made_26] := hD
                refine lv_iconst (v := 0) hx hb dX11_next_210 (by decide) ?_
                refine lv_istore (lv' := [(5, .int (0 : Int32)), (4, .int l4_27), (0, .ref (ad 11)), (1, .int x1)]) hx hb dX11_next_211 hl (by decide) rfl (fun ls hl => ?_)
                have lp213 : ∀ (n213 : Nat) (l5_37 : Int32) (a11_to_38 : Nat → Int64) (H : Heap) (locs : List Loc) (ls : Array Slot), vfix (vF_X11_next_213 s11_many a11_a a11_now l4_27 (fun z0 z1 => vfix (vF_X11_next_160 s11_d s11_many a11_a a11_b a11_e a11_now x1 K a11_made_26) n160 (z0, z1))) n213 (l5_37, a11_to_38) → lv_has ls 7 [(5, .int l5_37), (4, .int l4_27), (0, .ref (ad 11)), (1, .int x1)] → va_P D vwCl [oX11 ad s11_d s11_stepMany s11_kind s11_many s11_partMany s11_rule s11_ticks s11_hand s11_g s11_beganElsewhere s11_dBefore s11_fBefore s11_fFirst s11_weightMany s11_tailTold, aI cy (ad 41) 8 a11_steps, aI cy (ad 43) 16 a11_a, aI cy (ad 44) 4 a11_b, aI cy (ad 45) 4 a11_e, aI cy (ad 46) 4 a11_h, aJ cy (ad 56) 4 a11_now, aJ cy (ad 57) 4 a11_to_38, aI cy (ad 58) 3 a11_made_26] H → va_D A [oX11 ad s11_d s11_stepMany s11_kind s11_many s11_partMany s11_rule s11_ticks s11_hand s11_g s11_beganElsewhere s11_dBefore s11_fBefore s11_fFirst s11_weightMany s11_tailTold, aI cy (ad 41) 8 a11_steps, aI cy (ad 43) 16 a11_a, aI cy (ad 44) 4 a11_b, aI cy (ad 45) 4 a11_e, aI cy (ad 46) 4 a11_h, aJ cy (ad 56) 4 a11_now, aJ cy (ad 57) 4 a11_to_38, aI cy (ad 58) 3 a11_made_26] → va_S A s.heap H locs → W p l e rm_X11_next s m ([.ref (ad 11), .int x1] : List Value).toArray below meth c H locs 0 0 Q (F0 m 213 ls []) := by
                  intro n213
                  induction n213 with
                  | zero => intro l5_37 a11_to_38 H locs ls hv; exact hv.elim
                  | succ n213 ih213 =>
                    intro l5_37 a11_to_38 H locs ls hv hl hP hD hS
                    have hv : vB_X11_next_213 s11_many a11_a a11_now l4_27 (fun z0 z1 => vfix (vF_X11_next_160 s11_d s11_many a11_a a11_b a11_e a11_now x1 K a11_made_26) n160 (z0, z1)) (fun z0 z1 => vfix (vF_X11_next_213 s11_many a11_a a11_now l4_27 (fun z0 z1 => vfix (vF_X11_next_160 s11_d s11_many a11_a a11_b a11_e a11_now x1 K a11_made_26) n160 (z0, z1))) n213 (z0, z1)) l5_37 a11_to_38 := hv
                    unfold vB_X11_next_213 at hv
                    refine lv_iload hx hb dX11_next_213 (lv_at hl 0 rfl) ?_
                    refine lv_aload_n hx hb dX11_next_215 rfl (lv_at hl 2 rfl) ?_
                    refine va_get (D := D) (ci := 11) (v := .int s11_many) (C := RX11) (T := TX11) (N := 35) hx hb hts in_X11_next_11 hown hK hP 0 rfl rfl 3 (by decide) (hts _ lk_X11_next_16) (fun _ h9 => h9) rfl dX11_next_216 ?_
                    refine lv_icmp_ge (tgt := 259) hx hb dX11_next_219 (by decide) (fun c_219 => ?_) (fun c_219 => ?_)
                    · have hv := hv.1 c_219
                      obtain ⟨i39, h_i39⟩ : ∃ y : Int32, y = l4_27 + 1 := ⟨_, rfl⟩
                      refine lv_iinc (v := i39) (lv' := [(4, .int i39), (5, .int l5_37), (0, .ref (ad 11)), (1, .int x1)]) hx hb dX11_next_259 hl (k := 1) rfl (by rw [h_i39]; rfl) (by decide) rfl (fun ls hl => ?_)
                      have hv := hv i39 h_i39
                      refine lv_goto (tgt := 160) hx hb dX11_next_262 (by decide) ?_
                      exact ih160 i39 a11_to_38 H locs ls hv (lv_sub hl [0, 2, 3] rfl) hP hD hS
                    · have hv := hv.2 c_219
                      refine lv_aload_n hx hb dX11_next_222 rfl (lv_at hl 2 rfl) ?_
                      refine va_get (D := D) (ci := 11) (v := .ref (ad 57)) (C := RX11) (T := TX11) (N := 35) hx hb hts in_X11_next_11 hown hK hP 0 rfl rfl 31 (by decide) (hts _ lk_X11_next_69) (fun _ h9 => h9) rfl dX11_next_223 ?_
                      refine lv_iload hx hb dX11_next_226 (lv_at hl 1 rfl) ?_
                      refine lv_dup2_11 hx hb dX11_next_228 rfl rfl ?_
                      refine va_lald hx hb hK hP 7 1 rfl rfl hv.1 dX11_next_229 ?_
                      refine lv_topl (fun g40 h_g40 => ?_)
                      have hv := hv.2 g40 h_g40
                      refine lv_aload_n hx hb dX11_next_230 rfl (lv_at hl 2 rfl) ?_
                      refine va_get (D := D) (ci := 11) (v := .ref (ad 43)) (C := RX11) (T := TX11) (N := 35) hx hb hts in_X11_next_11 hown hK hP 0 rfl rfl 10 (by decide) (hts _ lk_X11_next_26) (fun _ h9 => h9) rfl dX11_next_231 ?_
                      refine lv_iconst (v := 4) hx hb dX11_next_234 (by decide) ?_
                      refine lv_iload hx hb dX11_next_235 (lv_at hl 1 rfl) ?_
                      refine lv_imul hx hb dX11_next_237 ?_
                      refine lv_topi (fun e41 h_e41 => ?_)
                      have hv := hv e41 h_e41
                      refine lv_iload hx hb dX11_next_238 (lv_at hl 0 rfl) ?_
                      refine lv_iadd hx hb dX11_next_240 ?_
                      refine lv_topi (fun e42 h_e42 => ?_)
                      have hv := hv e42 h_e42
                      refine va_iald hx hb hK hP 2 0 rfl rfl hv.1 dX11_next_241 ?_
                      refine lv_topi (fun g43 h_g43 => ?_)
                      have hv := hv.2 g43 h_g43
                      refine lv_i2l hx hb dX11_next_242 rfl ?_
                      refine lv_aload_n hx hb dX11_next_243 rfl (lv_at hl 2 rfl) ?_
                      refine va_get (D := D) (ci := 11) (v := .ref (ad 56)) (C := RX11) (T := TX11) (N := 35) hx hb hts in_X11_next_11 hown hK hP 0 rfl rfl 30 (by decide) (hts _ lk_X11_next_66) (fun _ h9 => h9) rfl dX11_next_244 ?_
                      refine lv_iload hx hb dX11_next_247 (lv_at hl 0 rfl) ?_
                      refine va_lald hx hb hK hP 6 1 rfl rfl hv.1 dX11_next_249 ?_
                      refine lv_topl (fun g44 h_g44 => ?_)
                      have hv := hv.2 g44 h_g44
                      refine lv_lmul hx hb dX11_next_250 ?_
                      refine lv_topl (fun e45 h_e45 => ?_)
                      have hv := hv e45 h_e45
                      refine lv_ladd hx hb dX11_next_251 ?_
                      refine lv_topl (fun e46 h_e46 => ?_)
                      have hv := hv e46 h_e46
                      refine k_last hx hb hK hP hD hS 7 1 rfl rfl hv.1 dX11_next_252 (fun a11_to_47 H locs h_a11_to_47 hP hD hS => ?_)
                      have hv := hv.2 a11_to_47 h_a11_to_47
                      have hP : va_P D vwCl [oX11 ad s11_d s11_stepMany s11_kind s11_many s11_partMany s11_rule s11_ticks s11_hand s11_g s11_beganElsewhere s11_dBefore s11_fBefore s11_fFirst s11_weightMany s11_tailTold, aI cy (ad 41) 8 a11_steps, aI cy (ad 43) 16 a11_a, aI cy (ad 44) 4 a11_b, aI cy (ad 45) 4 a11_e, aI cy (ad 46) 4 a11_h, aJ cy (ad 56) 4 a11_now, aJ cy (ad 57) 4 a11_to_47, aI cy (ad 58) 3 a11_made_26] H := hP
                      have hD : va_D A [oX11 ad s11_d s11_stepMany s11_kind s11_many s11_partMany s11_rule s11_ticks s11_hand s11_g s11_beganElsewhere s11_dBefore s11_fBefore s11_fFirst s11_weightMany s11_tailTold, aI cy (ad 41) 8 a11_steps, aI cy (ad 43) 16 a11_a, aI cy (ad 44) 4 a11_b, aI cy (ad 45) 4 a11_e, aI cy (ad 46) 4 a11_h, aJ cy (ad 56) 4 a11_now, aJ cy (ad 57) 4 a11_to_47, aI cy (ad 58) 3 a11_made_26] := hD
                      obtain ⟨i48, h_i48⟩ : ∃ y : Int32, y = l5_37 + 1 := ⟨_, rfl⟩
                      refine lv_iinc (v := i48) (lv' := [(5, .int i48), (4, .int l4_27), (0, .ref (ad 11)), (1, .int x1)]) hx hb dX11_next_253 hl (k := 0) rfl (by rw [h_i48]; rfl) (by decide) rfl (fun ls hl => ?_)
                      have hv := hv i48 h_i48
                      refine lv_goto (tgt := 213) hx hb dX11_next_256 (by decide) ?_
                      exact ih213 i48 a11_to_47 H locs ls hv (lv_sub hl [0, 1, 2, 3] rfl) hP hD hS
                obtain ⟨nn, hv⟩ := hv
                exact lp213 nn (0 : Int32) a11_to_36 H locs ls hv (lv_sub hl [0, 1, 2, 3] rfl) hP hD hS
          obtain ⟨nn, hv⟩ := hv
          exact lp160 nn (0 : Int32) a11_to H locs ls hv (lv_sub hl [0, 2, 3] rfl) hP hD hS
        · have hv := hv.2 c_118
          refine lv_lload_n hx hb dX11_next_121 rfl (lv_at hl 1 rfl) ?_
          refine lv_aload_n hx hb dX11_next_122 rfl (lv_at hl 2 rfl) ?_
          refine va_get (D := D) (ci := 11) (v := .ref (ad 46)) (C := RX11) (T := TX11) (N := 35) hx hb hts in_X11_next_11 hown hK hP 0 rfl rfl 13 (by decide) (hts _ lk_X11_next_35) (fun _ h9 => h9) rfl dX11_next_123 ?_
          refine lv_iload hx hb dX11_next_126 (lv_at hl 0 rfl) ?_
          refine va_iald hx hb hK hP 5 0 rfl rfl hv.1 dX11_next_128 ?_
          refine lv_topi (fun g49 h_g49 => ?_)
          have hv := hv.2 g49 h_g49
          refine lv_i2l hx hb dX11_next_129 rfl ?_
          refine lv_aload_n hx hb dX11_next_130 rfl (lv_at hl 2 rfl) ?_
          refine va_get (D := D) (ci := 11) (v := .ref (ad 56)) (C := RX11) (T := TX11) (N := 35) hx hb hts in_X11_next_11 hown hK hP 0 rfl rfl 30 (by decide) (hts _ lk_X11_next_66) (fun _ h9 => h9) rfl dX11_next_131 ?_
          refine lv_iload hx hb dX11_next_134 (lv_at hl 0 rfl) ?_
          refine va_lald hx hb hK hP 6 1 rfl rfl hv.1 dX11_next_136 ?_
          refine lv_topl (fun g50 h_g50 => ?_)
          have hv := hv.2 g50 h_g50
          refine lv_lmul hx hb dX11_next_137 ?_
          refine lv_topl (fun e51 h_e51 => ?_)
          have hv := hv e51 h_e51
          refine lv_ladd hx hb dX11_next_138 ?_
          refine lv_topl (fun e52 h_e52 => ?_)
          have hv := hv e52 h_e52
          refine lv_lstore_n (lv' := [(2, .long e52), (4, .int l4_23), (0, .ref (ad 11)), (1, .int x1)]) hx hb dX11_next_139 rfl hl (by decide) rfl (fun ls hl => ?_)
          obtain ⟨i53, h_i53⟩ : ∃ y : Int32, y = l4_23 + 1 := ⟨_, rfl⟩
          refine lv_iinc (v := i53) (lv' := [(4, .int i53), (2, .long e52), (0, .ref (ad 11)), (1, .int x1)]) hx hb dX11_next_140 hl (k := 1) rfl (by rw [h_i53]; rfl) (by decide) rfl (fun ls hl => ?_)
          have hv := hv i53 h_i53
          refine lv_goto (tgt := 112) hx hb dX11_next_143 (by decide) ?_
          exact ih112 i53 e52 H locs ls hv (lv_sub hl [0, 1, 2, 3] rfl) hP hD hS
    obtain ⟨nn, hv⟩ := hv
    exact lp112 nn (0 : Int32) e22 H locs ls hv (lv_sub hl [0, 1, 2, 3] rfl) hP hD hS
  have hv := hv.2
  by_cases c_4_2 : s11_kind = 3
  · refine lv_tableIn (tgt := 268) (off := 264) hx hb dX11_next_4 (by rw [c_4_2] <;> decide) (by rw [c_4_2] <;> decide) (by rw [c_4_2] <;> rfl) (by decide) ?_
    have hv := hv.1 c_4_2
    refine lv_iload_n hx hb dX11_next_268 rfl (lv_at hl 1 rfl) ?_
    refine lv_i2l hx hb dX11_next_269 rfl ?_
    refine lv_lstore (lv' := [(4, .long x1.toInt64), (0, .ref (ad 11)), (1, .int x1)]) hx hb dX11_next_270 hl (by decide) rfl (fun ls hl => ?_)
    refine lv_iconst (v := 0) hx hb dX11_next_272 (by decide) ?_
    refine lv_istore (lv' := [(6, .int (0 : Int32)), (4, .long x1.toInt64), (0, .ref (ad 11)), (1, .int x1)]) hx hb dX11_next_273 hl (by decide) rfl (fun ls hl => ?_)
    have lp275 : ∀ (n275 : Nat) (l6_54 : Int32) (l4_55 : Int64) (a11_to_56 : Nat → Int64) (a11_made_57 : Nat → Int32) (H : Heap) (locs : List Loc) (ls : Array Slot), vfix (vF_X11_next_275 s11_d s11_stepMany s11_many a11_steps a11_now K) n275 (l6_54, l4_55, a11_to_56, a11_made_57) → lv_has ls 7 [(6, .int l6_54), (4, .long l4_55), (0, .ref (ad 11))] → va_P D vwCl [oX11 ad s11_d s11_stepMany s11_kind s11_many s11_partMany s11_rule s11_ticks s11_hand s11_g s11_beganElsewhere s11_dBefore s11_fBefore s11_fFirst s11_weightMany s11_tailTold, aI cy (ad 41) 8 a11_steps, aI cy (ad 43) 16 a11_a, aI cy (ad 44) 4 a11_b, aI cy (ad 45) 4 a11_e, aI cy (ad 46) 4 a11_h, aJ cy (ad 56) 4 a11_now, aJ cy (ad 57) 4 a11_to_56, aI cy (ad 58) 3 a11_made_57] H → va_D A [oX11 ad s11_d s11_stepMany s11_kind s11_many s11_partMany s11_rule s11_ticks s11_hand s11_g s11_beganElsewhere s11_dBefore s11_fBefore s11_fFirst s11_weightMany s11_tailTold, aI cy (ad 41) 8 a11_steps, aI cy (ad 43) 16 a11_a, aI cy (ad 44) 4 a11_b, aI cy (ad 45) 4 a11_e, aI cy (ad 46) 4 a11_h, aJ cy (ad 56) 4 a11_now, aJ cy (ad 57) 4 a11_to_56, aI cy (ad 58) 3 a11_made_57] → va_S A s.heap H locs → W p l e rm_X11_next s m ([.ref (ad 11), .int x1] : List Value).toArray below meth c H locs 0 0 Q (F0 m 275 ls []) := by
      intro n275
      induction n275 with
      | zero => intro l6_54 l4_55 a11_to_56 a11_made_57 H locs ls hv; exact hv.elim
      | succ n275 ih275 =>
        intro l6_54 l4_55 a11_to_56 a11_made_57 H locs ls hv hl hP hD hS
        have hv : vB_X11_next_275 s11_d s11_stepMany s11_many a11_steps a11_now K (fun z0 z1 z2 z3 => vfix (vF_X11_next_275 s11_d s11_stepMany s11_many a11_steps a11_now K) n275 (z0, z1, z2, z3)) l6_54 l4_55 a11_to_56 a11_made_57 := hv
        unfold vB_X11_next_275 at hv
        refine lv_iload hx hb dX11_next_275 (lv_at hl 0 rfl) ?_
        refine lv_aload_n hx hb dX11_next_277 rfl (lv_at hl 2 rfl) ?_
        refine va_get (D := D) (ci := 11) (v := .int s11_many) (C := RX11) (T := TX11) (N := 35) hx hb hts in_X11_next_11 hown hK hP 0 rfl rfl 3 (by decide) (hts _ lk_X11_next_16) (fun _ h9 => h9) rfl dX11_next_278 ?_
        refine lv_icmp_ge (tgt := 345) hx hb dX11_next_281 (by decide) (fun c_281 => ?_) (fun c_281 => ?_)
        · have hv := hv.1 c_281
          refine lv_goto (tgt := 390) hx hb dX11_next_345 (by decide) ?_
          exact jn390 a11_to_56 a11_made_57 H locs ls hv (lv_sub hl [2] rfl) hP hD hS
        · have hv := hv.2 c_281
          refine lv_aload_n hx hb dX11_next_284 rfl (lv_at hl 2 rfl) ?_
          refine va_get (D := D) (ci := 11) (v := .ref (ad 56)) (C := RX11) (T := TX11) (N := 35) hx hb hts in_X11_next_11 hown hK hP 0 rfl rfl 30 (by decide) (hts _ lk_X11_next_66) (fun _ h9 => h9) rfl dX11_next_285 ?_
          refine lv_iload hx hb dX11_next_288 (lv_at hl 0 rfl) ?_
          refine va_lald hx hb hK hP 6 1 rfl rfl hv.1 dX11_next_290 ?_
          refine lv_topl (fun g58 h_g58 => ?_)
          have hv := hv.2 g58 h_g58
          refine lv_lload hx hb dX11_next_291 (lv_at hl 1 rfl) ?_
          refine lv_ladd hx hb dX11_next_293 ?_
          refine lv_topl (fun e59 h_e59 => ?_)
          have hv := hv e59 h_e59
          refine lv_lstore_n (lv' := [(2, .long e59), (6, .int l6_54), (4, .long l4_55), (0, .ref (ad 11))]) hx hb dX11_next_294 rfl hl (by decide) rfl (fun ls hl => ?_)
          refine lv_aload_n hx hb dX11_next_295 rfl (lv_at hl 3 rfl) ?_
          refine va_get (D := D) (ci := 11) (v := .ref (ad 58)) (C := RX11) (T := TX11) (N := 35) hx hb hts in_X11_next_11 hown hK hP 0 rfl rfl 32 (by decide) (hts _ lk_X11_next_72) (fun _ h9 => h9) rfl dX11_next_296 ?_
          refine lv_iload hx hb dX11_next_299 (lv_at hl 1 rfl) ?_
          refine lv_aload_n hx hb dX11_next_301 rfl (lv_at hl 3 rfl) ?_
          refine lv_lload_n hx hb dX11_next_302 rfl (lv_at hl 0 rfl) ?_
          have hPc := hP.sub (ws' := [oX11 ad s11_d s11_stepMany s11_kind s11_many s11_partMany s11_rule s11_ticks s11_hand s11_g s11_beganElsewhere s11_dBefore s11_fBefore s11_fFirst s11_weightMany s11_tailTold, aI cy (ad 41) 8 a11_steps]) [0, 1] rfl
          have hDc := hD.sub (ws' := [oX11 ad s11_d s11_stepMany s11_kind s11_many s11_partMany s11_rule s11_ticks s11_hand s11_g s11_beganElsewhere s11_dBefore s11_fBefore s11_fFirst s11_weightMany s11_tailTold, aI cy (ad 41) 8 a11_steps]) [0, 1] (by decide) rfl
          refine k_cali (wc := [oX11 ad s11_d s11_stepMany s11_kind s11_many s11_partMany s11_rule s11_ticks s11_hand s11_g s11_beganElsewhere s11_dBefore s11_fBefore s11_fFirst s11_weightMany s11_tailTold, aI cy (ad 41) 8 a11_steps]) (wr := [aI cy (ad 43) 16 a11_a, aI cy (ad 44) 4 a11_b, aI cy (ad 45) 4 a11_e, aI cy (ad 46) 4 a11_h, aJ cy (ad 56) 4 a11_now, aJ cy (ad 57) 4 a11_to_56, aI cy (ad 58) 3 a11_made_57]) (va_runV (As := [.long e59]) (rest := [.int l6_54, .ref (ad 58)]) ⟨hx, hb, hml, hown, hts⟩ (m_X11_stepFor l D cy ad s11_d s11_stepMany s11_kind s11_many s11_partMany s11_rule s11_ticks s11_hand s11_g s11_beganElsewhere s11_dBefore s11_fBefore s11_fFirst s11_weightMany s11_tailTold a11_steps e59 H.size hv) (cwV 1 hts gX11_next_X11_stepFor rfl rfl rfl (by decide +kernel) ⟨Nat.le_of_ble_eq_true rfl, Nat.le_of_ble_eq_true rfl⟩) ⟨wd_blind, va_recv hK hPc (ci := 11) (q0 := 0) rfl rfl, wd_ok hPc hK hDc hN⟩ rfl rfl hl.1 rfl (lv_room (Nat.le_of_ble_eq_true rfl)) dX11_next_303 ⟨Nat.le_of_ble_eq_true rfl, Nat.le_of_ble_eq_true rfl⟩) hP hD hS hA [0, 1] [2, 3, 4, 5, 6, 7, 8] rfl rfl (by decide) (by decide) (fun r60 u H locs hv hP hD hS => ?_)
          have hP : va_P D vwCl [oX11 ad s11_d s11_stepMany s11_kind s11_many s11_partMany s11_rule s11_ticks s11_hand s11_g s11_beganElsewhere s11_dBefore s11_fBefore s11_fFirst s11_weightMany s11_tailTold, aI cy (ad 41) 8 a11_steps, aI cy (ad 43) 16 a11_a, aI cy (ad 44) 4 a11_b, aI cy (ad 45) 4 a11_e, aI cy (ad 46) 4 a11_h, aJ cy (ad 56) 4 a11_now, aJ cy (ad 57) 4 a11_to_56, aI cy (ad 58) 3 a11_made_57] H := hP.sub [7, 8, 0, 1, 2, 3, 4, 5, 6] rfl
          have hD : va_D A [oX11 ad s11_d s11_stepMany s11_kind s11_many s11_partMany s11_rule s11_ticks s11_hand s11_g s11_beganElsewhere s11_dBefore s11_fBefore s11_fFirst s11_weightMany s11_tailTold, aI cy (ad 41) 8 a11_steps, aI cy (ad 43) 16 a11_a, aI cy (ad 44) 4 a11_b, aI cy (ad 45) 4 a11_e, aI cy (ad 46) 4 a11_h, aJ cy (ad 56) 4 a11_now, aJ cy (ad 57) 4 a11_to_56, aI cy (ad 58) 3 a11_made_57] := hD.sub [7, 8, 0, 1, 2, 3, 4, 5, 6] (by decide) rfl
          refine k_iast hx hb hK hP hD hS 8 0 rfl rfl hv.1 dX11_next_306 (fun a11_made_61 H locs h_a11_made_61 hP hD hS => ?_)
          have hv := hv.2 a11_made_61 h_a11_made_61
          have hP : va_P D vwCl [oX11 ad s11_d s11_stepMany s11_kind s11_many s11_partMany s11_rule s11_ticks s11_hand s11_g s11_beganElsewhere s11_dBefore s11_fBefore s11_fFirst s11_weightMany s11_tailTold, aI cy (ad 41) 8 a11_steps, aI cy (ad 43) 16 a11_a, aI cy (ad 44) 4 a11_b, aI cy (ad 45) 4 a11_e, aI cy (ad 46) 4 a11_h, aJ cy (ad 56) 4 a11_now, aJ cy (ad 57) 4 a11_to_56, aI cy (ad 58) 3 a11_made_61] H := hP
          have hD : va_D A [oX11 ad s11_d s11_stepMany s11_kind s11_many s11_partMany s11_rule s11_ticks s11_hand s11_g s11_beganElsewhere s11_dBefore s11_fBefore s11_fFirst s11_weightMany s11_tailTold, aI cy (ad 41) 8 a11_steps, aI cy (ad 43) 16 a11_a, aI cy (ad 44) 4 a11_b, aI cy (ad 45) 4 a11_e, aI cy (ad 46) 4 a11_h, aJ cy (ad 56) 4 a11_now, aJ cy (ad 57) 4 a11_to_56, aI cy (ad 58) 3 a11_made_61] := hD
          refine lv_aload_n hx hb dX11_next_307 rfl (lv_at hl 3 rfl) ?_
          refine va_get (D := D) (ci := 11) (v := .ref (ad 57)) (C := RX11) (T := TX11) (N := 35) hx hb hts in_X11_next_11 hown hK hP 0 rfl rfl 31 (by decide) (hts _ lk_X11_next_69) (fun _ h9 => h9) rfl dX11_next_308 ?_
          refine lv_iload hx hb dX11_next_311 (lv_at hl 1 rfl) ?_
          refine lv_lload_n hx hb dX11_next_313 rfl (lv_at hl 0 rfl) ?_
          refine lv_aload_n hx hb dX11_next_314 rfl (lv_at hl 3 rfl) ?_
          refine va_get (D := D) (ci := 11) (v := .ref (ad 58)) (C := RX11) (T := TX11) (N := 35) hx hb hts in_X11_next_11 hown hK hP 0 rfl rfl 32 (by decide) (hts _ lk_X11_next_72) (fun _ h9 => h9) rfl dX11_next_315 ?_
          refine lv_iload hx hb dX11_next_318 (lv_at hl 1 rfl) ?_
          refine va_iald hx hb hK hP 8 0 rfl rfl hv.1 dX11_next_320 ?_
          refine lv_topi (fun g62 h_g62 => ?_)
          have hv := hv.2 g62 h_g62
          refine lv_i2l hx hb dX11_next_321 rfl ?_
          refine lv_aload_n hx hb dX11_next_322 rfl (lv_at hl 3 rfl) ?_
          refine va_get (D := D) (ci := 11) (v := .int s11_d) (C := RX11) (T := TX11) (N := 35) hx hb hts in_X11_next_11 hown hK hP 0 rfl rfl 0 (by decide) (hts _ lk_X11_next_7) (fun _ h9 => h9) rfl dX11_next_323 ?_
          refine lv_i2l hx hb dX11_next_326 rfl ?_
          refine lv_lmul hx hb dX11_next_327 ?_
          refine lv_topl (fun e63 h_e63 => ?_)
          have hv := hv e63 h_e63
          refine lv_lsub hx hb dX11_next_328 ?_
          refine lv_topl (fun e64 h_e64 => ?_)
          have hv := hv e64 h_e64
          refine k_last hx hb hK hP hD hS 7 1 rfl rfl hv.1 dX11_next_329 (fun a11_to_65 H locs h_a11_to_65 hP hD hS => ?_)
          have hv := hv.2 a11_to_65 h_a11_to_65
          have hP : va_P D vwCl [oX11 ad s11_d s11_stepMany s11_kind s11_many s11_partMany s11_rule s11_ticks s11_hand s11_g s11_beganElsewhere s11_dBefore s11_fBefore s11_fFirst s11_weightMany s11_tailTold, aI cy (ad 41) 8 a11_steps, aI cy (ad 43) 16 a11_a, aI cy (ad 44) 4 a11_b, aI cy (ad 45) 4 a11_e, aI cy (ad 46) 4 a11_h, aJ cy (ad 56) 4 a11_now, aJ cy (ad 57) 4 a11_to_65, aI cy (ad 58) 3 a11_made_61] H := hP
          have hD : va_D A [oX11 ad s11_d s11_stepMany s11_kind s11_many s11_partMany s11_rule s11_ticks s11_hand s11_g s11_beganElsewhere s11_dBefore s11_fBefore s11_fFirst s11_weightMany s11_tailTold, aI cy (ad 41) 8 a11_steps, aI cy (ad 43) 16 a11_a, aI cy (ad 44) 4 a11_b, aI cy (ad 45) 4 a11_e, aI cy (ad 46) 4 a11_h, aJ cy (ad 56) 4 a11_now, aJ cy (ad 57) 4 a11_to_65, aI cy (ad 58) 3 a11_made_61] := hD
          refine lv_aload_n hx hb dX11_next_330 rfl (lv_at hl 3 rfl) ?_
          refine va_get (D := D) (ci := 11) (v := .ref (ad 57)) (C := RX11) (T := TX11) (N := 35) hx hb hts in_X11_next_11 hown hK hP 0 rfl rfl 31 (by decide) (hts _ lk_X11_next_69) (fun _ h9 => h9) rfl dX11_next_331 ?_
          refine lv_iload hx hb dX11_next_334 (lv_at hl 1 rfl) ?_
          refine va_lald hx hb hK hP 7 1 rfl rfl hv.1 dX11_next_336 ?_
          refine lv_topl (fun g66 h_g66 => ?_)
          have hv := hv.2 g66 h_g66
          refine lv_lstore (lv' := [(4, .long g66), (2, .long e59), (6, .int l6_54), (0, .ref (ad 11))]) hx hb dX11_next_337 hl (by decide) rfl (fun ls hl => ?_)
          obtain ⟨i67, h_i67⟩ : ∃ y : Int32, y = l6_54 + 1 := ⟨_, rfl⟩
          refine lv_iinc (v := i67) (lv' := [(6, .int i67), (4, .long g66), (2, .long e59), (0, .ref (ad 11))]) hx hb dX11_next_339 hl (k := 2) rfl (by rw [h_i67]; rfl) (by decide) rfl (fun ls hl => ?_)
          have hv := hv i67 h_i67
          refine lv_goto (tgt := 275) hx hb dX11_next_342 (by decide) ?_
          exact ih275 i67 g66 a11_to_65 a11_made_61 H locs ls hv (lv_sub hl [0, 1, 3] rfl) hP hD hS
    obtain ⟨nn, hv⟩ := hv
    exact lp275 nn (0 : Int32) x1.toInt64 a11_to a11_made H locs ls hv (lv_sub hl [0, 1, 2] rfl) hP hD hS
  have hv := hv.2
  refine lv_tableOut (tgt := 348) hx hb dX11_next_4 (by have q0 := lv_neT c_4_0 (a := 1) (by decide); have q1 := lv_neT c_4_1 (a := 2) (by decide); have q2 := lv_neT c_4_2 (a := 3) (by decide); omega) (by decide) ?_
  have hv := hv c_4_0 c_4_1 c_4_2
  refine lv_aload_n hx hb dX11_next_348 rfl (lv_at hl 0 rfl) ?_
  refine va_get (D := D) (ci := 11) (v := .ref (ad 56)) (C := RX11) (T := TX11) (N := 35) hx hb hts in_X11_next_11 hown hK hP 0 rfl rfl 30 (by decide) (hts _ lk_X11_next_66) (fun _ h9 => h9) rfl dX11_next_349 ?_
  refine lv_iconst (v := 0) hx hb dX11_next_352 (by decide) ?_
  refine va_lald hx hb hK hP 6 1 rfl rfl hv.1 dX11_next_353 ?_
  refine lv_topl (fun g68 h_g68 => ?_)
  have hv := hv.2 g68 h_g68
  refine lv_iload_n hx hb dX11_next_354 rfl (lv_at hl 1 rfl) ?_
  refine lv_i2l hx hb dX11_next_355 rfl ?_
  refine lv_ladd hx hb dX11_next_356 ?_
  refine lv_topl (fun e69 h_e69 => ?_)
  have hv := hv e69 h_e69
  refine lv_lstore_n (lv' := [(2, .long e69), (0, .ref (ad 11)), (1, .int x1)]) hx hb dX11_next_357 rfl hl (by decide) rfl (fun ls hl => ?_)
  refine lv_aload_n hx hb dX11_next_358 rfl (lv_at hl 1 rfl) ?_
  refine va_get (D := D) (ci := 11) (v := .ref (ad 58)) (C := RX11) (T := TX11) (N := 35) hx hb hts in_X11_next_11 hown hK hP 0 rfl rfl 32 (by decide) (hts _ lk_X11_next_72) (fun _ h9 => h9) rfl dX11_next_359 ?_
  refine lv_iconst (v := 0) hx hb dX11_next_362 (by decide) ?_
  refine lv_aload_n hx hb dX11_next_363 rfl (lv_at hl 1 rfl) ?_
  refine lv_lload_n hx hb dX11_next_364 rfl (lv_at hl 0 rfl) ?_
  have hPc := hP.sub (ws' := [oX11 ad s11_d s11_stepMany s11_kind s11_many s11_partMany s11_rule s11_ticks s11_hand s11_g s11_beganElsewhere s11_dBefore s11_fBefore s11_fFirst s11_weightMany s11_tailTold, aI cy (ad 41) 8 a11_steps]) [0, 1] rfl
  have hDc := hD.sub (ws' := [oX11 ad s11_d s11_stepMany s11_kind s11_many s11_partMany s11_rule s11_ticks s11_hand s11_g s11_beganElsewhere s11_dBefore s11_fBefore s11_fFirst s11_weightMany s11_tailTold, aI cy (ad 41) 8 a11_steps]) [0, 1] (by decide) rfl
  refine k_cali (wc := [oX11 ad s11_d s11_stepMany s11_kind s11_many s11_partMany s11_rule s11_ticks s11_hand s11_g s11_beganElsewhere s11_dBefore s11_fBefore s11_fFirst s11_weightMany s11_tailTold, aI cy (ad 41) 8 a11_steps]) (wr := [aI cy (ad 43) 16 a11_a, aI cy (ad 44) 4 a11_b, aI cy (ad 45) 4 a11_e, aI cy (ad 46) 4 a11_h, aJ cy (ad 56) 4 a11_now, aJ cy (ad 57) 4 a11_to, aI cy (ad 58) 3 a11_made]) (va_runV (As := [.long e69]) (rest := [.int (0 : Int32), .ref (ad 58)]) ⟨hx, hb, hml, hown, hts⟩ (m_X11_stepFor l D cy ad s11_d s11_stepMany s11_kind s11_many s11_partMany s11_rule s11_ticks s11_hand s11_g s11_beganElsewhere s11_dBefore s11_fBefore s11_fFirst s11_weightMany s11_tailTold a11_steps e69 H.size hv) (cwV 1 hts gX11_next_X11_stepFor rfl rfl rfl (by decide +kernel) ⟨Nat.le_of_ble_eq_true rfl, Nat.le_of_ble_eq_true rfl⟩) ⟨wd_blind, va_recv hK hPc (ci := 11) (q0 := 0) rfl rfl, wd_ok hPc hK hDc hN⟩ rfl rfl hl.1 rfl (lv_room (Nat.le_of_ble_eq_true rfl)) dX11_next_365 ⟨Nat.le_of_ble_eq_true rfl, Nat.le_of_ble_eq_true rfl⟩) hP hD hS hA [0, 1] [2, 3, 4, 5, 6, 7, 8] rfl rfl (by decide) (by decide) (fun r70 u H locs hv hP hD hS => ?_)
  have hP : va_P D vwCl [oX11 ad s11_d s11_stepMany s11_kind s11_many s11_partMany s11_rule s11_ticks s11_hand s11_g s11_beganElsewhere s11_dBefore s11_fBefore s11_fFirst s11_weightMany s11_tailTold, aI cy (ad 41) 8 a11_steps, aI cy (ad 43) 16 a11_a, aI cy (ad 44) 4 a11_b, aI cy (ad 45) 4 a11_e, aI cy (ad 46) 4 a11_h, aJ cy (ad 56) 4 a11_now, aJ cy (ad 57) 4 a11_to, aI cy (ad 58) 3 a11_made] H := hP.sub [7, 8, 0, 1, 2, 3, 4, 5, 6] rfl
  have hD : va_D A [oX11 ad s11_d s11_stepMany s11_kind s11_many s11_partMany s11_rule s11_ticks s11_hand s11_g s11_beganElsewhere s11_dBefore s11_fBefore s11_fFirst s11_weightMany s11_tailTold, aI cy (ad 41) 8 a11_steps, aI cy (ad 43) 16 a11_a, aI cy (ad 44) 4 a11_b, aI cy (ad 45) 4 a11_e, aI cy (ad 46) 4 a11_h, aJ cy (ad 56) 4 a11_now, aJ cy (ad 57) 4 a11_to, aI cy (ad 58) 3 a11_made] := hD.sub [7, 8, 0, 1, 2, 3, 4, 5, 6] (by decide) rfl
  refine k_iast hx hb hK hP hD hS 8 0 rfl rfl hv.1 dX11_next_368 (fun a11_made_71 H locs h_a11_made_71 hP hD hS => ?_)
  have hv := hv.2 a11_made_71 h_a11_made_71
  have hP : va_P D vwCl [oX11 ad s11_d s11_stepMany s11_kind s11_many s11_partMany s11_rule s11_ticks s11_hand s11_g s11_beganElsewhere s11_dBefore s11_fBefore s11_fFirst s11_weightMany s11_tailTold, aI cy (ad 41) 8 a11_steps, aI cy (ad 43) 16 a11_a, aI cy (ad 44) 4 a11_b, aI cy (ad 45) 4 a11_e, aI cy (ad 46) 4 a11_h, aJ cy (ad 56) 4 a11_now, aJ cy (ad 57) 4 a11_to, aI cy (ad 58) 3 a11_made_71] H := hP
  have hD : va_D A [oX11 ad s11_d s11_stepMany s11_kind s11_many s11_partMany s11_rule s11_ticks s11_hand s11_g s11_beganElsewhere s11_dBefore s11_fBefore s11_fFirst s11_weightMany s11_tailTold, aI cy (ad 41) 8 a11_steps, aI cy (ad 43) 16 a11_a, aI cy (ad 44) 4 a11_b, aI cy (ad 45) 4 a11_e, aI cy (ad 46) 4 a11_h, aJ cy (ad 56) 4 a11_now, aJ cy (ad 57) 4 a11_to, aI cy (ad 58) 3 a11_made_71] := hD
  refine lv_aload_n hx hb dX11_next_369 rfl (lv_at hl 1 rfl) ?_
  refine va_get (D := D) (ci := 11) (v := .ref (ad 57)) (C := RX11) (T := TX11) (N := 35) hx hb hts in_X11_next_11 hown hK hP 0 rfl rfl 31 (by decide) (hts _ lk_X11_next_69) (fun _ h9 => h9) rfl dX11_next_370 ?_
  refine lv_iconst (v := 0) hx hb dX11_next_373 (by decide) ?_
  refine lv_lload_n hx hb dX11_next_374 rfl (lv_at hl 0 rfl) ?_
  refine lv_aload_n hx hb dX11_next_375 rfl (lv_at hl 1 rfl) ?_
  refine va_get (D := D) (ci := 11) (v := .ref (ad 58)) (C := RX11) (T := TX11) (N := 35) hx hb hts in_X11_next_11 hown hK hP 0 rfl rfl 32 (by decide) (hts _ lk_X11_next_72) (fun _ h9 => h9) rfl dX11_next_376 ?_
  refine lv_iconst (v := 0) hx hb dX11_next_379 (by decide) ?_
  refine va_iald hx hb hK hP 8 0 rfl rfl hv.1 dX11_next_380 ?_
  refine lv_topi (fun g72 h_g72 => ?_)
  have hv := hv.2 g72 h_g72
  refine lv_i2l hx hb dX11_next_381 rfl ?_
  refine lv_aload_n hx hb dX11_next_382 rfl (lv_at hl 1 rfl) ?_
  refine va_get (D := D) (ci := 11) (v := .int s11_d) (C := RX11) (T := TX11) (N := 35) hx hb hts in_X11_next_11 hown hK hP 0 rfl rfl 0 (by decide) (hts _ lk_X11_next_7) (fun _ h9 => h9) rfl dX11_next_383 ?_
  refine lv_i2l hx hb dX11_next_386 rfl ?_
  refine lv_lmul hx hb dX11_next_387 ?_
  refine lv_topl (fun e73 h_e73 => ?_)
  have hv := hv e73 h_e73
  refine lv_lsub hx hb dX11_next_388 ?_
  refine lv_topl (fun e74 h_e74 => ?_)
  have hv := hv e74 h_e74
  refine k_last hx hb hK hP hD hS 7 1 rfl rfl hv.1 dX11_next_389 (fun a11_to_75 H locs h_a11_to_75 hP hD hS => ?_)
  have hv := hv.2 a11_to_75 h_a11_to_75
  have hP : va_P D vwCl [oX11 ad s11_d s11_stepMany s11_kind s11_many s11_partMany s11_rule s11_ticks s11_hand s11_g s11_beganElsewhere s11_dBefore s11_fBefore s11_fFirst s11_weightMany s11_tailTold, aI cy (ad 41) 8 a11_steps, aI cy (ad 43) 16 a11_a, aI cy (ad 44) 4 a11_b, aI cy (ad 45) 4 a11_e, aI cy (ad 46) 4 a11_h, aJ cy (ad 56) 4 a11_now, aJ cy (ad 57) 4 a11_to_75, aI cy (ad 58) 3 a11_made_71] H := hP
  have hD : va_D A [oX11 ad s11_d s11_stepMany s11_kind s11_many s11_partMany s11_rule s11_ticks s11_hand s11_g s11_beganElsewhere s11_dBefore s11_fBefore s11_fFirst s11_weightMany s11_tailTold, aI cy (ad 41) 8 a11_steps, aI cy (ad 43) 16 a11_a, aI cy (ad 44) 4 a11_b, aI cy (ad 45) 4 a11_e, aI cy (ad 46) 4 a11_h, aJ cy (ad 56) 4 a11_now, aJ cy (ad 57) 4 a11_to_75, aI cy (ad 58) 3 a11_made_71] := hD
  exact jn390 a11_to_75 a11_made_71 H locs ls hv (lv_sub hl [1] rfl) hP hD hS
theorem lk_X11_goOn_16 : Cond.fieldLink RX11 16 "CoarseStepsModel" "many" "I" ∈ wsX11_goOn := by decide +kernel
theorem in_X11_goOn_11 : ∀ w ∈ wsX110, w ∈ wsX11_goOn := by decide +kernel
theorem lk_X11_goOn_66 : Cond.fieldLink RX11 66 "CoarseStepsModel" "now" "[J" ∈ wsX11_goOn := by decide +kernel
theorem lk_X11_goOn_69 : Cond.fieldLink RX11 69 "CoarseStepsModel" "to" "[J" ∈ wsX11_goOn := by decide +kernel
abbrev rm_X11_goOn : Room := { frames := 0, cells := 0, slots := 0, locals := 0 }
set_option maxHeartbeats 4000000 in
set_option maxRecDepth 100000 in
theorem m_X11_goOn (l : Launch) (D : va_G) (cy : ClassId × ClassId × ClassId) (ad : Nat → Nat) (s11_d : Int32) (s11_stepMany : Int32) (s11_kind : Int32) (s11_many : Int32) (s11_partMany : Int32) (s11_rule : Int32) (s11_ticks : Int32) (s11_hand : Int32) (s11_g : Int32) (s11_beganElsewhere : Int32) (s11_dBefore : Int32) (s11_fBefore : Int32) (s11_fFirst : Int32) (s11_weightMany : Int32) (s11_tailTold : Int32) (a11_now : Nat → Int64) (a11_to : Nat → Int64) (sz : Nat) {K : (Nat → Int64) → Prop} (hv : v_X11_goOn s11_many a11_now a11_to K) : Met l yX11_goOn wsX11_goOn rm_X11_goOn (va_Pc [.ref (ad 11)] (wd D cy [oX11 ad s11_d s11_stepMany s11_kind s11_many s11_partMany s11_rule s11_ticks s11_hand s11_g s11_beganElsewhere s11_dBefore s11_fBefore s11_fFirst s11_weightMany s11_tailTold, aJ cy (ad 56) 4 a11_now, aJ cy (ad 57) 4 a11_to] sz)) (va_Qv (fun u : (Nat → Int64) => K u) (fun u t => we D ((fun u : (Nat → Int64) => [oX11 ad s11_d s11_stepMany s11_kind s11_many s11_partMany s11_rule s11_ticks s11_hand s11_g s11_beganElsewhere s11_dBefore s11_fBefore s11_fFirst s11_weightMany s11_tailTold, aJ cy (ad 56) 4 u, aJ cy (ad 57) 4 a11_to]) u) (va_A [oX11 ad s11_d s11_stepMany s11_kind s11_many s11_partMany s11_rule s11_ticks s11_hand s11_g s11_beganElsewhere s11_dBefore s11_fBefore s11_fFirst s11_weightMany s11_tailTold, aJ cy (ad 56) 4 a11_now, aJ cy (ad 57) 4 a11_to] sz) t) (va_A [oX11 ad s11_d s11_stepMany s11_kind s11_many s11_partMany s11_rule s11_ticks s11_hand s11_g s11_beganElsewhere s11_dBefore s11_fBefore s11_fFirst s11_weightMany s11_tailTold, aJ cy (ad 56) 4 a11_now, aJ cy (ad 57) 4 a11_to] sz)) 0 0 (va_A [oX11 ad s11_d s11_stepMany s11_kind s11_many s11_partMany s11_rule s11_ticks s11_hand s11_g s11_beganElsewhere s11_dBefore s11_fBefore s11_fFirst s11_weightMany s11_tailTold, aJ cy (ad 56) 4 a11_now, aJ cy (ad 57) 4 a11_to] sz) := by
  refine k_ofW (cc := cX11_goOn) (maxL := 2) (ret := none) (fun A => va_Qv (fun u : (Nat → Int64) => K u) (fun u t => we D ((fun u : (Nat → Int64) => [oX11 ad s11_d s11_stepMany s11_kind s11_many s11_partMany s11_rule s11_ticks s11_hand s11_g s11_beganElsewhere s11_dBefore s11_fBefore s11_fFirst s11_weightMany s11_tailTold, aJ cy (ad 56) 4 u, aJ cy (ad 57) 4 a11_to]) u) A t) A) (by decide) rfl (Nat.le_of_ble_eq_true rfl) ?_
  intro p e s m below meth c A ls H locs hx hb hml hr hts hown hlocks hname hK hN hA hP hD hS hl
  have hl : lv_has ls 2 [(0, .ref (ad 11))] := hl
  generalize hQ : MQ below _ _ s _ _ A = Q
  unfold v_X11_goOn at hv
  refine lv_iconst (v := 0) hx hb dX11_goOn_0 (by decide) ?_
  refine lv_istore_n (lv' := [(1, .int (0 : Int32)), (0, .ref (ad 11))]) hx hb dX11_goOn_1 rfl hl (by decide) rfl (fun ls hl => ?_)
  have lp2 : ∀ (n2 : Nat) (l1_1 : Int32) (a11_now_2 : Nat → Int64) (H : Heap) (locs : List Loc) (ls : Array Slot), vfix (vF_X11_goOn_2 s11_many a11_to K) n2 (l1_1, a11_now_2) → lv_has ls 2 [(1, .int l1_1), (0, .ref (ad 11))] → va_P D vwCl [oX11 ad s11_d s11_stepMany s11_kind s11_many s11_partMany s11_rule s11_ticks s11_hand s11_g s11_beganElsewhere s11_dBefore s11_fBefore s11_fFirst s11_weightMany s11_tailTold, aJ cy (ad 56) 4 a11_now_2, aJ cy (ad 57) 4 a11_to] H → va_D A [oX11 ad s11_d s11_stepMany s11_kind s11_many s11_partMany s11_rule s11_ticks s11_hand s11_g s11_beganElsewhere s11_dBefore s11_fBefore s11_fFirst s11_weightMany s11_tailTold, aJ cy (ad 56) 4 a11_now_2, aJ cy (ad 57) 4 a11_to] → va_S A s.heap H locs → W p l e rm_X11_goOn s m ([.ref (ad 11)] : List Value).toArray below meth c H locs 0 0 Q (F0 m 2 ls []) := by
    intro n2
    induction n2 with
    | zero => intro l1_1 a11_now_2 H locs ls hv; exact hv.elim
    | succ n2 ih2 =>
      intro l1_1 a11_now_2 H locs ls hv hl hP hD hS
      have hv : vB_X11_goOn_2 s11_many a11_to K (fun z0 z1 => vfix (vF_X11_goOn_2 s11_many a11_to K) n2 (z0, z1)) l1_1 a11_now_2 := hv
      unfold vB_X11_goOn_2 at hv
      refine lv_iload_n hx hb dX11_goOn_2 rfl (lv_at hl 0 rfl) ?_
      refine lv_aload_n hx hb dX11_goOn_3 rfl (lv_at hl 1 rfl) ?_
      refine va_get (D := D) (ci := 11) (v := .int s11_many) (C := RX11) (T := TX11) (N := 35) hx hb hts in_X11_goOn_11 hown hK hP 0 rfl rfl 3 (by decide) (hts _ lk_X11_goOn_16) (fun _ h9 => h9) rfl dX11_goOn_4 ?_
      refine lv_icmp_ge (tgt := 28) hx hb dX11_goOn_7 (by decide) (fun c_7 => ?_) (fun c_7 => ?_)
      · have hv := hv.1 c_7
        rw [← hQ]
        exact k_vret hx hb hr hlocks hS (a11_now_2) hP hD hv dX11_goOn_28
      · have hv := hv.2 c_7
        refine lv_aload_n hx hb dX11_goOn_10 rfl (lv_at hl 1 rfl) ?_
        refine va_get (D := D) (ci := 11) (v := .ref (ad 56)) (C := RX11) (T := TX11) (N := 35) hx hb hts in_X11_goOn_11 hown hK hP 0 rfl rfl 30 (by decide) (hts _ lk_X11_goOn_66) (fun _ h9 => h9) rfl dX11_goOn_11 ?_
        refine lv_iload_n hx hb dX11_goOn_14 rfl (lv_at hl 0 rfl) ?_
        refine lv_aload_n hx hb dX11_goOn_15 rfl (lv_at hl 1 rfl) ?_
        refine va_get (D := D) (ci := 11) (v := .ref (ad 57)) (C := RX11) (T := TX11) (N := 35) hx hb hts in_X11_goOn_11 hown hK hP 0 rfl rfl 31 (by decide) (hts _ lk_X11_goOn_69) (fun _ h9 => h9) rfl dX11_goOn_16 ?_
        refine lv_iload_n hx hb dX11_goOn_19 rfl (lv_at hl 0 rfl) ?_
        refine va_lald hx hb hK hP 2 1 rfl rfl hv.1 dX11_goOn_20 ?_
        refine lv_topl (fun g3 h_g3 => ?_)
        have hv := hv.2 g3 h_g3
        refine k_last hx hb hK hP hD hS 1 1 rfl rfl hv.1 dX11_goOn_21 (fun a11_now_4 H locs h_a11_now_4 hP hD hS => ?_)
        have hv := hv.2 a11_now_4 h_a11_now_4
        have hP : va_P D vwCl [oX11 ad s11_d s11_stepMany s11_kind s11_many s11_partMany s11_rule s11_ticks s11_hand s11_g s11_beganElsewhere s11_dBefore s11_fBefore s11_fFirst s11_weightMany s11_tailTold, aJ cy (ad 56) 4 a11_now_4, aJ cy (ad 57) 4 a11_to] H := hP
        have hD : va_D A [oX11 ad s11_d s11_stepMany s11_kind s11_many s11_partMany s11_rule s11_ticks s11_hand s11_g s11_beganElsewhere s11_dBefore s11_fBefore s11_fFirst s11_weightMany s11_tailTold, aJ cy (ad 56) 4 a11_now_4, aJ cy (ad 57) 4 a11_to] := hD
        obtain ⟨i5, h_i5⟩ : ∃ y : Int32, y = l1_1 + 1 := ⟨_, rfl⟩
        refine lv_iinc (v := i5) (lv' := [(1, .int i5), (0, .ref (ad 11))]) hx hb dX11_goOn_22 hl (k := 0) rfl (by rw [h_i5]; rfl) (by decide) rfl (fun ls hl => ?_)
        have hv := hv i5 h_i5
        refine lv_goto (tgt := 2) hx hb dX11_goOn_25 (by decide) ?_
        exact ih2 i5 a11_now_4 H locs ls hv (lv_sub hl [0, 1] rfl) hP hD hS
  obtain ⟨nn, hv⟩ := hv
  exact lp2 nn (0 : Int32) a11_now H locs ls hv (lv_sub hl [0, 1] rfl) hP hD hS
theorem lk_X11_fromHere_16 : Cond.fieldLink RX11 16 "CoarseStepsModel" "many" "I" ∈ wsX11_fromHere := by decide +kernel
theorem in_X11_fromHere_11 : ∀ w ∈ wsX110, w ∈ wsX11_fromHere := by decide +kernel
theorem lk_X11_fromHere_66 : Cond.fieldLink RX11 66 "CoarseStepsModel" "now" "[J" ∈ wsX11_fromHere := by decide +kernel
theorem lk_X11_fromHere_38 : Cond.fieldLink RX11 38 "CoarseStepsModel" "sums" "[J" ∈ wsX11_fromHere := by decide +kernel
abbrev rm_X11_fromHere : Room := { frames := 0, cells := 0, slots := 0, locals := 0 }
set_option maxHeartbeats 4000000 in
set_option maxRecDepth 100000 in
theorem m_X11_fromHere (l : Launch) (D : va_G) (cy : ClassId × ClassId × ClassId) (ad : Nat → Nat) (s11_d : Int32) (s11_stepMany : Int32) (s11_kind : Int32) (s11_many : Int32) (s11_partMany : Int32) (s11_rule : Int32) (s11_ticks : Int32) (s11_hand : Int32) (s11_g : Int32) (s11_beganElsewhere : Int32) (s11_dBefore : Int32) (s11_fBefore : Int32) (s11_fFirst : Int32) (s11_weightMany : Int32) (s11_tailTold : Int32) (a11_sums : Nat → Int64) (a11_now : Nat → Int64) (sz : Nat) {K : (Nat → Int64) → Prop} (hv : v_X11_fromHere s11_many a11_sums a11_now K) : Met l yX11_fromHere wsX11_fromHere rm_X11_fromHere (va_Pc [.ref (ad 11)] (wd D cy [oX11 ad s11_d s11_stepMany s11_kind s11_many s11_partMany s11_rule s11_ticks s11_hand s11_g s11_beganElsewhere s11_dBefore s11_fBefore s11_fFirst s11_weightMany s11_tailTold, aJ cy (ad 47) 4 a11_sums, aJ cy (ad 56) 4 a11_now] sz)) (va_Qv (fun u : (Nat → Int64) => K u) (fun u t => we D ((fun u : (Nat → Int64) => [oX11 ad s11_d s11_stepMany s11_kind s11_many s11_partMany s11_rule s11_ticks s11_hand s11_g s11_beganElsewhere s11_dBefore s11_fBefore s11_fFirst s11_weightMany s11_tailTold, aJ cy (ad 47) 4 a11_sums, aJ cy (ad 56) 4 u]) u) (va_A [oX11 ad s11_d s11_stepMany s11_kind s11_many s11_partMany s11_rule s11_ticks s11_hand s11_g s11_beganElsewhere s11_dBefore s11_fBefore s11_fFirst s11_weightMany s11_tailTold, aJ cy (ad 47) 4 a11_sums, aJ cy (ad 56) 4 a11_now] sz) t) (va_A [oX11 ad s11_d s11_stepMany s11_kind s11_many s11_partMany s11_rule s11_ticks s11_hand s11_g s11_beganElsewhere s11_dBefore s11_fBefore s11_fFirst s11_weightMany s11_tailTold, aJ cy (ad 47) 4 a11_sums, aJ cy (ad 56) 4 a11_now] sz)) 0 0 (va_A [oX11 ad s11_d s11_stepMany s11_kind s11_many s11_partMany s11_rule s11_ticks s11_hand s11_g s11_beganElsewhere s11_dBefore s11_fBefore s11_fFirst s11_weightMany s11_tailTold, aJ cy (ad 47) 4 a11_sums, aJ cy (ad 56) 4 a11_now] sz) := by
  refine k_ofW (cc := cX11_fromHere) (maxL := 2) (ret := none) (fun A => va_Qv (fun u : (Nat → Int64) => K u) (fun u t => we D ((fun u : (Nat → Int64) => [oX11 ad s11_d s11_stepMany s11_kind s11_many s11_partMany s11_rule s11_ticks s11_hand s11_g s11_beganElsewhere s11_dBefore s11_fBefore s11_fFirst s11_weightMany s11_tailTold, aJ cy (ad 47) 4 a11_sums, aJ cy (ad 56) 4 u]) u) A t) A) (by decide) rfl (Nat.le_of_ble_eq_true rfl) ?_
  intro p e s m below meth c A ls H locs hx hb hml hr hts hown hlocks hname hK hN hA hP hD hS hl
  have hl : lv_has ls 2 [(0, .ref (ad 11))] := hl
  generalize hQ : MQ below _ _ s _ _ A = Q
  unfold v_X11_fromHere at hv
  refine lv_iconst (v := 0) hx hb dX11_fromHere_0 (by decide) ?_
  refine lv_istore_n (lv' := [(1, .int (0 : Int32)), (0, .ref (ad 11))]) hx hb dX11_fromHere_1 rfl hl (by decide) rfl (fun ls hl => ?_)
  have lp2 : ∀ (n2 : Nat) (l1_1 : Int32) (a11_now_2 : Nat → Int64) (H : Heap) (locs : List Loc) (ls : Array Slot), vfix (vF_X11_fromHere_2 s11_many a11_sums K) n2 (l1_1, a11_now_2) → lv_has ls 2 [(1, .int l1_1), (0, .ref (ad 11))] → va_P D vwCl [oX11 ad s11_d s11_stepMany s11_kind s11_many s11_partMany s11_rule s11_ticks s11_hand s11_g s11_beganElsewhere s11_dBefore s11_fBefore s11_fFirst s11_weightMany s11_tailTold, aJ cy (ad 47) 4 a11_sums, aJ cy (ad 56) 4 a11_now_2] H → va_D A [oX11 ad s11_d s11_stepMany s11_kind s11_many s11_partMany s11_rule s11_ticks s11_hand s11_g s11_beganElsewhere s11_dBefore s11_fBefore s11_fFirst s11_weightMany s11_tailTold, aJ cy (ad 47) 4 a11_sums, aJ cy (ad 56) 4 a11_now_2] → va_S A s.heap H locs → W p l e rm_X11_fromHere s m ([.ref (ad 11)] : List Value).toArray below meth c H locs 0 0 Q (F0 m 2 ls []) := by
    intro n2
    induction n2 with
    | zero => intro l1_1 a11_now_2 H locs ls hv; exact hv.elim
    | succ n2 ih2 =>
      intro l1_1 a11_now_2 H locs ls hv hl hP hD hS
      have hv : vB_X11_fromHere_2 s11_many a11_sums K (fun z0 z1 => vfix (vF_X11_fromHere_2 s11_many a11_sums K) n2 (z0, z1)) l1_1 a11_now_2 := hv
      unfold vB_X11_fromHere_2 at hv
      refine lv_iload_n hx hb dX11_fromHere_2 rfl (lv_at hl 0 rfl) ?_
      refine lv_aload_n hx hb dX11_fromHere_3 rfl (lv_at hl 1 rfl) ?_
      refine va_get (D := D) (ci := 11) (v := .int s11_many) (C := RX11) (T := TX11) (N := 35) hx hb hts in_X11_fromHere_11 hown hK hP 0 rfl rfl 3 (by decide) (hts _ lk_X11_fromHere_16) (fun _ h9 => h9) rfl dX11_fromHere_4 ?_
      refine lv_icmp_ge (tgt := 28) hx hb dX11_fromHere_7 (by decide) (fun c_7 => ?_) (fun c_7 => ?_)
      · have hv := hv.1 c_7
        rw [← hQ]
        exact k_vret hx hb hr hlocks hS (a11_now_2) hP hD hv dX11_fromHere_28
      · have hv := hv.2 c_7
        refine lv_aload_n hx hb dX11_fromHere_10 rfl (lv_at hl 1 rfl) ?_
        refine va_get (D := D) (ci := 11) (v := .ref (ad 56)) (C := RX11) (T := TX11) (N := 35) hx hb hts in_X11_fromHere_11 hown hK hP 0 rfl rfl 30 (by decide) (hts _ lk_X11_fromHere_66) (fun _ h9 => h9) rfl dX11_fromHere_11 ?_
        refine lv_iload_n hx hb dX11_fromHere_14 rfl (lv_at hl 0 rfl) ?_
        refine lv_aload_n hx hb dX11_fromHere_15 rfl (lv_at hl 1 rfl) ?_
        refine va_get (D := D) (ci := 11) (v := .ref (ad 47)) (C := RX11) (T := TX11) (N := 35) hx hb hts in_X11_fromHere_11 hown hK hP 0 rfl rfl 15 (by decide) (hts _ lk_X11_fromHere_38) (fun _ h9 => h9) rfl dX11_fromHere_16 ?_
        refine lv_iload_n hx hb dX11_fromHere_19 rfl (lv_at hl 0 rfl) ?_
        refine va_lald hx hb hK hP 1 1 rfl rfl hv.1 dX11_fromHere_20 ?_
        refine lv_topl (fun g3 h_g3 => ?_)
        have hv := hv.2 g3 h_g3
        refine k_last hx hb hK hP hD hS 2 1 rfl rfl hv.1 dX11_fromHere_21 (fun a11_now_4 H locs h_a11_now_4 hP hD hS => ?_)
        have hv := hv.2 a11_now_4 h_a11_now_4
        have hP : va_P D vwCl [oX11 ad s11_d s11_stepMany s11_kind s11_many s11_partMany s11_rule s11_ticks s11_hand s11_g s11_beganElsewhere s11_dBefore s11_fBefore s11_fFirst s11_weightMany s11_tailTold, aJ cy (ad 47) 4 a11_sums, aJ cy (ad 56) 4 a11_now_4] H := hP
        have hD : va_D A [oX11 ad s11_d s11_stepMany s11_kind s11_many s11_partMany s11_rule s11_ticks s11_hand s11_g s11_beganElsewhere s11_dBefore s11_fBefore s11_fFirst s11_weightMany s11_tailTold, aJ cy (ad 47) 4 a11_sums, aJ cy (ad 56) 4 a11_now_4] := hD
        obtain ⟨i5, h_i5⟩ : ∃ y : Int32, y = l1_1 + 1 := ⟨_, rfl⟩
        refine lv_iinc (v := i5) (lv' := [(1, .int i5), (0, .ref (ad 11))]) hx hb dX11_fromHere_22 hl (k := 0) rfl (by rw [h_i5]; rfl) (by decide) rfl (fun ls hl => ?_)
        have hv := hv i5 h_i5
        refine lv_goto (tgt := 2) hx hb dX11_fromHere_25 (by decide) ?_
        exact ih2 i5 a11_now_4 H locs ls hv (lv_sub hl [0, 1] rfl) hP hD hS
  obtain ⟨nn, hv⟩ := hv
  exact lp2 nn (0 : Int32) a11_now H locs ls hv (lv_sub hl [0, 1] rfl) hP hD hS
theorem lk_X11_isWish_133 : Cond.constant RX11 133 (-1000000) ∈ wsX11_isWish := by decide +kernel
theorem lk_X11_isWish_134 : Cond.constant RX11 134 (1000000) ∈ wsX11_isWish := by decide +kernel
abbrev rm_X11_isWish : Room := { frames := 0, cells := 0, slots := 0, locals := 0 }
set_option maxHeartbeats 4000000 in
set_option maxRecDepth 100000 in
theorem m_X11_isWish (l : Launch) (D : va_G) (cy : ClassId × ClassId × ClassId) (ad : Nat → Nat) (x0 : Int32) (sz : Nat) {K : Int32 → Prop} (hv : v_X11_isWish x0 K) : Met l yX11_isWish wsX11_isWish rm_X11_isWish (va_Pc [.int x0] (wd D cy [] sz)) (va_Qi (fun (r : Int32) (u : Unit) => (r = 0 ∨ r = 1) ∧ K r) (fun u t => we D ((fun u : Unit => []) u) (va_A [] sz) t) (va_A [] sz)) 0 0 (va_A [] sz) := by
  refine k_ofW (cc := cX11_isWish) (maxL := 1) (ret := (some .boolean)) (fun A => va_Qi (fun (r : Int32) (u : Unit) => (r = 0 ∨ r = 1) ∧ K r) (fun u t => we D ((fun u : Unit => []) u) A t) A) (by decide) rfl (Nat.le_of_ble_eq_true rfl) ?_
  intro p e s m below meth c A ls H locs hx hb hml hr hts hown hlocks hname hK hN hA hP hD hS hl
  have hl : lv_has ls 1 [(0, .int x0)] := hl
  generalize hQ : MQ below _ _ s _ _ A = Q
  unfold v_X11_isWish at hv
  refine lv_iload_n hx hb dX11_isWish_0 rfl (lv_at hl 0 rfl) ?_
  refine lv_ldc hx hb hown (hts _ lk_X11_isWish_133) dX11_isWish_1 ?_
  refine lv_icmp_lt (tgt := 16) hx hb dX11_isWish_3 (by decide) (fun c_3 => ?_) (fun c_3 => ?_)
  · have hv := hv.1 c_3
    refine lv_iconst (v := 0) hx hb dX11_isWish_16 (by decide) ?_
    rw [← hQ]
    exact k_zret hx hb hr hlocks hS () hP hD (by decide) hv dX11_isWish_17
  · have hv := hv.2 c_3
    refine lv_iload_n hx hb dX11_isWish_6 rfl (lv_at hl 0 rfl) ?_
    refine lv_ldc hx hb hown (hts _ lk_X11_isWish_134) dX11_isWish_7 ?_
    refine lv_icmp_gt (tgt := 16) hx hb dX11_isWish_9 (by decide) (fun c_9 => ?_) (fun c_9 => ?_)
    · have hv := hv.1 c_9
      refine lv_iconst (v := 0) hx hb dX11_isWish_16 (by decide) ?_
      rw [← hQ]
      exact k_zret hx hb hr hlocks hS () hP hD (by decide) hv dX11_isWish_17
    · have hv := hv.2 c_9
      refine lv_iconst (v := 1) hx hb dX11_isWish_12 (by decide) ?_
      refine lv_goto (tgt := 17) hx hb dX11_isWish_13 (by decide) ?_
      rw [← hQ]
      exact k_zret hx hb hr hlocks hS () hP hD (by decide) hv dX11_isWish_17
theorem lk_X11_turn_109 : Cond.fieldLink RX11 109 "CoarseStepsModel" "partMany" "I" ∈ wsX11_turn := by decide +kernel
theorem in_X11_turn_11 : ∀ w ∈ wsX110, w ∈ wsX11_turn := by decide +kernel
theorem lk_X11_turn_106 : Cond.fieldLink RX11 106 "CoarseStepsModel" "rule" "I" ∈ wsX11_turn := by decide +kernel
theorem lk_X11_turn_84 : Cond.fieldLink RX11 84 "CoarseStepsModel" "hand" "I" ∈ wsX11_turn := by decide +kernel
theorem lk_X11_turn_51 : Cond.fieldLink RX11 51 "CoarseStepsModel" "often" "[I" ∈ wsX11_turn := by decide +kernel
theorem lk_X11_turn_48 : Cond.fieldLink RX11 48 "CoarseStepsModel" "on" "[I" ∈ wsX11_turn := by decide +kernel
abbrev rm_X11_turn : Room := { frames := 0, cells := 0, slots := 0, locals := 0 }
set_option maxHeartbeats 4000000 in
set_option maxRecDepth 100000 in
theorem m_X11_turn (l : Launch) (D : va_G) (cy : ClassId × ClassId × ClassId) (ad : Nat → Nat) (s11_d : Int32) (s11_stepMany : Int32) (s11_kind : Int32) (s11_many : Int32) (s11_partMany : Int32) (s11_rule : Int32) (s11_ticks : Int32) (s11_hand : Int32) (s11_g : Int32) (s11_beganElsewhere : Int32) (s11_dBefore : Int32) (s11_fBefore : Int32) (s11_fFirst : Int32) (s11_weightMany : Int32) (s11_tailTold : Int32) (a11_on : Nat → Int32) (a11_often : Nat → Int32) (x1 : Int32) (sz : Nat) {K : Int32 → (Nat → Int32) → (Nat → Int32) → Prop} (hv : v_X11_turn s11_partMany s11_rule s11_hand a11_on a11_often x1 K) : Met l yX11_turn wsX11_turn rm_X11_turn (va_Pc [.ref (ad 11), .int x1] (wd D cy [oX11 ad s11_d s11_stepMany s11_kind s11_many s11_partMany s11_rule s11_ticks s11_hand s11_g s11_beganElsewhere s11_dBefore s11_fBefore s11_fFirst s11_weightMany s11_tailTold, aI cy (ad 50) 16 a11_on, aI cy (ad 51) 16 a11_often] sz)) (va_Qv (fun u : Int32 × (Nat → Int32) × (Nat → Int32) => K u.1 u.2.1 u.2.2) (fun u t => we D ((fun u : Int32 × (Nat → Int32) × (Nat → Int32) => [oX11 ad s11_d s11_stepMany s11_kind s11_many s11_partMany s11_rule s11_ticks u.1 s11_g s11_beganElsewhere s11_dBefore s11_fBefore s11_fFirst s11_weightMany s11_tailTold, aI cy (ad 50) 16 u.2.1, aI cy (ad 51) 16 u.2.2]) u) (va_A [oX11 ad s11_d s11_stepMany s11_kind s11_many s11_partMany s11_rule s11_ticks s11_hand s11_g s11_beganElsewhere s11_dBefore s11_fBefore s11_fFirst s11_weightMany s11_tailTold, aI cy (ad 50) 16 a11_on, aI cy (ad 51) 16 a11_often] sz) t) (va_A [oX11 ad s11_d s11_stepMany s11_kind s11_many s11_partMany s11_rule s11_ticks s11_hand s11_g s11_beganElsewhere s11_dBefore s11_fBefore s11_fFirst s11_weightMany s11_tailTold, aI cy (ad 50) 16 a11_on, aI cy (ad 51) 16 a11_often] sz)) 0 0 (va_A [oX11 ad s11_d s11_stepMany s11_kind s11_many s11_partMany s11_rule s11_ticks s11_hand s11_g s11_beganElsewhere s11_dBefore s11_fBefore s11_fFirst s11_weightMany s11_tailTold, aI cy (ad 50) 16 a11_on, aI cy (ad 51) 16 a11_often] sz) := by
  refine k_ofW (cc := cX11_turn) (maxL := 6) (ret := none) (fun A => va_Qv (fun u : Int32 × (Nat → Int32) × (Nat → Int32) => K u.1 u.2.1 u.2.2) (fun u t => we D ((fun u : Int32 × (Nat → Int32) × (Nat → Int32) => [oX11 ad s11_d s11_stepMany s11_kind s11_many s11_partMany s11_rule s11_ticks u.1 s11_g s11_beganElsewhere s11_dBefore s11_fBefore s11_fFirst s11_weightMany s11_tailTold, aI cy (ad 50) 16 u.2.1, aI cy (ad 51) 16 u.2.2]) u) A t) A) (by decide) rfl (Nat.le_of_ble_eq_true rfl) ?_
  intro p e s m below meth c A ls H locs hx hb hml hr hts hown hlocks hname hK hN hA hP hD hS hl
  have hl : lv_has ls 6 [(0, .ref (ad 11)), (1, .int x1)] := hl
  generalize hQ : MQ below _ _ s _ _ A = Q
  unfold v_X11_turn at hv
  refine lv_iload_n hx hb dX11_turn_0 rfl (lv_at hl 1 rfl) ?_
  have jn24 : ∀ (t1 : Int32) (H : Heap) (locs : List Loc) (ls : Array Slot), vJ_X11_turn_24 s11_partMany s11_rule s11_hand a11_on a11_often K t1 → lv_has ls 6 [(0, .ref (ad 11))] → va_P D vwCl [oX11 ad s11_d s11_stepMany s11_kind s11_many s11_partMany s11_rule s11_ticks s11_hand s11_g s11_beganElsewhere s11_dBefore s11_fBefore s11_fFirst s11_weightMany s11_tailTold, aI cy (ad 50) 16 a11_on, aI cy (ad 51) 16 a11_often] H → va_D A [oX11 ad s11_d s11_stepMany s11_kind s11_many s11_partMany s11_rule s11_ticks s11_hand s11_g s11_beganElsewhere s11_dBefore s11_fBefore s11_fFirst s11_weightMany s11_tailTold, aI cy (ad 50) 16 a11_on, aI cy (ad 51) 16 a11_often] → va_S A s.heap H locs → W p l e rm_X11_turn s m ([.ref (ad 11), .int x1] : List Value).toArray below meth c H locs 0 0 Q (F0 m 24 ls [.int t1]) := by
    intro t1 H locs ls hv hl hP hD hS
    unfold vJ_X11_turn_24 at hv
    refine lv_istore_n (lv' := [(2, .int t1), (0, .ref (ad 11))]) hx hb dX11_turn_24 rfl hl (by decide) rfl (fun ls hl => ?_)
    refine lv_iconst (v := 0) hx hb dX11_turn_25 (by decide) ?_
    refine lv_istore_n (lv' := [(3, .int (0 : Int32)), (2, .int t1), (0, .ref (ad 11))]) hx hb dX11_turn_26 rfl hl (by decide) rfl (fun ls hl => ?_)
    have lp27 : ∀ (n27 : Nat) (l3_2 : Int32) (a11_on_3 : Nat → Int32) (H : Heap) (locs : List Loc) (ls : Array Slot), vfix (vF_X11_turn_27 s11_partMany s11_rule s11_hand a11_often K t1) n27 (l3_2, a11_on_3) → lv_has ls 6 [(3, .int l3_2), (2, .int t1), (0, .ref (ad 11))] → va_P D vwCl [oX11 ad s11_d s11_stepMany s11_kind s11_many s11_partMany s11_rule s11_ticks s11_hand s11_g s11_beganElsewhere s11_dBefore s11_fBefore s11_fFirst s11_weightMany s11_tailTold, aI cy (ad 50) 16 a11_on_3, aI cy (ad 51) 16 a11_often] H → va_D A [oX11 ad s11_d s11_stepMany s11_kind s11_many s11_partMany s11_rule s11_ticks s11_hand s11_g s11_beganElsewhere s11_dBefore s11_fBefore s11_fFirst s11_weightMany s11_tailTold, aI cy (ad 50) 16 a11_on_3, aI cy (ad 51) 16 a11_often] → va_S A s.heap H locs → W p l e rm_X11_turn s m ([.ref (ad 11), .int x1] : List Value).toArray below meth c H locs 0 0 Q (F0 m 27 ls []) := by
      intro n27
      induction n27 with
      | zero => intro l3_2 a11_on_3 H locs ls hv; exact hv.elim
      | succ n27 ih27 =>
        intro l3_2 a11_on_3 H locs ls hv hl hP hD hS
        have hv : vB_X11_turn_27 s11_partMany s11_rule s11_hand a11_often K t1 (fun z0 z1 => vfix (vF_X11_turn_27 s11_partMany s11_rule s11_hand a11_often K t1) n27 (z0, z1)) l3_2 a11_on_3 := hv
        unfold vB_X11_turn_27 at hv
        refine lv_iload_n hx hb dX11_turn_27 rfl (lv_at hl 0 rfl) ?_
        refine lv_aload_n hx hb dX11_turn_28 rfl (lv_at hl 2 rfl) ?_
        refine va_get (D := D) (ci := 11) (v := .int s11_partMany) (C := RX11) (T := TX11) (N := 35) hx hb hts in_X11_turn_11 hown hK hP 0 rfl rfl 4 (by decide) (hts _ lk_X11_turn_109) (fun _ h9 => h9) rfl dX11_turn_29 ?_
        refine lv_icmp_ge (tgt := 48) hx hb dX11_turn_32 (by decide) (fun c_32 => ?_) (fun c_32 => ?_)
        · have hv := hv.1 c_32
          refine lv_iconst (v := 0) hx hb dX11_turn_48 (by decide) ?_
          refine lv_istore_n (lv' := [(3, .int (0 : Int32)), (2, .int t1), (0, .ref (ad 11))]) hx hb dX11_turn_49 rfl hl (by decide) rfl (fun ls hl => ?_)
          have lp50 : ∀ (n50 : Nat) (l3_4 : Int32) (a11_on_5 : Nat → Int32) (H : Heap) (locs : List Loc) (ls : Array Slot), vfix (vF_X11_turn_50 s11_partMany s11_rule s11_hand a11_often K t1) n50 (l3_4, a11_on_5) → lv_has ls 6 [(3, .int l3_4), (2, .int t1), (0, .ref (ad 11))] → va_P D vwCl [oX11 ad s11_d s11_stepMany s11_kind s11_many s11_partMany s11_rule s11_ticks s11_hand s11_g s11_beganElsewhere s11_dBefore s11_fBefore s11_fFirst s11_weightMany s11_tailTold, aI cy (ad 50) 16 a11_on_5, aI cy (ad 51) 16 a11_often] H → va_D A [oX11 ad s11_d s11_stepMany s11_kind s11_many s11_partMany s11_rule s11_ticks s11_hand s11_g s11_beganElsewhere s11_dBefore s11_fBefore s11_fFirst s11_weightMany s11_tailTold, aI cy (ad 50) 16 a11_on_5, aI cy (ad 51) 16 a11_often] → va_S A s.heap H locs → W p l e rm_X11_turn s m ([.ref (ad 11), .int x1] : List Value).toArray below meth c H locs 0 0 Q (F0 m 50 ls []) := by
            intro n50
            induction n50 with
            | zero => intro l3_4 a11_on_5 H locs ls hv; exact hv.elim
            | succ n50 ih50 =>
              intro l3_4 a11_on_5 H locs ls hv hl hP hD hS
              have hv : vB_X11_turn_50 s11_partMany s11_rule s11_hand a11_often K t1 (fun z0 z1 => vfix (vF_X11_turn_50 s11_partMany s11_rule s11_hand a11_often K t1) n50 (z0, z1)) l3_4 a11_on_5 := hv
              unfold vB_X11_turn_50 at hv
              refine lv_iload_n hx hb dX11_turn_50 rfl (lv_at hl 0 rfl) ?_
              refine lv_iload_n hx hb dX11_turn_51 rfl (lv_at hl 1 rfl) ?_
              refine lv_icmp_ge (tgt := 155) hx hb dX11_turn_52 (by decide) (fun c_52 => ?_) (fun c_52 => ?_)
              · have hv := hv.1 c_52
                refine lv_iconst (v := 0) hx hb dX11_turn_155 (by decide) ?_
                refine lv_istore_n (lv' := [(3, .int (0 : Int32)), (2, .int t1), (0, .ref (ad 11))]) hx hb dX11_turn_156 rfl hl (by decide) rfl (fun ls hl => ?_)
                have lp157 : ∀ (n157 : Nat) (l3_6 : Int32) (a11_often_7 : Nat → Int32) (H : Heap) (locs : List Loc) (ls : Array Slot), vfix (vF_X11_turn_157 s11_partMany s11_rule s11_hand K t1 a11_on_5) n157 (l3_6, a11_often_7) → lv_has ls 6 [(3, .int l3_6), (2, .int t1), (0, .ref (ad 11))] → va_P D vwCl [oX11 ad s11_d s11_stepMany s11_kind s11_many s11_partMany s11_rule s11_ticks s11_hand s11_g s11_beganElsewhere s11_dBefore s11_fBefore s11_fFirst s11_weightMany s11_tailTold, aI cy (ad 50) 16 a11_on_5, aI cy (ad 51) 16 a11_often_7] H → va_D A [oX11 ad s11_d s11_stepMany s11_kind s11_many s11_partMany s11_rule s11_ticks s11_hand s11_g s11_beganElsewhere s11_dBefore s11_fBefore s11_fFirst s11_weightMany s11_tailTold, aI cy (ad 50) 16 a11_on_5, aI cy (ad 51) 16 a11_often_7] → va_S A s.heap H locs → W p l e rm_X11_turn s m ([.ref (ad 11), .int x1] : List Value).toArray below meth c H locs 0 0 Q (F0 m 157 ls []) := by
                  intro n157
                  induction n157 with
                  | zero => intro l3_6 a11_often_7 H locs ls hv; exact hv.elim
                  | succ n157 ih157 =>
                    intro l3_6 a11_often_7 H locs ls hv hl hP hD hS
                    have hv : vB_X11_turn_157 s11_partMany s11_rule s11_hand K t1 a11_on_5 (fun z0 z1 => vfix (vF_X11_turn_157 s11_partMany s11_rule s11_hand K t1 a11_on_5) n157 (z0, z1)) l3_6 a11_often_7 := hv
                    unfold vB_X11_turn_157 at hv
                    refine lv_iload_n hx hb dX11_turn_157 rfl (lv_at hl 0 rfl) ?_
                    refine lv_aload_n hx hb dX11_turn_158 rfl (lv_at hl 2 rfl) ?_
                    refine va_get (D := D) (ci := 11) (v := .int s11_partMany) (C := RX11) (T := TX11) (N := 35) hx hb hts in_X11_turn_11 hown hK hP 0 rfl rfl 4 (by decide) (hts _ lk_X11_turn_109) (fun _ h9 => h9) rfl dX11_turn_159 ?_
                    refine lv_icmp_ge (tgt := 186) hx hb dX11_turn_162 (by decide) (fun c_162 => ?_) (fun c_162 => ?_)
                    · have hv := hv.1 c_162
                      refine lv_aload_n hx hb dX11_turn_186 rfl (lv_at hl 2 rfl) ?_
                      refine va_get (D := D) (ci := 11) (v := .int s11_rule) (C := RX11) (T := TX11) (N := 35) hx hb hts in_X11_turn_11 hown hK hP 0 rfl rfl 5 (by decide) (hts _ lk_X11_turn_106) (fun _ h9 => h9) rfl dX11_turn_187 ?_
                      refine lv_if_ne (tgt := 208) hx hb dX11_turn_190 (by decide) (fun c_190 => ?_) (fun c_190 => ?_)
                      · have hv := hv.1 c_190
                        rw [← hQ]
                        exact k_vret hx hb hr hlocks hS (s11_hand, a11_on_5, a11_often_7) hP hD hv dX11_turn_208
                      · have hv := hv.2 c_190
                        refine lv_aload_n hx hb dX11_turn_193 rfl (lv_at hl 2 rfl) ?_
                        refine lv_aload_n hx hb dX11_turn_194 rfl (lv_at hl 2 rfl) ?_
                        refine va_get (D := D) (ci := 11) (v := .int s11_hand) (C := RX11) (T := TX11) (N := 35) hx hb hts in_X11_turn_11 hown hK hP 0 rfl rfl 7 (by decide) (hts _ lk_X11_turn_84) (fun _ h9 => h9) rfl dX11_turn_195 ?_
                        refine lv_iload_n hx hb dX11_turn_198 rfl (lv_at hl 1 rfl) ?_
                        refine lv_iadd hx hb dX11_turn_199 ?_
                        refine lv_topi (fun e8 h_e8 => ?_)
                        have hv := hv e8 h_e8
                        refine lv_aload_n hx hb dX11_turn_200 rfl (lv_at hl 2 rfl) ?_
                        refine va_get (D := D) (ci := 11) (v := .int s11_partMany) (C := RX11) (T := TX11) (N := 35) hx hb hts in_X11_turn_11 hown hK hP 0 rfl rfl 4 (by decide) (hts _ lk_X11_turn_109) (fun _ h9 => h9) rfl dX11_turn_201 ?_
                        have hne := hv.1
                        have hv := hv.2
                        refine lv_irem hx hb dX11_turn_204 hne ?_
                        refine lv_topi (fun e9 h_e9 => ?_)
                        have hv := hv e9 h_e9
                        refine va_put (D := D) (ci := 11) (v := .int e9) (ty := .int) (C := RX11) (T := TX11) (N := 35) hx hb hts in_X11_turn_11 tyX11 tyX11_ok nmX11 hown hK hP hD hS 0 rfl rfl 7 (by decide) (hts _ lk_X11_turn_84) (fun _ h9 => h9) rfl (by decide +kernel) rfl rfl (Nat.le_of_ble_eq_true rfl) dX11_turn_205 (fun H locs hP hD hS => ?_)
                        have hP : va_P D vwCl [oX11 ad s11_d s11_stepMany s11_kind s11_many s11_partMany s11_rule s11_ticks e9 s11_g s11_beganElsewhere s11_dBefore s11_fBefore s11_fFirst s11_weightMany s11_tailTold, aI cy (ad 50) 16 a11_on_5, aI cy (ad 51) 16 a11_often_7] H := hP
                        have hD : va_D A [oX11 ad s11_d s11_stepMany s11_kind s11_many s11_partMany s11_rule s11_ticks e9 s11_g s11_beganElsewhere s11_dBefore s11_fBefore s11_fFirst s11_weightMany s11_tailTold, aI cy (ad 50) 16 a11_on_5, aI cy (ad 51) 16 a11_often_7] := hD
                        rw [← hQ]
                        exact k_vret hx hb hr hlocks hS (e9, a11_on_5, a11_often_7) hP hD hv dX11_turn_208
                    · have hv := hv.2 c_162
                      refine lv_aload_n hx hb dX11_turn_165 rfl (lv_at hl 2 rfl) ?_
                      refine va_get (D := D) (ci := 11) (v := .ref (ad 51)) (C := RX11) (T := TX11) (N := 35) hx hb hts in_X11_turn_11 hown hK hP 0 rfl rfl 23 (by decide) (hts _ lk_X11_turn_51) (fun _ h9 => h9) rfl dX11_turn_166 ?_
                      refine lv_iload_n hx hb dX11_turn_169 rfl (lv_at hl 0 rfl) ?_
                      refine lv_dup2_11 hx hb dX11_turn_170 rfl rfl ?_
                      refine va_iald hx hb hK hP 2 0 rfl rfl hv.1 dX11_turn_171 ?_
                      refine lv_topi (fun g10 h_g10 => ?_)
                      have hv := hv.2 g10 h_g10
                      refine lv_aload_n hx hb dX11_turn_172 rfl (lv_at hl 2 rfl) ?_
                      refine va_get (D := D) (ci := 11) (v := .ref (ad 50)) (C := RX11) (T := TX11) (N := 35) hx hb hts in_X11_turn_11 hown hK hP 0 rfl rfl 22 (by decide) (hts _ lk_X11_turn_48) (fun _ h9 => h9) rfl dX11_turn_173 ?_
                      refine lv_iload_n hx hb dX11_turn_176 rfl (lv_at hl 0 rfl) ?_
                      refine va_iald hx hb hK hP 1 0 rfl rfl hv.1 dX11_turn_177 ?_
                      refine lv_topi (fun g11 h_g11 => ?_)
                      have hv := hv.2 g11 h_g11
                      refine lv_iadd hx hb dX11_turn_178 ?_
                      refine lv_topi (fun e12 h_e12 => ?_)
                      have hv := hv e12 h_e12
                      refine k_iast hx hb hK hP hD hS 2 0 rfl rfl hv.1 dX11_turn_179 (fun a11_often_13 H locs h_a11_often_13 hP hD hS => ?_)
                      have hv := hv.2 a11_often_13 h_a11_often_13
                      have hP : va_P D vwCl [oX11 ad s11_d s11_stepMany s11_kind s11_many s11_partMany s11_rule s11_ticks s11_hand s11_g s11_beganElsewhere s11_dBefore s11_fBefore s11_fFirst s11_weightMany s11_tailTold, aI cy (ad 50) 16 a11_on_5, aI cy (ad 51) 16 a11_often_13] H := hP
                      have hD : va_D A [oX11 ad s11_d s11_stepMany s11_kind s11_many s11_partMany s11_rule s11_ticks s11_hand s11_g s11_beganElsewhere s11_dBefore s11_fBefore s11_fFirst s11_weightMany s11_tailTold, aI cy (ad 50) 16 a11_on_5, aI cy (ad 51) 16 a11_often_13] := hD
                      obtain ⟨i14, h_i14⟩ : ∃ y : Int32, y = l3_6 + 1 := ⟨_, rfl⟩
                      refine lv_iinc (v := i14) (lv' := [(3, .int i14), (2, .int t1), (0, .ref (ad 11))]) hx hb dX11_turn_180 hl (k := 0) rfl (by rw [h_i14]; rfl) (by decide) rfl (fun ls hl => ?_)
                      have hv := hv i14 h_i14
                      refine lv_goto (tgt := 157) hx hb dX11_turn_183 (by decide) ?_
                      exact ih157 i14 a11_often_13 H locs ls hv (lv_sub hl [0, 1, 2] rfl) hP hD hS
                obtain ⟨nn, hv⟩ := hv
                exact lp157 nn (0 : Int32) a11_often H locs ls hv (lv_sub hl [0, 1, 2] rfl) hP hD hS
              · have hv := hv.2 c_52
                refine lv_aload_n hx hb dX11_turn_55 rfl (lv_at hl 2 rfl) ?_
                refine va_get (D := D) (ci := 11) (v := .int s11_rule) (C := RX11) (T := TX11) (N := 35) hx hb hts in_X11_turn_11 hown hK hP 0 rfl rfl 5 (by decide) (hts _ lk_X11_turn_106) (fun _ h9 => h9) rfl dX11_turn_56 ?_
                have jn77 : ∀ (t15 : Int32) (H : Heap) (locs : List Loc) (ls : Array Slot), vJ_X11_turn_77 s11_partMany s11_rule a11_often l3_4 a11_on_5 (fun z0 z1 => vfix (vF_X11_turn_50 s11_partMany s11_rule s11_hand a11_often K t1) n50 (z0, z1)) t15 → lv_has ls 6 [(3, .int l3_4), (2, .int t1), (0, .ref (ad 11))] → va_P D vwCl [oX11 ad s11_d s11_stepMany s11_kind s11_many s11_partMany s11_rule s11_ticks s11_hand s11_g s11_beganElsewhere s11_dBefore s11_fBefore s11_fFirst s11_weightMany s11_tailTold, aI cy (ad 50) 16 a11_on_5, aI cy (ad 51) 16 a11_often] H → va_D A [oX11 ad s11_d s11_stepMany s11_kind s11_many s11_partMany s11_rule s11_ticks s11_hand s11_g s11_beganElsewhere s11_dBefore s11_fBefore s11_fFirst s11_weightMany s11_tailTold, aI cy (ad 50) 16 a11_on_5, aI cy (ad 51) 16 a11_often] → va_S A s.heap H locs → W p l e rm_X11_turn s m ([.ref (ad 11), .int x1] : List Value).toArray below meth c H locs 0 0 Q (F0 m 77 ls [.int t15]) := by
                  intro t15 H locs ls hv hl hP hD hS
                  unfold vJ_X11_turn_77 at hv
                  refine lv_istore (lv' := [(4, .int t15), (3, .int l3_4), (2, .int t1), (0, .ref (ad 11))]) hx hb dX11_turn_77 hl (by decide) rfl (fun ls hl => ?_)
                  refine lv_iconst (v := 0) hx hb dX11_turn_79 (by decide) ?_
                  refine lv_istore (lv' := [(5, .int (0 : Int32)), (4, .int t15), (3, .int l3_4), (2, .int t1), (0, .ref (ad 11))]) hx hb dX11_turn_80 hl (by decide) rfl (fun ls hl => ?_)
                  have lp82 : ∀ (n82 : Nat) (l5_16 : Int32) (l4_17 : Int32) (H : Heap) (locs : List Loc) (ls : Array Slot), vfix (vF_X11_turn_82 s11_partMany s11_rule a11_often l3_4 a11_on_5 (fun z0 z1 => vfix (vF_X11_turn_50 s11_partMany s11_rule s11_hand a11_often K t1) n50 (z0, z1))) n82 (l5_16, l4_17) → lv_has ls 6 [(5, .int l5_16), (4, .int l4_17), (3, .int l3_4), (2, .int t1), (0, .ref (ad 11))] → va_P D vwCl [oX11 ad s11_d s11_stepMany s11_kind s11_many s11_partMany s11_rule s11_ticks s11_hand s11_g s11_beganElsewhere s11_dBefore s11_fBefore s11_fFirst s11_weightMany s11_tailTold, aI cy (ad 50) 16 a11_on_5, aI cy (ad 51) 16 a11_often] H → va_D A [oX11 ad s11_d s11_stepMany s11_kind s11_many s11_partMany s11_rule s11_ticks s11_hand s11_g s11_beganElsewhere s11_dBefore s11_fBefore s11_fFirst s11_weightMany s11_tailTold, aI cy (ad 50) 16 a11_on_5, aI cy (ad 51) 16 a11_often] → va_S A s.heap H locs → W p l e rm_X11_turn s m ([.ref (ad 11), .int x1] : List Value).toArray below meth c H locs 0 0 Q (F0 m 82 ls []) := by
                    intro n82
                    induction n82 with
                    | zero => intro l5_16 l4_17 H locs ls hv; exact hv.elim
                    | succ n82 ih82 =>
                      intro l5_16 l4_17 H locs ls hv hl hP hD hS
                      have hv : vB_X11_turn_82 s11_partMany s11_rule a11_often l3_4 a11_on_5 (fun z0 z1 => vfix (vF_X11_turn_50 s11_partMany s11_rule s11_hand a11_often K t1) n50 (z0, z1)) (fun z0 z1 => vfix (vF_X11_turn_82 s11_partMany s11_rule a11_often l3_4 a11_on_5 (fun z0 z1 => vfix (vF_X11_turn_50 s11_partMany s11_rule s11_hand a11_often K t1) n50 (z0, z1))) n82 (z0, z1)) l5_16 l4_17 := hv
                      unfold vB_X11_turn_82 at hv
                      refine lv_iload hx hb dX11_turn_82 (lv_at hl 0 rfl) ?_
                      refine lv_aload_n hx hb dX11_turn_84 rfl (lv_at hl 4 rfl) ?_
                      refine va_get (D := D) (ci := 11) (v := .int s11_partMany) (C := RX11) (T := TX11) (N := 35) hx hb hts in_X11_turn_11 hown hK hP 0 rfl rfl 4 (by decide) (hts _ lk_X11_turn_109) (fun _ h9 => h9) rfl dX11_turn_85 ?_
                      have jn141 : ∀ (H : Heap) (locs : List Loc) (ls : Array Slot), vJ_X11_turn_141 l3_4 a11_on_5 (fun z0 z1 => vfix (vF_X11_turn_50 s11_partMany s11_rule s11_hand a11_often K t1) n50 (z0, z1)) l4_17 → lv_has ls 6 [(4, .int l4_17), (3, .int l3_4), (2, .int t1), (0, .ref (ad 11))] → va_P D vwCl [oX11 ad s11_d s11_stepMany s11_kind s11_many s11_partMany s11_rule s11_ticks s11_hand s11_g s11_beganElsewhere s11_dBefore s11_fBefore s11_fFirst s11_weightMany s11_tailTold, aI cy (ad 50) 16 a11_on_5, aI cy (ad 51) 16 a11_often] H → va_D A [oX11 ad s11_d s11_stepMany s11_kind s11_many s11_partMany s11_rule s11_ticks s11_hand s11_g s11_beganElsewhere s11_dBefore s11_fBefore s11_fFirst s11_weightMany s11_tailTold, aI cy (ad 50) 16 a11_on_5, aI cy (ad 51) 16 a11_often] → va_S A s.heap H locs → W p l e rm_X11_turn s m ([.ref (ad 11), .int x1] : List Value).toArray below meth c H locs 0 0 Q (F0 m 141 ls []) := by
                        intro H locs ls hv hl hP hD hS
                        unfold vJ_X11_turn_141 at hv
                        refine lv_aload_n hx hb dX11_turn_141 rfl (lv_at hl 3 rfl) ?_
                        refine va_get (D := D) (ci := 11) (v := .ref (ad 50)) (C := RX11) (T := TX11) (N := 35) hx hb hts in_X11_turn_11 hown hK hP 0 rfl rfl 22 (by decide) (hts _ lk_X11_turn_48) (fun _ h9 => h9) rfl dX11_turn_142 ?_
                        refine lv_iload hx hb dX11_turn_145 (lv_at hl 0 rfl) ?_
                        refine lv_iconst (v := 1) hx hb dX11_turn_147 (by decide) ?_
                        refine k_iast hx hb hK hP hD hS 1 0 rfl rfl hv.1 dX11_turn_148 (fun a11_on_18 H locs h_a11_on_18 hP hD hS => ?_)
                        have hv := hv.2 a11_on_18 h_a11_on_18
                        have hP : va_P D vwCl [oX11 ad s11_d s11_stepMany s11_kind s11_many s11_partMany s11_rule s11_ticks s11_hand s11_g s11_beganElsewhere s11_dBefore s11_fBefore s11_fFirst s11_weightMany s11_tailTold, aI cy (ad 50) 16 a11_on_18, aI cy (ad 51) 16 a11_often] H := hP
                        have hD : va_D A [oX11 ad s11_d s11_stepMany s11_kind s11_many s11_partMany s11_rule s11_ticks s11_hand s11_g s11_beganElsewhere s11_dBefore s11_fBefore s11_fFirst s11_weightMany s11_tailTold, aI cy (ad 50) 16 a11_on_18, aI cy (ad 51) 16 a11_often] := hD
                        obtain ⟨i19, h_i19⟩ : ∃ y : Int32, y = l3_4 + 1 := ⟨_, rfl⟩
                        refine lv_iinc (v := i19) (lv' := [(3, .int i19), (4, .int l4_17), (2, .int t1), (0, .ref (ad 11))]) hx hb dX11_turn_149 hl (k := 1) rfl (by rw [h_i19]; rfl) (by decide) rfl (fun ls hl => ?_)
                        have hv := hv i19 h_i19
                        refine lv_goto (tgt := 50) hx hb dX11_turn_152 (by decide) ?_
                        exact ih50 i19 a11_on_18 H locs ls hv (lv_sub hl [0, 2, 3] rfl) hP hD hS
                      refine lv_icmp_ge (tgt := 141) hx hb dX11_turn_88 (by decide) (fun c_88 => ?_) (fun c_88 => ?_)
                      · have hv := hv.1 c_88
                        exact jn141  H locs ls hv (lv_sub hl [1, 2, 3, 4] rfl) hP hD hS
                      · have hv := hv.2 c_88
                        refine lv_aload_n hx hb dX11_turn_91 rfl (lv_at hl 4 rfl) ?_
                        refine va_get (D := D) (ci := 11) (v := .int s11_rule) (C := RX11) (T := TX11) (N := 35) hx hb hts in_X11_turn_11 hown hK hP 0 rfl rfl 5 (by decide) (hts _ lk_X11_turn_106) (fun _ h9 => h9) rfl dX11_turn_92 ?_
                        refine lv_iconst (v := 1) hx hb dX11_turn_95 (by decide) ?_
                        refine lv_icmp_ne (tgt := 141) hx hb dX11_turn_96 (by decide) (fun c_96 => ?_) (fun c_96 => ?_)
                        · have hv := hv.1 c_96
                          exact jn141  H locs ls hv (lv_sub hl [1, 2, 3, 4] rfl) hP hD hS
                        · have hv := hv.2 c_96
                          refine lv_aload_n hx hb dX11_turn_99 rfl (lv_at hl 4 rfl) ?_
                          refine va_get (D := D) (ci := 11) (v := .ref (ad 50)) (C := RX11) (T := TX11) (N := 35) hx hb hts in_X11_turn_11 hown hK hP 0 rfl rfl 22 (by decide) (hts _ lk_X11_turn_48) (fun _ h9 => h9) rfl dX11_turn_100 ?_
                          refine lv_iload hx hb dX11_turn_103 (lv_at hl 0 rfl) ?_
                          refine va_iald hx hb hK hP 1 0 rfl rfl hv.1 dX11_turn_105 ?_
                          refine lv_topi (fun g20 h_g20 => ?_)
                          have hv := hv.2 g20 h_g20
                          have jn135 : ∀ (l4_21 : Int32) (H : Heap) (locs : List Loc) (ls : Array Slot), vJ_X11_turn_135 l5_16 (fun z0 z1 => vfix (vF_X11_turn_82 s11_partMany s11_rule a11_often l3_4 a11_on_5 (fun z0 z1 => vfix (vF_X11_turn_50 s11_partMany s11_rule s11_hand a11_often K t1) n50 (z0, z1))) n82 (z0, z1)) l4_21 → lv_has ls 6 [(5, .int l5_16), (4, .int l4_21), (3, .int l3_4), (2, .int t1), (0, .ref (ad 11))] → va_P D vwCl [oX11 ad s11_d s11_stepMany s11_kind s11_many s11_partMany s11_rule s11_ticks s11_hand s11_g s11_beganElsewhere s11_dBefore s11_fBefore s11_fFirst s11_weightMany s11_tailTold, aI cy (ad 50) 16 a11_on_5, aI cy (ad 51) 16 a11_often] H → va_D A [oX11 ad s11_d s11_stepMany s11_kind s11_many s11_partMany s11_rule s11_ticks s11_hand s11_g s11_beganElsewhere s11_dBefore s11_fBefore s11_fFirst s11_weightMany s11_tailTold, aI cy (ad 50) 16 a11_on_5, aI cy (ad 51) 16 a11_often] → va_S A s.heap H locs → W p l e rm_X11_turn s m ([.ref (ad 11), .int x1] : List Value).toArray below meth c H locs 0 0 Q (F0 m 135 ls []) := by
                            intro l4_21 H locs ls hv hl hP hD hS
                            unfold vJ_X11_turn_135 at hv
                            obtain ⟨i22, h_i22⟩ : ∃ y : Int32, y = l5_16 + 1 := ⟨_, rfl⟩
                            refine lv_iinc (v := i22) (lv' := [(5, .int i22), (4, .int l4_21), (3, .int l3_4), (2, .int t1), (0, .ref (ad 11))]) hx hb dX11_turn_135 hl (k := 0) rfl (by rw [h_i22]; rfl) (by decide) rfl (fun ls hl => ?_)
                            have hv := hv i22 h_i22
                            refine lv_goto (tgt := 82) hx hb dX11_turn_138 (by decide) ?_
                            exact ih82 i22 l4_21 H locs ls hv (lv_sub hl [0, 1, 2, 3, 4] rfl) hP hD hS
                          refine lv_if_ne (tgt := 135) hx hb dX11_turn_106 (by decide) (fun c_106 => ?_) (fun c_106 => ?_)
                          · have hv := hv.1 c_106
                            exact jn135 l4_17 H locs ls hv (lv_sub hl [0, 1, 2, 3, 4] rfl) hP hD hS
                          · have hv := hv.2 c_106
                            refine lv_iload hx hb dX11_turn_109 (lv_at hl 1 rfl) ?_
                            have jn131 : ∀ (H : Heap) (locs : List Loc) (ls : Array Slot), vJ_X11_turn_131 l5_16 (fun z0 z1 => vfix (vF_X11_turn_82 s11_partMany s11_rule a11_often l3_4 a11_on_5 (fun z0 z1 => vfix (vF_X11_turn_50 s11_partMany s11_rule s11_hand a11_often K t1) n50 (z0, z1))) n82 (z0, z1)) → lv_has ls 6 [(5, .int l5_16), (3, .int l3_4), (2, .int t1), (0, .ref (ad 11))] → va_P D vwCl [oX11 ad s11_d s11_stepMany s11_kind s11_many s11_partMany s11_rule s11_ticks s11_hand s11_g s11_beganElsewhere s11_dBefore s11_fBefore s11_fFirst s11_weightMany s11_tailTold, aI cy (ad 50) 16 a11_on_5, aI cy (ad 51) 16 a11_often] H → va_D A [oX11 ad s11_d s11_stepMany s11_kind s11_many s11_partMany s11_rule s11_ticks s11_hand s11_g s11_beganElsewhere s11_dBefore s11_fBefore s11_fFirst s11_weightMany s11_tailTold, aI cy (ad 50) 16 a11_on_5, aI cy (ad 51) 16 a11_often] → va_S A s.heap H locs → W p l e rm_X11_turn s m ([.ref (ad 11), .int x1] : List Value).toArray below meth c H locs 0 0 Q (F0 m 131 ls []) := by
                              intro H locs ls hv hl hP hD hS
                              unfold vJ_X11_turn_131 at hv
                              refine lv_iload hx hb dX11_turn_131 (lv_at hl 0 rfl) ?_
                              refine lv_istore (lv' := [(4, .int l5_16), (5, .int l5_16), (3, .int l3_4), (2, .int t1), (0, .ref (ad 11))]) hx hb dX11_turn_133 hl (by decide) rfl (fun ls hl => ?_)
                              exact jn135 l5_16 H locs ls hv (lv_sub hl [1, 0, 2, 3, 4] rfl) hP hD hS
                            refine lv_if_lt (tgt := 131) hx hb dX11_turn_111 (by decide) (fun c_111 => ?_) (fun c_111 => ?_)
                            · have hv := hv.1 c_111
                              exact jn131  H locs ls hv (lv_sub hl [0, 2, 3, 4] rfl) hP hD hS
                            · have hv := hv.2 c_111
                              refine lv_aload_n hx hb dX11_turn_114 rfl (lv_at hl 4 rfl) ?_
                              refine va_get (D := D) (ci := 11) (v := .ref (ad 51)) (C := RX11) (T := TX11) (N := 35) hx hb hts in_X11_turn_11 hown hK hP 0 rfl rfl 23 (by decide) (hts _ lk_X11_turn_51) (fun _ h9 => h9) rfl dX11_turn_115 ?_
                              refine lv_iload hx hb dX11_turn_118 (lv_at hl 0 rfl) ?_
                              refine va_iald hx hb hK hP 2 0 rfl rfl hv.1 dX11_turn_120 ?_
                              refine lv_topi (fun g23 h_g23 => ?_)
                              have hv := hv.2 g23 h_g23
                              refine lv_aload_n hx hb dX11_turn_121 rfl (lv_at hl 4 rfl) ?_
                              refine va_get (D := D) (ci := 11) (v := .ref (ad 51)) (C := RX11) (T := TX11) (N := 35) hx hb hts in_X11_turn_11 hown hK hP 0 rfl rfl 23 (by decide) (hts _ lk_X11_turn_51) (fun _ h9 => h9) rfl dX11_turn_122 ?_
                              refine lv_iload hx hb dX11_turn_125 (lv_at hl 1 rfl) ?_
                              refine va_iald hx hb hK hP 2 0 rfl rfl hv.1 dX11_turn_127 ?_
                              refine lv_topi (fun g24 h_g24 => ?_)
                              have hv := hv.2 g24 h_g24
                              refine lv_icmp_ge (tgt := 135) hx hb dX11_turn_128 (by decide) (fun c_128 => ?_) (fun c_128 => ?_)
                              · have hv := hv.1 c_128
                                exact jn135 l4_17 H locs ls hv (lv_sub hl [0, 1, 2, 3, 4] rfl) hP hD hS
                              · have hv := hv.2 c_128
                                exact jn131  H locs ls hv (lv_sub hl [0, 2, 3, 4] rfl) hP hD hS
                  obtain ⟨nn, hv⟩ := hv
                  exact lp82 nn (0 : Int32) t15 H locs ls hv (lv_sub hl [0, 1, 2, 3, 4] rfl) hP hD hS
                refine lv_if_ne (tgt := 76) hx hb dX11_turn_59 (by decide) (fun c_59 => ?_) (fun c_59 => ?_)
                · have hv := hv.1 c_59
                  refine lv_iconst (v := -1) hx hb dX11_turn_76 (by decide) ?_
                  exact jn77 (-1 : Int32) H locs ls hv (lv_sub hl [0, 1, 2] rfl) hP hD hS
                · have hv := hv.2 c_59
                  refine lv_aload_n hx hb dX11_turn_62 rfl (lv_at hl 2 rfl) ?_
                  refine va_get (D := D) (ci := 11) (v := .int s11_hand) (C := RX11) (T := TX11) (N := 35) hx hb hts in_X11_turn_11 hown hK hP 0 rfl rfl 7 (by decide) (hts _ lk_X11_turn_84) (fun _ h9 => h9) rfl dX11_turn_63 ?_
                  refine lv_iload_n hx hb dX11_turn_66 rfl (lv_at hl 0 rfl) ?_
                  refine lv_iadd hx hb dX11_turn_67 ?_
                  refine lv_topi (fun e25 h_e25 => ?_)
                  have hv := hv e25 h_e25
                  refine lv_aload_n hx hb dX11_turn_68 rfl (lv_at hl 2 rfl) ?_
                  refine va_get (D := D) (ci := 11) (v := .int s11_partMany) (C := RX11) (T := TX11) (N := 35) hx hb hts in_X11_turn_11 hown hK hP 0 rfl rfl 4 (by decide) (hts _ lk_X11_turn_109) (fun _ h9 => h9) rfl dX11_turn_69 ?_
                  have hne := hv.1
                  have hv := hv.2
                  refine lv_irem hx hb dX11_turn_72 hne ?_
                  refine lv_topi (fun e26 h_e26 => ?_)
                  have hv := hv e26 h_e26
                  refine lv_goto (tgt := 77) hx hb dX11_turn_73 (by decide) ?_
                  exact jn77 e26 H locs ls hv (lv_sub hl [0, 1, 2] rfl) hP hD hS
          obtain ⟨nn, hv⟩ := hv
          exact lp50 nn (0 : Int32) a11_on_3 H locs ls hv (lv_sub hl [0, 1, 2] rfl) hP hD hS
        · have hv := hv.2 c_32
          refine lv_aload_n hx hb dX11_turn_35 rfl (lv_at hl 2 rfl) ?_
          refine va_get (D := D) (ci := 11) (v := .ref (ad 50)) (C := RX11) (T := TX11) (N := 35) hx hb hts in_X11_turn_11 hown hK hP 0 rfl rfl 22 (by decide) (hts _ lk_X11_turn_48) (fun _ h9 => h9) rfl dX11_turn_36 ?_
          refine lv_iload_n hx hb dX11_turn_39 rfl (lv_at hl 0 rfl) ?_
          refine lv_iconst (v := 0) hx hb dX11_turn_40 (by decide) ?_
          refine k_iast hx hb hK hP hD hS 1 0 rfl rfl hv.1 dX11_turn_41 (fun a11_on_27 H locs h_a11_on_27 hP hD hS => ?_)
          have hv := hv.2 a11_on_27 h_a11_on_27
          have hP : va_P D vwCl [oX11 ad s11_d s11_stepMany s11_kind s11_many s11_partMany s11_rule s11_ticks s11_hand s11_g s11_beganElsewhere s11_dBefore s11_fBefore s11_fFirst s11_weightMany s11_tailTold, aI cy (ad 50) 16 a11_on_27, aI cy (ad 51) 16 a11_often] H := hP
          have hD : va_D A [oX11 ad s11_d s11_stepMany s11_kind s11_many s11_partMany s11_rule s11_ticks s11_hand s11_g s11_beganElsewhere s11_dBefore s11_fBefore s11_fFirst s11_weightMany s11_tailTold, aI cy (ad 50) 16 a11_on_27, aI cy (ad 51) 16 a11_often] := hD
          obtain ⟨i28, h_i28⟩ : ∃ y : Int32, y = l3_2 + 1 := ⟨_, rfl⟩
          refine lv_iinc (v := i28) (lv' := [(3, .int i28), (2, .int t1), (0, .ref (ad 11))]) hx hb dX11_turn_42 hl (k := 0) rfl (by rw [h_i28]; rfl) (by decide) rfl (fun ls hl => ?_)
          have hv := hv i28 h_i28
          refine lv_goto (tgt := 27) hx hb dX11_turn_45 (by decide) ?_
          exact ih27 i28 a11_on_27 H locs ls hv (lv_sub hl [0, 1, 2] rfl) hP hD hS
    obtain ⟨nn, hv⟩ := hv
    exact lp27 nn (0 : Int32) a11_on H locs ls hv (lv_sub hl [0, 1, 2] rfl) hP hD hS
  refine lv_if_ge (tgt := 8) hx hb dX11_turn_1 (by decide) (fun c_1 => ?_) (fun c_1 => ?_)
  · have hv := hv.1 c_1
    refine lv_iload_n hx hb dX11_turn_8 rfl (lv_at hl 1 rfl) ?_
    refine lv_aload_n hx hb dX11_turn_9 rfl (lv_at hl 0 rfl) ?_
    refine va_get (D := D) (ci := 11) (v := .int s11_partMany) (C := RX11) (T := TX11) (N := 35) hx hb hts in_X11_turn_11 hown hK hP 0 rfl rfl 4 (by decide) (hts _ lk_X11_turn_109) (fun _ h9 => h9) rfl dX11_turn_10 ?_
    refine lv_icmp_le (tgt := 23) hx hb dX11_turn_13 (by decide) (fun c_13 => ?_) (fun c_13 => ?_)
    · have hv := hv.1 c_13
      refine lv_iload_n hx hb dX11_turn_23 rfl (lv_at hl 1 rfl) ?_
      exact jn24 x1 H locs ls hv (lv_sub hl [0] rfl) hP hD hS
    · have hv := hv.2 c_13
      refine lv_aload_n hx hb dX11_turn_16 rfl (lv_at hl 0 rfl) ?_
      refine va_get (D := D) (ci := 11) (v := .int s11_partMany) (C := RX11) (T := TX11) (N := 35) hx hb hts in_X11_turn_11 hown hK hP 0 rfl rfl 4 (by decide) (hts _ lk_X11_turn_109) (fun _ h9 => h9) rfl dX11_turn_17 ?_
      refine lv_goto (tgt := 24) hx hb dX11_turn_20 (by decide) ?_
      exact jn24 s11_partMany H locs ls hv (lv_sub hl [0] rfl) hP hD hS
  · have hv := hv.2 c_1
    refine lv_iconst (v := 0) hx hb dX11_turn_4 (by decide) ?_
    refine lv_goto (tgt := 24) hx hb dX11_turn_5 (by decide) ?_
    exact jn24 (0 : Int32) H locs ls hv (lv_sub hl [0] rfl) hP hD hS
