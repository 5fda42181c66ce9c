theorem lk_X11_loop_16 : Cond.fieldLink RX11 16 "CoarseStepsModel" "many" "I" ∈ wsX11_loop := by decide +kernel
theorem in_X11_loop_11 : ∀ w ∈ wsX110, w ∈ wsX11_loop := by decide +kernel
theorem lk_X11_loop_103 : Cond.fieldLink RX11 103 "CoarseStepsModel" "kind" "I" ∈ wsX11_loop := by decide +kernel
theorem lk_X11_loop_106 : Cond.fieldLink RX11 106 "CoarseStepsModel" "rule" "I" ∈ wsX11_loop := by decide +kernel
theorem lk_X11_loop_109 : Cond.fieldLink RX11 109 "CoarseStepsModel" "partMany" "I" ∈ wsX11_loop := by decide +kernel
theorem lk_X11_loop_112 : Cond.fieldLink RX11 112 "CoarseStepsModel" "g" "I" ∈ wsX11_loop := by decide +kernel
theorem lk_X11_loop_29 : Cond.fieldLink RX11 29 "CoarseStepsModel" "b" "[I" ∈ wsX11_loop := by decide +kernel
theorem lk_X11_loop_32 : Cond.fieldLink RX11 32 "CoarseStepsModel" "e" "[I" ∈ wsX11_loop := by decide +kernel
theorem lk_X11_loop_35 : Cond.fieldLink RX11 35 "CoarseStepsModel" "h" "[I" ∈ wsX11_loop := by decide +kernel
theorem lk_X11_loop_26 : Cond.fieldLink RX11 26 "CoarseStepsModel" "a" "[I" ∈ wsX11_loop := by decide +kernel
theorem lk_X11_loop_42 : Cond.fieldLink RX11 42 "CoarseStepsModel" "least" "[J" ∈ wsX11_loop := by decide +kernel
theorem lk_X11_loop_45 : Cond.fieldLink RX11 45 "CoarseStepsModel" "most" "[J" ∈ wsX11_loop := by decide +kernel
abbrev rm_X11_loop : Room := { frames := 1, cells := 0, slots := 0, locals := 21 }
set_option maxHeartbeats 4000000 in
set_option maxRecDepth 100000 in
theorem m_X11_loop (l : Launch) (D : va_G) (cy : ClassId × ClassId × ClassId) (ad : Nat → Nat) (s11_d : Int32) (s11_stepMany : Int32) (s11_kind : Int32) (s11_many : Int32) (s11_partMany : Int32) (s11_rule : Int32) (s11_ticks : Int32) (s11_hand : Int32) (s11_g : Int32) (s11_beganElsewhere : Int32) (s11_dBefore : Int32) (s11_fBefore : Int32) (s11_fFirst : Int32) (s11_weightMany : Int32) (s11_tailTold : Int32) (a11_a : Nat → Int32) (a11_b : Nat → Int32) (a11_e : Nat → Int32) (a11_h : Nat → Int32) (a11_sums : Nat → Int64) (a11_least : Nat → Int64) (a11_most : Nat → Int64) (a11_on : Nat → Int32) (a11_often : Nat → Int32) (x1 : Int32) (x2 : Int32) (x3 : Int32) (sz : Nat) {K : Int32 → Int32 → Int32 → Int32 → Int32 → Int32 → Int32 → Int32 → Int32 → Int32 → Int32 → Int32 → (Nat → Int32) → (Nat → Int32) → (Nat → Int32) → (Nat → Int32) → (Nat → Int64) → (Nat → Int64) → (Nat → Int64) → (Nat → Int32) → (Nat → Int32) → Prop} (hv : v_X11_loop s11_kind s11_many s11_partMany s11_rule s11_ticks s11_hand s11_g s11_beganElsewhere s11_dBefore s11_fBefore s11_fFirst a11_a a11_b a11_e a11_h a11_sums a11_least a11_most a11_on a11_often x1 x2 x3 K) : Met l yX11_loop wsX11_loop rm_X11_loop (va_Pc [.ref (ad 11), .int x1, .int x2, .int x3] (wd D cy [oX11 ad s11_d s11_stepMany s11_kind s11_many s11_partMany s11_rule s11_ticks s11_hand s11_g s11_beganElsewhere s11_dBefore s11_fBefore s11_fFirst s11_weightMany s11_tailTold, aI cy (ad 43) 16 a11_a, aI cy (ad 44) 4 a11_b, aI cy (ad 45) 4 a11_e, aI cy (ad 46) 4 a11_h, aJ cy (ad 47) 4 a11_sums, aJ cy (ad 48) 4 a11_least, aJ cy (ad 49) 4 a11_most, aI cy (ad 50) 16 a11_on, aI cy (ad 51) 16 a11_often] sz)) (va_Qi (fun (r : Int32) (u : Int32 × Int32 × Int32 × Int32 × Int32 × Int32 × Int32 × Int32 × Int32 × Int32 × Int32 × (Nat → Int32) × (Nat → Int32) × (Nat → Int32) × (Nat → Int32) × (Nat → Int64) × (Nat → Int64) × (Nat → Int64) × (Nat → Int32) × (Nat → Int32)) => (r = 0 ∨ r = 1) ∧ K r u.1 u.2.1 u.2.2.1 u.2.2.2.1 u.2.2.2.2.1 u.2.2.2.2.2.1 u.2.2.2.2.2.2.1 u.2.2.2.2.2.2.2.1 u.2.2.2.2.2.2.2.2.1 u.2.2.2.2.2.2.2.2.2.1 u.2.2.2.2.2.2.2.2.2.2.1 u.2.2.2.2.2.2.2.2.2.2.2.1 u.2.2.2.2.2.2.2.2.2.2.2.2.1 u.2.2.2.2.2.2.2.2.2.2.2.2.2.1 u.2.2.2.2.2.2.2.2.2.2.2.2.2.2.1 u.2.2.2.2.2.2.2.2.2.2.2.2.2.2.2.1 u.2.2.2.2.2.2.2.2.2.2.2.2.2.2.2.2.1 u.2.2.2.2.2.2.2.2.2.2.2.2.2.2.2.2.2.1 u.2.2.2.2.2.2.2.2.2.2.2.2.2.2.2.2.2.2.1 u.2.2.2.2.2.2.2.2.2.2.2.2.2.2.2.2.2.2.2) (fun u t => we D ((fun u : Int32 × Int32 × Int32 × Int32 × Int32 × Int32 × Int32 × Int32 × Int32 × Int32 × Int32 × (Nat → Int32) × (Nat → Int32) × (Nat → Int32) × (Nat → Int32) × (Nat → Int64) × (Nat → Int64) × (Nat → Int64) × (Nat → Int32) × (Nat → Int32) => [oX11 ad s11_d s11_stepMany u.1 u.2.1 u.2.2.1 u.2.2.2.1 u.2.2.2.2.1 u.2.2.2.2.2.1 u.2.2.2.2.2.2.1 u.2.2.2.2.2.2.2.1 u.2.2.2.2.2.2.2.2.1 u.2.2.2.2.2.2.2.2.2.1 u.2.2.2.2.2.2.2.2.2.2.1 s11_weightMany s11_tailTold, aI cy (ad 43) 16 u.2.2.2.2.2.2.2.2.2.2.2.1, aI cy (ad 44) 4 u.2.2.2.2.2.2.2.2.2.2.2.2.1, aI cy (ad 45) 4 u.2.2.2.2.2.2.2.2.2.2.2.2.2.1, aI cy (ad 46) 4 u.2.2.2.2.2.2.2.2.2.2.2.2.2.2.1, aJ cy (ad 47) 4 u.2.2.2.2.2.2.2.2.2.2.2.2.2.2.2.1, aJ cy (ad 48) 4 u.2.2.2.2.2.2.2.2.2.2.2.2.2.2.2.2.1, aJ cy (ad 49) 4 u.2.2.2.2.2.2.2.2.2.2.2.2.2.2.2.2.2.1, aI cy (ad 50) 16 u.2.2.2.2.2.2.2.2.2.2.2.2.2.2.2.2.2.2.1, aI cy (ad 51) 16 u.2.2.2.2.2.2.2.2.2.2.2.2.2.2.2.2.2.2.2]) u) (va_A [oX11 ad s11_d s11_stepMany s11_kind s11_many s11_partMany s11_rule s11_ticks s11_hand s11_g s11_beganElsewhere s11_dBefore s11_fBefore s11_fFirst s11_weightMany s11_tailTold, aI cy (ad 43) 16 a11_a, aI cy (ad 44) 4 a11_b, aI cy (ad 45) 4 a11_e, aI cy (ad 46) 4 a11_h, aJ cy (ad 47) 4 a11_sums, aJ cy (ad 48) 4 a11_least, aJ cy (ad 49) 4 a11_most, aI cy (ad 50) 16 a11_on, aI cy (ad 51) 16 a11_often] sz) t) (va_A [oX11 ad s11_d s11_stepMany s11_kind s11_many s11_partMany s11_rule s11_ticks s11_hand s11_g s11_beganElsewhere s11_dBefore s11_fBefore s11_fFirst s11_weightMany s11_tailTold, aI cy (ad 43) 16 a11_a, aI cy (ad 44) 4 a11_b, aI cy (ad 45) 4 a11_e, aI cy (ad 46) 4 a11_h, aJ cy (ad 47) 4 a11_sums, aJ cy (ad 48) 4 a11_least, aJ cy (ad 49) 4 a11_most, aI cy (ad 50) 16 a11_on, aI cy (ad 51) 16 a11_often] sz)) 0 0 (va_A [oX11 ad s11_d s11_stepMany s11_kind s11_many s11_partMany s11_rule s11_ticks s11_hand s11_g s11_beganElsewhere s11_dBefore s11_fBefore s11_fFirst s11_weightMany s11_tailTold, aI cy (ad 43) 16 a11_a, aI cy (ad 44) 4 a11_b, aI cy (ad 45) 4 a11_e, aI cy (ad 46) 4 a11_h, aJ cy (ad 47) 4 a11_sums, aJ cy (ad 48) 4 a11_least, aJ cy (ad 49) 4 a11_most, aI cy (ad 50) 16 a11_on, aI cy (ad 51) 16 a11_often] sz) := by
  refine k_ofW (cc := cX11_loop) (maxL := 7) (ret := (some .boolean)) (fun A => va_Qi (fun (r : Int32) (u : Int32 × Int32 × Int32 × Int32 × Int32 × Int32 × Int32 × Int32 × Int32 × Int32 × Int32 × (Nat → Int32) × (Nat → Int32) × (Nat → Int32) × (Nat → Int32) × (Nat → Int64) × (Nat → Int64) × (Nat → Int64) × (Nat → Int32) × (Nat → Int32)) => (r = 0 ∨ r = 1) ∧ K r u.1 u.2.1 u.2.2.1 u.2.2.2.1 u.2.2.2.2.1 u.2.2.2.2.2.1 u.2.2.2.2.2.2.1 u.2.2.2.2.2.2.2.1 u.2.2.2.2.2.2.2.2.1 u.2.2.2.2.2.2.2.2.2.1 u.2.2.2.2.2.2.2.2.2.2.1 u.2.2.2.2.2.2.2.2.2.2.2.1 u.2.2.2.2.2.2.2.2.2.2.2.2.1 u.2.2.2.2.2.2.2.2.2.2.2.2.2.1 u.2.2.2.2.2.2.2.2.2.2.2.2.2.2.1 u.2.2.2.2.2.2.2.2.2.2.2.2.2.2.2.1 u.2.2.2.2.2.2.2.2.2.2.2.2.2.2.2.2.1 u.2.2.2.2.2.2.2.2.2.2.2.2.2.2.2.2.2.1 u.2.2.2.2.2.2.2.2.2.2.2.2.2.2.2.2.2.2.1 u.2.2.2.2.2.2.2.2.2.2.2.2.2.2.2.2.2.2.2) (fun u t => we D ((fun u : Int32 × Int32 × Int32 × Int32 × Int32 × Int32 × Int32 × Int32 × Int32 × Int32 × Int32 × (Nat → Int32) × (Nat → Int32) × (Nat → Int32) × (Nat → Int32) × (Nat → Int64) × (Nat → Int64) × (Nat → Int64) × (Nat → Int32) × (Nat → Int32) => [oX11 ad s11_d s11_stepMany u.1 u.2.1 u.2.2.1 u.2.2.2.1 u.2.2.2.2.1 u.2.2.2.2.2.1 u.2.2.2.2.2.2.1 u.2.2.2.2.2.2.2.1 u.2.2.2.2.2.2.2.2.1 u.2.2.2.2.2.2.2.2.2.1 u.2.2.2.2.2.2.2.2.2.2.1 s11_weightMany s11_tailTold, aI cy (ad 43) 16 u.2.2.2.2.2.2.2.2.2.2.2.1, aI cy (ad 44) 4 u.2.2.2.2.2.2.2.2.2.2.2.2.1, aI cy (ad 45) 4 u.2.2.2.2.2.2.2.2.2.2.2.2.2.1, aI cy (ad 46) 4 u.2.2.2.2.2.2.2.2.2.2.2.2.2.2.1, aJ cy (ad 47) 4 u.2.2.2.2.2.2.2.2.2.2.2.2.2.2.2.1, aJ cy (ad 48) 4 u.2.2.2.2.2.2.2.2.2.2.2.2.2.2.2.2.1, aJ cy (ad 49) 4 u.2.2.2.2.2.2.2.2.2.2.2.2.2.2.2.2.2.1, aI cy (ad 50) 16 u.2.2.2.2.2.2.2.2.2.2.2.2.2.2.2.2.2.2.1, aI cy (ad 51) 16 u.2.2.2.2.2.2.2.2.2.2.2.2.2.2.2.2.2.2.2]) u) A t) A) (by decide) rfl (Nat.le_of_ble_eq_true rfl) ?_
  intro p e s m below meth c A ls H locs hx hb hml hr hts hown hlocks hname hK hN hA hP hD hS hl
  have hl : lv_has ls 7 [(0, .ref (ad 11)), (1, .int x1), (2, .int x2), (3, .int x3)] := hl
  generalize hQ : MQ below _ _ s _ _ A = Q
  unfold v_X11_loop at hv
  refine lv_iload_n hx hb dX11_loop_0 rfl (lv_at hl 1 rfl) ?_
  have jn35 : ∀ (t1 : Int32) (H : Heap) (locs : List Loc) (ls : Array Slot), vJ_X11_loop_35 s11_kind s11_many s11_partMany s11_rule s11_ticks s11_hand s11_g s11_beganElsewhere s11_dBefore s11_fBefore s11_fFirst a11_a a11_b a11_e a11_h a11_sums a11_least a11_most a11_on a11_often x1 x2 x3 K t1 → lv_has ls 7 [(0, .ref (ad 11)), (1, .int x1), (2, .int x2), (3, .int x3)] → va_P D vwCl [oX11 ad s11_d s11_stepMany s11_kind s11_many s11_partMany s11_rule s11_ticks s11_hand s11_g s11_beganElsewhere s11_dBefore s11_fBefore s11_fFirst s11_weightMany s11_tailTold, aI cy (ad 43) 16 a11_a, aI cy (ad 44) 4 a11_b, aI cy (ad 45) 4 a11_e, aI cy (ad 46) 4 a11_h, aJ cy (ad 47) 4 a11_sums, aJ cy (ad 48) 4 a11_least, aJ cy (ad 49) 4 a11_most, aI cy (ad 50) 16 a11_on, aI cy (ad 51) 16 a11_often] H → va_D A [oX11 ad s11_d s11_stepMany s11_kind s11_many s11_partMany s11_rule s11_ticks s11_hand s11_g s11_beganElsewhere s11_dBefore s11_fBefore s11_fFirst s11_weightMany s11_tailTold, aI cy (ad 43) 16 a11_a, aI cy (ad 44) 4 a11_b, aI cy (ad 45) 4 a11_e, aI cy (ad 46) 4 a11_h, aJ cy (ad 47) 4 a11_sums, aJ cy (ad 48) 4 a11_least, aJ cy (ad 49) 4 a11_most, aI cy (ad 50) 16 a11_on, aI cy (ad 51) 16 a11_often] → va_S A s.heap H locs → W p l e rm_X11_loop s m ([.ref (ad 11), .int x1, .int x2, .int x3] : List Value).toArray below meth c H locs 0 0 Q (F0 m 35 ls [.int t1]) := by
    intro t1 H locs ls hv hl hP hD hS
    unfold vJ_X11_loop_35 at hv
    refine lv_istore (lv' := [(4, .int t1), (0, .ref (ad 11)), (1, .int x1), (2, .int x2), (3, .int x3)]) hx hb dX11_loop_35 hl (by decide) rfl (fun ls hl => ?_)
    refine lv_iload_n hx hb dX11_loop_37 rfl (lv_at hl 2 rfl) ?_
    refine lv_iconst (v := 2) hx hb dX11_loop_38 (by decide) ?_
    have jn144 : ∀ (l4_2 : Int32) (H : Heap) (locs : List Loc) (ls : Array Slot), vJ_X11_loop_144 s11_kind s11_many s11_partMany s11_rule s11_ticks s11_hand s11_g s11_beganElsewhere s11_dBefore s11_fBefore s11_fFirst a11_a a11_b a11_e a11_h a11_sums a11_least a11_most a11_on a11_often x1 x2 x3 K l4_2 → lv_has ls 7 [(4, .int l4_2), (0, .ref (ad 11)), (1, .int x1), (2, .int x2), (3, .int x3)] → va_P D vwCl [oX11 ad s11_d s11_stepMany s11_kind s11_many s11_partMany s11_rule s11_ticks s11_hand s11_g s11_beganElsewhere s11_dBefore s11_fBefore s11_fFirst s11_weightMany s11_tailTold, aI cy (ad 43) 16 a11_a, aI cy (ad 44) 4 a11_b, aI cy (ad 45) 4 a11_e, aI cy (ad 46) 4 a11_h, aJ cy (ad 47) 4 a11_sums, aJ cy (ad 48) 4 a11_least, aJ cy (ad 49) 4 a11_most, aI cy (ad 50) 16 a11_on, aI cy (ad 51) 16 a11_often] H → va_D A [oX11 ad s11_d s11_stepMany s11_kind s11_many s11_partMany s11_rule s11_ticks s11_hand s11_g s11_beganElsewhere s11_dBefore s11_fBefore s11_fFirst s11_weightMany s11_tailTold, aI cy (ad 43) 16 a11_a, aI cy (ad 44) 4 a11_b, aI cy (ad 45) 4 a11_e, aI cy (ad 46) 4 a11_h, aJ cy (ad 47) 4 a11_sums, aJ cy (ad 48) 4 a11_least, aJ cy (ad 49) 4 a11_most, aI cy (ad 50) 16 a11_on, aI cy (ad 51) 16 a11_often] → va_S A s.heap H locs → W p l e rm_X11_loop s m ([.ref (ad 11), .int x1, .int x2, .int x3] : List Value).toArray below meth c H locs 0 0 Q (F0 m 144 ls []) := by
      intro l4_2 H locs ls hv hl hP hD hS
      unfold vJ_X11_loop_144 at hv
      refine lv_iload hx hb dX11_loop_144 (lv_at hl 0 rfl) ?_
      refine lv_if_ne (tgt := 151) hx hb dX11_loop_146 (by decide) (fun c_146 => ?_) (fun c_146 => ?_)
      · have hv := hv.1 c_146
        refine lv_iload_n hx hb dX11_loop_151 rfl (lv_at hl 2 rfl) ?_
        refine lv_iconst (v := 2) hx hb dX11_loop_152 (by decide) ?_
        have jn175 : ∀ (t3 : Int32) (H : Heap) (locs : List Loc) (ls : Array Slot), vJ_X11_loop_175 s11_many a11_a a11_b a11_e a11_h a11_sums a11_least a11_most a11_on a11_often x1 x2 x3 K t3 → lv_has ls 7 [(0, .ref (ad 11)), (1, .int x1), (2, .int x2), (3, .int x3)] → va_P D vwCl [oX11 ad s11_d s11_stepMany s11_kind s11_many s11_partMany s11_rule s11_ticks s11_hand s11_g s11_beganElsewhere s11_dBefore s11_fBefore s11_fFirst s11_weightMany s11_tailTold, aI cy (ad 43) 16 a11_a, aI cy (ad 44) 4 a11_b, aI cy (ad 45) 4 a11_e, aI cy (ad 46) 4 a11_h, aJ cy (ad 47) 4 a11_sums, aJ cy (ad 48) 4 a11_least, aJ cy (ad 49) 4 a11_most, aI cy (ad 50) 16 a11_on, aI cy (ad 51) 16 a11_often] H → va_D A [oX11 ad s11_d s11_stepMany s11_kind s11_many s11_partMany s11_rule s11_ticks s11_hand s11_g s11_beganElsewhere s11_dBefore s11_fBefore s11_fFirst s11_weightMany s11_tailTold, aI cy (ad 43) 16 a11_a, aI cy (ad 44) 4 a11_b, aI cy (ad 45) 4 a11_e, aI cy (ad 46) 4 a11_h, aJ cy (ad 47) 4 a11_sums, aJ cy (ad 48) 4 a11_least, aJ cy (ad 49) 4 a11_most, aI cy (ad 50) 16 a11_on, aI cy (ad 51) 16 a11_often] → va_S A s.heap H locs → W p l e rm_X11_loop s m ([.ref (ad 11), .int x1, .int x2, .int x3] : List Value).toArray below meth c H locs 0 0 Q (F0 m 175 ls [.int t3]) := by
          intro t3 H locs ls hv hl hP hD hS
          unfold vJ_X11_loop_175 at hv
          refine lv_istore (lv' := [(5, .int t3), (0, .ref (ad 11)), (1, .int x1), (2, .int x2), (3, .int x3)]) hx hb dX11_loop_175 hl (by decide) rfl (fun ls hl => ?_)
          refine lv_iload hx hb dX11_loop_177 (lv_at hl 0 rfl) ?_
          refine lv_aload_n hx hb dX11_loop_179 rfl (lv_at hl 1 rfl) ?_
          refine va_get (D := D) (ci := 11) (v := .int s11_many) (C := RX11) (T := TX11) (N := 35) hx hb hts in_X11_loop_11 hown hK hP 0 rfl rfl 3 (by decide) (hts _ lk_X11_loop_16) (fun _ h9 => h9) rfl dX11_loop_180 ?_
          have jn217 : ∀ (a11_least_4 : Nat → Int64) (a11_most_5 : Nat → Int64) (H : Heap) (locs : List Loc) (ls : Array Slot), vJ_X11_loop_217 a11_a a11_b a11_e a11_h a11_sums a11_on a11_often x1 x2 x3 K t3 a11_least_4 a11_most_5 → lv_has ls 7 [(5, .int t3), (0, .ref (ad 11)), (1, .int x1), (2, .int x2), (3, .int x3)] → va_P D vwCl [oX11 ad s11_d s11_stepMany s11_kind s11_many s11_partMany s11_rule s11_ticks s11_hand s11_g s11_beganElsewhere s11_dBefore s11_fBefore s11_fFirst s11_weightMany s11_tailTold, aI cy (ad 43) 16 a11_a, aI cy (ad 44) 4 a11_b, aI cy (ad 45) 4 a11_e, aI cy (ad 46) 4 a11_h, aJ cy (ad 47) 4 a11_sums, aJ cy (ad 48) 4 a11_least_4, aJ cy (ad 49) 4 a11_most_5, aI cy (ad 50) 16 a11_on, aI cy (ad 51) 16 a11_often] H → va_D A [oX11 ad s11_d s11_stepMany s11_kind s11_many s11_partMany s11_rule s11_ticks s11_hand s11_g s11_beganElsewhere s11_dBefore s11_fBefore s11_fFirst s11_weightMany s11_tailTold, aI cy (ad 43) 16 a11_a, aI cy (ad 44) 4 a11_b, aI cy (ad 45) 4 a11_e, aI cy (ad 46) 4 a11_h, aJ cy (ad 47) 4 a11_sums, aJ cy (ad 48) 4 a11_least_4, aJ cy (ad 49) 4 a11_most_5, aI cy (ad 50) 16 a11_on, aI cy (ad 51) 16 a11_often] → va_S A s.heap H locs → W p l e rm_X11_loop s m ([.ref (ad 11), .int x1, .int x2, .int x3] : List Value).toArray below meth c H locs 0 0 Q (F0 m 217 ls []) := by
            intro a11_least_4 a11_most_5 H locs ls hv hl hP hD hS
            unfold vJ_X11_loop_217 at hv
            refine lv_aload_n hx hb dX11_loop_217 rfl (lv_at hl 1 rfl) ?_
            refine lv_iload_n hx hb dX11_loop_218 rfl (lv_at hl 2 rfl) ?_
            refine va_put (D := D) (ci := 11) (v := .int x1) (ty := .int) (C := RX11) (T := TX11) (N := 35) hx hb hts in_X11_loop_11 tyX11 tyX11_ok nmX11 hown hK hP hD hS 0 rfl rfl 2 (by decide) (hts _ lk_X11_loop_103) (fun _ h9 => h9) rfl (by decide +kernel) rfl rfl (Nat.le_of_ble_eq_true rfl) dX11_loop_219 (fun H locs hP hD hS => ?_)
            have hP : va_P D vwCl [oX11 ad s11_d s11_stepMany x1 s11_many s11_partMany s11_rule s11_ticks s11_hand s11_g s11_beganElsewhere s11_dBefore s11_fBefore s11_fFirst s11_weightMany s11_tailTold, aI cy (ad 43) 16 a11_a, aI cy (ad 44) 4 a11_b, aI cy (ad 45) 4 a11_e, aI cy (ad 46) 4 a11_h, aJ cy (ad 47) 4 a11_sums, aJ cy (ad 48) 4 a11_least_4, aJ cy (ad 49) 4 a11_most_5, aI cy (ad 50) 16 a11_on, aI cy (ad 51) 16 a11_often] H := hP
            have hD : va_D A [oX11 ad s11_d s11_stepMany x1 s11_many s11_partMany s11_rule s11_ticks s11_hand s11_g s11_beganElsewhere s11_dBefore s11_fBefore s11_fFirst s11_weightMany s11_tailTold, aI cy (ad 43) 16 a11_a, aI cy (ad 44) 4 a11_b, aI cy (ad 45) 4 a11_e, aI cy (ad 46) 4 a11_h, aJ cy (ad 47) 4 a11_sums, aJ cy (ad 48) 4 a11_least_4, aJ cy (ad 49) 4 a11_most_5, aI cy (ad 50) 16 a11_on, aI cy (ad 51) 16 a11_often] := hD
            refine lv_aload_n hx hb dX11_loop_222 rfl (lv_at hl 1 rfl) ?_
            refine lv_iload_n hx hb dX11_loop_223 rfl (lv_at hl 4 rfl) ?_
            refine va_put (D := D) (ci := 11) (v := .int x3) (ty := .int) (C := RX11) (T := TX11) (N := 35) hx hb hts in_X11_loop_11 tyX11 tyX11_ok nmX11 hown hK hP hD hS 0 rfl rfl 5 (by decide) (hts _ lk_X11_loop_106) (fun _ h9 => h9) rfl (by decide +kernel) rfl rfl (Nat.le_of_ble_eq_true rfl) dX11_loop_224 (fun H locs hP hD hS => ?_)
            have hP : va_P D vwCl [oX11 ad s11_d s11_stepMany x1 s11_many s11_partMany x3 s11_ticks s11_hand s11_g s11_beganElsewhere s11_dBefore s11_fBefore s11_fFirst s11_weightMany s11_tailTold, aI cy (ad 43) 16 a11_a, aI cy (ad 44) 4 a11_b, aI cy (ad 45) 4 a11_e, aI cy (ad 46) 4 a11_h, aJ cy (ad 47) 4 a11_sums, aJ cy (ad 48) 4 a11_least_4, aJ cy (ad 49) 4 a11_most_5, aI cy (ad 50) 16 a11_on, aI cy (ad 51) 16 a11_often] H := hP
            have hD : va_D A [oX11 ad s11_d s11_stepMany x1 s11_many s11_partMany x3 s11_ticks s11_hand s11_g s11_beganElsewhere s11_dBefore s11_fBefore s11_fFirst s11_weightMany s11_tailTold, aI cy (ad 43) 16 a11_a, aI cy (ad 44) 4 a11_b, aI cy (ad 45) 4 a11_e, aI cy (ad 46) 4 a11_h, aJ cy (ad 47) 4 a11_sums, aJ cy (ad 48) 4 a11_least_4, aJ cy (ad 49) 4 a11_most_5, aI cy (ad 50) 16 a11_on, aI cy (ad 51) 16 a11_often] := hD
            refine lv_aload_n hx hb dX11_loop_227 rfl (lv_at hl 1 rfl) ?_
            refine lv_iload hx hb dX11_loop_228 (lv_at hl 0 rfl) ?_
            refine va_put (D := D) (ci := 11) (v := .int t3) (ty := .int) (C := RX11) (T := TX11) (N := 35) hx hb hts in_X11_loop_11 tyX11 tyX11_ok nmX11 hown hK hP hD hS 0 rfl rfl 3 (by decide) (hts _ lk_X11_loop_16) (fun _ h9 => h9) rfl (by decide +kernel) rfl rfl (Nat.le_of_ble_eq_true rfl) dX11_loop_230 (fun H locs hP hD hS => ?_)
            have hP : va_P D vwCl [oX11 ad s11_d s11_stepMany x1 t3 s11_partMany x3 s11_ticks s11_hand s11_g s11_beganElsewhere s11_dBefore s11_fBefore s11_fFirst s11_weightMany s11_tailTold, aI cy (ad 43) 16 a11_a, aI cy (ad 44) 4 a11_b, aI cy (ad 45) 4 a11_e, aI cy (ad 46) 4 a11_h, aJ cy (ad 47) 4 a11_sums, aJ cy (ad 48) 4 a11_least_4, aJ cy (ad 49) 4 a11_most_5, aI cy (ad 50) 16 a11_on, aI cy (ad 51) 16 a11_often] H := hP
            have hD : va_D A [oX11 ad s11_d s11_stepMany x1 t3 s11_partMany x3 s11_ticks s11_hand s11_g s11_beganElsewhere s11_dBefore s11_fBefore s11_fFirst s11_weightMany s11_tailTold, aI cy (ad 43) 16 a11_a, aI cy (ad 44) 4 a11_b, aI cy (ad 45) 4 a11_e, aI cy (ad 46) 4 a11_h, aJ cy (ad 47) 4 a11_sums, aJ cy (ad 48) 4 a11_least_4, aJ cy (ad 49) 4 a11_most_5, aI cy (ad 50) 16 a11_on, aI cy (ad 51) 16 a11_often] := hD
            refine lv_aload_n hx hb dX11_loop_233 rfl (lv_at hl 1 rfl) ?_
            refine lv_iload_n hx hb dX11_loop_234 rfl (lv_at hl 2 rfl) ?_
            refine lv_iconst (v := 4) hx hb dX11_loop_235 (by decide) ?_
            have jn244 : ∀ (t6 : Int32) (H : Heap) (locs : List Loc) (ls : Array Slot), vJ_X11_loop_244 a11_a a11_b a11_e a11_h a11_sums a11_on a11_often x1 x3 K t3 a11_least_4 a11_most_5 t6 → lv_has ls 7 [(0, .ref (ad 11))] → va_P D vwCl [oX11 ad s11_d s11_stepMany x1 t3 s11_partMany x3 s11_ticks s11_hand s11_g s11_beganElsewhere s11_dBefore s11_fBefore s11_fFirst s11_weightMany s11_tailTold, aI cy (ad 43) 16 a11_a, aI cy (ad 44) 4 a11_b, aI cy (ad 45) 4 a11_e, aI cy (ad 46) 4 a11_h, aJ cy (ad 47) 4 a11_sums, aJ cy (ad 48) 4 a11_least_4, aJ cy (ad 49) 4 a11_most_5, aI cy (ad 50) 16 a11_on, aI cy (ad 51) 16 a11_often] H → va_D A [oX11 ad s11_d s11_stepMany x1 t3 s11_partMany x3 s11_ticks s11_hand s11_g s11_beganElsewhere s11_dBefore s11_fBefore s11_fFirst s11_weightMany s11_tailTold, aI cy (ad 43) 16 a11_a, aI cy (ad 44) 4 a11_b, aI cy (ad 45) 4 a11_e, aI cy (ad 46) 4 a11_h, aJ cy (ad 47) 4 a11_sums, aJ cy (ad 48) 4 a11_least_4, aJ cy (ad 49) 4 a11_most_5, aI cy (ad 50) 16 a11_on, aI cy (ad 51) 16 a11_often] → va_S A s.heap H locs → W p l e rm_X11_loop s m ([.ref (ad 11), .int x1, .int x2, .int x3] : List Value).toArray below meth c H locs 0 0 Q (F0 m 244 ls [.int t6, .ref (ad 11)]) := by
              intro t6 H locs ls hv hl hP hD hS
              unfold vJ_X11_loop_244 at hv
              refine va_put (D := D) (ci := 11) (v := .int t6) (ty := .int) (C := RX11) (T := TX11) (N := 35) hx hb hts in_X11_loop_11 tyX11 tyX11_ok nmX11 hown hK hP hD hS 0 rfl rfl 4 (by decide) (hts _ lk_X11_loop_109) (fun _ h9 => h9) rfl (by decide +kernel) rfl rfl (Nat.le_of_ble_eq_true rfl) dX11_loop_244 (fun H locs hP hD hS => ?_)
              have hP : va_P D vwCl [oX11 ad s11_d s11_stepMany x1 t3 t6 x3 s11_ticks s11_hand s11_g s11_beganElsewhere s11_dBefore s11_fBefore s11_fFirst s11_weightMany s11_tailTold, aI cy (ad 43) 16 a11_a, aI cy (ad 44) 4 a11_b, aI cy (ad 45) 4 a11_e, aI cy (ad 46) 4 a11_h, aJ cy (ad 47) 4 a11_sums, aJ cy (ad 48) 4 a11_least_4, aJ cy (ad 49) 4 a11_most_5, aI cy (ad 50) 16 a11_on, aI cy (ad 51) 16 a11_often] H := hP
              have hD : va_D A [oX11 ad s11_d s11_stepMany x1 t3 t6 x3 s11_ticks s11_hand s11_g s11_beganElsewhere s11_dBefore s11_fBefore s11_fFirst s11_weightMany s11_tailTold, aI cy (ad 43) 16 a11_a, aI cy (ad 44) 4 a11_b, aI cy (ad 45) 4 a11_e, aI cy (ad 46) 4 a11_h, aJ cy (ad 47) 4 a11_sums, aJ cy (ad 48) 4 a11_least_4, aJ cy (ad 49) 4 a11_most_5, aI cy (ad 50) 16 a11_on, aI cy (ad 51) 16 a11_often] := hD
              refine lv_iconst (v := 0) hx hb dX11_loop_247 (by decide) ?_
              refine lv_istore (lv' := [(6, .int (0 : Int32)), (0, .ref (ad 11))]) hx hb dX11_loop_248 hl (by decide) rfl (fun ls hl => ?_)
              have lp250 : ∀ (n250 : Nat) (l6_7 : Int32) (a11_a_8 : Nat → Int32) (H : Heap) (locs : List Loc) (ls : Array Slot), vfix (vF_X11_loop_250 a11_b a11_e a11_h a11_sums a11_on a11_often x1 x3 K t3 a11_least_4 a11_most_5 t6) n250 (l6_7, a11_a_8) → lv_has ls 7 [(6, .int l6_7), (0, .ref (ad 11))] → va_P D vwCl [oX11 ad s11_d s11_stepMany x1 t3 t6 x3 s11_ticks s11_hand s11_g s11_beganElsewhere s11_dBefore s11_fBefore s11_fFirst s11_weightMany s11_tailTold, aI cy (ad 43) 16 a11_a_8, aI cy (ad 44) 4 a11_b, aI cy (ad 45) 4 a11_e, aI cy (ad 46) 4 a11_h, aJ cy (ad 47) 4 a11_sums, aJ cy (ad 48) 4 a11_least_4, aJ cy (ad 49) 4 a11_most_5, aI cy (ad 50) 16 a11_on, aI cy (ad 51) 16 a11_often] H → va_D A [oX11 ad s11_d s11_stepMany x1 t3 t6 x3 s11_ticks s11_hand s11_g s11_beganElsewhere s11_dBefore s11_fBefore s11_fFirst s11_weightMany s11_tailTold, aI cy (ad 43) 16 a11_a_8, aI cy (ad 44) 4 a11_b, aI cy (ad 45) 4 a11_e, aI cy (ad 46) 4 a11_h, aJ cy (ad 47) 4 a11_sums, aJ cy (ad 48) 4 a11_least_4, aJ cy (ad 49) 4 a11_most_5, aI cy (ad 50) 16 a11_on, aI cy (ad 51) 16 a11_often] → va_S A s.heap H locs → W p l e rm_X11_loop s m ([.ref (ad 11), .int x1, .int x2, .int x3] : List Value).toArray below meth c H locs 0 0 Q (F0 m 250 ls []) := by
                intro n250
                induction n250 with
                | zero => intro l6_7 a11_a_8 H locs ls hv; exact hv.elim
                | succ n250 ih250 =>
                  intro l6_7 a11_a_8 H locs ls hv hl hP hD hS
                  have hv : vB_X11_loop_250 a11_b a11_e a11_h a11_sums a11_on a11_often x1 x3 K t3 a11_least_4 a11_most_5 t6 (fun z0 z1 => vfix (vF_X11_loop_250 a11_b a11_e a11_h a11_sums a11_on a11_often x1 x3 K t3 a11_least_4 a11_most_5 t6) n250 (z0, z1)) l6_7 a11_a_8 := hv
                  unfold vB_X11_loop_250 at hv
                  refine lv_iload hx hb dX11_loop_250 (lv_at hl 0 rfl) ?_
                  refine lv_bipush (v := 16) hx hb dX11_loop_252 (by decide) ?_
                  refine lv_icmp_ge (tgt := 271) hx hb dX11_loop_254 (by decide) (fun c_254 => ?_) (fun c_254 => ?_)
                  · have hv := hv.1 c_254
                    refine lv_iconst (v := 0) hx hb dX11_loop_271 (by decide) ?_
                    refine lv_istore (lv' := [(6, .int (0 : Int32)), (0, .ref (ad 11))]) hx hb dX11_loop_272 hl (by decide) rfl (fun ls hl => ?_)
                    have lp274 : ∀ (n274 : Nat) (l6_9 : Int32) (a11_b_10 : Nat → Int32) (a11_e_11 : Nat → Int32) (a11_h_12 : Nat → Int32) (H : Heap) (locs : List Loc) (ls : Array Slot), vfix (vF_X11_loop_274 a11_sums a11_on a11_often x1 x3 K t3 a11_least_4 a11_most_5 t6 a11_a_8) n274 (l6_9, a11_b_10, a11_e_11, a11_h_12) → lv_has ls 7 [(6, .int l6_9), (0, .ref (ad 11))] → va_P D vwCl [oX11 ad s11_d s11_stepMany x1 t3 t6 x3 s11_ticks s11_hand s11_g s11_beganElsewhere s11_dBefore s11_fBefore s11_fFirst s11_weightMany s11_tailTold, aI cy (ad 43) 16 a11_a_8, aI cy (ad 44) 4 a11_b_10, aI cy (ad 45) 4 a11_e_11, aI cy (ad 46) 4 a11_h_12, aJ cy (ad 47) 4 a11_sums, aJ cy (ad 48) 4 a11_least_4, aJ cy (ad 49) 4 a11_most_5, aI cy (ad 50) 16 a11_on, aI cy (ad 51) 16 a11_often] H → va_D A [oX11 ad s11_d s11_stepMany x1 t3 t6 x3 s11_ticks s11_hand s11_g s11_beganElsewhere s11_dBefore s11_fBefore s11_fFirst s11_weightMany s11_tailTold, aI cy (ad 43) 16 a11_a_8, aI cy (ad 44) 4 a11_b_10, aI cy (ad 45) 4 a11_e_11, aI cy (ad 46) 4 a11_h_12, aJ cy (ad 47) 4 a11_sums, aJ cy (ad 48) 4 a11_least_4, aJ cy (ad 49) 4 a11_most_5, aI cy (ad 50) 16 a11_on, aI cy (ad 51) 16 a11_often] → va_S A s.heap H locs → W p l e rm_X11_loop s m ([.ref (ad 11), .int x1, .int x2, .int x3] : List Value).toArray below meth c H locs 0 0 Q (F0 m 274 ls []) := by
                      intro n274
                      induction n274 with
                      | zero => intro l6_9 a11_b_10 a11_e_11 a11_h_12 H locs ls hv; exact hv.elim
                      | succ n274 ih274 =>
                        intro l6_9 a11_b_10 a11_e_11 a11_h_12 H locs ls hv hl hP hD hS
                        have hv : vB_X11_loop_274 a11_sums a11_on a11_often x1 x3 K t3 a11_least_4 a11_most_5 t6 a11_a_8 (fun z0 z1 z2 z3 => vfix (vF_X11_loop_274 a11_sums a11_on a11_often x1 x3 K t3 a11_least_4 a11_most_5 t6 a11_a_8) n274 (z0, z1, z2, z3)) l6_9 a11_b_10 a11_e_11 a11_h_12 := hv
                        unfold vB_X11_loop_274 at hv
                        refine lv_iload hx hb dX11_loop_274 (lv_at hl 0 rfl) ?_
                        refine lv_iconst (v := 4) hx hb dX11_loop_276 (by decide) ?_
                        refine lv_icmp_ge (tgt := 310) hx hb dX11_loop_277 (by decide) (fun c_277 => ?_) (fun c_277 => ?_)
                        · have hv := hv.1 c_277
                          refine lv_aload_n hx hb dX11_loop_310 rfl (lv_at hl 1 rfl) ?_
                          refine lv_iconst (v := 0) hx hb dX11_loop_311 (by decide) ?_
                          refine va_put (D := D) (ci := 11) (v := .int (0 : Int32)) (ty := .int) (C := RX11) (T := TX11) (N := 35) hx hb hts in_X11_loop_11 tyX11 tyX11_ok nmX11 hown hK hP hD hS 0 rfl rfl 14 (by decide) (hts _ lk_X11_loop_112) (fun _ h9 => h9) rfl (by decide +kernel) rfl rfl (Nat.le_of_ble_eq_true rfl) dX11_loop_312 (fun H locs hP hD hS => ?_)
                          have hP : va_P D vwCl [oX11 ad s11_d s11_stepMany x1 t3 t6 x3 s11_ticks s11_hand (0 : Int32) s11_beganElsewhere s11_dBefore s11_fBefore s11_fFirst s11_weightMany s11_tailTold, aI cy (ad 43) 16 a11_a_8, aI cy (ad 44) 4 a11_b_10, aI cy (ad 45) 4 a11_e_11, aI cy (ad 46) 4 a11_h_12, aJ cy (ad 47) 4 a11_sums, aJ cy (ad 48) 4 a11_least_4, aJ cy (ad 49) 4 a11_most_5, aI cy (ad 50) 16 a11_on, aI cy (ad 51) 16 a11_often] H := hP
                          have hD : va_D A [oX11 ad s11_d s11_stepMany x1 t3 t6 x3 s11_ticks s11_hand (0 : Int32) s11_beganElsewhere s11_dBefore s11_fBefore s11_fFirst s11_weightMany s11_tailTold, aI cy (ad 43) 16 a11_a_8, aI cy (ad 44) 4 a11_b_10, aI cy (ad 45) 4 a11_e_11, aI cy (ad 46) 4 a11_h_12, aJ cy (ad 47) 4 a11_sums, aJ cy (ad 48) 4 a11_least_4, aJ cy (ad 49) 4 a11_most_5, aI cy (ad 50) 16 a11_on, aI cy (ad 51) 16 a11_often] := hD
                          refine lv_aload_n hx hb dX11_loop_315 rfl (lv_at hl 1 rfl) ?_
                          have hPc := hP.sub (ws' := [oX11 ad s11_d s11_stepMany x1 t3 t6 x3 s11_ticks s11_hand (0 : Int32) s11_beganElsewhere s11_dBefore s11_fBefore s11_fFirst s11_weightMany s11_tailTold, aJ cy (ad 47) 4 a11_sums, aI cy (ad 50) 16 a11_on, aI cy (ad 51) 16 a11_often]) [0, 5, 8, 9] rfl
                          have hDc := hD.sub (ws' := [oX11 ad s11_d s11_stepMany x1 t3 t6 x3 s11_ticks s11_hand (0 : Int32) s11_beganElsewhere s11_dBefore s11_fBefore s11_fFirst s11_weightMany s11_tailTold, aJ cy (ad 47) 4 a11_sums, aI cy (ad 50) 16 a11_on, aI cy (ad 51) 16 a11_often]) [0, 5, 8, 9] (by decide) rfl
                          refine k_calv (wc := [oX11 ad s11_d s11_stepMany x1 t3 t6 x3 s11_ticks s11_hand (0 : Int32) s11_beganElsewhere s11_dBefore s11_fBefore s11_fFirst s11_weightMany s11_tailTold, aJ cy (ad 47) 4 a11_sums, aI cy (ad 50) 16 a11_on, aI cy (ad 51) 16 a11_often]) (wr := [aI cy (ad 43) 16 a11_a_8, aI cy (ad 44) 4 a11_b_10, aI cy (ad 45) 4 a11_e_11, aI cy (ad 46) 4 a11_h_12, aJ cy (ad 48) 4 a11_least_4, aJ cy (ad 49) 4 a11_most_5]) (va_runV (As := []) (rest := []) ⟨hx, hb, hml, hown, hts⟩ (m_X11_anew l D cy ad s11_d s11_stepMany x1 t3 t6 x3 s11_ticks s11_hand (0 : Int32) s11_beganElsewhere s11_dBefore s11_fBefore s11_fFirst s11_weightMany s11_tailTold a11_sums a11_on a11_often H.size hv) (cwV 0 hts gX11_loop_X11_anew rfl rfl rfl (by decide +kernel) ⟨Nat.le_of_ble_eq_true rfl, Nat.le_of_ble_eq_true rfl⟩) ⟨wd_blind, va_recv hK hPc (ci := 11) (q0 := 0) rfl rfl, wd_ok hPc hK hDc hN⟩ rfl rfl hl.1 rfl (lv_room (Nat.le_of_ble_eq_true rfl)) dX11_loop_316 ⟨Nat.le_of_ble_eq_true rfl, Nat.le_of_ble_eq_true rfl⟩) hP hD hS hA [0, 5, 8, 9] [1, 2, 3, 4, 6, 7] rfl rfl (by decide) (by decide) (fun u H locs hv hP hD hS => ?_)
                          obtain ⟨s11_ticks_13, s11_hand_14, s11_beganElsewhere_15, s11_dBefore_16, s11_fBefore_17, s11_fFirst_18, a11_sums_19, a11_on_20, a11_often_21⟩ := u
                          have hP : va_P D vwCl [oX11 ad s11_d s11_stepMany x1 t3 t6 x3 s11_ticks_13 s11_hand_14 (0 : Int32) s11_beganElsewhere_15 s11_dBefore_16 s11_fBefore_17 s11_fFirst_18 s11_weightMany s11_tailTold, aI cy (ad 43) 16 a11_a_8, aI cy (ad 44) 4 a11_b_10, aI cy (ad 45) 4 a11_e_11, aI cy (ad 46) 4 a11_h_12, aJ cy (ad 47) 4 a11_sums_19, aJ cy (ad 48) 4 a11_least_4, aJ cy (ad 49) 4 a11_most_5, aI cy (ad 50) 16 a11_on_20, aI cy (ad 51) 16 a11_often_21] H := hP.sub [6, 0, 1, 2, 3, 7, 4, 5, 8, 9] rfl
                          have hD : va_D A [oX11 ad s11_d s11_stepMany x1 t3 t6 x3 s11_ticks_13 s11_hand_14 (0 : Int32) s11_beganElsewhere_15 s11_dBefore_16 s11_fBefore_17 s11_fFirst_18 s11_weightMany s11_tailTold, aI cy (ad 43) 16 a11_a_8, aI cy (ad 44) 4 a11_b_10, aI cy (ad 45) 4 a11_e_11, aI cy (ad 46) 4 a11_h_12, aJ cy (ad 47) 4 a11_sums_19, aJ cy (ad 48) 4 a11_least_4, aJ cy (ad 49) 4 a11_most_5, aI cy (ad 50) 16 a11_on_20, aI cy (ad 51) 16 a11_often_21] := hD.sub [6, 0, 1, 2, 3, 7, 4, 5, 8, 9] (by decide) rfl
                          refine lv_iconst (v := 1) hx hb dX11_loop_319 (by decide) ?_
                          rw [← hQ]
                          exact k_zret hx hb hr hlocks hS (x1, t3, t6, x3, s11_ticks_13, s11_hand_14, (0 : Int32), s11_beganElsewhere_15, s11_dBefore_16, s11_fBefore_17, s11_fFirst_18, a11_a_8, a11_b_10, a11_e_11, a11_h_12, a11_sums_19, a11_least_4, a11_most_5, a11_on_20, a11_often_21) hP hD (by decide) hv dX11_loop_320
                        · have hv := hv.2 c_277
                          refine lv_aload_n hx hb dX11_loop_280 rfl (lv_at hl 1 rfl) ?_
                          refine va_get (D := D) (ci := 11) (v := .ref (ad 44)) (C := RX11) (T := TX11) (N := 35) hx hb hts in_X11_loop_11 hown hK hP 0 rfl rfl 11 (by decide) (hts _ lk_X11_loop_29) (fun _ h9 => h9) rfl dX11_loop_281 ?_
                          refine lv_iload hx hb dX11_loop_284 (lv_at hl 0 rfl) ?_
                          refine lv_iconst (v := 0) hx hb dX11_loop_286 (by decide) ?_
                          refine k_iast hx hb hK hP hD hS 2 0 rfl rfl hv.1 dX11_loop_287 (fun a11_b_22 H locs h_a11_b_22 hP hD hS => ?_)
                          have hv := hv.2 a11_b_22 h_a11_b_22
                          have hP : va_P D vwCl [oX11 ad s11_d s11_stepMany x1 t3 t6 x3 s11_ticks s11_hand s11_g s11_beganElsewhere s11_dBefore s11_fBefore s11_fFirst s11_weightMany s11_tailTold, aI cy (ad 43) 16 a11_a_8, aI cy (ad 44) 4 a11_b_22, aI cy (ad 45) 4 a11_e_11, aI cy (ad 46) 4 a11_h_12, aJ cy (ad 47) 4 a11_sums, aJ cy (ad 48) 4 a11_least_4, aJ cy (ad 49) 4 a11_most_5, aI cy (ad 50) 16 a11_on, aI cy (ad 51) 16 a11_often] H := hP
                          have hD : va_D A [oX11 ad s11_d s11_stepMany x1 t3 t6 x3 s11_ticks s11_hand s11_g s11_beganElsewhere s11_dBefore s11_fBefore s11_fFirst s11_weightMany s11_tailTold, aI cy (ad 43) 16 a11_a_8, aI cy (ad 44) 4 a11_b_22, aI cy (ad 45) 4 a11_e_11, aI cy (ad 46) 4 a11_h_12, aJ cy (ad 47) 4 a11_sums, aJ cy (ad 48) 4 a11_least_4, aJ cy (ad 49) 4 a11_most_5, aI cy (ad 50) 16 a11_on, aI cy (ad 51) 16 a11_often] := hD
                          refine lv_aload_n hx hb dX11_loop_288 rfl (lv_at hl 1 rfl) ?_
                          refine va_get (D := D) (ci := 11) (v := .ref (ad 45)) (C := RX11) (T := TX11) (N := 35) hx hb hts in_X11_loop_11 hown hK hP 0 rfl rfl 12 (by decide) (hts _ lk_X11_loop_32) (fun _ h9 => h9) rfl dX11_loop_289 ?_
                          refine lv_iload hx hb dX11_loop_292 (lv_at hl 0 rfl) ?_
                          refine lv_iconst (v := 0) hx hb dX11_loop_294 (by decide) ?_
                          refine k_iast hx hb hK hP hD hS 3 0 rfl rfl hv.1 dX11_loop_295 (fun a11_e_23 H locs h_a11_e_23 hP hD hS => ?_)
                          have hv := hv.2 a11_e_23 h_a11_e_23
                          have hP : va_P D vwCl [oX11 ad s11_d s11_stepMany x1 t3 t6 x3 s11_ticks s11_hand s11_g s11_beganElsewhere s11_dBefore s11_fBefore s11_fFirst s11_weightMany s11_tailTold, aI cy (ad 43) 16 a11_a_8, aI cy (ad 44) 4 a11_b_22, aI cy (ad 45) 4 a11_e_23, aI cy (ad 46) 4 a11_h_12, aJ cy (ad 47) 4 a11_sums, aJ cy (ad 48) 4 a11_least_4, aJ cy (ad 49) 4 a11_most_5, aI cy (ad 50) 16 a11_on, aI cy (ad 51) 16 a11_often] H := hP
                          have hD : va_D A [oX11 ad s11_d s11_stepMany x1 t3 t6 x3 s11_ticks s11_hand s11_g s11_beganElsewhere s11_dBefore s11_fBefore s11_fFirst s11_weightMany s11_tailTold, aI cy (ad 43) 16 a11_a_8, aI cy (ad 44) 4 a11_b_22, aI cy (ad 45) 4 a11_e_23, aI cy (ad 46) 4 a11_h_12, aJ cy (ad 47) 4 a11_sums, aJ cy (ad 48) 4 a11_least_4, aJ cy (ad 49) 4 a11_most_5, aI cy (ad 50) 16 a11_on, aI cy (ad 51) 16 a11_often] := hD
                          refine lv_aload_n hx hb dX11_loop_296 rfl (lv_at hl 1 rfl) ?_
                          refine va_get (D := D) (ci := 11) (v := .ref (ad 46)) (C := RX11) (T := TX11) (N := 35) hx hb hts in_X11_loop_11 hown hK hP 0 rfl rfl 13 (by decide) (hts _ lk_X11_loop_35) (fun _ h9 => h9) rfl dX11_loop_297 ?_
                          refine lv_iload hx hb dX11_loop_300 (lv_at hl 0 rfl) ?_
                          refine lv_iconst (v := 0) hx hb dX11_loop_302 (by decide) ?_
                          refine k_iast hx hb hK hP hD hS 4 0 rfl rfl hv.1 dX11_loop_303 (fun a11_h_24 H locs h_a11_h_24 hP hD hS => ?_)
                          have hv := hv.2 a11_h_24 h_a11_h_24
                          have hP : va_P D vwCl [oX11 ad s11_d s11_stepMany x1 t3 t6 x3 s11_ticks s11_hand s11_g s11_beganElsewhere s11_dBefore s11_fBefore s11_fFirst s11_weightMany s11_tailTold, aI cy (ad 43) 16 a11_a_8, aI cy (ad 44) 4 a11_b_22, aI cy (ad 45) 4 a11_e_23, aI cy (ad 46) 4 a11_h_24, aJ cy (ad 47) 4 a11_sums, aJ cy (ad 48) 4 a11_least_4, aJ cy (ad 49) 4 a11_most_5, aI cy (ad 50) 16 a11_on, aI cy (ad 51) 16 a11_often] H := hP
                          have hD : va_D A [oX11 ad s11_d s11_stepMany x1 t3 t6 x3 s11_ticks s11_hand s11_g s11_beganElsewhere s11_dBefore s11_fBefore s11_fFirst s11_weightMany s11_tailTold, aI cy (ad 43) 16 a11_a_8, aI cy (ad 44) 4 a11_b_22, aI cy (ad 45) 4 a11_e_23, aI cy (ad 46) 4 a11_h_24, aJ cy (ad 47) 4 a11_sums, aJ cy (ad 48) 4 a11_least_4, aJ cy (ad 49) 4 a11_most_5, aI cy (ad 50) 16 a11_on, aI cy (ad 51) 16 a11_often] := hD
                          obtain ⟨i25, h_i25⟩ : ∃ y : Int32, y = l6_9 + 1 := ⟨_, rfl⟩
                          refine lv_iinc (v := i25) (lv' := [(6, .int i25), (0, .ref (ad 11))]) hx hb dX11_loop_304 hl (k := 0) rfl (by rw [h_i25]; rfl) (by decide) rfl (fun ls hl => ?_)
                          have hv := hv i25 h_i25
                          refine lv_goto (tgt := 274) hx hb dX11_loop_307 (by decide) ?_
                          exact ih274 i25 a11_b_22 a11_e_23 a11_h_24 H locs ls hv (lv_sub hl [0, 1] rfl) hP hD hS
                    obtain ⟨nn, hv⟩ := hv
                    exact lp274 nn (0 : Int32) a11_b a11_e a11_h H locs ls hv (lv_sub hl [0, 1] rfl) hP hD hS
                  · have hv := hv.2 c_254
                    refine lv_aload_n hx hb dX11_loop_257 rfl (lv_at hl 1 rfl) ?_
                    refine va_get (D := D) (ci := 11) (v := .ref (ad 43)) (C := RX11) (T := TX11) (N := 35) hx hb hts in_X11_loop_11 hown hK hP 0 rfl rfl 10 (by decide) (hts _ lk_X11_loop_26) (fun _ h9 => h9) rfl dX11_loop_258 ?_
                    refine lv_iload hx hb dX11_loop_261 (lv_at hl 0 rfl) ?_
                    refine lv_iconst (v := 0) hx hb dX11_loop_263 (by decide) ?_
                    refine k_iast hx hb hK hP hD hS 1 0 rfl rfl hv.1 dX11_loop_264 (fun a11_a_26 H locs h_a11_a_26 hP hD hS => ?_)
                    have hv := hv.2 a11_a_26 h_a11_a_26
                    have hP : va_P D vwCl [oX11 ad s11_d s11_stepMany x1 t3 t6 x3 s11_ticks s11_hand s11_g s11_beganElsewhere s11_dBefore s11_fBefore s11_fFirst s11_weightMany s11_tailTold, aI cy (ad 43) 16 a11_a_26, aI cy (ad 44) 4 a11_b, aI cy (ad 45) 4 a11_e, aI cy (ad 46) 4 a11_h, aJ cy (ad 47) 4 a11_sums, aJ cy (ad 48) 4 a11_least_4, aJ cy (ad 49) 4 a11_most_5, aI cy (ad 50) 16 a11_on, aI cy (ad 51) 16 a11_often] H := hP
                    have hD : va_D A [oX11 ad s11_d s11_stepMany x1 t3 t6 x3 s11_ticks s11_hand s11_g s11_beganElsewhere s11_dBefore s11_fBefore s11_fFirst s11_weightMany s11_tailTold, aI cy (ad 43) 16 a11_a_26, aI cy (ad 44) 4 a11_b, aI cy (ad 45) 4 a11_e, aI cy (ad 46) 4 a11_h, aJ cy (ad 47) 4 a11_sums, aJ cy (ad 48) 4 a11_least_4, aJ cy (ad 49) 4 a11_most_5, aI cy (ad 50) 16 a11_on, aI cy (ad 51) 16 a11_often] := hD
                    obtain ⟨i27, h_i27⟩ : ∃ y : Int32, y = l6_7 + 1 := ⟨_, rfl⟩
                    refine lv_iinc (v := i27) (lv' := [(6, .int i27), (0, .ref (ad 11))]) hx hb dX11_loop_265 hl (k := 0) rfl (by rw [h_i27]; rfl) (by decide) rfl (fun ls hl => ?_)
                    have hv := hv i27 h_i27
                    refine lv_goto (tgt := 250) hx hb dX11_loop_268 (by decide) ?_
                    exact ih250 i27 a11_a_26 H locs ls hv (lv_sub hl [0, 1] rfl) hP hD hS
              obtain ⟨nn, hv⟩ := hv
              exact lp250 nn (0 : Int32) a11_a H locs ls hv (lv_sub hl [0, 1] rfl) hP hD hS
            refine lv_icmp_ne (tgt := 243) hx hb dX11_loop_236 (by decide) (fun c_236 => ?_) (fun c_236 => ?_)
            · have hv := hv.1 c_236
              refine lv_iconst (v := 0) hx hb dX11_loop_243 (by decide) ?_
              exact jn244 (0 : Int32) H locs ls hv (lv_sub hl [1] rfl) hP hD hS
            · have hv := hv.2 c_236
              refine lv_iload_n hx hb dX11_loop_239 rfl (lv_at hl 3 rfl) ?_
              refine lv_goto (tgt := 244) hx hb dX11_loop_240 (by decide) ?_
              exact jn244 x2 H locs ls hv (lv_sub hl [1] rfl) hP hD hS
          refine lv_icmp_eq (tgt := 217) hx hb dX11_loop_183 (by decide) (fun c_183 => ?_) (fun c_183 => ?_)
          · have hv := hv.1 c_183
            exact jn217 a11_least a11_most H locs ls hv (lv_sub hl [0, 1, 2, 3, 4] rfl) hP hD hS
          · have hv := hv.2 c_183
            refine lv_iconst (v := 0) hx hb dX11_loop_186 (by decide) ?_
            refine lv_istore (lv' := [(6, .int (0 : Int32)), (5, .int t3), (0, .ref (ad 11)), (1, .int x1), (2, .int x2), (3, .int x3)]) hx hb dX11_loop_187 hl (by decide) rfl (fun ls hl => ?_)
            have lp189 : ∀ (n189 : Nat) (l6_28 : Int32) (a11_least_29 : Nat → Int64) (a11_most_30 : Nat → Int64) (H : Heap) (locs : List Loc) (ls : Array Slot), vfix (vF_X11_loop_189 a11_a a11_b a11_e a11_h a11_sums a11_on a11_often x1 x2 x3 K t3) n189 (l6_28, a11_least_29, a11_most_30) → lv_has ls 7 [(6, .int l6_28), (5, .int t3), (0, .ref (ad 11)), (1, .int x1), (2, .int x2), (3, .int x3)] → va_P D vwCl [oX11 ad s11_d s11_stepMany s11_kind s11_many s11_partMany s11_rule s11_ticks s11_hand s11_g s11_beganElsewhere s11_dBefore s11_fBefore s11_fFirst s11_weightMany s11_tailTold, aI cy (ad 43) 16 a11_a, aI cy (ad 44) 4 a11_b, aI cy (ad 45) 4 a11_e, aI cy (ad 46) 4 a11_h, aJ cy (ad 47) 4 a11_sums, aJ cy (ad 48) 4 a11_least_29, aJ cy (ad 49) 4 a11_most_30, aI cy (ad 50) 16 a11_on, aI cy (ad 51) 16 a11_often] H → va_D A [oX11 ad s11_d s11_stepMany s11_kind s11_many s11_partMany s11_rule s11_ticks s11_hand s11_g s11_beganElsewhere s11_dBefore s11_fBefore s11_fFirst s11_weightMany s11_tailTold, aI cy (ad 43) 16 a11_a, aI cy (ad 44) 4 a11_b, aI cy (ad 45) 4 a11_e, aI cy (ad 46) 4 a11_h, aJ cy (ad 47) 4 a11_sums, aJ cy (ad 48) 4 a11_least_29, aJ cy (ad 49) 4 a11_most_30, aI cy (ad 50) 16 a11_on, aI cy (ad 51) 16 a11_often] → va_S A s.heap H locs → W p l e rm_X11_loop s m ([.ref (ad 11), .int x1, .int x2, .int x3] : List Value).toArray below meth c H locs 0 0 Q (F0 m 189 ls []) := by
              intro n189
              induction n189 with
              | zero => intro l6_28 a11_least_29 a11_most_30 H locs ls hv; exact hv.elim
              | succ n189 ih189 =>
                intro l6_28 a11_least_29 a11_most_30 H locs ls hv hl hP hD hS
                have hv : vB_X11_loop_189 a11_a a11_b a11_e a11_h a11_sums a11_on a11_often x1 x2 x3 K t3 (fun z0 z1 z2 => vfix (vF_X11_loop_189 a11_a a11_b a11_e a11_h a11_sums a11_on a11_often x1 x2 x3 K t3) n189 (z0, z1, z2)) l6_28 a11_least_29 a11_most_30 := hv
                unfold vB_X11_loop_189 at hv
                refine lv_iload hx hb dX11_loop_189 (lv_at hl 0 rfl) ?_
                refine lv_iconst (v := 4) hx hb dX11_loop_191 (by decide) ?_
                refine lv_icmp_ge (tgt := 217) hx hb dX11_loop_192 (by decide) (fun c_192 => ?_) (fun c_192 => ?_)
                · have hv := hv.1 c_192
                  exact jn217 a11_least_29 a11_most_30 H locs ls hv (lv_sub hl [1, 2, 3, 4, 5] rfl) hP hD hS
                · have hv := hv.2 c_192
                  refine lv_aload_n hx hb dX11_loop_195 rfl (lv_at hl 2 rfl) ?_
                  refine va_get (D := D) (ci := 11) (v := .ref (ad 48)) (C := RX11) (T := TX11) (N := 35) hx hb hts in_X11_loop_11 hown hK hP 0 rfl rfl 16 (by decide) (hts _ lk_X11_loop_42) (fun _ h9 => h9) rfl dX11_loop_196 ?_
                  refine lv_iload hx hb dX11_loop_199 (lv_at hl 0 rfl) ?_
                  refine lv_lconst (v := 0) hx hb dX11_loop_201 (by decide) ?_
                  refine k_last hx hb hK hP hD hS 6 1 rfl rfl hv.1 dX11_loop_202 (fun a11_least_31 H locs h_a11_least_31 hP hD hS => ?_)
                  have hv := hv.2 a11_least_31 h_a11_least_31
                  have hP : va_P D vwCl [oX11 ad s11_d s11_stepMany s11_kind s11_many s11_partMany s11_rule s11_ticks s11_hand s11_g s11_beganElsewhere s11_dBefore s11_fBefore s11_fFirst s11_weightMany s11_tailTold, aI cy (ad 43) 16 a11_a, aI cy (ad 44) 4 a11_b, aI cy (ad 45) 4 a11_e, aI cy (ad 46) 4 a11_h, aJ cy (ad 47) 4 a11_sums, aJ cy (ad 48) 4 a11_least_31, aJ cy (ad 49) 4 a11_most_30, aI cy (ad 50) 16 a11_on, aI cy (ad 51) 16 a11_often] H := hP
                  have hD : va_D A [oX11 ad s11_d s11_stepMany s11_kind s11_many s11_partMany s11_rule s11_ticks s11_hand s11_g s11_beganElsewhere s11_dBefore s11_fBefore s11_fFirst s11_weightMany s11_tailTold, aI cy (ad 43) 16 a11_a, aI cy (ad 44) 4 a11_b, aI cy (ad 45) 4 a11_e, aI cy (ad 46) 4 a11_h, aJ cy (ad 47) 4 a11_sums, aJ cy (ad 48) 4 a11_least_31, aJ cy (ad 49) 4 a11_most_30, aI cy (ad 50) 16 a11_on, aI cy (ad 51) 16 a11_often] := hD
                  refine lv_aload_n hx hb dX11_loop_203 rfl (lv_at hl 2 rfl) ?_
                  refine va_get (D := D) (ci := 11) (v := .ref (ad 49)) (C := RX11) (T := TX11) (N := 35) hx hb hts in_X11_loop_11 hown hK hP 0 rfl rfl 17 (by decide) (hts _ lk_X11_loop_45) (fun _ h9 => h9) rfl dX11_loop_204 ?_
                  refine lv_iload hx hb dX11_loop_207 (lv_at hl 0 rfl) ?_
                  refine lv_lconst (v := 0) hx hb dX11_loop_209 (by decide) ?_
                  refine k_last hx hb hK hP hD hS 7 1 rfl rfl hv.1 dX11_loop_210 (fun a11_most_32 H locs h_a11_most_32 hP hD hS => ?_)
                  have hv := hv.2 a11_most_32 h_a11_most_32
                  have hP : va_P D vwCl [oX11 ad s11_d s11_stepMany s11_kind s11_many s11_partMany s11_rule s11_ticks s11_hand s11_g s11_beganElsewhere s11_dBefore s11_fBefore s11_fFirst s11_weightMany s11_tailTold, aI cy (ad 43) 16 a11_a, aI cy (ad 44) 4 a11_b, aI cy (ad 45) 4 a11_e, aI cy (ad 46) 4 a11_h, aJ cy (ad 47) 4 a11_sums, aJ cy (ad 48) 4 a11_least_31, aJ cy (ad 49) 4 a11_most_32, aI cy (ad 50) 16 a11_on, aI cy (ad 51) 16 a11_often] H := hP
                  have hD : va_D A [oX11 ad s11_d s11_stepMany s11_kind s11_many s11_partMany s11_rule s11_ticks s11_hand s11_g s11_beganElsewhere s11_dBefore s11_fBefore s11_fFirst s11_weightMany s11_tailTold, aI cy (ad 43) 16 a11_a, aI cy (ad 44) 4 a11_b, aI cy (ad 45) 4 a11_e, aI cy (ad 46) 4 a11_h, aJ cy (ad 47) 4 a11_sums, aJ cy (ad 48) 4 a11_least_31, aJ cy (ad 49) 4 a11_most_32, aI cy (ad 50) 16 a11_on, aI cy (ad 51) 16 a11_often] := hD
                  obtain ⟨i33, h_i33⟩ : ∃ y : Int32, y = l6_28 + 1 := ⟨_, rfl⟩
                  refine lv_iinc (v := i33) (lv' := [(6, .int i33), (5, .int t3), (0, .ref (ad 11)), (1, .int x1), (2, .int x2), (3, .int x3)]) hx hb dX11_loop_211 hl (k := 0) rfl (by rw [h_i33]; rfl) (by decide) rfl (fun ls hl => ?_)
                  have hv := hv i33 h_i33
                  refine lv_goto (tgt := 189) hx hb dX11_loop_214 (by decide) ?_
                  exact ih189 i33 a11_least_31 a11_most_32 H locs ls hv (lv_sub hl [0, 1, 2, 3, 4, 5] rfl) hP hD hS
            obtain ⟨nn, hv⟩ := hv
            exact lp189 nn (0 : Int32) a11_least a11_most H locs ls hv (lv_sub hl [0, 1, 2, 3, 4, 5] rfl) hP hD hS
        have jn161 : ∀ (H : Heap) (locs : List Loc) (ls : Array Slot), vJ_X11_loop_161 s11_many a11_a a11_b a11_e a11_h a11_sums a11_least a11_most a11_on a11_often x1 x2 x3 K → lv_has ls 7 [(0, .ref (ad 11)), (1, .int x1), (2, .int x2), (3, .int x3)] → va_P D vwCl [oX11 ad s11_d s11_stepMany s11_kind s11_many s11_partMany s11_rule s11_ticks s11_hand s11_g s11_beganElsewhere s11_dBefore s11_fBefore s11_fFirst s11_weightMany s11_tailTold, aI cy (ad 43) 16 a11_a, aI cy (ad 44) 4 a11_b, aI cy (ad 45) 4 a11_e, aI cy (ad 46) 4 a11_h, aJ cy (ad 47) 4 a11_sums, aJ cy (ad 48) 4 a11_least, aJ cy (ad 49) 4 a11_most, aI cy (ad 50) 16 a11_on, aI cy (ad 51) 16 a11_often] H → va_D A [oX11 ad s11_d s11_stepMany s11_kind s11_many s11_partMany s11_rule s11_ticks s11_hand s11_g s11_beganElsewhere s11_dBefore s11_fBefore s11_fFirst s11_weightMany s11_tailTold, aI cy (ad 43) 16 a11_a, aI cy (ad 44) 4 a11_b, aI cy (ad 45) 4 a11_e, aI cy (ad 46) 4 a11_h, aJ cy (ad 47) 4 a11_sums, aJ cy (ad 48) 4 a11_least, aJ cy (ad 49) 4 a11_most, aI cy (ad 50) 16 a11_on, aI cy (ad 51) 16 a11_often] → va_S A s.heap H locs → W p l e rm_X11_loop s m ([.ref (ad 11), .int x1, .int x2, .int x3] : List Value).toArray below meth c H locs 0 0 Q (F0 m 161 ls []) := by
          intro H locs ls hv hl hP hD hS
          unfold vJ_X11_loop_161 at hv
          refine lv_iload_n hx hb dX11_loop_161 rfl (lv_at hl 2 rfl) ?_
          refine lv_goto (tgt := 175) hx hb dX11_loop_162 (by decide) ?_
          exact jn175 x2 H locs ls hv (lv_sub hl [0, 1, 2, 3] rfl) hP hD hS
        refine lv_icmp_eq (tgt := 161) hx hb dX11_loop_153 (by decide) (fun c_153 => ?_) (fun c_153 => ?_)
        · have hv := hv.1 c_153
          exact jn161  H locs ls hv (lv_sub hl [1, 2, 3, 4] rfl) hP hD hS
        · have hv := hv.2 c_153
          refine lv_iload_n hx hb dX11_loop_156 rfl (lv_at hl 2 rfl) ?_
          refine lv_iconst (v := 3) hx hb dX11_loop_157 (by decide) ?_
          refine lv_icmp_ne (tgt := 165) hx hb dX11_loop_158 (by decide) (fun c_158 => ?_) (fun c_158 => ?_)
          · have hv := hv.1 c_158
            refine lv_iload_n hx hb dX11_loop_165 rfl (lv_at hl 2 rfl) ?_
            refine lv_iconst (v := 1) hx hb dX11_loop_166 (by decide) ?_
            refine lv_icmp_ne (tgt := 174) hx hb dX11_loop_167 (by decide) (fun c_167 => ?_) (fun c_167 => ?_)
            · have hv := hv.1 c_167
              refine lv_iconst (v := 1) hx hb dX11_loop_174 (by decide) ?_
              exact jn175 (1 : Int32) H locs ls hv (lv_sub hl [1, 2, 3, 4] rfl) hP hD hS
            · have hv := hv.2 c_167
              refine lv_iconst (v := 2) hx hb dX11_loop_170 (by decide) ?_
              refine lv_goto (tgt := 175) hx hb dX11_loop_171 (by decide) ?_
              exact jn175 (2 : Int32) H locs ls hv (lv_sub hl [1, 2, 3, 4] rfl) hP hD hS
          · have hv := hv.2 c_158
            exact jn161  H locs ls hv (lv_sub hl [1, 2, 3, 4] rfl) hP hD hS
      · have hv := hv.2 c_146
        refine lv_iconst (v := 0) hx hb dX11_loop_149 (by decide) ?_
        rw [← hQ]
        exact k_zret hx hb hr hlocks hS (s11_kind, s11_many, s11_partMany, s11_rule, s11_ticks, s11_hand, s11_g, s11_beganElsewhere, s11_dBefore, s11_fBefore, s11_fFirst, a11_a, a11_b, a11_e, a11_h, a11_sums, a11_least, a11_most, a11_on, a11_often) hP hD (by decide) hv dX11_loop_150
    refine lv_icmp_ne (tgt := 67) hx hb dX11_loop_39 (by decide) (fun c_39 => ?_) (fun c_39 => ?_)
    · have hv := hv.1 c_39
      refine lv_iload_n hx hb dX11_loop_67 rfl (lv_at hl 2 rfl) ?_
      refine lv_iconst (v := 3) hx hb dX11_loop_68 (by decide) ?_
      refine lv_icmp_ne (tgt := 97) hx hb dX11_loop_69 (by decide) (fun c_69 => ?_) (fun c_69 => ?_)
      · have hv := hv.1 c_69
        refine lv_iload_n hx hb dX11_loop_97 rfl (lv_at hl 2 rfl) ?_
        refine lv_iconst (v := 4) hx hb dX11_loop_98 (by decide) ?_
        refine lv_icmp_ne (tgt := 128) hx hb dX11_loop_99 (by decide) (fun c_99 => ?_) (fun c_99 => ?_)
        · have hv := hv.1 c_99
          refine lv_iload hx hb dX11_loop_128 (lv_at hl 0 rfl) ?_
          have jn142 : ∀ (t34 : Int32) (H : Heap) (locs : List Loc) (ls : Array Slot), vJ_X11_loop_142 s11_kind s11_many s11_partMany s11_rule s11_ticks s11_hand s11_g s11_beganElsewhere s11_dBefore s11_fBefore s11_fFirst a11_a a11_b a11_e a11_h a11_sums a11_least a11_most a11_on a11_often x1 x2 x3 K t34 → lv_has ls 7 [(0, .ref (ad 11)), (1, .int x1), (2, .int x2), (3, .int x3)] → va_P D vwCl [oX11 ad s11_d s11_stepMany s11_kind s11_many s11_partMany s11_rule s11_ticks s11_hand s11_g s11_beganElsewhere s11_dBefore s11_fBefore s11_fFirst s11_weightMany s11_tailTold, aI cy (ad 43) 16 a11_a, aI cy (ad 44) 4 a11_b, aI cy (ad 45) 4 a11_e, aI cy (ad 46) 4 a11_h, aJ cy (ad 47) 4 a11_sums, aJ cy (ad 48) 4 a11_least, aJ cy (ad 49) 4 a11_most, aI cy (ad 50) 16 a11_on, aI cy (ad 51) 16 a11_often] H → va_D A [oX11 ad s11_d s11_stepMany s11_kind s11_many s11_partMany s11_rule s11_ticks s11_hand s11_g s11_beganElsewhere s11_dBefore s11_fBefore s11_fFirst s11_weightMany s11_tailTold, aI cy (ad 43) 16 a11_a, aI cy (ad 44) 4 a11_b, aI cy (ad 45) 4 a11_e, aI cy (ad 46) 4 a11_h, aJ cy (ad 47) 4 a11_sums, aJ cy (ad 48) 4 a11_least, aJ cy (ad 49) 4 a11_most, aI cy (ad 50) 16 a11_on, aI cy (ad 51) 16 a11_often] → va_S A s.heap H locs → W p l e rm_X11_loop s m ([.ref (ad 11), .int x1, .int x2, .int x3] : List Value).toArray below meth c H locs 0 0 Q (F0 m 142 ls [.int t34]) := by
            intro t34 H locs ls hv hl hP hD hS
            unfold vJ_X11_loop_142 at hv
            refine lv_istore (lv' := [(4, .int t34), (0, .ref (ad 11)), (1, .int x1), (2, .int x2), (3, .int x3)]) hx hb dX11_loop_142 hl (by decide) rfl (fun ls hl => ?_)
            exact jn144 t34 H locs ls hv (lv_sub hl [0, 1, 2, 3, 4] rfl) hP hD hS
          have jn141 : ∀ (H : Heap) (locs : List Loc) (ls : Array Slot), vJ_X11_loop_141 s11_kind s11_many s11_partMany s11_rule s11_ticks s11_hand s11_g s11_beganElsewhere s11_dBefore s11_fBefore s11_fFirst a11_a a11_b a11_e a11_h a11_sums a11_least a11_most a11_on a11_often x1 x2 x3 K → lv_has ls 7 [(0, .ref (ad 11)), (1, .int x1), (2, .int x2), (3, .int x3)] → va_P D vwCl [oX11 ad s11_d s11_stepMany s11_kind s11_many s11_partMany s11_rule s11_ticks s11_hand s11_g s11_beganElsewhere s11_dBefore s11_fBefore s11_fFirst s11_weightMany s11_tailTold, aI cy (ad 43) 16 a11_a, aI cy (ad 44) 4 a11_b, aI cy (ad 45) 4 a11_e, aI cy (ad 46) 4 a11_h, aJ cy (ad 47) 4 a11_sums, aJ cy (ad 48) 4 a11_least, aJ cy (ad 49) 4 a11_most, aI cy (ad 50) 16 a11_on, aI cy (ad 51) 16 a11_often] H → va_D A [oX11 ad s11_d s11_stepMany s11_kind s11_many s11_partMany s11_rule s11_ticks s11_hand s11_g s11_beganElsewhere s11_dBefore s11_fBefore s11_fFirst s11_weightMany s11_tailTold, aI cy (ad 43) 16 a11_a, aI cy (ad 44) 4 a11_b, aI cy (ad 45) 4 a11_e, aI cy (ad 46) 4 a11_h, aJ cy (ad 47) 4 a11_sums, aJ cy (ad 48) 4 a11_least, aJ cy (ad 49) 4 a11_most, aI cy (ad 50) 16 a11_on, aI cy (ad 51) 16 a11_often] → va_S A s.heap H locs → W p l e rm_X11_loop s m ([.ref (ad 11), .int x1, .int x2, .int x3] : List Value).toArray below meth c H locs 0 0 Q (F0 m 141 ls []) := by
            intro H locs ls hv hl hP hD hS
            unfold vJ_X11_loop_141 at hv
            refine lv_iconst (v := 0) hx hb dX11_loop_141 (by decide) ?_
            exact jn142 (0 : Int32) H locs ls hv (lv_sub hl [0, 1, 2, 3] rfl) hP hD hS
          refine lv_if_eq (tgt := 141) hx hb dX11_loop_130 (by decide) (fun c_130 => ?_) (fun c_130 => ?_)
          · have hv := hv.1 c_130
            exact jn141  H locs ls hv (lv_sub hl [1, 2, 3, 4] rfl) hP hD hS
          · have hv := hv.2 c_130
            refine lv_iload_n hx hb dX11_loop_133 rfl (lv_at hl 3 rfl) ?_
            refine lv_if_ne (tgt := 141) hx hb dX11_loop_134 (by decide) (fun c_134 => ?_) (fun c_134 => ?_)
            · have hv := hv.1 c_134
              exact jn141  H locs ls hv (lv_sub hl [1, 2, 3, 4] rfl) hP hD hS
            · have hv := hv.2 c_134
              refine lv_iconst (v := 1) hx hb dX11_loop_137 (by decide) ?_
              refine lv_goto (tgt := 142) hx hb dX11_loop_138 (by decide) ?_
              exact jn142 (1 : Int32) H locs ls hv (lv_sub hl [1, 2, 3, 4] rfl) hP hD hS
        · have hv := hv.2 c_99
          refine lv_iload hx hb dX11_loop_102 (lv_at hl 0 rfl) ?_
          have jn123 : ∀ (t35 : Int32) (H : Heap) (locs : List Loc) (ls : Array Slot), vJ_X11_loop_123 s11_kind s11_many s11_partMany s11_rule s11_ticks s11_hand s11_g s11_beganElsewhere s11_dBefore s11_fBefore s11_fFirst a11_a a11_b a11_e a11_h a11_sums a11_least a11_most a11_on a11_often x1 x2 x3 K t35 → lv_has ls 7 [(0, .ref (ad 11)), (1, .int x1), (2, .int x2), (3, .int x3)] → va_P D vwCl [oX11 ad s11_d s11_stepMany s11_kind s11_many s11_partMany s11_rule s11_ticks s11_hand s11_g s11_beganElsewhere s11_dBefore s11_fBefore s11_fFirst s11_weightMany s11_tailTold, aI cy (ad 43) 16 a11_a, aI cy (ad 44) 4 a11_b, aI cy (ad 45) 4 a11_e, aI cy (ad 46) 4 a11_h, aJ cy (ad 47) 4 a11_sums, aJ cy (ad 48) 4 a11_least, aJ cy (ad 49) 4 a11_most, aI cy (ad 50) 16 a11_on, aI cy (ad 51) 16 a11_often] H → va_D A [oX11 ad s11_d s11_stepMany s11_kind s11_many s11_partMany s11_rule s11_ticks s11_hand s11_g s11_beganElsewhere s11_dBefore s11_fBefore s11_fFirst s11_weightMany s11_tailTold, aI cy (ad 43) 16 a11_a, aI cy (ad 44) 4 a11_b, aI cy (ad 45) 4 a11_e, aI cy (ad 46) 4 a11_h, aJ cy (ad 47) 4 a11_sums, aJ cy (ad 48) 4 a11_least, aJ cy (ad 49) 4 a11_most, aI cy (ad 50) 16 a11_on, aI cy (ad 51) 16 a11_often] → va_S A s.heap H locs → W p l e rm_X11_loop s m ([.ref (ad 11), .int x1, .int x2, .int x3] : List Value).toArray below meth c H locs 0 0 Q (F0 m 123 ls [.int t35]) := by
            intro t35 H locs ls hv hl hP hD hS
            unfold vJ_X11_loop_123 at hv
            refine lv_istore (lv' := [(4, .int t35), (0, .ref (ad 11)), (1, .int x1), (2, .int x2), (3, .int x3)]) hx hb dX11_loop_123 hl (by decide) rfl (fun ls hl => ?_)
            refine lv_goto (tgt := 144) hx hb dX11_loop_125 (by decide) ?_
            exact jn144 t35 H locs ls hv (lv_sub hl [0, 1, 2, 3, 4] rfl) hP hD hS
          have jn122 : ∀ (H : Heap) (locs : List Loc) (ls : Array Slot), vJ_X11_loop_122 s11_kind s11_many s11_partMany s11_rule s11_ticks s11_hand s11_g s11_beganElsewhere s11_dBefore s11_fBefore s11_fFirst a11_a a11_b a11_e a11_h a11_sums a11_least a11_most a11_on a11_often x1 x2 x3 K → lv_has ls 7 [(0, .ref (ad 11)), (1, .int x1), (2, .int x2), (3, .int x3)] → va_P D vwCl [oX11 ad s11_d s11_stepMany s11_kind s11_many s11_partMany s11_rule s11_ticks s11_hand s11_g s11_beganElsewhere s11_dBefore s11_fBefore s11_fFirst s11_weightMany s11_tailTold, aI cy (ad 43) 16 a11_a, aI cy (ad 44) 4 a11_b, aI cy (ad 45) 4 a11_e, aI cy (ad 46) 4 a11_h, aJ cy (ad 47) 4 a11_sums, aJ cy (ad 48) 4 a11_least, aJ cy (ad 49) 4 a11_most, aI cy (ad 50) 16 a11_on, aI cy (ad 51) 16 a11_often] H → va_D A [oX11 ad s11_d s11_stepMany s11_kind s11_many s11_partMany s11_rule s11_ticks s11_hand s11_g s11_beganElsewhere s11_dBefore s11_fBefore s11_fFirst s11_weightMany s11_tailTold, aI cy (ad 43) 16 a11_a, aI cy (ad 44) 4 a11_b, aI cy (ad 45) 4 a11_e, aI cy (ad 46) 4 a11_h, aJ cy (ad 47) 4 a11_sums, aJ cy (ad 48) 4 a11_least, aJ cy (ad 49) 4 a11_most, aI cy (ad 50) 16 a11_on, aI cy (ad 51) 16 a11_often] → va_S A s.heap H locs → W p l e rm_X11_loop s m ([.ref (ad 11), .int x1, .int x2, .int x3] : List Value).toArray below meth c H locs 0 0 Q (F0 m 122 ls []) := by
            intro H locs ls hv hl hP hD hS
            unfold vJ_X11_loop_122 at hv
            refine lv_iconst (v := 0) hx hb dX11_loop_122 (by decide) ?_
            exact jn123 (0 : Int32) H locs ls hv (lv_sub hl [0, 1, 2, 3] rfl) hP hD hS
          refine lv_if_eq (tgt := 122) hx hb dX11_loop_104 (by decide) (fun c_104 => ?_) (fun c_104 => ?_)
          · have hv := hv.1 c_104
            exact jn122  H locs ls hv (lv_sub hl [1, 2, 3, 4] rfl) hP hD hS
          · have hv := hv.2 c_104
            refine lv_iload_n hx hb dX11_loop_107 rfl (lv_at hl 3 rfl) ?_
            refine lv_iconst (v := 2) hx hb dX11_loop_108 (by decide) ?_
            refine lv_icmp_lt (tgt := 122) hx hb dX11_loop_109 (by decide) (fun c_109 => ?_) (fun c_109 => ?_)
            · have hv := hv.1 c_109
              exact jn122  H locs ls hv (lv_sub hl [1, 2, 3, 4] rfl) hP hD hS
            · have hv := hv.2 c_109
              refine lv_iload_n hx hb dX11_loop_112 rfl (lv_at hl 3 rfl) ?_
              refine lv_bipush (v := 16) hx hb dX11_loop_113 (by decide) ?_
              refine lv_icmp_gt (tgt := 122) hx hb dX11_loop_115 (by decide) (fun c_115 => ?_) (fun c_115 => ?_)
              · have hv := hv.1 c_115
                exact jn122  H locs ls hv (lv_sub hl [1, 2, 3, 4] rfl) hP hD hS
              · have hv := hv.2 c_115
                refine lv_iconst (v := 1) hx hb dX11_loop_118 (by decide) ?_
                refine lv_goto (tgt := 123) hx hb dX11_loop_119 (by decide) ?_
                exact jn123 (1 : Int32) H locs ls hv (lv_sub hl [1, 2, 3, 4] rfl) hP hD hS
      · have hv := hv.2 c_69
        refine lv_iload hx hb dX11_loop_72 (lv_at hl 0 rfl) ?_
        have jn92 : ∀ (t36 : Int32) (H : Heap) (locs : List Loc) (ls : Array Slot), vJ_X11_loop_92 s11_kind s11_many s11_partMany s11_rule s11_ticks s11_hand s11_g s11_beganElsewhere s11_dBefore s11_fBefore s11_fFirst a11_a a11_b a11_e a11_h a11_sums a11_least a11_most a11_on a11_often x1 x2 x3 K t36 → lv_has ls 7 [(0, .ref (ad 11)), (1, .int x1), (2, .int x2), (3, .int x3)] → va_P D vwCl [oX11 ad s11_d s11_stepMany s11_kind s11_many s11_partMany s11_rule s11_ticks s11_hand s11_g s11_beganElsewhere s11_dBefore s11_fBefore s11_fFirst s11_weightMany s11_tailTold, aI cy (ad 43) 16 a11_a, aI cy (ad 44) 4 a11_b, aI cy (ad 45) 4 a11_e, aI cy (ad 46) 4 a11_h, aJ cy (ad 47) 4 a11_sums, aJ cy (ad 48) 4 a11_least, aJ cy (ad 49) 4 a11_most, aI cy (ad 50) 16 a11_on, aI cy (ad 51) 16 a11_often] H → va_D A [oX11 ad s11_d s11_stepMany s11_kind s11_many s11_partMany s11_rule s11_ticks s11_hand s11_g s11_beganElsewhere s11_dBefore s11_fBefore s11_fFirst s11_weightMany s11_tailTold, aI cy (ad 43) 16 a11_a, aI cy (ad 44) 4 a11_b, aI cy (ad 45) 4 a11_e, aI cy (ad 46) 4 a11_h, aJ cy (ad 47) 4 a11_sums, aJ cy (ad 48) 4 a11_least, aJ cy (ad 49) 4 a11_most, aI cy (ad 50) 16 a11_on, aI cy (ad 51) 16 a11_often] → va_S A s.heap H locs → W p l e rm_X11_loop s m ([.ref (ad 11), .int x1, .int x2, .int x3] : List Value).toArray below meth c H locs 0 0 Q (F0 m 92 ls [.int t36]) := by
          intro t36 H locs ls hv hl hP hD hS
          unfold vJ_X11_loop_92 at hv
          refine lv_istore (lv' := [(4, .int t36), (0, .ref (ad 11)), (1, .int x1), (2, .int x2), (3, .int x3)]) hx hb dX11_loop_92 hl (by decide) rfl (fun ls hl => ?_)
          refine lv_goto (tgt := 144) hx hb dX11_loop_94 (by decide) ?_
          exact jn144 t36 H locs ls hv (lv_sub hl [0, 1, 2, 3, 4] rfl) hP hD hS
        have jn91 : ∀ (H : Heap) (locs : List Loc) (ls : Array Slot), vJ_X11_loop_91 s11_kind s11_many s11_partMany s11_rule s11_ticks s11_hand s11_g s11_beganElsewhere s11_dBefore s11_fBefore s11_fFirst a11_a a11_b a11_e a11_h a11_sums a11_least a11_most a11_on a11_often x1 x2 x3 K → lv_has ls 7 [(0, .ref (ad 11)), (1, .int x1), (2, .int x2), (3, .int x3)] → va_P D vwCl [oX11 ad s11_d s11_stepMany s11_kind s11_many s11_partMany s11_rule s11_ticks s11_hand s11_g s11_beganElsewhere s11_dBefore s11_fBefore s11_fFirst s11_weightMany s11_tailTold, aI cy (ad 43) 16 a11_a, aI cy (ad 44) 4 a11_b, aI cy (ad 45) 4 a11_e, aI cy (ad 46) 4 a11_h, aJ cy (ad 47) 4 a11_sums, aJ cy (ad 48) 4 a11_least, aJ cy (ad 49) 4 a11_most, aI cy (ad 50) 16 a11_on, aI cy (ad 51) 16 a11_often] H → va_D A [oX11 ad s11_d s11_stepMany s11_kind s11_many s11_partMany s11_rule s11_ticks s11_hand s11_g s11_beganElsewhere s11_dBefore s11_fBefore s11_fFirst s11_weightMany s11_tailTold, aI cy (ad 43) 16 a11_a, aI cy (ad 44) 4 a11_b, aI cy (ad 45) 4 a11_e, aI cy (ad 46) 4 a11_h, aJ cy (ad 47) 4 a11_sums, aJ cy (ad 48) 4 a11_least, aJ cy (ad 49) 4 a11_most, aI cy (ad 50) 16 a11_on, aI cy (ad 51) 16 a11_often] → va_S A s.heap H locs → W p l e rm_X11_loop s m ([.ref (ad 11), .int x1, .int x2, .int x3] : List Value).toArray below meth c H locs 0 0 Q (F0 m 91 ls []) := by
          intro H locs ls hv hl hP hD hS
          unfold vJ_X11_loop_91 at hv
          refine lv_iconst (v := 0) hx hb dX11_loop_91 (by decide) ?_
          exact jn92 (0 : Int32) H locs ls hv (lv_sub hl [0, 1, 2, 3] rfl) hP hD hS
        refine lv_if_eq (tgt := 91) hx hb dX11_loop_74 (by decide) (fun c_74 => ?_) (fun c_74 => ?_)
        · have hv := hv.1 c_74
          exact jn91  H locs ls hv (lv_sub hl [1, 2, 3, 4] rfl) hP hD hS
        · have hv := hv.2 c_74
          refine lv_iload_n hx hb dX11_loop_77 rfl (lv_at hl 3 rfl) ?_
          refine lv_iconst (v := 2) hx hb dX11_loop_78 (by decide) ?_
          have jn87 : ∀ (H : Heap) (locs : List Loc) (ls : Array Slot), vJ_X11_loop_87 s11_kind s11_many s11_partMany s11_rule s11_ticks s11_hand s11_g s11_beganElsewhere s11_dBefore s11_fBefore s11_fFirst a11_a a11_b a11_e a11_h a11_sums a11_least a11_most a11_on a11_often x1 x2 x3 K → lv_has ls 7 [(0, .ref (ad 11)), (1, .int x1), (2, .int x2), (3, .int x3)] → va_P D vwCl [oX11 ad s11_d s11_stepMany s11_kind s11_many s11_partMany s11_rule s11_ticks s11_hand s11_g s11_beganElsewhere s11_dBefore s11_fBefore s11_fFirst s11_weightMany s11_tailTold, aI cy (ad 43) 16 a11_a, aI cy (ad 44) 4 a11_b, aI cy (ad 45) 4 a11_e, aI cy (ad 46) 4 a11_h, aJ cy (ad 47) 4 a11_sums, aJ cy (ad 48) 4 a11_least, aJ cy (ad 49) 4 a11_most, aI cy (ad 50) 16 a11_on, aI cy (ad 51) 16 a11_often] H → va_D A [oX11 ad s11_d s11_stepMany s11_kind s11_many s11_partMany s11_rule s11_ticks s11_hand s11_g s11_beganElsewhere s11_dBefore s11_fBefore s11_fFirst s11_weightMany s11_tailTold, aI cy (ad 43) 16 a11_a, aI cy (ad 44) 4 a11_b, aI cy (ad 45) 4 a11_e, aI cy (ad 46) 4 a11_h, aJ cy (ad 47) 4 a11_sums, aJ cy (ad 48) 4 a11_least, aJ cy (ad 49) 4 a11_most, aI cy (ad 50) 16 a11_on, aI cy (ad 51) 16 a11_often] → va_S A s.heap H locs → W p l e rm_X11_loop s m ([.ref (ad 11), .int x1, .int x2, .int x3] : List Value).toArray below meth c H locs 0 0 Q (F0 m 87 ls []) := by
            intro H locs ls hv hl hP hD hS
            unfold vJ_X11_loop_87 at hv
            refine lv_iconst (v := 1) hx hb dX11_loop_87 (by decide) ?_
            refine lv_goto (tgt := 92) hx hb dX11_loop_88 (by decide) ?_
            exact jn92 (1 : Int32) H locs ls hv (lv_sub hl [0, 1, 2, 3] rfl) hP hD hS
          refine lv_icmp_eq (tgt := 87) hx hb dX11_loop_79 (by decide) (fun c_79 => ?_) (fun c_79 => ?_)
          · have hv := hv.1 c_79
            exact jn87  H locs ls hv (lv_sub hl [1, 2, 3, 4] rfl) hP hD hS
          · have hv := hv.2 c_79
            refine lv_iload_n hx hb dX11_loop_82 rfl (lv_at hl 3 rfl) ?_
            refine lv_iconst (v := 3) hx hb dX11_loop_83 (by decide) ?_
            refine lv_icmp_ne (tgt := 91) hx hb dX11_loop_84 (by decide) (fun c_84 => ?_) (fun c_84 => ?_)
            · have hv := hv.1 c_84
              exact jn91  H locs ls hv (lv_sub hl [1, 2, 3, 4] rfl) hP hD hS
            · have hv := hv.2 c_84
              exact jn87  H locs ls hv (lv_sub hl [1, 2, 3, 4] rfl) hP hD hS
    · have hv := hv.2 c_39
      refine lv_iload hx hb dX11_loop_42 (lv_at hl 0 rfl) ?_
      have jn62 : ∀ (t37 : Int32) (H : Heap) (locs : List Loc) (ls : Array Slot), vJ_X11_loop_62 s11_kind s11_many s11_partMany s11_rule s11_ticks s11_hand s11_g s11_beganElsewhere s11_dBefore s11_fBefore s11_fFirst a11_a a11_b a11_e a11_h a11_sums a11_least a11_most a11_on a11_often x1 x2 x3 K t37 → lv_has ls 7 [(0, .ref (ad 11)), (1, .int x1), (2, .int x2), (3, .int x3)] → va_P D vwCl [oX11 ad s11_d s11_stepMany s11_kind s11_many s11_partMany s11_rule s11_ticks s11_hand s11_g s11_beganElsewhere s11_dBefore s11_fBefore s11_fFirst s11_weightMany s11_tailTold, aI cy (ad 43) 16 a11_a, aI cy (ad 44) 4 a11_b, aI cy (ad 45) 4 a11_e, aI cy (ad 46) 4 a11_h, aJ cy (ad 47) 4 a11_sums, aJ cy (ad 48) 4 a11_least, aJ cy (ad 49) 4 a11_most, aI cy (ad 50) 16 a11_on, aI cy (ad 51) 16 a11_often] H → va_D A [oX11 ad s11_d s11_stepMany s11_kind s11_many s11_partMany s11_rule s11_ticks s11_hand s11_g s11_beganElsewhere s11_dBefore s11_fBefore s11_fFirst s11_weightMany s11_tailTold, aI cy (ad 43) 16 a11_a, aI cy (ad 44) 4 a11_b, aI cy (ad 45) 4 a11_e, aI cy (ad 46) 4 a11_h, aJ cy (ad 47) 4 a11_sums, aJ cy (ad 48) 4 a11_least, aJ cy (ad 49) 4 a11_most, aI cy (ad 50) 16 a11_on, aI cy (ad 51) 16 a11_often] → va_S A s.heap H locs → W p l e rm_X11_loop s m ([.ref (ad 11), .int x1, .int x2, .int x3] : List Value).toArray below meth c H locs 0 0 Q (F0 m 62 ls [.int t37]) := by
        intro t37 H locs ls hv hl hP hD hS
        unfold vJ_X11_loop_62 at hv
        refine lv_istore (lv' := [(4, .int t37), (0, .ref (ad 11)), (1, .int x1), (2, .int x2), (3, .int x3)]) hx hb dX11_loop_62 hl (by decide) rfl (fun ls hl => ?_)
        refine lv_goto (tgt := 144) hx hb dX11_loop_64 (by decide) ?_
        exact jn144 t37 H locs ls hv (lv_sub hl [0, 1, 2, 3, 4] rfl) hP hD hS
      have jn61 : ∀ (H : Heap) (locs : List Loc) (ls : Array Slot), vJ_X11_loop_61 s11_kind s11_many s11_partMany s11_rule s11_ticks s11_hand s11_g s11_beganElsewhere s11_dBefore s11_fBefore s11_fFirst a11_a a11_b a11_e a11_h a11_sums a11_least a11_most a11_on a11_often x1 x2 x3 K → lv_has ls 7 [(0, .ref (ad 11)), (1, .int x1), (2, .int x2), (3, .int x3)] → va_P D vwCl [oX11 ad s11_d s11_stepMany s11_kind s11_many s11_partMany s11_rule s11_ticks s11_hand s11_g s11_beganElsewhere s11_dBefore s11_fBefore s11_fFirst s11_weightMany s11_tailTold, aI cy (ad 43) 16 a11_a, aI cy (ad 44) 4 a11_b, aI cy (ad 45) 4 a11_e, aI cy (ad 46) 4 a11_h, aJ cy (ad 47) 4 a11_sums, aJ cy (ad 48) 4 a11_least, aJ cy (ad 49) 4 a11_most, aI cy (ad 50) 16 a11_on, aI cy (ad 51) 16 a11_often] H → va_D A [oX11 ad s11_d s11_stepMany s11_kind s11_many s11_partMany s11_rule s11_ticks s11_hand s11_g s11_beganElsewhere s11_dBefore s11_fBefore s11_fFirst s11_weightMany s11_tailTold, aI cy (ad 43) 16 a11_a, aI cy (ad 44) 4 a11_b, aI cy (ad 45) 4 a11_e, aI cy (ad 46) 4 a11_h, aJ cy (ad 47) 4 a11_sums, aJ cy (ad 48) 4 a11_least, aJ cy (ad 49) 4 a11_most, aI cy (ad 50) 16 a11_on, aI cy (ad 51) 16 a11_often] → va_S A s.heap H locs → W p l e rm_X11_loop s m ([.ref (ad 11), .int x1, .int x2, .int x3] : List Value).toArray below meth c H locs 0 0 Q (F0 m 61 ls []) := by
        intro H locs ls hv hl hP hD hS
        unfold vJ_X11_loop_61 at hv
        refine lv_iconst (v := 0) hx hb dX11_loop_61 (by decide) ?_
        exact jn62 (0 : Int32) H locs ls hv (lv_sub hl [0, 1, 2, 3] rfl) hP hD hS
      refine lv_if_eq (tgt := 61) hx hb dX11_loop_44 (by decide) (fun c_44 => ?_) (fun c_44 => ?_)
      · have hv := hv.1 c_44
        exact jn61  H locs ls hv (lv_sub hl [1, 2, 3, 4] rfl) hP hD hS
      · have hv := hv.2 c_44
        refine lv_iload_n hx hb dX11_loop_47 rfl (lv_at hl 3 rfl) ?_
        refine lv_iconst (v := 1) hx hb dX11_loop_48 (by decide) ?_
        refine lv_icmp_lt (tgt := 61) hx hb dX11_loop_49 (by decide) (fun c_49 => ?_) (fun c_49 => ?_)
        · have hv := hv.1 c_49
          exact jn61  H locs ls hv (lv_sub hl [1, 2, 3, 4] rfl) hP hD hS
        · have hv := hv.2 c_49
          refine lv_iload_n hx hb dX11_loop_52 rfl (lv_at hl 3 rfl) ?_
          refine lv_iconst (v := 4) hx hb dX11_loop_53 (by decide) ?_
          refine lv_icmp_gt (tgt := 61) hx hb dX11_loop_54 (by decide) (fun c_54 => ?_) (fun c_54 => ?_)
          · have hv := hv.1 c_54
            exact jn61  H locs ls hv (lv_sub hl [1, 2, 3, 4] rfl) hP hD hS
          · have hv := hv.2 c_54
            refine lv_iconst (v := 1) hx hb dX11_loop_57 (by decide) ?_
            refine lv_goto (tgt := 62) hx hb dX11_loop_58 (by decide) ?_
            exact jn62 (1 : Int32) H locs ls hv (lv_sub hl [1, 2, 3, 4] rfl) hP hD hS
  have jn34 : ∀ (H : Heap) (locs : List Loc) (ls : Array Slot), vJ_X11_loop_34 s11_kind s11_many s11_partMany s11_rule s11_ticks s11_hand s11_g s11_beganElsewhere s11_dBefore s11_fBefore s11_fFirst a11_a a11_b a11_e a11_h a11_sums a11_least a11_most a11_on a11_often x1 x2 x3 K → lv_has ls 7 [(0, .ref (ad 11)), (1, .int x1), (2, .int x2), (3, .int x3)] → va_P D vwCl [oX11 ad s11_d s11_stepMany s11_kind s11_many s11_partMany s11_rule s11_ticks s11_hand s11_g s11_beganElsewhere s11_dBefore s11_fBefore s11_fFirst s11_weightMany s11_tailTold, aI cy (ad 43) 16 a11_a, aI cy (ad 44) 4 a11_b, aI cy (ad 45) 4 a11_e, aI cy (ad 46) 4 a11_h, aJ cy (ad 47) 4 a11_sums, aJ cy (ad 48) 4 a11_least, aJ cy (ad 49) 4 a11_most, aI cy (ad 50) 16 a11_on, aI cy (ad 51) 16 a11_often] H → va_D A [oX11 ad s11_d s11_stepMany s11_kind s11_many s11_partMany s11_rule s11_ticks s11_hand s11_g s11_beganElsewhere s11_dBefore s11_fBefore s11_fFirst s11_weightMany s11_tailTold, aI cy (ad 43) 16 a11_a, aI cy (ad 44) 4 a11_b, aI cy (ad 45) 4 a11_e, aI cy (ad 46) 4 a11_h, aJ cy (ad 47) 4 a11_sums, aJ cy (ad 48) 4 a11_least, aJ cy (ad 49) 4 a11_most, aI cy (ad 50) 16 a11_on, aI cy (ad 51) 16 a11_often] → va_S A s.heap H locs → W p l e rm_X11_loop s m ([.ref (ad 11), .int x1, .int x2, .int x3] : List Value).toArray below meth c H locs 0 0 Q (F0 m 34 ls []) := by
    intro H locs ls hv hl hP hD hS
    unfold vJ_X11_loop_34 at hv
    refine lv_iconst (v := 0) hx hb dX11_loop_34 (by decide) ?_
    exact jn35 (0 : Int32) H locs ls hv (lv_sub hl [0, 1, 2, 3] rfl) hP hD hS
  refine lv_if_lt (tgt := 34) hx hb dX11_loop_1 (by decide) (fun c_1 => ?_) (fun c_1 => ?_)
  · have hv := hv.1 c_1
    exact jn34  H locs ls hv (lv_sub hl [0, 1, 2, 3] rfl) hP hD hS
  · have hv := hv.2 c_1
    refine lv_iload_n hx hb dX11_loop_4 rfl (lv_at hl 1 rfl) ?_
    refine lv_iconst (v := 4) hx hb dX11_loop_5 (by decide) ?_
    refine lv_icmp_gt (tgt := 34) hx hb dX11_loop_6 (by decide) (fun c_6 => ?_) (fun c_6 => ?_)
    · have hv := hv.1 c_6
      exact jn34  H locs ls hv (lv_sub hl [0, 1, 2, 3] rfl) hP hD hS
    · have hv := hv.2 c_6
      refine lv_iload_n hx hb dX11_loop_9 rfl (lv_at hl 1 rfl) ?_
      refine lv_iconst (v := 4) hx hb dX11_loop_10 (by decide) ?_
      have jn30 : ∀ (H : Heap) (locs : List Loc) (ls : Array Slot), vJ_X11_loop_30 s11_kind s11_many s11_partMany s11_rule s11_ticks s11_hand s11_g s11_beganElsewhere s11_dBefore s11_fBefore s11_fFirst a11_a a11_b a11_e a11_h a11_sums a11_least a11_most a11_on a11_often x1 x2 x3 K → lv_has ls 7 [(0, .ref (ad 11)), (1, .int x1), (2, .int x2), (3, .int x3)] → va_P D vwCl [oX11 ad s11_d s11_stepMany s11_kind s11_many s11_partMany s11_rule s11_ticks s11_hand s11_g s11_beganElsewhere s11_dBefore s11_fBefore s11_fFirst s11_weightMany s11_tailTold, aI cy (ad 43) 16 a11_a, aI cy (ad 44) 4 a11_b, aI cy (ad 45) 4 a11_e, aI cy (ad 46) 4 a11_h, aJ cy (ad 47) 4 a11_sums, aJ cy (ad 48) 4 a11_least, aJ cy (ad 49) 4 a11_most, aI cy (ad 50) 16 a11_on, aI cy (ad 51) 16 a11_often] H → va_D A [oX11 ad s11_d s11_stepMany s11_kind s11_many s11_partMany s11_rule s11_ticks s11_hand s11_g s11_beganElsewhere s11_dBefore s11_fBefore s11_fFirst s11_weightMany s11_tailTold, aI cy (ad 43) 16 a11_a, aI cy (ad 44) 4 a11_b, aI cy (ad 45) 4 a11_e, aI cy (ad 46) 4 a11_h, aJ cy (ad 47) 4 a11_sums, aJ cy (ad 48) 4 a11_least, aJ cy (ad 49) 4 a11_most, aI cy (ad 50) 16 a11_on, aI cy (ad 51) 16 a11_often] → va_S A s.heap H locs → W p l e rm_X11_loop s m ([.ref (ad 11), .int x1, .int x2, .int x3] : List Value).toArray below meth c H locs 0 0 Q (F0 m 30 ls []) := by
        intro H locs ls hv hl hP hD hS
        unfold vJ_X11_loop_30 at hv
        refine lv_iconst (v := 1) hx hb dX11_loop_30 (by decide) ?_
        refine lv_goto (tgt := 35) hx hb dX11_loop_31 (by decide) ?_
        exact jn35 (1 : Int32) H locs ls hv (lv_sub hl [0, 1, 2, 3] rfl) hP hD hS
      refine lv_icmp_ne (tgt := 26) hx hb dX11_loop_11 (by decide) (fun c_11 => ?_) (fun c_11 => ?_)
      · have hv := hv.1 c_11
        refine lv_iload_n hx hb dX11_loop_26 rfl (lv_at hl 3 rfl) ?_
        refine lv_if_ne (tgt := 34) hx hb dX11_loop_27 (by decide) (fun c_27 => ?_) (fun c_27 => ?_)
        · have hv := hv.1 c_27
          exact jn34  H locs ls hv (lv_sub hl [0, 1, 2, 3] rfl) hP hD hS
        · have hv := hv.2 c_27
          exact jn30  H locs ls hv (lv_sub hl [0, 1, 2, 3] rfl) hP hD hS
      · have hv := hv.2 c_11
        refine lv_iload_n hx hb dX11_loop_14 rfl (lv_at hl 3 rfl) ?_
        refine lv_if_eq (tgt := 30) hx hb dX11_loop_15 (by decide) (fun c_15 => ?_) (fun c_15 => ?_)
        · have hv := hv.1 c_15
          exact jn30  H locs ls hv (lv_sub hl [0, 1, 2, 3] rfl) hP hD hS
        · have hv := hv.2 c_15
          refine lv_iload_n hx hb dX11_loop_18 rfl (lv_at hl 3 rfl) ?_
          refine lv_iconst (v := 1) hx hb dX11_loop_19 (by decide) ?_
          refine lv_icmp_ne (tgt := 34) hx hb dX11_loop_20 (by decide) (fun c_20 => ?_) (fun c_20 => ?_)
          · have hv := hv.1 c_20
            exact jn34  H locs ls hv (lv_sub hl [0, 1, 2, 3] rfl) hP hD hS
          · have hv := hv.2 c_20
            refine lv_goto (tgt := 30) hx hb dX11_loop_23 (by decide) ?_
            exact jn30  H locs ls hv (lv_sub hl [0, 1, 2, 3] rfl) hP hD hS
theorem lk_X11_table_103 : Cond.fieldLink RX11 103 "CoarseStepsModel" "kind" "I" ∈ wsX11_table := by decide +kernel
theorem in_X11_table_11 : ∀ w ∈ wsX110, w ∈ wsX11_table := by decide +kernel
theorem lk_X11_table_112 : Cond.fieldLink RX11 112 "CoarseStepsModel" "g" "I" ∈ wsX11_table := by decide +kernel
theorem lk_X11_table_35 : Cond.fieldLink RX11 35 "CoarseStepsModel" "h" "[I" ∈ wsX11_table := by decide +kernel
theorem lk_X11_table_32 : Cond.fieldLink RX11 32 "CoarseStepsModel" "e" "[I" ∈ wsX11_table := by decide +kernel
theorem lk_X11_table_29 : Cond.fieldLink RX11 29 "CoarseStepsModel" "b" "[I" ∈ wsX11_table := by decide +kernel
theorem lk_X11_table_26 : Cond.fieldLink RX11 26 "CoarseStepsModel" "a" "[I" ∈ wsX11_table := by decide +kernel
theorem lk_X11_table_16 : Cond.fieldLink RX11 16 "CoarseStepsModel" "many" "I" ∈ wsX11_table := by decide +kernel
abbrev rm_X11_table : Room := { frames := 1, cells := 0, slots := 0, locals := 21 }
set_option maxHeartbeats 4000000 in
set_option maxRecDepth 100000 in
theorem m_X11_table (l : Launch) (D : va_G) (cy : ClassId × ClassId × ClassId) (ad : Nat → Nat) (s11_d : Int32) (s11_stepMany : Int32) (s11_kind : Int32) (s11_many : Int32) (s11_partMany : Int32) (s11_rule : Int32) (s11_ticks : Int32) (s11_hand : Int32) (s11_g : Int32) (s11_beganElsewhere : Int32) (s11_dBefore : Int32) (s11_fBefore : Int32) (s11_fFirst : Int32) (s11_weightMany : Int32) (s11_tailTold : Int32) (a11_a : Nat → Int32) (a11_b : Nat → Int32) (a11_e : Nat → Int32) (a11_h : Nat → Int32) (a11_sums : Nat → Int64) (a11_on : Nat → Int32) (a11_often : Nat → Int32) (x1 : Int32) (x2 : Int32) (x3 : Int32) (sz : Nat) {K : Int32 → Int32 → Int32 → Int32 → Int32 → Int32 → Int32 → Int32 → (Nat → Int32) → (Nat → Int32) → (Nat → Int32) → (Nat → Int32) → (Nat → Int64) → (Nat → Int32) → (Nat → Int32) → Prop} (hv : v_X11_table s11_kind s11_many s11_ticks s11_hand s11_g s11_beganElsewhere s11_dBefore s11_fBefore s11_fFirst a11_a a11_b a11_e a11_h a11_sums a11_on a11_often x1 x2 x3 K) : Met l yX11_table wsX11_table rm_X11_table (va_Pc [.ref (ad 11), .int x1, .int x2, .int x3] (wd D cy [oX11 ad s11_d s11_stepMany s11_kind s11_many s11_partMany s11_rule s11_ticks s11_hand s11_g s11_beganElsewhere s11_dBefore s11_fBefore s11_fFirst s11_weightMany s11_tailTold, aI cy (ad 43) 16 a11_a, aI cy (ad 44) 4 a11_b, aI cy (ad 45) 4 a11_e, aI cy (ad 46) 4 a11_h, aJ cy (ad 47) 4 a11_sums, aI cy (ad 50) 16 a11_on, aI cy (ad 51) 16 a11_often] sz)) (va_Qi (fun (r : Int32) (u : Int32 × Int32 × Int32 × Int32 × Int32 × Int32 × Int32 × (Nat → Int32) × (Nat → Int32) × (Nat → Int32) × (Nat → Int32) × (Nat → Int64) × (Nat → Int32) × (Nat → Int32)) => (r = 0 ∨ r = 1) ∧ K r u.1 u.2.1 u.2.2.1 u.2.2.2.1 u.2.2.2.2.1 u.2.2.2.2.2.1 u.2.2.2.2.2.2.1 u.2.2.2.2.2.2.2.1 u.2.2.2.2.2.2.2.2.1 u.2.2.2.2.2.2.2.2.2.1 u.2.2.2.2.2.2.2.2.2.2.1 u.2.2.2.2.2.2.2.2.2.2.2.1 u.2.2.2.2.2.2.2.2.2.2.2.2.1 u.2.2.2.2.2.2.2.2.2.2.2.2.2) (fun u t => we D ((fun u : Int32 × Int32 × Int32 × Int32 × Int32 × Int32 × Int32 × (Nat → Int32) × (Nat → Int32) × (Nat → Int32) × (Nat → Int32) × (Nat → Int64) × (Nat → Int32) × (Nat → Int32) => [oX11 ad s11_d s11_stepMany s11_kind s11_many s11_partMany s11_rule u.1 u.2.1 u.2.2.1 u.2.2.2.1 u.2.2.2.2.1 u.2.2.2.2.2.1 u.2.2.2.2.2.2.1 s11_weightMany s11_tailTold, aI cy (ad 43) 16 u.2.2.2.2.2.2.2.1, aI cy (ad 44) 4 u.2.2.2.2.2.2.2.2.1, aI cy (ad 45) 4 u.2.2.2.2.2.2.2.2.2.1, aI cy (ad 46) 4 u.2.2.2.2.2.2.2.2.2.2.1, aJ cy (ad 47) 4 u.2.2.2.2.2.2.2.2.2.2.2.1, aI cy (ad 50) 16 u.2.2.2.2.2.2.2.2.2.2.2.2.1, aI cy (ad 51) 16 u.2.2.2.2.2.2.2.2.2.2.2.2.2]) u) (va_A [oX11 ad s11_d s11_stepMany s11_kind s11_many s11_partMany s11_rule s11_ticks s11_hand s11_g s11_beganElsewhere s11_dBefore s11_fBefore s11_fFirst s11_weightMany s11_tailTold, aI cy (ad 43) 16 a11_a, aI cy (ad 44) 4 a11_b, aI cy (ad 45) 4 a11_e, aI cy (ad 46) 4 a11_h, aJ cy (ad 47) 4 a11_sums, aI cy (ad 50) 16 a11_on, aI cy (ad 51) 16 a11_often] sz) t) (va_A [oX11 ad s11_d s11_stepMany s11_kind s11_many s11_partMany s11_rule s11_ticks s11_hand s11_g s11_beganElsewhere s11_dBefore s11_fBefore s11_fFirst s11_weightMany s11_tailTold, aI cy (ad 43) 16 a11_a, aI cy (ad 44) 4 a11_b, aI cy (ad 45) 4 a11_e, aI cy (ad 46) 4 a11_h, aJ cy (ad 47) 4 a11_sums, aI cy (ad 50) 16 a11_on, aI cy (ad 51) 16 a11_often] sz)) 0 0 (va_A [oX11 ad s11_d s11_stepMany s11_kind s11_many s11_partMany s11_rule s11_ticks s11_hand s11_g s11_beganElsewhere s11_dBefore s11_fBefore s11_fFirst s11_weightMany s11_tailTold, aI cy (ad 43) 16 a11_a, aI cy (ad 44) 4 a11_b, aI cy (ad 45) 4 a11_e, aI cy (ad 46) 4 a11_h, aJ cy (ad 47) 4 a11_sums, aI cy (ad 50) 16 a11_on, aI cy (ad 51) 16 a11_often] sz) := by
  refine k_ofW (cc := cX11_table) (maxL := 6) (ret := (some .boolean)) (fun A => va_Qi (fun (r : Int32) (u : Int32 × Int32 × Int32 × Int32 × Int32 × Int32 × Int32 × (Nat → Int32) × (Nat → Int32) × (Nat → Int32) × (Nat → Int32) × (Nat → Int64) × (Nat → Int32) × (Nat → Int32)) => (r = 0 ∨ r = 1) ∧ K r u.1 u.2.1 u.2.2.1 u.2.2.2.1 u.2.2.2.2.1 u.2.2.2.2.2.1 u.2.2.2.2.2.2.1 u.2.2.2.2.2.2.2.1 u.2.2.2.2.2.2.2.2.1 u.2.2.2.2.2.2.2.2.2.1 u.2.2.2.2.2.2.2.2.2.2.1 u.2.2.2.2.2.2.2.2.2.2.2.1 u.2.2.2.2.2.2.2.2.2.2.2.2.1 u.2.2.2.2.2.2.2.2.2.2.2.2.2) (fun u t => we D ((fun u : Int32 × Int32 × Int32 × Int32 × Int32 × Int32 × Int32 × (Nat → Int32) × (Nat → Int32) × (Nat → Int32) × (Nat → Int32) × (Nat → Int64) × (Nat → Int32) × (Nat → Int32) => [oX11 ad s11_d s11_stepMany s11_kind s11_many s11_partMany s11_rule u.1 u.2.1 u.2.2.1 u.2.2.2.1 u.2.2.2.2.1 u.2.2.2.2.2.1 u.2.2.2.2.2.2.1 s11_weightMany s11_tailTold, aI cy (ad 43) 16 u.2.2.2.2.2.2.2.1, aI cy (ad 44) 4 u.2.2.2.2.2.2.2.2.1, aI cy (ad 45) 4 u.2.2.2.2.2.2.2.2.2.1, aI cy (ad 46) 4 u.2.2.2.2.2.2.2.2.2.2.1, aJ cy (ad 47) 4 u.2.2.2.2.2.2.2.2.2.2.2.1, aI cy (ad 50) 16 u.2.2.2.2.2.2.2.2.2.2.2.2.1, aI cy (ad 51) 16 u.2.2.2.2.2.2.2.2.2.2.2.2.2]) u) A t) A) (by decide) rfl (Nat.le_of_ble_eq_true rfl) ?_
  intro p e s m below meth c A ls H locs hx hb hml hr hts hown hlocks hname hK hN hA hP hD hS hl
  have hl : lv_has ls 6 [(0, .ref (ad 11)), (1, .int x1), (2, .int x2), (3, .int x3)] := hl
  generalize hQ : MQ below _ _ s _ _ A = Q
  unfold v_X11_table at hv
  refine lv_aload_n hx hb dX11_table_0 rfl (lv_at hl 0 rfl) ?_
  refine va_get (D := D) (ci := 11) (v := .int s11_kind) (C := RX11) (T := TX11) (N := 35) hx hb hts in_X11_table_11 hown hK hP 0 rfl rfl 2 (by decide) (hts _ lk_X11_table_103) (fun _ h9 => h9) rfl dX11_table_1 ?_
  refine lv_iconst (v := 2) hx hb dX11_table_4 (by decide) ?_
  refine lv_icmp_ne (tgt := 20) hx hb dX11_table_5 (by decide) (fun c_5 => ?_) (fun c_5 => ?_)
  · have hv := hv.1 c_5
    refine lv_iconst (v := 0) hx hb dX11_table_20 (by decide) ?_
    rw [← hQ]
    exact k_zret hx hb hr hlocks hS (s11_ticks, s11_hand, s11_g, s11_beganElsewhere, s11_dBefore, s11_fBefore, s11_fFirst, a11_a, a11_b, a11_e, a11_h, a11_sums, a11_on, a11_often) hP hD (by decide) hv dX11_table_21
  · have hv := hv.2 c_5
    refine lv_iload_n hx hb dX11_table_8 rfl (lv_at hl 3 rfl) ?_
    refine lv_bipush (v := -10) hx hb dX11_table_9 (by decide) ?_
    refine lv_icmp_lt (tgt := 20) hx hb dX11_table_11 (by decide) (fun c_11 => ?_) (fun c_11 => ?_)
    · have hv := hv.1 c_11
      refine lv_iconst (v := 0) hx hb dX11_table_20 (by decide) ?_
      rw [← hQ]
      exact k_zret hx hb hr hlocks hS (s11_ticks, s11_hand, s11_g, s11_beganElsewhere, s11_dBefore, s11_fBefore, s11_fFirst, a11_a, a11_b, a11_e, a11_h, a11_sums, a11_on, a11_often) hP hD (by decide) hv dX11_table_21
    · have hv := hv.2 c_11
      refine lv_iload_n hx hb dX11_table_14 rfl (lv_at hl 3 rfl) ?_
      refine lv_bipush (v := 10) hx hb dX11_table_15 (by decide) ?_
      refine lv_icmp_le (tgt := 22) hx hb dX11_table_17 (by decide) (fun c_17 => ?_) (fun c_17 => ?_)
      · have hv := hv.1 c_17
        refine lv_iload_n hx hb dX11_table_22 rfl (lv_at hl 1 rfl) ?_
        have jn39 : ∀ (t1 : Int32) (H : Heap) (locs : List Loc) (ls : Array Slot), vJ_X11_table_39 s11_many s11_ticks s11_hand s11_g s11_beganElsewhere s11_dBefore s11_fBefore s11_fFirst a11_a a11_b a11_e a11_h a11_sums a11_on a11_often x1 x2 x3 K t1 → lv_has ls 6 [(0, .ref (ad 11)), (1, .int x1), (2, .int x2), (3, .int x3)] → va_P D vwCl [oX11 ad s11_d s11_stepMany s11_kind s11_many s11_partMany s11_rule s11_ticks s11_hand s11_g s11_beganElsewhere s11_dBefore s11_fBefore s11_fFirst s11_weightMany s11_tailTold, aI cy (ad 43) 16 a11_a, aI cy (ad 44) 4 a11_b, aI cy (ad 45) 4 a11_e, aI cy (ad 46) 4 a11_h, aJ cy (ad 47) 4 a11_sums, aI cy (ad 50) 16 a11_on, aI cy (ad 51) 16 a11_often] H → va_D A [oX11 ad s11_d s11_stepMany s11_kind s11_many s11_partMany s11_rule s11_ticks s11_hand s11_g s11_beganElsewhere s11_dBefore s11_fBefore s11_fFirst s11_weightMany s11_tailTold, aI cy (ad 43) 16 a11_a, aI cy (ad 44) 4 a11_b, aI cy (ad 45) 4 a11_e, aI cy (ad 46) 4 a11_h, aJ cy (ad 47) 4 a11_sums, aI cy (ad 50) 16 a11_on, aI cy (ad 51) 16 a11_often] → va_S A s.heap H locs → W p l e rm_X11_table s m ([.ref (ad 11), .int x1, .int x2, .int x3] : List Value).toArray below meth c H locs 0 0 Q (F0 m 39 ls [.int t1]) := by
          intro t1 H locs ls hv hl hP hD hS
          unfold vJ_X11_table_39 at hv
          refine lv_istore (lv' := [(4, .int t1), (0, .ref (ad 11)), (1, .int x1), (2, .int x2), (3, .int x3)]) hx hb dX11_table_39 hl (by decide) rfl (fun ls hl => ?_)
          refine lv_iload_n hx hb dX11_table_41 rfl (lv_at hl 3 rfl) ?_
          have jn58 : ∀ (t2 : Int32) (H : Heap) (locs : List Loc) (ls : Array Slot), vJ_X11_table_58 s11_ticks s11_hand s11_g s11_beganElsewhere s11_dBefore s11_fBefore s11_fFirst a11_a a11_b a11_e a11_h a11_sums a11_on a11_often x1 x2 x3 K t1 t2 → lv_has ls 6 [(4, .int t1), (0, .ref (ad 11)), (1, .int x1), (2, .int x2), (3, .int x3)] → va_P D vwCl [oX11 ad s11_d s11_stepMany s11_kind s11_many s11_partMany s11_rule s11_ticks s11_hand s11_g s11_beganElsewhere s11_dBefore s11_fBefore s11_fFirst s11_weightMany s11_tailTold, aI cy (ad 43) 16 a11_a, aI cy (ad 44) 4 a11_b, aI cy (ad 45) 4 a11_e, aI cy (ad 46) 4 a11_h, aJ cy (ad 47) 4 a11_sums, aI cy (ad 50) 16 a11_on, aI cy (ad 51) 16 a11_often] H → va_D A [oX11 ad s11_d s11_stepMany s11_kind s11_many s11_partMany s11_rule s11_ticks s11_hand s11_g s11_beganElsewhere s11_dBefore s11_fBefore s11_fFirst s11_weightMany s11_tailTold, aI cy (ad 43) 16 a11_a, aI cy (ad 44) 4 a11_b, aI cy (ad 45) 4 a11_e, aI cy (ad 46) 4 a11_h, aJ cy (ad 47) 4 a11_sums, aI cy (ad 50) 16 a11_on, aI cy (ad 51) 16 a11_often] → va_S A s.heap H locs → W p l e rm_X11_table s m ([.ref (ad 11), .int x1, .int x2, .int x3] : List Value).toArray below meth c H locs 0 0 Q (F0 m 58 ls [.int t2]) := by
            intro t2 H locs ls hv hl hP hD hS
            unfold vJ_X11_table_58 at hv
            refine lv_istore (lv' := [(5, .int t2), (4, .int t1), (0, .ref (ad 11)), (1, .int x1), (2, .int x2), (3, .int x3)]) hx hb dX11_table_58 hl (by decide) rfl (fun ls hl => ?_)
            refine lv_iload hx hb dX11_table_60 (lv_at hl 1 rfl) ?_
            have jn84 : ∀ (H : Heap) (locs : List Loc) (ls : Array Slot), vJ_X11_table_84 s11_ticks s11_hand s11_g s11_beganElsewhere s11_dBefore s11_fBefore s11_fFirst a11_a a11_b a11_e a11_h a11_sums a11_on a11_often x1 x2 x3 K t1 t2 → lv_has ls 6 [(5, .int t2), (4, .int t1), (0, .ref (ad 11)), (1, .int x1), (2, .int x2), (3, .int x3)] → va_P D vwCl [oX11 ad s11_d s11_stepMany s11_kind s11_many s11_partMany s11_rule s11_ticks s11_hand s11_g s11_beganElsewhere s11_dBefore s11_fBefore s11_fFirst s11_weightMany s11_tailTold, aI cy (ad 43) 16 a11_a, aI cy (ad 44) 4 a11_b, aI cy (ad 45) 4 a11_e, aI cy (ad 46) 4 a11_h, aJ cy (ad 47) 4 a11_sums, aI cy (ad 50) 16 a11_on, aI cy (ad 51) 16 a11_often] H → va_D A [oX11 ad s11_d s11_stepMany s11_kind s11_many s11_partMany s11_rule s11_ticks s11_hand s11_g s11_beganElsewhere s11_dBefore s11_fBefore s11_fFirst s11_weightMany s11_tailTold, aI cy (ad 43) 16 a11_a, aI cy (ad 44) 4 a11_b, aI cy (ad 45) 4 a11_e, aI cy (ad 46) 4 a11_h, aJ cy (ad 47) 4 a11_sums, aI cy (ad 50) 16 a11_on, aI cy (ad 51) 16 a11_often] → va_S A s.heap H locs → W p l e rm_X11_table s m ([.ref (ad 11), .int x1, .int x2, .int x3] : List Value).toArray below meth c H locs 0 0 Q (F0 m 84 ls []) := by
              intro H locs ls hv hl hP hD hS
              unfold vJ_X11_table_84 at hv
              refine lv_iload hx hb dX11_table_84 (lv_at hl 1 rfl) ?_
              have jn104 : ∀ (H : Heap) (locs : List Loc) (ls : Array Slot), vJ_X11_table_104 s11_ticks s11_hand s11_g s11_beganElsewhere s11_dBefore s11_fBefore s11_fFirst a11_a a11_b a11_e a11_h a11_sums a11_on a11_often x1 x2 x3 K t1 t2 → lv_has ls 6 [(5, .int t2), (4, .int t1), (0, .ref (ad 11)), (1, .int x1), (2, .int x2), (3, .int x3)] → va_P D vwCl [oX11 ad s11_d s11_stepMany s11_kind s11_many s11_partMany s11_rule s11_ticks s11_hand s11_g s11_beganElsewhere s11_dBefore s11_fBefore s11_fFirst s11_weightMany s11_tailTold, aI cy (ad 43) 16 a11_a, aI cy (ad 44) 4 a11_b, aI cy (ad 45) 4 a11_e, aI cy (ad 46) 4 a11_h, aJ cy (ad 47) 4 a11_sums, aI cy (ad 50) 16 a11_on, aI cy (ad 51) 16 a11_often] H → va_D A [oX11 ad s11_d s11_stepMany s11_kind s11_many s11_partMany s11_rule s11_ticks s11_hand s11_g s11_beganElsewhere s11_dBefore s11_fBefore s11_fFirst s11_weightMany s11_tailTold, aI cy (ad 43) 16 a11_a, aI cy (ad 44) 4 a11_b, aI cy (ad 45) 4 a11_e, aI cy (ad 46) 4 a11_h, aJ cy (ad 47) 4 a11_sums, aI cy (ad 50) 16 a11_on, aI cy (ad 51) 16 a11_often] → va_S A s.heap H locs → W p l e rm_X11_table s m ([.ref (ad 11), .int x1, .int x2, .int x3] : List Value).toArray below meth c H locs 0 0 Q (F0 m 104 ls []) := by
                intro H locs ls hv hl hP hD hS
                unfold vJ_X11_table_104 at hv
                refine lv_iload hx hb dX11_table_104 (lv_at hl 1 rfl) ?_
                have jn124 : ∀ (H : Heap) (locs : List Loc) (ls : Array Slot), vJ_X11_table_124 s11_ticks s11_hand s11_g s11_beganElsewhere s11_dBefore s11_fBefore s11_fFirst a11_a a11_b a11_e a11_h a11_sums a11_on a11_often x1 x2 x3 K t2 → lv_has ls 6 [(5, .int t2), (0, .ref (ad 11)), (1, .int x1), (2, .int x2), (3, .int x3)] → va_P D vwCl [oX11 ad s11_d s11_stepMany s11_kind s11_many s11_partMany s11_rule s11_ticks s11_hand s11_g s11_beganElsewhere s11_dBefore s11_fBefore s11_fFirst s11_weightMany s11_tailTold, aI cy (ad 43) 16 a11_a, aI cy (ad 44) 4 a11_b, aI cy (ad 45) 4 a11_e, aI cy (ad 46) 4 a11_h, aJ cy (ad 47) 4 a11_sums, aI cy (ad 50) 16 a11_on, aI cy (ad 51) 16 a11_often] H → va_D A [oX11 ad s11_d s11_stepMany s11_kind s11_many s11_partMany s11_rule s11_ticks s11_hand s11_g s11_beganElsewhere s11_dBefore s11_fBefore s11_fFirst s11_weightMany s11_tailTold, aI cy (ad 43) 16 a11_a, aI cy (ad 44) 4 a11_b, aI cy (ad 45) 4 a11_e, aI cy (ad 46) 4 a11_h, aJ cy (ad 47) 4 a11_sums, aI cy (ad 50) 16 a11_on, aI cy (ad 51) 16 a11_often] → va_S A s.heap H locs → W p l e rm_X11_table s m ([.ref (ad 11), .int x1, .int x2, .int x3] : List Value).toArray below meth c H locs 0 0 Q (F0 m 124 ls []) := by
                  intro H locs ls hv hl hP hD hS
                  unfold vJ_X11_table_124 at hv
                  refine lv_iload_n hx hb dX11_table_124 rfl (lv_at hl 2 rfl) ?_
                  refine lv_iconst (v := 4) hx hb dX11_table_125 (by decide) ?_
                  have jn144 : ∀ (H : Heap) (locs : List Loc) (ls : Array Slot), vJ_X11_table_144 s11_ticks s11_hand s11_g s11_beganElsewhere s11_dBefore s11_fBefore s11_fFirst a11_a a11_b a11_e a11_h a11_sums a11_on a11_often x1 x2 x3 K → lv_has ls 6 [(0, .ref (ad 11)), (1, .int x1), (2, .int x2), (3, .int x3)] → va_P D vwCl [oX11 ad s11_d s11_stepMany s11_kind s11_many s11_partMany s11_rule s11_ticks s11_hand s11_g s11_beganElsewhere s11_dBefore s11_fBefore s11_fFirst s11_weightMany s11_tailTold, aI cy (ad 43) 16 a11_a, aI cy (ad 44) 4 a11_b, aI cy (ad 45) 4 a11_e, aI cy (ad 46) 4 a11_h, aJ cy (ad 47) 4 a11_sums, aI cy (ad 50) 16 a11_on, aI cy (ad 51) 16 a11_often] H → va_D A [oX11 ad s11_d s11_stepMany s11_kind s11_many s11_partMany s11_rule s11_ticks s11_hand s11_g s11_beganElsewhere s11_dBefore s11_fBefore s11_fFirst s11_weightMany s11_tailTold, aI cy (ad 43) 16 a11_a, aI cy (ad 44) 4 a11_b, aI cy (ad 45) 4 a11_e, aI cy (ad 46) 4 a11_h, aJ cy (ad 47) 4 a11_sums, aI cy (ad 50) 16 a11_on, aI cy (ad 51) 16 a11_often] → va_S A s.heap H locs → W p l e rm_X11_table s m ([.ref (ad 11), .int x1, .int x2, .int x3] : List Value).toArray below meth c H locs 0 0 Q (F0 m 144 ls []) := by
                    intro H locs ls hv hl hP hD hS
                    unfold vJ_X11_table_144 at hv
                    refine lv_iload_n hx hb dX11_table_144 rfl (lv_at hl 1 rfl) ?_
                    refine lv_iconst (v := 4) hx hb dX11_table_145 (by decide) ?_
                    refine lv_icmp_ne (tgt := 162) hx hb dX11_table_146 (by decide) (fun c_146 => ?_) (fun c_146 => ?_)
                    · have hv := hv.1 c_146
                      refine lv_iconst (v := 0) hx hb dX11_table_162 (by decide) ?_
                      rw [← hQ]
                      exact k_zret hx hb hr hlocks hS (s11_ticks, s11_hand, s11_g, s11_beganElsewhere, s11_dBefore, s11_fBefore, s11_fFirst, a11_a, a11_b, a11_e, a11_h, a11_sums, a11_on, a11_often) hP hD (by decide) hv dX11_table_163
                    · have hv := hv.2 c_146
                      refine lv_iload_n hx hb dX11_table_149 rfl (lv_at hl 2 rfl) ?_
                      refine lv_iconst (v := 4) hx hb dX11_table_150 (by decide) ?_
                      refine lv_icmp_ne (tgt := 162) hx hb dX11_table_151 (by decide) (fun c_151 => ?_) (fun c_151 => ?_)
                      · have hv := hv.1 c_151
                        refine lv_iconst (v := 0) hx hb dX11_table_162 (by decide) ?_
                        rw [← hQ]
                        exact k_zret hx hb hr hlocks hS (s11_ticks, s11_hand, s11_g, s11_beganElsewhere, s11_dBefore, s11_fBefore, s11_fFirst, a11_a, a11_b, a11_e, a11_h, a11_sums, a11_on, a11_often) hP hD (by decide) hv dX11_table_163
                      · have hv := hv.2 c_151
                        refine lv_aload_n hx hb dX11_table_154 rfl (lv_at hl 0 rfl) ?_
                        refine lv_iload_n hx hb dX11_table_155 rfl (lv_at hl 3 rfl) ?_
                        refine va_put (D := D) (ci := 11) (v := .int x3) (ty := .int) (C := RX11) (T := TX11) (N := 35) hx hb hts in_X11_table_11 tyX11 tyX11_ok nmX11 hown hK hP hD hS 0 rfl rfl 14 (by decide) (hts _ lk_X11_table_112) (fun _ h9 => h9) rfl (by decide +kernel) rfl rfl (Nat.le_of_ble_eq_true rfl) dX11_table_156 (fun H locs hP hD hS => ?_)
                        have hP : va_P D vwCl [oX11 ad s11_d s11_stepMany s11_kind s11_many s11_partMany s11_rule s11_ticks s11_hand x3 s11_beganElsewhere s11_dBefore s11_fBefore s11_fFirst s11_weightMany s11_tailTold, aI cy (ad 43) 16 a11_a, aI cy (ad 44) 4 a11_b, aI cy (ad 45) 4 a11_e, aI cy (ad 46) 4 a11_h, aJ cy (ad 47) 4 a11_sums, aI cy (ad 50) 16 a11_on, aI cy (ad 51) 16 a11_often] H := hP
                        have hD : va_D A [oX11 ad s11_d s11_stepMany s11_kind s11_many s11_partMany s11_rule s11_ticks s11_hand x3 s11_beganElsewhere s11_dBefore s11_fBefore s11_fFirst s11_weightMany s11_tailTold, aI cy (ad 43) 16 a11_a, aI cy (ad 44) 4 a11_b, aI cy (ad 45) 4 a11_e, aI cy (ad 46) 4 a11_h, aJ cy (ad 47) 4 a11_sums, aI cy (ad 50) 16 a11_on, aI cy (ad 51) 16 a11_often] := hD
                        refine lv_goto (tgt := 164) hx hb dX11_table_159 (by decide) ?_
                        refine lv_aload_n hx hb dX11_table_164 rfl (lv_at hl 0 rfl) ?_
                        have hPc := hP.sub (ws' := [oX11 ad s11_d s11_stepMany s11_kind s11_many s11_partMany s11_rule s11_ticks s11_hand x3 s11_beganElsewhere s11_dBefore s11_fBefore s11_fFirst s11_weightMany s11_tailTold, aJ cy (ad 47) 4 a11_sums, aI cy (ad 50) 16 a11_on, aI cy (ad 51) 16 a11_often]) [0, 5, 6, 7] rfl
                        have hDc := hD.sub (ws' := [oX11 ad s11_d s11_stepMany s11_kind s11_many s11_partMany s11_rule s11_ticks s11_hand x3 s11_beganElsewhere s11_dBefore s11_fBefore s11_fFirst s11_weightMany s11_tailTold, aJ cy (ad 47) 4 a11_sums, aI cy (ad 50) 16 a11_on, aI cy (ad 51) 16 a11_often]) [0, 5, 6, 7] (by decide) rfl
                        refine k_calv (wc := [oX11 ad s11_d s11_stepMany s11_kind s11_many s11_partMany s11_rule s11_ticks s11_hand x3 s11_beganElsewhere s11_dBefore s11_fBefore s11_fFirst s11_weightMany s11_tailTold, aJ cy (ad 47) 4 a11_sums, aI cy (ad 50) 16 a11_on, aI cy (ad 51) 16 a11_often]) (wr := [aI cy (ad 43) 16 a11_a, aI cy (ad 44) 4 a11_b, aI cy (ad 45) 4 a11_e, aI cy (ad 46) 4 a11_h]) (va_runV (As := []) (rest := []) ⟨hx, hb, hml, hown, hts⟩ (m_X11_anew l D cy ad s11_d s11_stepMany s11_kind s11_many s11_partMany s11_rule s11_ticks s11_hand x3 s11_beganElsewhere s11_dBefore s11_fBefore s11_fFirst s11_weightMany s11_tailTold a11_sums a11_on a11_often H.size hv) (cwV 0 hts gX11_table_X11_anew rfl rfl rfl (by decide +kernel) ⟨Nat.le_of_ble_eq_true rfl, Nat.le_of_ble_eq_true rfl⟩) ⟨wd_blind, va_recv hK hPc (ci := 11) (q0 := 0) rfl rfl, wd_ok hPc hK hDc hN⟩ rfl rfl hl.1 rfl (lv_room (Nat.le_of_ble_eq_true rfl)) dX11_table_165 ⟨Nat.le_of_ble_eq_true rfl, Nat.le_of_ble_eq_true rfl⟩) hP hD hS hA [0, 5, 6, 7] [1, 2, 3, 4] rfl rfl (by decide) (by decide) (fun u H locs hv hP hD hS => ?_)
                        obtain ⟨s11_ticks_3, s11_hand_4, s11_beganElsewhere_5, s11_dBefore_6, s11_fBefore_7, s11_fFirst_8, a11_sums_9, a11_on_10, a11_often_11⟩ := u
                        have hP : va_P D vwCl [oX11 ad s11_d s11_stepMany s11_kind s11_many s11_partMany s11_rule s11_ticks_3 s11_hand_4 x3 s11_beganElsewhere_5 s11_dBefore_6 s11_fBefore_7 s11_fFirst_8 s11_weightMany s11_tailTold, aI cy (ad 43) 16 a11_a, aI cy (ad 44) 4 a11_b, aI cy (ad 45) 4 a11_e, aI cy (ad 46) 4 a11_h, aJ cy (ad 47) 4 a11_sums_9, aI cy (ad 50) 16 a11_on_10, aI cy (ad 51) 16 a11_often_11] H := hP.sub [4, 0, 1, 2, 3, 5, 6, 7] rfl
                        have hD : va_D A [oX11 ad s11_d s11_stepMany s11_kind s11_many s11_partMany s11_rule s11_ticks_3 s11_hand_4 x3 s11_beganElsewhere_5 s11_dBefore_6 s11_fBefore_7 s11_fFirst_8 s11_weightMany s11_tailTold, aI cy (ad 43) 16 a11_a, aI cy (ad 44) 4 a11_b, aI cy (ad 45) 4 a11_e, aI cy (ad 46) 4 a11_h, aJ cy (ad 47) 4 a11_sums_9, aI cy (ad 50) 16 a11_on_10, aI cy (ad 51) 16 a11_often_11] := hD.sub [4, 0, 1, 2, 3, 5, 6, 7] (by decide) rfl
                        refine lv_iconst (v := 1) hx hb dX11_table_168 (by decide) ?_
                        rw [← hQ]
                        exact k_zret hx hb hr hlocks hS (s11_ticks_3, s11_hand_4, x3, s11_beganElsewhere_5, s11_dBefore_6, s11_fBefore_7, s11_fFirst_8, a11_a, a11_b, a11_e, a11_h, a11_sums_9, a11_on_10, a11_often_11) hP hD (by decide) hv dX11_table_169
                  refine lv_icmp_ne (tgt := 144) hx hb dX11_table_126 (by decide) (fun c_126 => ?_) (fun c_126 => ?_)
                  · have hv := hv.1 c_126
                    exact jn144  H locs ls hv (lv_sub hl [1, 2, 3, 4] rfl) hP hD hS
                  · have hv := hv.2 c_126
                    refine lv_iload hx hb dX11_table_129 (lv_at hl 0 rfl) ?_
                    refine lv_if_eq (tgt := 144) hx hb dX11_table_131 (by decide) (fun c_131 => ?_) (fun c_131 => ?_)
                    · have hv := hv.1 c_131
                      exact jn144  H locs ls hv (lv_sub hl [1, 2, 3, 4] rfl) hP hD hS
                    · have hv := hv.2 c_131
                      refine lv_aload_n hx hb dX11_table_134 rfl (lv_at hl 1 rfl) ?_
                      refine va_get (D := D) (ci := 11) (v := .ref (ad 46)) (C := RX11) (T := TX11) (N := 35) hx hb hts in_X11_table_11 hown hK hP 0 rfl rfl 13 (by decide) (hts _ lk_X11_table_35) (fun _ h9 => h9) rfl dX11_table_135 ?_
                      refine lv_iload_n hx hb dX11_table_138 rfl (lv_at hl 3 rfl) ?_
                      refine lv_iload_n hx hb dX11_table_139 rfl (lv_at hl 4 rfl) ?_
                      refine k_iast hx hb hK hP hD hS 4 0 rfl rfl hv.1 dX11_table_140 (fun a11_h_12 H locs h_a11_h_12 hP hD hS => ?_)
                      have hv := hv.2 a11_h_12 h_a11_h_12
                      have hP : va_P D vwCl [oX11 ad s11_d s11_stepMany s11_kind s11_many s11_partMany s11_rule s11_ticks s11_hand s11_g s11_beganElsewhere s11_dBefore s11_fBefore s11_fFirst s11_weightMany s11_tailTold, aI cy (ad 43) 16 a11_a, aI cy (ad 44) 4 a11_b, aI cy (ad 45) 4 a11_e, aI cy (ad 46) 4 a11_h_12, aJ cy (ad 47) 4 a11_sums, aI cy (ad 50) 16 a11_on, aI cy (ad 51) 16 a11_often] H := hP
                      have hD : va_D A [oX11 ad s11_d s11_stepMany s11_kind s11_many s11_partMany s11_rule s11_ticks s11_hand s11_g s11_beganElsewhere s11_dBefore s11_fBefore s11_fFirst s11_weightMany s11_tailTold, aI cy (ad 43) 16 a11_a, aI cy (ad 44) 4 a11_b, aI cy (ad 45) 4 a11_e, aI cy (ad 46) 4 a11_h_12, aJ cy (ad 47) 4 a11_sums, aI cy (ad 50) 16 a11_on, aI cy (ad 51) 16 a11_often] := hD
                      refine lv_goto (tgt := 164) hx hb dX11_table_141 (by decide) ?_
                      refine lv_aload_n hx hb dX11_table_164 rfl (lv_at hl 1 rfl) ?_
                      have hPc := hP.sub (ws' := [oX11 ad s11_d s11_stepMany s11_kind s11_many s11_partMany s11_rule s11_ticks s11_hand s11_g s11_beganElsewhere s11_dBefore s11_fBefore s11_fFirst s11_weightMany s11_tailTold, aJ cy (ad 47) 4 a11_sums, aI cy (ad 50) 16 a11_on, aI cy (ad 51) 16 a11_often]) [0, 5, 6, 7] rfl
                      have hDc := hD.sub (ws' := [oX11 ad s11_d s11_stepMany s11_kind s11_many s11_partMany s11_rule s11_ticks s11_hand s11_g s11_beganElsewhere s11_dBefore s11_fBefore s11_fFirst s11_weightMany s11_tailTold, aJ cy (ad 47) 4 a11_sums, aI cy (ad 50) 16 a11_on, aI cy (ad 51) 16 a11_often]) [0, 5, 6, 7] (by decide) rfl
                      refine k_calv (wc := [oX11 ad s11_d s11_stepMany s11_kind s11_many s11_partMany s11_rule s11_ticks s11_hand s11_g s11_beganElsewhere s11_dBefore s11_fBefore s11_fFirst s11_weightMany s11_tailTold, aJ cy (ad 47) 4 a11_sums, aI cy (ad 50) 16 a11_on, aI cy (ad 51) 16 a11_often]) (wr := [aI cy (ad 43) 16 a11_a, aI cy (ad 44) 4 a11_b, aI cy (ad 45) 4 a11_e, aI cy (ad 46) 4 a11_h_12]) (va_runV (As := []) (rest := []) ⟨hx, hb, hml, hown, hts⟩ (m_X11_anew l D cy ad s11_d s11_stepMany s11_kind s11_many s11_partMany s11_rule s11_ticks s11_hand s11_g s11_beganElsewhere s11_dBefore s11_fBefore s11_fFirst s11_weightMany s11_tailTold a11_sums a11_on a11_often H.size hv) (cwV 0 hts gX11_table_X11_anew rfl rfl rfl (by decide +kernel) ⟨Nat.le_of_ble_eq_true rfl, Nat.le_of_ble_eq_true rfl⟩) ⟨wd_blind, va_recv hK hPc (ci := 11) (q0 := 0) rfl rfl, wd_ok hPc hK hDc hN⟩ rfl rfl hl.1 rfl (lv_room (Nat.le_of_ble_eq_true rfl)) dX11_table_165 ⟨Nat.le_of_ble_eq_true rfl, Nat.le_of_ble_eq_true rfl⟩) hP hD hS hA [0, 5, 6, 7] [1, 2, 3, 4] rfl rfl (by decide) (by decide) (fun u H locs hv hP hD hS => ?_)
                      obtain ⟨s11_ticks_13, s11_hand_14, s11_beganElsewhere_15, s11_dBefore_16, s11_fBefore_17, s11_fFirst_18, a11_sums_19, a11_on_20, a11_often_21⟩ := u
                      have hP : va_P D vwCl [oX11 ad s11_d s11_stepMany s11_kind s11_many s11_partMany s11_rule s11_ticks_13 s11_hand_14 s11_g s11_beganElsewhere_15 s11_dBefore_16 s11_fBefore_17 s11_fFirst_18 s11_weightMany s11_tailTold, aI cy (ad 43) 16 a11_a, aI cy (ad 44) 4 a11_b, aI cy (ad 45) 4 a11_e, aI cy (ad 46) 4 a11_h_12, aJ cy (ad 47) 4 a11_sums_19, aI cy (ad 50) 16 a11_on_20, aI cy (ad 51) 16 a11_often_21] H := hP.sub [4, 0, 1, 2, 3, 5, 6, 7] rfl
                      have hD : va_D A [oX11 ad s11_d s11_stepMany s11_kind s11_many s11_partMany s11_rule s11_ticks_13 s11_hand_14 s11_g s11_beganElsewhere_15 s11_dBefore_16 s11_fBefore_17 s11_fFirst_18 s11_weightMany s11_tailTold, aI cy (ad 43) 16 a11_a, aI cy (ad 44) 4 a11_b, aI cy (ad 45) 4 a11_e, aI cy (ad 46) 4 a11_h_12, aJ cy (ad 47) 4 a11_sums_19, aI cy (ad 50) 16 a11_on_20, aI cy (ad 51) 16 a11_often_21] := hD.sub [4, 0, 1, 2, 3, 5, 6, 7] (by decide) rfl
                      refine lv_iconst (v := 1) hx hb dX11_table_168 (by decide) ?_
                      rw [← hQ]
                      exact k_zret hx hb hr hlocks hS (s11_ticks_13, s11_hand_14, s11_g, s11_beganElsewhere_15, s11_dBefore_16, s11_fBefore_17, s11_fFirst_18, a11_a, a11_b, a11_e, a11_h_12, a11_sums_19, a11_on_20, a11_often_21) hP hD (by decide) hv dX11_table_169
                refine lv_if_eq (tgt := 124) hx hb dX11_table_106 (by decide) (fun c_106 => ?_) (fun c_106 => ?_)
                · have hv := hv.1 c_106
                  exact jn124  H locs ls hv (lv_sub hl [0, 2, 3, 4, 5] rfl) hP hD hS
                · have hv := hv.2 c_106
                  refine lv_iload_n hx hb dX11_table_109 rfl (lv_at hl 4 rfl) ?_
                  refine lv_iconst (v := 5) hx hb dX11_table_110 (by decide) ?_
                  refine lv_icmp_ne (tgt := 124) hx hb dX11_table_111 (by decide) (fun c_111 => ?_) (fun c_111 => ?_)
                  · have hv := hv.1 c_111
                    exact jn124  H locs ls hv (lv_sub hl [0, 2, 3, 4, 5] rfl) hP hD hS
                  · have hv := hv.2 c_111
                    refine lv_aload_n hx hb dX11_table_114 rfl (lv_at hl 2 rfl) ?_
                    refine va_get (D := D) (ci := 11) (v := .ref (ad 45)) (C := RX11) (T := TX11) (N := 35) hx hb hts in_X11_table_11 hown hK hP 0 rfl rfl 12 (by decide) (hts _ lk_X11_table_32) (fun _ h9 => h9) rfl dX11_table_115 ?_
                    refine lv_iload_n hx hb dX11_table_118 rfl (lv_at hl 3 rfl) ?_
                    refine lv_iload_n hx hb dX11_table_119 rfl (lv_at hl 5 rfl) ?_
                    refine k_iast hx hb hK hP hD hS 3 0 rfl rfl hv.1 dX11_table_120 (fun a11_e_22 H locs h_a11_e_22 hP hD hS => ?_)
                    have hv := hv.2 a11_e_22 h_a11_e_22
                    have hP : va_P D vwCl [oX11 ad s11_d s11_stepMany s11_kind s11_many s11_partMany s11_rule s11_ticks s11_hand s11_g s11_beganElsewhere s11_dBefore s11_fBefore s11_fFirst s11_weightMany s11_tailTold, aI cy (ad 43) 16 a11_a, aI cy (ad 44) 4 a11_b, aI cy (ad 45) 4 a11_e_22, aI cy (ad 46) 4 a11_h, aJ cy (ad 47) 4 a11_sums, aI cy (ad 50) 16 a11_on, aI cy (ad 51) 16 a11_often] H := hP
                    have hD : va_D A [oX11 ad s11_d s11_stepMany s11_kind s11_many s11_partMany s11_rule s11_ticks s11_hand s11_g s11_beganElsewhere s11_dBefore s11_fBefore s11_fFirst s11_weightMany s11_tailTold, aI cy (ad 43) 16 a11_a, aI cy (ad 44) 4 a11_b, aI cy (ad 45) 4 a11_e_22, aI cy (ad 46) 4 a11_h, aJ cy (ad 47) 4 a11_sums, aI cy (ad 50) 16 a11_on, aI cy (ad 51) 16 a11_often] := hD
                    refine lv_goto (tgt := 164) hx hb dX11_table_121 (by decide) ?_
                    refine lv_aload_n hx hb dX11_table_164 rfl (lv_at hl 2 rfl) ?_
                    have hPc := hP.sub (ws' := [oX11 ad s11_d s11_stepMany s11_kind s11_many s11_partMany s11_rule s11_ticks s11_hand s11_g s11_beganElsewhere s11_dBefore s11_fBefore s11_fFirst s11_weightMany s11_tailTold, aJ cy (ad 47) 4 a11_sums, aI cy (ad 50) 16 a11_on, aI cy (ad 51) 16 a11_often]) [0, 5, 6, 7] rfl
                    have hDc := hD.sub (ws' := [oX11 ad s11_d s11_stepMany s11_kind s11_many s11_partMany s11_rule s11_ticks s11_hand s11_g s11_beganElsewhere s11_dBefore s11_fBefore s11_fFirst s11_weightMany s11_tailTold, aJ cy (ad 47) 4 a11_sums, aI cy (ad 50) 16 a11_on, aI cy (ad 51) 16 a11_often]) [0, 5, 6, 7] (by decide) rfl
                    refine k_calv (wc := [oX11 ad s11_d s11_stepMany s11_kind s11_many s11_partMany s11_rule s11_ticks s11_hand s11_g s11_beganElsewhere s11_dBefore s11_fBefore s11_fFirst s11_weightMany s11_tailTold, aJ cy (ad 47) 4 a11_sums, aI cy (ad 50) 16 a11_on, aI cy (ad 51) 16 a11_often]) (wr := [aI cy (ad 43) 16 a11_a, aI cy (ad 44) 4 a11_b, aI cy (ad 45) 4 a11_e_22, aI cy (ad 46) 4 a11_h]) (va_runV (As := []) (rest := []) ⟨hx, hb, hml, hown, hts⟩ (m_X11_anew l D cy ad s11_d s11_stepMany s11_kind s11_many s11_partMany s11_rule s11_ticks s11_hand s11_g s11_beganElsewhere s11_dBefore s11_fBefore s11_fFirst s11_weightMany s11_tailTold a11_sums a11_on a11_often H.size hv) (cwV 0 hts gX11_table_X11_anew rfl rfl rfl (by decide +kernel) ⟨Nat.le_of_ble_eq_true rfl, Nat.le_of_ble_eq_true rfl⟩) ⟨wd_blind, va_recv hK hPc (ci := 11) (q0 := 0) rfl rfl, wd_ok hPc hK hDc hN⟩ rfl rfl hl.1 rfl (lv_room (Nat.le_of_ble_eq_true rfl)) dX11_table_165 ⟨Nat.le_of_ble_eq_true rfl, Nat.le_of_ble_eq_true rfl⟩) hP hD hS hA [0, 5, 6, 7] [1, 2, 3, 4] rfl rfl (by decide) (by decide) (fun u H locs hv hP hD hS => ?_)
                    obtain ⟨s11_ticks_23, s11_hand_24, s11_beganElsewhere_25, s11_dBefore_26, s11_fBefore_27, s11_fFirst_28, a11_sums_29, a11_on_30, a11_often_31⟩ := u
                    have hP : va_P D vwCl [oX11 ad s11_d s11_stepMany s11_kind s11_many s11_partMany s11_rule s11_ticks_23 s11_hand_24 s11_g s11_beganElsewhere_25 s11_dBefore_26 s11_fBefore_27 s11_fFirst_28 s11_weightMany s11_tailTold, aI cy (ad 43) 16 a11_a, aI cy (ad 44) 4 a11_b, aI cy (ad 45) 4 a11_e_22, aI cy (ad 46) 4 a11_h, aJ cy (ad 47) 4 a11_sums_29, aI cy (ad 50) 16 a11_on_30, aI cy (ad 51) 16 a11_often_31] H := hP.sub [4, 0, 1, 2, 3, 5, 6, 7] rfl
                    have hD : va_D A [oX11 ad s11_d s11_stepMany s11_kind s11_many s11_partMany s11_rule s11_ticks_23 s11_hand_24 s11_g s11_beganElsewhere_25 s11_dBefore_26 s11_fBefore_27 s11_fFirst_28 s11_weightMany s11_tailTold, aI cy (ad 43) 16 a11_a, aI cy (ad 44) 4 a11_b, aI cy (ad 45) 4 a11_e_22, aI cy (ad 46) 4 a11_h, aJ cy (ad 47) 4 a11_sums_29, aI cy (ad 50) 16 a11_on_30, aI cy (ad 51) 16 a11_often_31] := hD.sub [4, 0, 1, 2, 3, 5, 6, 7] (by decide) rfl
                    refine lv_iconst (v := 1) hx hb dX11_table_168 (by decide) ?_
                    rw [← hQ]
                    exact k_zret hx hb hr hlocks hS (s11_ticks_23, s11_hand_24, s11_g, s11_beganElsewhere_25, s11_dBefore_26, s11_fBefore_27, s11_fFirst_28, a11_a, a11_b, a11_e_22, a11_h, a11_sums_29, a11_on_30, a11_often_31) hP hD (by decide) hv dX11_table_169
              refine lv_if_eq (tgt := 104) hx hb dX11_table_86 (by decide) (fun c_86 => ?_) (fun c_86 => ?_)
              · have hv := hv.1 c_86
                exact jn104  H locs ls hv (lv_sub hl [0, 1, 2, 3, 4, 5] rfl) hP hD hS
              · have hv := hv.2 c_86
                refine lv_iload_n hx hb dX11_table_89 rfl (lv_at hl 4 rfl) ?_
                refine lv_iconst (v := 4) hx hb dX11_table_90 (by decide) ?_
                refine lv_icmp_ne (tgt := 104) hx hb dX11_table_91 (by decide) (fun c_91 => ?_) (fun c_91 => ?_)
                · have hv := hv.1 c_91
                  exact jn104  H locs ls hv (lv_sub hl [0, 1, 2, 3, 4, 5] rfl) hP hD hS
                · have hv := hv.2 c_91
                  refine lv_aload_n hx hb dX11_table_94 rfl (lv_at hl 2 rfl) ?_
                  refine va_get (D := D) (ci := 11) (v := .ref (ad 44)) (C := RX11) (T := TX11) (N := 35) hx hb hts in_X11_table_11 hown hK hP 0 rfl rfl 11 (by decide) (hts _ lk_X11_table_29) (fun _ h9 => h9) rfl dX11_table_95 ?_
                  refine lv_iload_n hx hb dX11_table_98 rfl (lv_at hl 3 rfl) ?_
                  refine lv_iload_n hx hb dX11_table_99 rfl (lv_at hl 5 rfl) ?_
                  refine k_iast hx hb hK hP hD hS 2 0 rfl rfl hv.1 dX11_table_100 (fun a11_b_32 H locs h_a11_b_32 hP hD hS => ?_)
                  have hv := hv.2 a11_b_32 h_a11_b_32
                  have hP : va_P D vwCl [oX11 ad s11_d s11_stepMany s11_kind s11_many s11_partMany s11_rule s11_ticks s11_hand s11_g s11_beganElsewhere s11_dBefore s11_fBefore s11_fFirst s11_weightMany s11_tailTold, aI cy (ad 43) 16 a11_a, aI cy (ad 44) 4 a11_b_32, aI cy (ad 45) 4 a11_e, aI cy (ad 46) 4 a11_h, aJ cy (ad 47) 4 a11_sums, aI cy (ad 50) 16 a11_on, aI cy (ad 51) 16 a11_often] H := hP
                  have hD : va_D A [oX11 ad s11_d s11_stepMany s11_kind s11_many s11_partMany s11_rule s11_ticks s11_hand s11_g s11_beganElsewhere s11_dBefore s11_fBefore s11_fFirst s11_weightMany s11_tailTold, aI cy (ad 43) 16 a11_a, aI cy (ad 44) 4 a11_b_32, aI cy (ad 45) 4 a11_e, aI cy (ad 46) 4 a11_h, aJ cy (ad 47) 4 a11_sums, aI cy (ad 50) 16 a11_on, aI cy (ad 51) 16 a11_often] := hD
                  refine lv_goto (tgt := 164) hx hb dX11_table_101 (by decide) ?_
                  refine lv_aload_n hx hb dX11_table_164 rfl (lv_at hl 2 rfl) ?_
                  have hPc := hP.sub (ws' := [oX11 ad s11_d s11_stepMany s11_kind s11_many s11_partMany s11_rule s11_ticks s11_hand s11_g s11_beganElsewhere s11_dBefore s11_fBefore s11_fFirst s11_weightMany s11_tailTold, aJ cy (ad 47) 4 a11_sums, aI cy (ad 50) 16 a11_on, aI cy (ad 51) 16 a11_often]) [0, 5, 6, 7] rfl
                  have hDc := hD.sub (ws' := [oX11 ad s11_d s11_stepMany s11_kind s11_many s11_partMany s11_rule s11_ticks s11_hand s11_g s11_beganElsewhere s11_dBefore s11_fBefore s11_fFirst s11_weightMany s11_tailTold, aJ cy (ad 47) 4 a11_sums, aI cy (ad 50) 16 a11_on, aI cy (ad 51) 16 a11_often]) [0, 5, 6, 7] (by decide) rfl
                  refine k_calv (wc := [oX11 ad s11_d s11_stepMany s11_kind s11_many s11_partMany s11_rule s11_ticks s11_hand s11_g s11_beganElsewhere s11_dBefore s11_fBefore s11_fFirst s11_weightMany s11_tailTold, aJ cy (ad 47) 4 a11_sums, aI cy (ad 50) 16 a11_on, aI cy (ad 51) 16 a11_often]) (wr := [aI cy (ad 43) 16 a11_a, aI cy (ad 44) 4 a11_b_32, aI cy (ad 45) 4 a11_e, aI cy (ad 46) 4 a11_h]) (va_runV (As := []) (rest := []) ⟨hx, hb, hml, hown, hts⟩ (m_X11_anew l D cy ad s11_d s11_stepMany s11_kind s11_many s11_partMany s11_rule s11_ticks s11_hand s11_g s11_beganElsewhere s11_dBefore s11_fBefore s11_fFirst s11_weightMany s11_tailTold a11_sums a11_on a11_often H.size hv) (cwV 0 hts gX11_table_X11_anew rfl rfl rfl (by decide +kernel) ⟨Nat.le_of_ble_eq_true rfl, Nat.le_of_ble_eq_true rfl⟩) ⟨wd_blind, va_recv hK hPc (ci := 11) (q0 := 0) rfl rfl, wd_ok hPc hK hDc hN⟩ rfl rfl hl.1 rfl (lv_room (Nat.le_of_ble_eq_true rfl)) dX11_table_165 ⟨Nat.le_of_ble_eq_true rfl, Nat.le_of_ble_eq_true rfl⟩) hP hD hS hA [0, 5, 6, 7] [1, 2, 3, 4] rfl rfl (by decide) (by decide) (fun u H locs hv hP hD hS => ?_)
                  obtain ⟨s11_ticks_33, s11_hand_34, s11_beganElsewhere_35, s11_dBefore_36, s11_fBefore_37, s11_fFirst_38, a11_sums_39, a11_on_40, a11_often_41⟩ := u
                  have hP : va_P D vwCl [oX11 ad s11_d s11_stepMany s11_kind s11_many s11_partMany s11_rule s11_ticks_33 s11_hand_34 s11_g s11_beganElsewhere_35 s11_dBefore_36 s11_fBefore_37 s11_fFirst_38 s11_weightMany s11_tailTold, aI cy (ad 43) 16 a11_a, aI cy (ad 44) 4 a11_b_32, aI cy (ad 45) 4 a11_e, aI cy (ad 46) 4 a11_h, aJ cy (ad 47) 4 a11_sums_39, aI cy (ad 50) 16 a11_on_40, aI cy (ad 51) 16 a11_often_41] H := hP.sub [4, 0, 1, 2, 3, 5, 6, 7] rfl
                  have hD : va_D A [oX11 ad s11_d s11_stepMany s11_kind s11_many s11_partMany s11_rule s11_ticks_33 s11_hand_34 s11_g s11_beganElsewhere_35 s11_dBefore_36 s11_fBefore_37 s11_fFirst_38 s11_weightMany s11_tailTold, aI cy (ad 43) 16 a11_a, aI cy (ad 44) 4 a11_b_32, aI cy (ad 45) 4 a11_e, aI cy (ad 46) 4 a11_h, aJ cy (ad 47) 4 a11_sums_39, aI cy (ad 50) 16 a11_on_40, aI cy (ad 51) 16 a11_often_41] := hD.sub [4, 0, 1, 2, 3, 5, 6, 7] (by decide) rfl
                  refine lv_iconst (v := 1) hx hb dX11_table_168 (by decide) ?_
                  rw [← hQ]
                  exact k_zret hx hb hr hlocks hS (s11_ticks_33, s11_hand_34, s11_g, s11_beganElsewhere_35, s11_dBefore_36, s11_fBefore_37, s11_fFirst_38, a11_a, a11_b_32, a11_e, a11_h, a11_sums_39, a11_on_40, a11_often_41) hP hD (by decide) hv dX11_table_169
            refine lv_if_eq (tgt := 84) hx hb dX11_table_62 (by decide) (fun c_62 => ?_) (fun c_62 => ?_)
            · have hv := hv.1 c_62
              exact jn84  H locs ls hv (lv_sub hl [0, 1, 2, 3, 4, 5] rfl) hP hD hS
            · have hv := hv.2 c_62
              refine lv_iload hx hb dX11_table_65 (lv_at hl 0 rfl) ?_
              refine lv_if_eq (tgt := 84) hx hb dX11_table_67 (by decide) (fun c_67 => ?_) (fun c_67 => ?_)
              · have hv := hv.1 c_67
                exact jn84  H locs ls hv (lv_sub hl [0, 1, 2, 3, 4, 5] rfl) hP hD hS
              · have hv := hv.2 c_67
                refine lv_aload_n hx hb dX11_table_70 rfl (lv_at hl 2 rfl) ?_
                refine va_get (D := D) (ci := 11) (v := .ref (ad 43)) (C := RX11) (T := TX11) (N := 35) hx hb hts in_X11_table_11 hown hK hP 0 rfl rfl 10 (by decide) (hts _ lk_X11_table_26) (fun _ h9 => h9) rfl dX11_table_71 ?_
                refine lv_iconst (v := 4) hx hb dX11_table_74 (by decide) ?_
                refine lv_iload_n hx hb dX11_table_75 rfl (lv_at hl 3 rfl) ?_
                refine lv_imul hx hb dX11_table_76 ?_
                refine lv_topi (fun e42 h_e42 => ?_)
                have hv := hv e42 h_e42
                refine lv_iload_n hx hb dX11_table_77 rfl (lv_at hl 4 rfl) ?_
                refine lv_iadd hx hb dX11_table_78 ?_
                refine lv_topi (fun e43 h_e43 => ?_)
                have hv := hv e43 h_e43
                refine lv_iload_n hx hb dX11_table_79 rfl (lv_at hl 5 rfl) ?_
                refine k_iast hx hb hK hP hD hS 1 0 rfl rfl hv.1 dX11_table_80 (fun a11_a_44 H locs h_a11_a_44 hP hD hS => ?_)
                have hv := hv.2 a11_a_44 h_a11_a_44
                have hP : va_P D vwCl [oX11 ad s11_d s11_stepMany s11_kind s11_many s11_partMany s11_rule s11_ticks s11_hand s11_g s11_beganElsewhere s11_dBefore s11_fBefore s11_fFirst s11_weightMany s11_tailTold, aI cy (ad 43) 16 a11_a_44, aI cy (ad 44) 4 a11_b, aI cy (ad 45) 4 a11_e, aI cy (ad 46) 4 a11_h, aJ cy (ad 47) 4 a11_sums, aI cy (ad 50) 16 a11_on, aI cy (ad 51) 16 a11_often] H := hP
                have hD : va_D A [oX11 ad s11_d s11_stepMany s11_kind s11_many s11_partMany s11_rule s11_ticks s11_hand s11_g s11_beganElsewhere s11_dBefore s11_fBefore s11_fFirst s11_weightMany s11_tailTold, aI cy (ad 43) 16 a11_a_44, aI cy (ad 44) 4 a11_b, aI cy (ad 45) 4 a11_e, aI cy (ad 46) 4 a11_h, aJ cy (ad 47) 4 a11_sums, aI cy (ad 50) 16 a11_on, aI cy (ad 51) 16 a11_often] := hD
                refine lv_goto (tgt := 164) hx hb dX11_table_81 (by decide) ?_
                refine lv_aload_n hx hb dX11_table_164 rfl (lv_at hl 2 rfl) ?_
                have hPc := hP.sub (ws' := [oX11 ad s11_d s11_stepMany s11_kind s11_many s11_partMany s11_rule s11_ticks s11_hand s11_g s11_beganElsewhere s11_dBefore s11_fBefore s11_fFirst s11_weightMany s11_tailTold, aJ cy (ad 47) 4 a11_sums, aI cy (ad 50) 16 a11_on, aI cy (ad 51) 16 a11_often]) [0, 5, 6, 7] rfl
                have hDc := hD.sub (ws' := [oX11 ad s11_d s11_stepMany s11_kind s11_many s11_partMany s11_rule s11_ticks s11_hand s11_g s11_beganElsewhere s11_dBefore s11_fBefore s11_fFirst s11_weightMany s11_tailTold, aJ cy (ad 47) 4 a11_sums, aI cy (ad 50) 16 a11_on, aI cy (ad 51) 16 a11_often]) [0, 5, 6, 7] (by decide) rfl
                refine k_calv (wc := [oX11 ad s11_d s11_stepMany s11_kind s11_many s11_partMany s11_rule s11_ticks s11_hand s11_g s11_beganElsewhere s11_dBefore s11_fBefore s11_fFirst s11_weightMany s11_tailTold, aJ cy (ad 47) 4 a11_sums, aI cy (ad 50) 16 a11_on, aI cy (ad 51) 16 a11_often]) (wr := [aI cy (ad 43) 16 a11_a_44, aI cy (ad 44) 4 a11_b, aI cy (ad 45) 4 a11_e, aI cy (ad 46) 4 a11_h]) (va_runV (As := []) (rest := []) ⟨hx, hb, hml, hown, hts⟩ (m_X11_anew l D cy ad s11_d s11_stepMany s11_kind s11_many s11_partMany s11_rule s11_ticks s11_hand s11_g s11_beganElsewhere s11_dBefore s11_fBefore s11_fFirst s11_weightMany s11_tailTold a11_sums a11_on a11_often H.size hv) (cwV 0 hts gX11_table_X11_anew rfl rfl rfl (by decide +kernel) ⟨Nat.le_of_ble_eq_true rfl, Nat.le_of_ble_eq_true rfl⟩) ⟨wd_blind, va_recv hK hPc (ci := 11) (q0 := 0) rfl rfl, wd_ok hPc hK hDc hN⟩ rfl rfl hl.1 rfl (lv_room (Nat.le_of_ble_eq_true rfl)) dX11_table_165 ⟨Nat.le_of_ble_eq_true rfl, Nat.le_of_ble_eq_true rfl⟩) hP hD hS hA [0, 5, 6, 7] [1, 2, 3, 4] rfl rfl (by decide) (by decide) (fun u H locs hv hP hD hS => ?_)
                obtain ⟨s11_ticks_45, s11_hand_46, s11_beganElsewhere_47, s11_dBefore_48, s11_fBefore_49, s11_fFirst_50, a11_sums_51, a11_on_52, a11_often_53⟩ := u
                have hP : va_P D vwCl [oX11 ad s11_d s11_stepMany s11_kind s11_many s11_partMany s11_rule s11_ticks_45 s11_hand_46 s11_g s11_beganElsewhere_47 s11_dBefore_48 s11_fBefore_49 s11_fFirst_50 s11_weightMany s11_tailTold, aI cy (ad 43) 16 a11_a_44, aI cy (ad 44) 4 a11_b, aI cy (ad 45) 4 a11_e, aI cy (ad 46) 4 a11_h, aJ cy (ad 47) 4 a11_sums_51, aI cy (ad 50) 16 a11_on_52, aI cy (ad 51) 16 a11_often_53] H := hP.sub [4, 0, 1, 2, 3, 5, 6, 7] rfl
                have hD : va_D A [oX11 ad s11_d s11_stepMany s11_kind s11_many s11_partMany s11_rule s11_ticks_45 s11_hand_46 s11_g s11_beganElsewhere_47 s11_dBefore_48 s11_fBefore_49 s11_fFirst_50 s11_weightMany s11_tailTold, aI cy (ad 43) 16 a11_a_44, aI cy (ad 44) 4 a11_b, aI cy (ad 45) 4 a11_e, aI cy (ad 46) 4 a11_h, aJ cy (ad 47) 4 a11_sums_51, aI cy (ad 50) 16 a11_on_52, aI cy (ad 51) 16 a11_often_53] := hD.sub [4, 0, 1, 2, 3, 5, 6, 7] (by decide) rfl
                refine lv_iconst (v := 1) hx hb dX11_table_168 (by decide) ?_
                rw [← hQ]
                exact k_zret hx hb hr hlocks hS (s11_ticks_45, s11_hand_46, s11_g, s11_beganElsewhere_47, s11_dBefore_48, s11_fBefore_49, s11_fFirst_50, a11_a_44, a11_b, a11_e, a11_h, a11_sums_51, a11_on_52, a11_often_53) hP hD (by decide) hv dX11_table_169
          have jn57 : ∀ (H : Heap) (locs : List Loc) (ls : Array Slot), vJ_X11_table_57 s11_ticks s11_hand s11_g s11_beganElsewhere s11_dBefore s11_fBefore s11_fFirst a11_a a11_b a11_e a11_h a11_sums a11_on a11_often x1 x2 x3 K t1 → lv_has ls 6 [(4, .int t1), (0, .ref (ad 11)), (1, .int x1), (2, .int x2), (3, .int x3)] → va_P D vwCl [oX11 ad s11_d s11_stepMany s11_kind s11_many s11_partMany s11_rule s11_ticks s11_hand s11_g s11_beganElsewhere s11_dBefore s11_fBefore s11_fFirst s11_weightMany s11_tailTold, aI cy (ad 43) 16 a11_a, aI cy (ad 44) 4 a11_b, aI cy (ad 45) 4 a11_e, aI cy (ad 46) 4 a11_h, aJ cy (ad 47) 4 a11_sums, aI cy (ad 50) 16 a11_on, aI cy (ad 51) 16 a11_often] H → va_D A [oX11 ad s11_d s11_stepMany s11_kind s11_many s11_partMany s11_rule s11_ticks s11_hand s11_g s11_beganElsewhere s11_dBefore s11_fBefore s11_fFirst s11_weightMany s11_tailTold, aI cy (ad 43) 16 a11_a, aI cy (ad 44) 4 a11_b, aI cy (ad 45) 4 a11_e, aI cy (ad 46) 4 a11_h, aJ cy (ad 47) 4 a11_sums, aI cy (ad 50) 16 a11_on, aI cy (ad 51) 16 a11_often] → va_S A s.heap H locs → W p l e rm_X11_table s m ([.ref (ad 11), .int x1, .int x2, .int x3] : List Value).toArray below meth c H locs 0 0 Q (F0 m 57 ls []) := by
            intro H locs ls hv hl hP hD hS
            unfold vJ_X11_table_57 at hv
            refine lv_iconst (v := 0) hx hb dX11_table_57 (by decide) ?_
            exact jn58 (0 : Int32) H locs ls hv (lv_sub hl [0, 1, 2, 3, 4] rfl) hP hD hS
          refine lv_if_lt (tgt := 57) hx hb dX11_table_42 (by decide) (fun c_42 => ?_) (fun c_42 => ?_)
          · have hv := hv.1 c_42
            exact jn57  H locs ls hv (lv_sub hl [0, 1, 2, 3, 4] rfl) hP hD hS
          · have hv := hv.2 c_42
            refine lv_iload_n hx hb dX11_table_45 rfl (lv_at hl 3 rfl) ?_
            refine lv_aload_n hx hb dX11_table_46 rfl (lv_at hl 1 rfl) ?_
            refine va_get (D := D) (ci := 11) (v := .int s11_many) (C := RX11) (T := TX11) (N := 35) hx hb hts in_X11_table_11 hown hK hP 0 rfl rfl 3 (by decide) (hts _ lk_X11_table_16) (fun _ h9 => h9) rfl dX11_table_47 ?_
            refine lv_icmp_ge (tgt := 57) hx hb dX11_table_50 (by decide) (fun c_50 => ?_) (fun c_50 => ?_)
            · have hv := hv.1 c_50
              exact jn57  H locs ls hv (lv_sub hl [0, 1, 2, 3, 4] rfl) hP hD hS
            · have hv := hv.2 c_50
              refine lv_iconst (v := 1) hx hb dX11_table_53 (by decide) ?_
              refine lv_goto (tgt := 58) hx hb dX11_table_54 (by decide) ?_
              exact jn58 (1 : Int32) H locs ls hv (lv_sub hl [0, 1, 2, 3, 4] rfl) hP hD hS
        have jn38 : ∀ (H : Heap) (locs : List Loc) (ls : Array Slot), vJ_X11_table_38 s11_many s11_ticks s11_hand s11_g s11_beganElsewhere s11_dBefore s11_fBefore s11_fFirst a11_a a11_b a11_e a11_h a11_sums a11_on a11_often x1 x2 x3 K → lv_has ls 6 [(0, .ref (ad 11)), (1, .int x1), (2, .int x2), (3, .int x3)] → va_P D vwCl [oX11 ad s11_d s11_stepMany s11_kind s11_many s11_partMany s11_rule s11_ticks s11_hand s11_g s11_beganElsewhere s11_dBefore s11_fBefore s11_fFirst s11_weightMany s11_tailTold, aI cy (ad 43) 16 a11_a, aI cy (ad 44) 4 a11_b, aI cy (ad 45) 4 a11_e, aI cy (ad 46) 4 a11_h, aJ cy (ad 47) 4 a11_sums, aI cy (ad 50) 16 a11_on, aI cy (ad 51) 16 a11_often] H → va_D A [oX11 ad s11_d s11_stepMany s11_kind s11_many s11_partMany s11_rule s11_ticks s11_hand s11_g s11_beganElsewhere s11_dBefore s11_fBefore s11_fFirst s11_weightMany s11_tailTold, aI cy (ad 43) 16 a11_a, aI cy (ad 44) 4 a11_b, aI cy (ad 45) 4 a11_e, aI cy (ad 46) 4 a11_h, aJ cy (ad 47) 4 a11_sums, aI cy (ad 50) 16 a11_on, aI cy (ad 51) 16 a11_often] → va_S A s.heap H locs → W p l e rm_X11_table s m ([.ref (ad 11), .int x1, .int x2, .int x3] : List Value).toArray below meth c H locs 0 0 Q (F0 m 38 ls []) := by
          intro H locs ls hv hl hP hD hS
          unfold vJ_X11_table_38 at hv
          refine lv_iconst (v := 0) hx hb dX11_table_38 (by decide) ?_
          exact jn39 (0 : Int32) H locs ls hv (lv_sub hl [0, 1, 2, 3] rfl) hP hD hS
        refine lv_if_lt (tgt := 38) hx hb dX11_table_23 (by decide) (fun c_23 => ?_) (fun c_23 => ?_)
        · have hv := hv.1 c_23
          exact jn38  H locs ls hv (lv_sub hl [0, 1, 2, 3] rfl) hP hD hS
        · have hv := hv.2 c_23
          refine lv_iload_n hx hb dX11_table_26 rfl (lv_at hl 1 rfl) ?_
          refine lv_aload_n hx hb dX11_table_27 rfl (lv_at hl 0 rfl) ?_
          refine va_get (D := D) (ci := 11) (v := .int s11_many) (C := RX11) (T := TX11) (N := 35) hx hb hts in_X11_table_11 hown hK hP 0 rfl rfl 3 (by decide) (hts _ lk_X11_table_16) (fun _ h9 => h9) rfl dX11_table_28 ?_
          refine lv_icmp_ge (tgt := 38) hx hb dX11_table_31 (by decide) (fun c_31 => ?_) (fun c_31 => ?_)
          · have hv := hv.1 c_31
            exact jn38  H locs ls hv (lv_sub hl [0, 1, 2, 3] rfl) hP hD hS
          · have hv := hv.2 c_31
            refine lv_iconst (v := 1) hx hb dX11_table_34 (by decide) ?_
            refine lv_goto (tgt := 39) hx hb dX11_table_35 (by decide) ?_
            exact jn39 (1 : Int32) H locs ls hv (lv_sub hl [0, 1, 2, 3] rfl) hP hD hS
      · have hv := hv.2 c_17
        refine lv_iconst (v := 0) hx hb dX11_table_20 (by decide) ?_
        rw [← hQ]
        exact k_zret hx hb hr hlocks hS (s11_ticks, s11_hand, s11_g, s11_beganElsewhere, s11_dBefore, s11_fBefore, s11_fFirst, a11_a, a11_b, a11_e, a11_h, a11_sums, a11_on, a11_often) hP hD (by decide) hv dX11_table_21
theorem lk_X11_isSum_16 : Cond.fieldLink RX11 16 "CoarseStepsModel" "many" "I" ∈ wsX11_isSum := by decide +kernel
theorem in_X11_isSum_11 : ∀ w ∈ wsX110, w ∈ wsX11_isSum := by decide +kernel
abbrev rm_X11_isSum : Room := { frames := 0, cells := 0, slots := 0, locals := 0 }
set_option maxHeartbeats 4000000 in
set_option maxRecDepth 100000 in
theorem m_X11_isSum (l : Launch) (D : va_G) (cy : ClassId × ClassId × ClassId) (ad : Nat → Nat) (s11_d : Int32) (s11_stepMany : Int32) (s11_kind : Int32) (s11_many : Int32) (s11_partMany : Int32) (s11_rule : Int32) (s11_ticks : Int32) (s11_hand : Int32) (s11_g : Int32) (s11_beganElsewhere : Int32) (s11_dBefore : Int32) (s11_fBefore : Int32) (s11_fFirst : Int32) (s11_weightMany : Int32) (s11_tailTold : Int32) (x1 : Int32) (sz : Nat) {K : Int32 → Prop} (hv : v_X11_isSum s11_many x1 K) : Met l yX11_isSum wsX11_isSum rm_X11_isSum (va_Pc [.ref (ad 11), .int x1] (wd D cy [oX11 ad s11_d s11_stepMany s11_kind s11_many s11_partMany s11_rule s11_ticks s11_hand s11_g s11_beganElsewhere s11_dBefore s11_fBefore s11_fFirst s11_weightMany s11_tailTold] sz)) (va_Qi (fun (r : Int32) (u : Unit) => (r = 0 ∨ r = 1) ∧ K r) (fun u t => we D ((fun u : Unit => [oX11 ad s11_d s11_stepMany s11_kind s11_many s11_partMany s11_rule s11_ticks s11_hand s11_g s11_beganElsewhere s11_dBefore s11_fBefore s11_fFirst s11_weightMany s11_tailTold]) u) (va_A [oX11 ad s11_d s11_stepMany s11_kind s11_many s11_partMany s11_rule s11_ticks s11_hand s11_g s11_beganElsewhere s11_dBefore s11_fBefore s11_fFirst s11_weightMany s11_tailTold] sz) t) (va_A [oX11 ad s11_d s11_stepMany s11_kind s11_many s11_partMany s11_rule s11_ticks s11_hand s11_g s11_beganElsewhere s11_dBefore s11_fBefore s11_fFirst s11_weightMany s11_tailTold] sz)) 0 0 (va_A [oX11 ad s11_d s11_stepMany s11_kind s11_many s11_partMany s11_rule s11_ticks s11_hand s11_g s11_beganElsewhere s11_dBefore s11_fBefore s11_fFirst s11_weightMany s11_tailTold] sz) := by
  refine k_ofW (cc := cX11_isSum) (maxL := 2) (ret := (some .boolean)) (fun A => va_Qi (fun (r : Int32) (u : Unit) => (r = 0 ∨ r = 1) ∧ K r) (fun u t => we D ((fun u : Unit => [oX11 ad s11_d s11_stepMany s11_kind s11_many s11_partMany s11_rule s11_ticks s11_hand s11_g s11_beganElsewhere s11_dBefore s11_fBefore s11_fFirst s11_weightMany s11_tailTold]) u) A t) A) (by decide) rfl (Nat.le_of_ble_eq_true rfl) ?_
  intro p e s m below meth c A ls H locs hx hb hml hr hts hown hlocks hname hK hN hA hP hD hS hl
  have hl : lv_has ls 2 [(0, .ref (ad 11)), (1, .int x1)] := hl
  generalize hQ : MQ below _ _ s _ _ A = Q
  unfold v_X11_isSum at hv
  refine lv_iload_n hx hb dX11_isSum_0 rfl (lv_at hl 1 rfl) ?_
  refine lv_if_lt (tgt := 16) hx hb dX11_isSum_1 (by decide) (fun c_1 => ?_) (fun c_1 => ?_)
  · have hv := hv.1 c_1
    refine lv_iconst (v := 0) hx hb dX11_isSum_16 (by decide) ?_
    rw [← hQ]
    exact k_zret hx hb hr hlocks hS () hP hD (by decide) hv dX11_isSum_17
  · have hv := hv.2 c_1
    refine lv_iload_n hx hb dX11_isSum_4 rfl (lv_at hl 1 rfl) ?_
    refine lv_aload_n hx hb dX11_isSum_5 rfl (lv_at hl 0 rfl) ?_
    refine va_get (D := D) (ci := 11) (v := .int s11_many) (C := RX11) (T := TX11) (N := 35) hx hb hts in_X11_isSum_11 hown hK hP 0 rfl rfl 3 (by decide) (hts _ lk_X11_isSum_16) (fun _ h9 => h9) rfl dX11_isSum_6 ?_
    refine lv_icmp_ge (tgt := 16) hx hb dX11_isSum_9 (by decide) (fun c_9 => ?_) (fun c_9 => ?_)
    · have hv := hv.1 c_9
      refine lv_iconst (v := 0) hx hb dX11_isSum_16 (by decide) ?_
      rw [← hQ]
      exact k_zret hx hb hr hlocks hS () hP hD (by decide) hv dX11_isSum_17
    · have hv := hv.2 c_9
      refine lv_iconst (v := 1) hx hb dX11_isSum_12 (by decide) ?_
      refine lv_goto (tgt := 17) hx hb dX11_isSum_13 (by decide) ?_
      rw [← hQ]
      exact k_zret hx hb hr hlocks hS () hP hD (by decide) hv dX11_isSum_17
theorem lk_X11_isNear_115 : Cond.constantLong RX11 115 (1000000000000) ∈ wsX11_isNear := by decide +kernel
theorem lk_X11_isNear_117 : Cond.constantLong RX11 117 (-1000000000000) ∈ wsX11_isNear := by decide +kernel
abbrev rm_X11_isNear : Room := { frames := 0, cells := 0, slots := 0, locals := 0 }
set_option maxHeartbeats 4000000 in
set_option maxRecDepth 100000 in
theorem m_X11_isNear (l : Launch) (D : va_G) (cy : ClassId × ClassId × ClassId) (ad : Nat → Nat) (x0 : Int64) (sz : Nat) {K : Int32 → Prop} (hv : v_X11_isNear x0 K) : Met l yX11_isNear wsX11_isNear rm_X11_isNear (va_Pc [.long x0] (wd D cy [] sz)) (va_Qi (fun (r : Int32) (u : Unit) => (r = 0 ∨ r = 1) ∧ K r) (fun u t => we D ((fun u : Unit => []) u) (va_A [] sz) t) (va_A [] sz)) 0 0 (va_A [] sz) := by
  refine k_ofW (cc := cX11_isNear) (maxL := 2) (ret := (some .boolean)) (fun A => va_Qi (fun (r : Int32) (u : Unit) => (r = 0 ∨ r = 1) ∧ K r) (fun u t => we D ((fun u : Unit => []) u) A t) A) (by decide) rfl (Nat.le_of_ble_eq_true rfl) ?_
  intro p e s m below meth c A ls H locs hx hb hml hr hts hown hlocks hname hK hN hA hP hD hS hl
  have hl : lv_has ls 2 [(0, .long x0)] := hl
  generalize hQ : MQ below _ _ s _ _ A = Q
  unfold v_X11_isNear at hv
  refine lv_lload_n hx hb dX11_isNear_0 rfl (lv_at hl 0 rfl) ?_
  refine lv_ldc2 hx hb hown (hts _ lk_X11_isNear_115) dX11_isNear_1 ?_
  refine k_lc_gt (tgt := 20) hx hb dX11_isNear_4 dX11_isNear_5 (by decide) (fun c_4 => ?_) (fun c_4 => ?_)
  · have hv := hv.1 c_4
    refine lv_iconst (v := 0) hx hb dX11_isNear_20 (by decide) ?_
    rw [← hQ]
    exact k_zret hx hb hr hlocks hS () hP hD (by decide) hv dX11_isNear_21
  · have hv := hv.2 c_4
    refine lv_lload_n hx hb dX11_isNear_8 rfl (lv_at hl 0 rfl) ?_
    refine lv_ldc2 hx hb hown (hts _ lk_X11_isNear_117) dX11_isNear_9 ?_
    refine k_lc_lt (tgt := 20) hx hb dX11_isNear_12 dX11_isNear_13 (by decide) (fun c_12 => ?_) (fun c_12 => ?_)
    · have hv := hv.1 c_12
      refine lv_iconst (v := 0) hx hb dX11_isNear_20 (by decide) ?_
      rw [← hQ]
      exact k_zret hx hb hr hlocks hS () hP hD (by decide) hv dX11_isNear_21
    · have hv := hv.2 c_12
      refine lv_iconst (v := 1) hx hb dX11_isNear_16 (by decide) ?_
      refine lv_goto (tgt := 21) hx hb dX11_isNear_17 (by decide) ?_
      rw [← hQ]
      exact k_zret hx hb hr hlocks hS () hP hD (by decide) hv dX11_isNear_21
theorem lk_X11_start_81 : Cond.fieldLink RX11 81 "CoarseStepsModel" "ticks" "I" ∈ wsX11_start := by decide +kernel
theorem in_X11_start_11 : ∀ w ∈ wsX110, w ∈ wsX11_start := by decide +kernel
theorem lk_X11_start_38 : Cond.fieldLink RX11 38 "CoarseStepsModel" "sums" "[J" ∈ wsX11_start := by decide +kernel
theorem lk_X11_start_96 : Cond.fieldLink RX11 96 "CoarseStepsModel" "beganElsewhere" "Z" ∈ wsX11_start := by decide +kernel
abbrev rm_X11_start : Room := { frames := 1, cells := 0, slots := 0, locals := 21 }
set_option maxHeartbeats 4000000 in
set_option maxRecDepth 100000 in
theorem m_X11_start (l : Launch) (D : va_G) (cy : ClassId × ClassId × ClassId) (ad : Nat → Nat) (s11_d : Int32) (s11_stepMany : Int32) (s11_kind : Int32) (s11_many : Int32) (s11_partMany : Int32) (s11_rule : Int32) (s11_ticks : Int32) (s11_hand : Int32) (s11_g : Int32) (s11_beganElsewhere : Int32) (s11_dBefore : Int32) (s11_fBefore : Int32) (s11_fFirst : Int32) (s11_weightMany : Int32) (s11_tailTold : Int32) (a11_sums : Nat → Int64) (x1 : Int32) (x2 : Int64) (sz : Nat) {K : Int32 → Int32 → (Nat → Int64) → Prop} (hv : v_X11_start s11_many s11_ticks s11_beganElsewhere a11_sums x1 x2 K) : Met l yX11_start wsX11_start rm_X11_start (va_Pc [.ref (ad 11), .int x1, .long x2] (wd D cy [oX11 ad s11_d s11_stepMany s11_kind s11_many s11_partMany s11_rule s11_ticks s11_hand s11_g s11_beganElsewhere s11_dBefore s11_fBefore s11_fFirst s11_weightMany s11_tailTold, aJ cy (ad 47) 4 a11_sums] sz)) (va_Qi (fun (r : Int32) (u : Int32 × (Nat → Int64)) => (r = 0 ∨ r = 1) ∧ K r u.1 u.2) (fun u t => we D ((fun u : Int32 × (Nat → Int64) => [oX11 ad s11_d s11_stepMany s11_kind s11_many s11_partMany s11_rule s11_ticks s11_hand s11_g u.1 s11_dBefore s11_fBefore s11_fFirst s11_weightMany s11_tailTold, aJ cy (ad 47) 4 u.2]) u) (va_A [oX11 ad s11_d s11_stepMany s11_kind s11_many s11_partMany s11_rule s11_ticks s11_hand s11_g s11_beganElsewhere s11_dBefore s11_fBefore s11_fFirst s11_weightMany s11_tailTold, aJ cy (ad 47) 4 a11_sums] sz) t) (va_A [oX11 ad s11_d s11_stepMany s11_kind s11_many s11_partMany s11_rule s11_ticks s11_hand s11_g s11_beganElsewhere s11_dBefore s11_fBefore s11_fFirst s11_weightMany s11_tailTold, aJ cy (ad 47) 4 a11_sums] sz)) 0 0 (va_A [oX11 ad s11_d s11_stepMany s11_kind s11_many s11_partMany s11_rule s11_ticks s11_hand s11_g s11_beganElsewhere s11_dBefore s11_fBefore s11_fFirst s11_weightMany s11_tailTold, aJ cy (ad 47) 4 a11_sums] sz) := by
  refine k_ofW (cc := cX11_start) (maxL := 4) (ret := (some .boolean)) (fun A => va_Qi (fun (r : Int32) (u : Int32 × (Nat → Int64)) => (r = 0 ∨ r = 1) ∧ K r u.1 u.2) (fun u t => we D ((fun u : Int32 × (Nat → Int64) => [oX11 ad s11_d s11_stepMany s11_kind s11_many s11_partMany s11_rule s11_ticks s11_hand s11_g u.1 s11_dBefore s11_fBefore s11_fFirst s11_weightMany s11_tailTold, aJ cy (ad 47) 4 u.2]) u) A t) A) (by decide) rfl (Nat.le_of_ble_eq_true rfl) ?_
  intro p e s m below meth c A ls H locs hx hb hml hr hts hown hlocks hname hK hN hA hP hD hS hl
  have hl : lv_has ls 4 [(0, .ref (ad 11)), (1, .int x1), (2, .long x2)] := hl
  generalize hQ : MQ below _ _ s _ _ A = Q
  unfold v_X11_start at hv
  refine lv_aload_n hx hb dX11_start_0 rfl (lv_at hl 0 rfl) ?_
  refine lv_iload_n hx hb dX11_start_1 rfl (lv_at hl 1 rfl) ?_
  have hPc := hP.sub (ws' := [oX11 ad s11_d s11_stepMany s11_kind s11_many s11_partMany s11_rule s11_ticks s11_hand s11_g s11_beganElsewhere s11_dBefore s11_fBefore s11_fFirst s11_weightMany s11_tailTold]) [0] rfl
  have hDc := hD.sub (ws' := [oX11 ad s11_d s11_stepMany s11_kind s11_many s11_partMany s11_rule s11_ticks s11_hand s11_g s11_beganElsewhere s11_dBefore s11_fBefore s11_fFirst s11_weightMany s11_tailTold]) [0] (by decide) rfl
  refine k_cali (wc := [oX11 ad s11_d s11_stepMany s11_kind s11_many s11_partMany s11_rule s11_ticks s11_hand s11_g s11_beganElsewhere s11_dBefore s11_fBefore s11_fFirst s11_weightMany s11_tailTold]) (wr := [aJ cy (ad 47) 4 a11_sums]) (va_runV (As := [.int x1]) (rest := []) ⟨hx, hb, hml, hown, hts⟩ (m_X11_isSum l D cy ad s11_d s11_stepMany s11_kind s11_many s11_partMany s11_rule s11_ticks s11_hand s11_g s11_beganElsewhere s11_dBefore s11_fBefore s11_fFirst s11_weightMany s11_tailTold x1 H.size hv) (cwV 1 hts gX11_start_X11_isSum rfl rfl rfl (by decide +kernel) ⟨Nat.le_of_ble_eq_true rfl, Nat.le_of_ble_eq_true rfl⟩) ⟨wd_blind, va_recv hK hPc (ci := 11) (q0 := 0) rfl rfl, wd_ok hPc hK hDc hN⟩ rfl rfl hl.1 rfl (lv_room (Nat.le_of_ble_eq_true rfl)) dX11_start_2 ⟨Nat.le_of_ble_eq_true rfl, Nat.le_of_ble_eq_true rfl⟩) hP hD hS hA [0] [1] rfl rfl (by decide) (by decide) (fun r1 u H locs hv hP hD hS => ?_)
  obtain ⟨hz_r1, hv⟩ := hv
  have hP : va_P D vwCl [oX11 ad s11_d s11_stepMany s11_kind s11_many s11_partMany s11_rule s11_ticks s11_hand s11_g s11_beganElsewhere s11_dBefore s11_fBefore s11_fFirst s11_weightMany s11_tailTold, aJ cy (ad 47) 4 a11_sums] H := hP.sub [1, 0] rfl
  have hD : va_D A [oX11 ad s11_d s11_stepMany s11_kind s11_many s11_partMany s11_rule s11_ticks s11_hand s11_g s11_beganElsewhere s11_dBefore s11_fBefore s11_fFirst s11_weightMany s11_tailTold, aJ cy (ad 47) 4 a11_sums] := hD.sub [1, 0] (by decide) rfl
  refine lv_if_eq (tgt := 22) hx hb dX11_start_5 (by decide) (fun c_5 => ?_) (fun c_5 => ?_)
  · have hv := hv.1 c_5
    refine lv_iconst (v := 0) hx hb dX11_start_22 (by decide) ?_
    rw [← hQ]
    exact k_zret hx hb hr hlocks hS (s11_beganElsewhere, a11_sums) hP hD (by decide) hv dX11_start_23
  · have hv := hv.2 c_5
    refine lv_lload_n hx hb dX11_start_8 rfl (lv_at hl 2 rfl) ?_
    have hPc := hP.sub (ws' := []) [] rfl
    have hDc := hD.sub (ws' := []) [] (by decide) rfl
    refine k_cali (wc := []) (wr := [oX11 ad s11_d s11_stepMany s11_kind s11_many s11_partMany s11_rule s11_ticks s11_hand s11_g s11_beganElsewhere s11_dBefore s11_fBefore s11_fFirst s11_weightMany s11_tailTold, aJ cy (ad 47) 4 a11_sums]) (va_runS (As := [.long x2]) (rest := []) ⟨hx, hb, hml, hown, hts⟩ (m_X11_isNear l D cy ad x2 H.size hv) (va_cwS 1 hts gX11_start_X11_isNear rfl rfl rfl (by decide +kernel) ⟨Nat.le_of_ble_eq_true rfl, Nat.le_of_ble_eq_true rfl⟩) ⟨wd_blind, wd_ok hPc hK hDc hN⟩ rfl rfl hl.1 rfl (lv_room (Nat.le_of_ble_eq_true rfl)) dX11_start_9 ⟨Nat.le_of_ble_eq_true rfl, Nat.le_of_ble_eq_true rfl⟩) hP hD hS hA [] [0, 1] rfl rfl (by decide) (by decide) (fun r2 u H locs hv hP hD hS => ?_)
    obtain ⟨hz_r2, hv⟩ := hv
    have hP : va_P D vwCl [oX11 ad s11_d s11_stepMany s11_kind s11_many s11_partMany s11_rule s11_ticks s11_hand s11_g s11_beganElsewhere s11_dBefore s11_fBefore s11_fFirst s11_weightMany s11_tailTold, aJ cy (ad 47) 4 a11_sums] H := hP.sub [0, 1] rfl
    have hD : va_D A [oX11 ad s11_d s11_stepMany s11_kind s11_many s11_partMany s11_rule s11_ticks s11_hand s11_g s11_beganElsewhere s11_dBefore s11_fBefore s11_fFirst s11_weightMany s11_tailTold, aJ cy (ad 47) 4 a11_sums] := hD.sub [0, 1] (by decide) rfl
    refine lv_if_eq (tgt := 22) hx hb dX11_start_12 (by decide) (fun c_12 => ?_) (fun c_12 => ?_)
    · have hv := hv.1 c_12
      refine lv_iconst (v := 0) hx hb dX11_start_22 (by decide) ?_
      rw [← hQ]
      exact k_zret hx hb hr hlocks hS (s11_beganElsewhere, a11_sums) hP hD (by decide) hv dX11_start_23
    · have hv := hv.2 c_12
      refine lv_aload_n hx hb dX11_start_15 rfl (lv_at hl 0 rfl) ?_
      refine va_get (D := D) (ci := 11) (v := .int s11_ticks) (C := RX11) (T := TX11) (N := 35) hx hb hts in_X11_start_11 hown hK hP 0 rfl rfl 6 (by decide) (hts _ lk_X11_start_81) (fun _ h9 => h9) rfl dX11_start_16 ?_
      refine lv_if_le (tgt := 24) hx hb dX11_start_19 (by decide) (fun c_19 => ?_) (fun c_19 => ?_)
      · have hv := hv.1 c_19
        refine lv_aload_n hx hb dX11_start_24 rfl (lv_at hl 0 rfl) ?_
        refine va_get (D := D) (ci := 11) (v := .ref (ad 47)) (C := RX11) (T := TX11) (N := 35) hx hb hts in_X11_start_11 hown hK hP 0 rfl rfl 15 (by decide) (hts _ lk_X11_start_38) (fun _ h9 => h9) rfl dX11_start_25 ?_
        refine lv_iload_n hx hb dX11_start_28 rfl (lv_at hl 1 rfl) ?_
        refine lv_lload_n hx hb dX11_start_29 rfl (lv_at hl 2 rfl) ?_
        refine k_last hx hb hK hP hD hS 1 1 rfl rfl hv.1 dX11_start_30 (fun a11_sums_3 H locs h_a11_sums_3 hP hD hS => ?_)
        have hv := hv.2 a11_sums_3 h_a11_sums_3
        have hP : va_P D vwCl [oX11 ad s11_d s11_stepMany s11_kind s11_many s11_partMany s11_rule s11_ticks s11_hand s11_g s11_beganElsewhere s11_dBefore s11_fBefore s11_fFirst s11_weightMany s11_tailTold, aJ cy (ad 47) 4 a11_sums_3] H := hP
        have hD : va_D A [oX11 ad s11_d s11_stepMany s11_kind s11_many s11_partMany s11_rule s11_ticks s11_hand s11_g s11_beganElsewhere s11_dBefore s11_fBefore s11_fFirst s11_weightMany s11_tailTold, aJ cy (ad 47) 4 a11_sums_3] := hD
        refine lv_aload_n hx hb dX11_start_31 rfl (lv_at hl 0 rfl) ?_
        refine lv_aload_n hx hb dX11_start_32 rfl (lv_at hl 0 rfl) ?_
        refine va_get (D := D) (ci := 11) (v := .ref (ad 47)) (C := RX11) (T := TX11) (N := 35) hx hb hts in_X11_start_11 hown hK hP 0 rfl rfl 15 (by decide) (hts _ lk_X11_start_38) (fun _ h9 => h9) rfl dX11_start_33 ?_
        refine lv_iconst (v := 0) hx hb dX11_start_36 (by decide) ?_
        refine va_lald hx hb hK hP 1 1 rfl rfl hv.1 dX11_start_37 ?_
        refine lv_topl (fun g4 h_g4 => ?_)
        have hv := hv.2 g4 h_g4
        refine lv_lconst (v := 0) hx hb dX11_start_38 (by decide) ?_
        refine k_lc_eq (tgt := 47) hx hb dX11_start_39 dX11_start_40 (by decide) (fun c_39 => ?_) (fun c_39 => ?_)
        · have hv := hv.1 c_39
          refine lv_iconst (v := 0) hx hb dX11_start_47 (by decide) ?_
          refine va_put (D := D) (ci := 11) (v := .int (0 : Int32)) (ty := .boolean) (C := RX11) (T := TX11) (N := 35) hx hb hts in_X11_start_11 tyX11 tyX11_ok nmX11 hown hK hP hD hS 0 rfl rfl 18 (by decide) (hts _ lk_X11_start_96) (fun _ h9 => h9) rfl (by decide +kernel) rfl rfl (Nat.le_of_ble_eq_true rfl) dX11_start_48 (fun H locs hP hD hS => ?_)
          have hP : va_P D vwCl [oX11 ad s11_d s11_stepMany s11_kind s11_many s11_partMany s11_rule s11_ticks s11_hand s11_g (0 : Int32) s11_dBefore s11_fBefore s11_fFirst s11_weightMany s11_tailTold, aJ cy (ad 47) 4 a11_sums_3] H := hP
          have hD : va_D A [oX11 ad s11_d s11_stepMany s11_kind s11_many s11_partMany s11_rule s11_ticks s11_hand s11_g (0 : Int32) s11_dBefore s11_fBefore s11_fFirst s11_weightMany s11_tailTold, aJ cy (ad 47) 4 a11_sums_3] := hD
          refine lv_iconst (v := 1) hx hb dX11_start_51 (by decide) ?_
          rw [← hQ]
          exact k_zret hx hb hr hlocks hS ((0 : Int32), a11_sums_3) hP hD (by decide) hv dX11_start_52
        · have hv := hv.2 c_39
          refine lv_iconst (v := 1) hx hb dX11_start_43 (by decide) ?_
          refine lv_goto (tgt := 48) hx hb dX11_start_44 (by decide) ?_
          refine va_put (D := D) (ci := 11) (v := .int (1 : Int32)) (ty := .boolean) (C := RX11) (T := TX11) (N := 35) hx hb hts in_X11_start_11 tyX11 tyX11_ok nmX11 hown hK hP hD hS 0 rfl rfl 18 (by decide) (hts _ lk_X11_start_96) (fun _ h9 => h9) rfl (by decide +kernel) rfl rfl (Nat.le_of_ble_eq_true rfl) dX11_start_48 (fun H locs hP hD hS => ?_)
          have hP : va_P D vwCl [oX11 ad s11_d s11_stepMany s11_kind s11_many s11_partMany s11_rule s11_ticks s11_hand s11_g (1 : Int32) s11_dBefore s11_fBefore s11_fFirst s11_weightMany s11_tailTold, aJ cy (ad 47) 4 a11_sums_3] H := hP
          have hD : va_D A [oX11 ad s11_d s11_stepMany s11_kind s11_many s11_partMany s11_rule s11_ticks s11_hand s11_g (1 : Int32) s11_dBefore s11_fBefore s11_fFirst s11_weightMany s11_tailTold, aJ cy (ad 47) 4 a11_sums_3] := hD
          refine lv_iconst (v := 1) hx hb dX11_start_51 (by decide) ?_
          rw [← hQ]
          exact k_zret hx hb hr hlocks hS ((1 : Int32), a11_sums_3) hP hD (by decide) hv dX11_start_52
      · have hv := hv.2 c_19
        refine lv_iconst (v := 0) hx hb dX11_start_22 (by decide) ?_
        rw [← hQ]
        exact k_zret hx hb hr hlocks hS (s11_beganElsewhere, a11_sums) hP hD (by decide) hv dX11_start_23
