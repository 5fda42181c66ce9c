theorem lk_X8_put_28 : Cond.fieldLink RX8 28 "CoarseSteps$Tables" "g" "I" ∈ wsX8_put := by decide +kernel
theorem in_X8_put_8 : ∀ w ∈ wsX80, w ∈ wsX8_put := by decide +kernel
theorem lk_X8_put_25 : Cond.fieldLink RX8 25 "CoarseSteps$Tables" "h" "[I" ∈ wsX8_put := by decide +kernel
theorem lk_X8_put_22 : Cond.fieldLink RX8 22 "CoarseSteps$Tables" "e" "[I" ∈ wsX8_put := by decide +kernel
theorem lk_X8_put_19 : Cond.fieldLink RX8 19 "CoarseSteps$Tables" "b" "[I" ∈ wsX8_put := by decide +kernel
theorem lk_X8_put_15 : Cond.fieldLink RX8 15 "CoarseSteps$Tables" "a" "[I" ∈ wsX8_put := by decide +kernel
theorem lk_X8_put_9 : Cond.fieldLink RX8 9 "CoarseSteps$Tables" "sums" "I" ∈ wsX8_put := by decide +kernel
abbrev rm_X8_put : Room := { frames := 0, cells := 0, slots := 0, locals := 0 }
set_option maxHeartbeats 4000000 in
set_option maxRecDepth 100000 in
theorem m_X8_put (l : Launch) (D : va_G) (cy : ClassId × ClassId × ClassId) (ad : Nat → Nat) (s8_sums : Int32) (s8_g : Int32) (a8_a : Nat → Int32) (a8_b : Nat → Int32) (a8_e : Nat → Int32) (a8_h : Nat → Int32) (x1 : Int32) (x2 : Int32) (x3 : Int32) (sz : Nat) {K : Int32 → Int32 → (Nat → Int32) → (Nat → Int32) → (Nat → Int32) → (Nat → Int32) → Prop} (hv : v_X8_put s8_sums s8_g a8_a a8_b a8_e a8_h x1 x2 x3 K) : Met l yX8_put wsX8_put rm_X8_put (va_Pc [.ref (ad 8), .int x1, .int x2, .int x3] (wd D cy [oX8 ad s8_sums s8_g, aI cy (ad 35) 16 a8_a, aI cy (ad 36) 4 a8_b, aI cy (ad 37) 4 a8_e, aI cy (ad 38) 4 a8_h] sz)) (va_Qi (fun (r : Int32) (u : Int32 × (Nat → Int32) × (Nat → Int32) × (Nat → Int32) × (Nat → Int32)) => (r = 0 ∨ r = 1) ∧ K r u.1 u.2.1 u.2.2.1 u.2.2.2.1 u.2.2.2.2) (fun u t => we D ((fun u : Int32 × (Nat → Int32) × (Nat → Int32) × (Nat → Int32) × (Nat → Int32) => [oX8 ad s8_sums u.1, aI cy (ad 35) 16 u.2.1, aI cy (ad 36) 4 u.2.2.1, aI cy (ad 37) 4 u.2.2.2.1, aI cy (ad 38) 4 u.2.2.2.2]) u) (va_A [oX8 ad s8_sums s8_g, aI cy (ad 35) 16 a8_a, aI cy (ad 36) 4 a8_b, aI cy (ad 37) 4 a8_e, aI cy (ad 38) 4 a8_h] sz) t) (va_A [oX8 ad s8_sums s8_g, aI cy (ad 35) 16 a8_a, aI cy (ad 36) 4 a8_b, aI cy (ad 37) 4 a8_e, aI cy (ad 38) 4 a8_h] sz)) 0 0 (va_A [oX8 ad s8_sums s8_g, aI cy (ad 35) 16 a8_a, aI cy (ad 36) 4 a8_b, aI cy (ad 37) 4 a8_e, aI cy (ad 38) 4 a8_h] sz) := by
  refine k_ofW (cc := cX8_put) (maxL := 6) (ret := (some .boolean)) (fun A => va_Qi (fun (r : Int32) (u : Int32 × (Nat → Int32) × (Nat → Int32) × (Nat → Int32) × (Nat → Int32)) => (r = 0 ∨ r = 1) ∧ K r u.1 u.2.1 u.2.2.1 u.2.2.2.1 u.2.2.2.2) (fun u t => we D ((fun u : Int32 × (Nat → Int32) × (Nat → Int32) × (Nat → Int32) × (Nat → Int32) => [oX8 ad s8_sums u.1, aI cy (ad 35) 16 u.2.1, aI cy (ad 36) 4 u.2.2.1, aI cy (ad 37) 4 u.2.2.2.1, aI cy (ad 38) 4 u.2.2.2.2]) u) A t) A) (by decide) rfl (Nat.le_of_ble_eq_true rfl) ?_
  intro p e s m below meth c A ls H locs hx hb hml hr hts hown hlocks hname hK hN hA hP hD hS hl
  have hl : lv_has ls 6 [(0, .ref (ad 8)), (1, .int x1), (2, .int x2), (3, .int x3)] := hl
  generalize hQ : MQ below _ _ s _ _ A = Q
  unfold v_X8_put at hv
  refine lv_iload_n hx hb dX8_put_0 rfl (lv_at hl 1 rfl) ?_
  have jn17 : ∀ (t1 : Int32) (H : Heap) (locs : List Loc) (ls : Array Slot), vJ_X8_put_17 s8_sums s8_g a8_a a8_b a8_e a8_h x1 x2 x3 K t1 → lv_has ls 6 [(0, .ref (ad 8)), (1, .int x1), (2, .int x2), (3, .int x3)] → va_P D vwCl [oX8 ad s8_sums s8_g, aI cy (ad 35) 16 a8_a, aI cy (ad 36) 4 a8_b, aI cy (ad 37) 4 a8_e, aI cy (ad 38) 4 a8_h] H → va_D A [oX8 ad s8_sums s8_g, aI cy (ad 35) 16 a8_a, aI cy (ad 36) 4 a8_b, aI cy (ad 37) 4 a8_e, aI cy (ad 38) 4 a8_h] → va_S A s.heap H locs → W p l e rm_X8_put s m ([.ref (ad 8), .int x1, .int x2, .int x3] : List Value).toArray below meth c H locs 0 0 Q (F0 m 17 ls [.int t1]) := by
    intro t1 H locs ls hv hl hP hD hS
    unfold vJ_X8_put_17 at hv
    refine lv_istore (lv' := [(4, .int t1), (0, .ref (ad 8)), (1, .int x1), (2, .int x2), (3, .int x3)]) hx hb dX8_put_17 hl (by decide) rfl (fun ls hl => ?_)
    refine lv_iload_n hx hb dX8_put_19 rfl (lv_at hl 3 rfl) ?_
    have jn36 : ∀ (t2 : Int32) (H : Heap) (locs : List Loc) (ls : Array Slot), vJ_X8_put_36 s8_g a8_a a8_b a8_e a8_h x1 x2 x3 K t1 t2 → lv_has ls 6 [(4, .int t1), (0, .ref (ad 8)), (1, .int x1), (2, .int x2), (3, .int x3)] → va_P D vwCl [oX8 ad s8_sums s8_g, aI cy (ad 35) 16 a8_a, aI cy (ad 36) 4 a8_b, aI cy (ad 37) 4 a8_e, aI cy (ad 38) 4 a8_h] H → va_D A [oX8 ad s8_sums s8_g, aI cy (ad 35) 16 a8_a, aI cy (ad 36) 4 a8_b, aI cy (ad 37) 4 a8_e, aI cy (ad 38) 4 a8_h] → va_S A s.heap H locs → W p l e rm_X8_put s m ([.ref (ad 8), .int x1, .int x2, .int x3] : List Value).toArray below meth c H locs 0 0 Q (F0 m 36 ls [.int t2]) := by
      intro t2 H locs ls hv hl hP hD hS
      unfold vJ_X8_put_36 at hv
      refine lv_istore (lv' := [(5, .int t2), (4, .int t1), (0, .ref (ad 8)), (1, .int x1), (2, .int x2), (3, .int x3)]) hx hb dX8_put_36 hl (by decide) rfl (fun ls hl => ?_)
      refine lv_iload hx hb dX8_put_38 (lv_at hl 1 rfl) ?_
      have jn62 : ∀ (H : Heap) (locs : List Loc) (ls : Array Slot), vJ_X8_put_62 s8_g a8_a a8_b a8_e a8_h x1 x2 x3 K t1 t2 → lv_has ls 6 [(5, .int t2), (4, .int t1), (0, .ref (ad 8)), (1, .int x1), (2, .int x2), (3, .int x3)] → va_P D vwCl [oX8 ad s8_sums s8_g, aI cy (ad 35) 16 a8_a, aI cy (ad 36) 4 a8_b, aI cy (ad 37) 4 a8_e, aI cy (ad 38) 4 a8_h] H → va_D A [oX8 ad s8_sums s8_g, aI cy (ad 35) 16 a8_a, aI cy (ad 36) 4 a8_b, aI cy (ad 37) 4 a8_e, aI cy (ad 38) 4 a8_h] → va_S A s.heap H locs → W p l e rm_X8_put s m ([.ref (ad 8), .int x1, .int x2, .int x3] : List Value).toArray below meth c H locs 0 0 Q (F0 m 62 ls []) := by
        intro H locs ls hv hl hP hD hS
        unfold vJ_X8_put_62 at hv
        refine lv_iload hx hb dX8_put_62 (lv_at hl 1 rfl) ?_
        have jn82 : ∀ (H : Heap) (locs : List Loc) (ls : Array Slot), vJ_X8_put_82 s8_g a8_a a8_b a8_e a8_h x1 x2 x3 K t1 t2 → lv_has ls 6 [(5, .int t2), (4, .int t1), (0, .ref (ad 8)), (1, .int x1), (2, .int x2), (3, .int x3)] → va_P D vwCl [oX8 ad s8_sums s8_g, aI cy (ad 35) 16 a8_a, aI cy (ad 36) 4 a8_b, aI cy (ad 37) 4 a8_e, aI cy (ad 38) 4 a8_h] H → va_D A [oX8 ad s8_sums s8_g, aI cy (ad 35) 16 a8_a, aI cy (ad 36) 4 a8_b, aI cy (ad 37) 4 a8_e, aI cy (ad 38) 4 a8_h] → va_S A s.heap H locs → W p l e rm_X8_put s m ([.ref (ad 8), .int x1, .int x2, .int x3] : List Value).toArray below meth c H locs 0 0 Q (F0 m 82 ls []) := by
          intro H locs ls hv hl hP hD hS
          unfold vJ_X8_put_82 at hv
          refine lv_iload hx hb dX8_put_82 (lv_at hl 1 rfl) ?_
          have jn102 : ∀ (H : Heap) (locs : List Loc) (ls : Array Slot), vJ_X8_put_102 s8_g a8_a a8_b a8_e a8_h x1 x2 x3 K t2 → lv_has ls 6 [(5, .int t2), (0, .ref (ad 8)), (1, .int x1), (2, .int x2), (3, .int x3)] → va_P D vwCl [oX8 ad s8_sums s8_g, aI cy (ad 35) 16 a8_a, aI cy (ad 36) 4 a8_b, aI cy (ad 37) 4 a8_e, aI cy (ad 38) 4 a8_h] H → va_D A [oX8 ad s8_sums s8_g, aI cy (ad 35) 16 a8_a, aI cy (ad 36) 4 a8_b, aI cy (ad 37) 4 a8_e, aI cy (ad 38) 4 a8_h] → va_S A s.heap H locs → W p l e rm_X8_put s m ([.ref (ad 8), .int x1, .int x2, .int x3] : List Value).toArray below meth c H locs 0 0 Q (F0 m 102 ls []) := by
            intro H locs ls hv hl hP hD hS
            unfold vJ_X8_put_102 at hv
            refine lv_iload_n hx hb dX8_put_102 rfl (lv_at hl 2 rfl) ?_
            refine lv_iconst (v := 4) hx hb dX8_put_103 (by decide) ?_
            have jn122 : ∀ (H : Heap) (locs : List Loc) (ls : Array Slot), vJ_X8_put_122 s8_g a8_a a8_b a8_e a8_h x1 x2 x3 K → lv_has ls 6 [(0, .ref (ad 8)), (1, .int x1), (2, .int x2), (3, .int x3)] → va_P D vwCl [oX8 ad s8_sums s8_g, aI cy (ad 35) 16 a8_a, aI cy (ad 36) 4 a8_b, aI cy (ad 37) 4 a8_e, aI cy (ad 38) 4 a8_h] H → va_D A [oX8 ad s8_sums s8_g, aI cy (ad 35) 16 a8_a, aI cy (ad 36) 4 a8_b, aI cy (ad 37) 4 a8_e, aI cy (ad 38) 4 a8_h] → va_S A s.heap H locs → W p l e rm_X8_put s m ([.ref (ad 8), .int x1, .int x2, .int x3] : List Value).toArray below meth c H locs 0 0 Q (F0 m 122 ls []) := by
              intro H locs ls hv hl hP hD hS
              unfold vJ_X8_put_122 at hv
              refine lv_iload_n hx hb dX8_put_122 rfl (lv_at hl 1 rfl) ?_
              refine lv_iconst (v := 4) hx hb dX8_put_123 (by decide) ?_
              refine lv_icmp_ne (tgt := 140) hx hb dX8_put_124 (by decide) (fun c_124 => ?_) (fun c_124 => ?_)
              · have hv := hv.1 c_124
                refine lv_iconst (v := 0) hx hb dX8_put_140 (by decide) ?_
                rw [← hQ]
                exact k_zret hx hb hr hlocks hS (s8_g, a8_a, a8_b, a8_e, a8_h) hP hD (by decide) hv dX8_put_141
              · have hv := hv.2 c_124
                refine lv_iload_n hx hb dX8_put_127 rfl (lv_at hl 2 rfl) ?_
                refine lv_iconst (v := 4) hx hb dX8_put_128 (by decide) ?_
                refine lv_icmp_ne (tgt := 140) hx hb dX8_put_129 (by decide) (fun c_129 => ?_) (fun c_129 => ?_)
                · have hv := hv.1 c_129
                  refine lv_iconst (v := 0) hx hb dX8_put_140 (by decide) ?_
                  rw [← hQ]
                  exact k_zret hx hb hr hlocks hS (s8_g, a8_a, a8_b, a8_e, a8_h) hP hD (by decide) hv dX8_put_141
                · have hv := hv.2 c_129
                  refine lv_aload_n hx hb dX8_put_132 rfl (lv_at hl 0 rfl) ?_
                  refine lv_iload_n hx hb dX8_put_133 rfl (lv_at hl 3 rfl) ?_
                  refine va_put (D := D) (ci := 8) (v := .int x3) (ty := .int) (C := RX8) (T := TX8) (N := 6) hx hb hts in_X8_put_8 tyX8 tyX8_ok nmX8 hown hK hP hD hS 0 rfl rfl 1 (by decide) (hts _ lk_X8_put_28) (fun _ h9 => h9) rfl (by decide +kernel) rfl rfl (Nat.le_of_ble_eq_true rfl) dX8_put_134 (fun H locs hP hD hS => ?_)
                  have hP : va_P D vwCl [oX8 ad s8_sums x3, aI cy (ad 35) 16 a8_a, aI cy (ad 36) 4 a8_b, aI cy (ad 37) 4 a8_e, aI cy (ad 38) 4 a8_h] H := hP
                  have hD : va_D A [oX8 ad s8_sums x3, aI cy (ad 35) 16 a8_a, aI cy (ad 36) 4 a8_b, aI cy (ad 37) 4 a8_e, aI cy (ad 38) 4 a8_h] := hD
                  refine lv_goto (tgt := 142) hx hb dX8_put_137 (by decide) ?_
                  refine lv_iconst (v := 1) hx hb dX8_put_142 (by decide) ?_
                  rw [← hQ]
                  exact k_zret hx hb hr hlocks hS (x3, a8_a, a8_b, a8_e, a8_h) hP hD (by decide) hv dX8_put_143
            refine lv_icmp_ne (tgt := 122) hx hb dX8_put_104 (by decide) (fun c_104 => ?_) (fun c_104 => ?_)
            · have hv := hv.1 c_104
              exact jn122  H locs ls hv (lv_sub hl [1, 2, 3, 4] rfl) hP hD hS
            · have hv := hv.2 c_104
              refine lv_iload hx hb dX8_put_107 (lv_at hl 0 rfl) ?_
              refine lv_if_eq (tgt := 122) hx hb dX8_put_109 (by decide) (fun c_109 => ?_) (fun c_109 => ?_)
              · have hv := hv.1 c_109
                exact jn122  H locs ls hv (lv_sub hl [1, 2, 3, 4] rfl) hP hD hS
              · have hv := hv.2 c_109
                refine lv_aload_n hx hb dX8_put_112 rfl (lv_at hl 1 rfl) ?_
                refine va_get (D := D) (ci := 8) (v := .ref (ad 38)) (C := RX8) (T := TX8) (N := 6) hx hb hts in_X8_put_8 hown hK hP 0 rfl rfl 5 (by decide) (hts _ lk_X8_put_25) (fun _ h9 => h9) rfl dX8_put_113 ?_
                refine lv_iload_n hx hb dX8_put_116 rfl (lv_at hl 3 rfl) ?_
                refine lv_iload_n hx hb dX8_put_117 rfl (lv_at hl 4 rfl) ?_
                refine k_iast hx hb hK hP hD hS 4 0 rfl rfl hv.1 dX8_put_118 (fun a8_h_3 H locs h_a8_h_3 hP hD hS => ?_)
                have hv := hv.2 a8_h_3 h_a8_h_3
                have hP : va_P D vwCl [oX8 ad s8_sums s8_g, aI cy (ad 35) 16 a8_a, aI cy (ad 36) 4 a8_b, aI cy (ad 37) 4 a8_e, aI cy (ad 38) 4 a8_h_3] H := hP
                have hD : va_D A [oX8 ad s8_sums s8_g, aI cy (ad 35) 16 a8_a, aI cy (ad 36) 4 a8_b, aI cy (ad 37) 4 a8_e, aI cy (ad 38) 4 a8_h_3] := hD
                refine lv_goto (tgt := 142) hx hb dX8_put_119 (by decide) ?_
                refine lv_iconst (v := 1) hx hb dX8_put_142 (by decide) ?_
                rw [← hQ]
                exact k_zret hx hb hr hlocks hS (s8_g, a8_a, a8_b, a8_e, a8_h_3) hP hD (by decide) hv dX8_put_143
          refine lv_if_eq (tgt := 102) hx hb dX8_put_84 (by decide) (fun c_84 => ?_) (fun c_84 => ?_)
          · have hv := hv.1 c_84
            exact jn102  H locs ls hv (lv_sub hl [0, 2, 3, 4, 5] rfl) hP hD hS
          · have hv := hv.2 c_84
            refine lv_iload_n hx hb dX8_put_87 rfl (lv_at hl 4 rfl) ?_
            refine lv_iconst (v := 5) hx hb dX8_put_88 (by decide) ?_
            refine lv_icmp_ne (tgt := 102) hx hb dX8_put_89 (by decide) (fun c_89 => ?_) (fun c_89 => ?_)
            · have hv := hv.1 c_89
              exact jn102  H locs ls hv (lv_sub hl [0, 2, 3, 4, 5] rfl) hP hD hS
            · have hv := hv.2 c_89
              refine lv_aload_n hx hb dX8_put_92 rfl (lv_at hl 2 rfl) ?_
              refine va_get (D := D) (ci := 8) (v := .ref (ad 37)) (C := RX8) (T := TX8) (N := 6) hx hb hts in_X8_put_8 hown hK hP 0 rfl rfl 4 (by decide) (hts _ lk_X8_put_22) (fun _ h9 => h9) rfl dX8_put_93 ?_
              refine lv_iload_n hx hb dX8_put_96 rfl (lv_at hl 3 rfl) ?_
              refine lv_iload_n hx hb dX8_put_97 rfl (lv_at hl 5 rfl) ?_
              refine k_iast hx hb hK hP hD hS 3 0 rfl rfl hv.1 dX8_put_98 (fun a8_e_4 H locs h_a8_e_4 hP hD hS => ?_)
              have hv := hv.2 a8_e_4 h_a8_e_4
              have hP : va_P D vwCl [oX8 ad s8_sums s8_g, aI cy (ad 35) 16 a8_a, aI cy (ad 36) 4 a8_b, aI cy (ad 37) 4 a8_e_4, aI cy (ad 38) 4 a8_h] H := hP
              have hD : va_D A [oX8 ad s8_sums s8_g, aI cy (ad 35) 16 a8_a, aI cy (ad 36) 4 a8_b, aI cy (ad 37) 4 a8_e_4, aI cy (ad 38) 4 a8_h] := hD
              refine lv_goto (tgt := 142) hx hb dX8_put_99 (by decide) ?_
              refine lv_iconst (v := 1) hx hb dX8_put_142 (by decide) ?_
              rw [← hQ]
              exact k_zret hx hb hr hlocks hS (s8_g, a8_a, a8_b, a8_e_4, a8_h) hP hD (by decide) hv dX8_put_143
        refine lv_if_eq (tgt := 82) hx hb dX8_put_64 (by decide) (fun c_64 => ?_) (fun c_64 => ?_)
        · have hv := hv.1 c_64
          exact jn82  H locs ls hv (lv_sub hl [0, 1, 2, 3, 4, 5] rfl) hP hD hS
        · have hv := hv.2 c_64
          refine lv_iload_n hx hb dX8_put_67 rfl (lv_at hl 4 rfl) ?_
          refine lv_iconst (v := 4) hx hb dX8_put_68 (by decide) ?_
          refine lv_icmp_ne (tgt := 82) hx hb dX8_put_69 (by decide) (fun c_69 => ?_) (fun c_69 => ?_)
          · have hv := hv.1 c_69
            exact jn82  H locs ls hv (lv_sub hl [0, 1, 2, 3, 4, 5] rfl) hP hD hS
          · have hv := hv.2 c_69
            refine lv_aload_n hx hb dX8_put_72 rfl (lv_at hl 2 rfl) ?_
            refine va_get (D := D) (ci := 8) (v := .ref (ad 36)) (C := RX8) (T := TX8) (N := 6) hx hb hts in_X8_put_8 hown hK hP 0 rfl rfl 3 (by decide) (hts _ lk_X8_put_19) (fun _ h9 => h9) rfl dX8_put_73 ?_
            refine lv_iload_n hx hb dX8_put_76 rfl (lv_at hl 3 rfl) ?_
            refine lv_iload_n hx hb dX8_put_77 rfl (lv_at hl 5 rfl) ?_
            refine k_iast hx hb hK hP hD hS 2 0 rfl rfl hv.1 dX8_put_78 (fun a8_b_5 H locs h_a8_b_5 hP hD hS => ?_)
            have hv := hv.2 a8_b_5 h_a8_b_5
            have hP : va_P D vwCl [oX8 ad s8_sums s8_g, aI cy (ad 35) 16 a8_a, aI cy (ad 36) 4 a8_b_5, aI cy (ad 37) 4 a8_e, aI cy (ad 38) 4 a8_h] H := hP
            have hD : va_D A [oX8 ad s8_sums s8_g, aI cy (ad 35) 16 a8_a, aI cy (ad 36) 4 a8_b_5, aI cy (ad 37) 4 a8_e, aI cy (ad 38) 4 a8_h] := hD
            refine lv_goto (tgt := 142) hx hb dX8_put_79 (by decide) ?_
            refine lv_iconst (v := 1) hx hb dX8_put_142 (by decide) ?_
            rw [← hQ]
            exact k_zret hx hb hr hlocks hS (s8_g, a8_a, a8_b_5, a8_e, a8_h) hP hD (by decide) hv dX8_put_143
      refine lv_if_eq (tgt := 62) hx hb dX8_put_40 (by decide) (fun c_40 => ?_) (fun c_40 => ?_)
      · have hv := hv.1 c_40
        exact jn62  H locs ls hv (lv_sub hl [0, 1, 2, 3, 4, 5] rfl) hP hD hS
      · have hv := hv.2 c_40
        refine lv_iload hx hb dX8_put_43 (lv_at hl 0 rfl) ?_
        refine lv_if_eq (tgt := 62) hx hb dX8_put_45 (by decide) (fun c_45 => ?_) (fun c_45 => ?_)
        · have hv := hv.1 c_45
          exact jn62  H locs ls hv (lv_sub hl [0, 1, 2, 3, 4, 5] rfl) hP hD hS
        · have hv := hv.2 c_45
          refine lv_aload_n hx hb dX8_put_48 rfl (lv_at hl 2 rfl) ?_
          refine va_get (D := D) (ci := 8) (v := .ref (ad 35)) (C := RX8) (T := TX8) (N := 6) hx hb hts in_X8_put_8 hown hK hP 0 rfl rfl 2 (by decide) (hts _ lk_X8_put_15) (fun _ h9 => h9) rfl dX8_put_49 ?_
          refine lv_iload_n hx hb dX8_put_52 rfl (lv_at hl 3 rfl) ?_
          refine lv_iconst (v := 4) hx hb dX8_put_53 (by decide) ?_
          refine lv_imul hx hb dX8_put_54 ?_
          refine lv_topi (fun e6 h_e6 => ?_)
          have hv := hv e6 h_e6
          refine lv_iload_n hx hb dX8_put_55 rfl (lv_at hl 4 rfl) ?_
          refine lv_iadd hx hb dX8_put_56 ?_
          refine lv_topi (fun e7 h_e7 => ?_)
          have hv := hv e7 h_e7
          refine lv_iload_n hx hb dX8_put_57 rfl (lv_at hl 5 rfl) ?_
          refine k_iast hx hb hK hP hD hS 1 0 rfl rfl hv.1 dX8_put_58 (fun a8_a_8 H locs h_a8_a_8 hP hD hS => ?_)
          have hv := hv.2 a8_a_8 h_a8_a_8
          have hP : va_P D vwCl [oX8 ad s8_sums s8_g, aI cy (ad 35) 16 a8_a_8, aI cy (ad 36) 4 a8_b, aI cy (ad 37) 4 a8_e, aI cy (ad 38) 4 a8_h] H := hP
          have hD : va_D A [oX8 ad s8_sums s8_g, aI cy (ad 35) 16 a8_a_8, aI cy (ad 36) 4 a8_b, aI cy (ad 37) 4 a8_e, aI cy (ad 38) 4 a8_h] := hD
          refine lv_goto (tgt := 142) hx hb dX8_put_59 (by decide) ?_
          refine lv_iconst (v := 1) hx hb dX8_put_142 (by decide) ?_
          rw [← hQ]
          exact k_zret hx hb hr hlocks hS (s8_g, a8_a_8, a8_b, a8_e, a8_h) hP hD (by decide) hv dX8_put_143
    have jn35 : ∀ (H : Heap) (locs : List Loc) (ls : Array Slot), vJ_X8_put_35 s8_g a8_a a8_b a8_e a8_h x1 x2 x3 K t1 → lv_has ls 6 [(4, .int t1), (0, .ref (ad 8)), (1, .int x1), (2, .int x2), (3, .int x3)] → va_P D vwCl [oX8 ad s8_sums s8_g, aI cy (ad 35) 16 a8_a, aI cy (ad 36) 4 a8_b, aI cy (ad 37) 4 a8_e, aI cy (ad 38) 4 a8_h] H → va_D A [oX8 ad s8_sums s8_g, aI cy (ad 35) 16 a8_a, aI cy (ad 36) 4 a8_b, aI cy (ad 37) 4 a8_e, aI cy (ad 38) 4 a8_h] → va_S A s.heap H locs → W p l e rm_X8_put s m ([.ref (ad 8), .int x1, .int x2, .int x3] : List Value).toArray below meth c H locs 0 0 Q (F0 m 35 ls []) := by
      intro H locs ls hv hl hP hD hS
      unfold vJ_X8_put_35 at hv
      refine lv_iconst (v := 0) hx hb dX8_put_35 (by decide) ?_
      exact jn36 (0 : Int32) H locs ls hv (lv_sub hl [0, 1, 2, 3, 4] rfl) hP hD hS
    refine lv_if_lt (tgt := 35) hx hb dX8_put_20 (by decide) (fun c_20 => ?_) (fun c_20 => ?_)
    · have hv := hv.1 c_20
      exact jn35  H locs ls hv (lv_sub hl [0, 1, 2, 3, 4] rfl) hP hD hS
    · have hv := hv.2 c_20
      refine lv_iload_n hx hb dX8_put_23 rfl (lv_at hl 3 rfl) ?_
      refine lv_aload_n hx hb dX8_put_24 rfl (lv_at hl 1 rfl) ?_
      refine va_get (D := D) (ci := 8) (v := .int s8_sums) (C := RX8) (T := TX8) (N := 6) hx hb hts in_X8_put_8 hown hK hP 0 rfl rfl 0 (by decide) (hts _ lk_X8_put_9) (fun _ h9 => h9) rfl dX8_put_25 ?_
      refine lv_icmp_ge (tgt := 35) hx hb dX8_put_28 (by decide) (fun c_28 => ?_) (fun c_28 => ?_)
      · have hv := hv.1 c_28
        exact jn35  H locs ls hv (lv_sub hl [0, 1, 2, 3, 4] rfl) hP hD hS
      · have hv := hv.2 c_28
        refine lv_iconst (v := 1) hx hb dX8_put_31 (by decide) ?_
        refine lv_goto (tgt := 36) hx hb dX8_put_32 (by decide) ?_
        exact jn36 (1 : Int32) H locs ls hv (lv_sub hl [0, 1, 2, 3, 4] rfl) hP hD hS
  have jn16 : ∀ (H : Heap) (locs : List Loc) (ls : Array Slot), vJ_X8_put_16 s8_sums s8_g a8_a a8_b a8_e a8_h x1 x2 x3 K → lv_has ls 6 [(0, .ref (ad 8)), (1, .int x1), (2, .int x2), (3, .int x3)] → va_P D vwCl [oX8 ad s8_sums s8_g, aI cy (ad 35) 16 a8_a, aI cy (ad 36) 4 a8_b, aI cy (ad 37) 4 a8_e, aI cy (ad 38) 4 a8_h] H → va_D A [oX8 ad s8_sums s8_g, aI cy (ad 35) 16 a8_a, aI cy (ad 36) 4 a8_b, aI cy (ad 37) 4 a8_e, aI cy (ad 38) 4 a8_h] → va_S A s.heap H locs → W p l e rm_X8_put s m ([.ref (ad 8), .int x1, .int x2, .int x3] : List Value).toArray below meth c H locs 0 0 Q (F0 m 16 ls []) := by
    intro H locs ls hv hl hP hD hS
    unfold vJ_X8_put_16 at hv
    refine lv_iconst (v := 0) hx hb dX8_put_16 (by decide) ?_
    exact jn17 (0 : Int32) H locs ls hv (lv_sub hl [0, 1, 2, 3] rfl) hP hD hS
  refine lv_if_lt (tgt := 16) hx hb dX8_put_1 (by decide) (fun c_1 => ?_) (fun c_1 => ?_)
  · have hv := hv.1 c_1
    exact jn16  H locs ls hv (lv_sub hl [0, 1, 2, 3] rfl) hP hD hS
  · have hv := hv.2 c_1
    refine lv_iload_n hx hb dX8_put_4 rfl (lv_at hl 1 rfl) ?_
    refine lv_aload_n hx hb dX8_put_5 rfl (lv_at hl 0 rfl) ?_
    refine va_get (D := D) (ci := 8) (v := .int s8_sums) (C := RX8) (T := TX8) (N := 6) hx hb hts in_X8_put_8 hown hK hP 0 rfl rfl 0 (by decide) (hts _ lk_X8_put_9) (fun _ h9 => h9) rfl dX8_put_6 ?_
    refine lv_icmp_ge (tgt := 16) hx hb dX8_put_9 (by decide) (fun c_9 => ?_) (fun c_9 => ?_)
    · have hv := hv.1 c_9
      exact jn16  H locs ls hv (lv_sub hl [0, 1, 2, 3] rfl) hP hD hS
    · have hv := hv.2 c_9
      refine lv_iconst (v := 1) hx hb dX8_put_12 (by decide) ?_
      refine lv_goto (tgt := 17) hx hb dX8_put_13 (by decide) ?_
      exact jn17 (1 : Int32) H locs ls hv (lv_sub hl [0, 1, 2, 3] rfl) hP hD hS
theorem lk_X9_mostLessLeast_15 : Cond.fieldLink RX9 15 "CoarseSteps$Wheel" "timesOn" "[I" ∈ wsX9_mostLessLeast := by decide +kernel
theorem in_X9_mostLessLeast_9 : ∀ w ∈ wsX90, w ∈ wsX9_mostLessLeast := by decide +kernel
theorem lk_X9_mostLessLeast_19 : Cond.fieldLink RX9 19 "CoarseSteps$Wheel" "parts" "I" ∈ wsX9_mostLessLeast := by decide +kernel
theorem lm1_X9_mostLessLeast_min : Cond.methodLink RX9 32 Lib.Math.min.name ∈ wsX9_mostLessLeast := by decide +kernel
theorem lm2_X9_mostLessLeast_min : Cond.static Lib.Math.min.name ∈ wsX9_mostLessLeast := by decide +kernel
theorem lm3_X9_mostLessLeast : Cond.initialized "java/lang/Math" ∈ wsX9_mostLessLeast := by decide +kernel
theorem lm4_X9_mostLessLeast_min : Cond.code Lib.Math.min.name Lib.Math.min.code 2 (some .int) ∈ wsX9_mostLessLeast := by decide +kernel
theorem lm1_X9_mostLessLeast_max : Cond.methodLink RX9 38 Lib.Math.max.name ∈ wsX9_mostLessLeast := by decide +kernel
theorem lm2_X9_mostLessLeast_max : Cond.static Lib.Math.max.name ∈ wsX9_mostLessLeast := by decide +kernel
theorem lm4_X9_mostLessLeast_max : Cond.code Lib.Math.max.name Lib.Math.max.code 2 (some .int) ∈ wsX9_mostLessLeast := by decide +kernel
abbrev rm_X9_mostLessLeast : Room := { frames := 1, cells := 0, slots := 0, locals := 21 }
set_option maxHeartbeats 4000000 in
set_option maxRecDepth 100000 in
theorem m_X9_mostLessLeast (l : Launch) (D : va_G) (cy : ClassId × ClassId × ClassId) (ad : Nat → Nat) (s9_parts : Int32) (s9_rule : Int32) (s9_hand : Int32) (a9_timesOn : Nat → Int32) (sz : Nat) {K : Int32 → Prop} (hv : v_X9_mostLessLeast s9_parts a9_timesOn K) : Met l yX9_mostLessLeast wsX9_mostLessLeast rm_X9_mostLessLeast (va_Pc [.ref (ad 9)] (wd D cy [oX9 ad s9_parts s9_rule s9_hand, aI cy (ad 40) 16 a9_timesOn] sz)) (va_Qi (fun (r : Int32) (u : Unit) => K r) (fun u t => we D ((fun u : Unit => [oX9 ad s9_parts s9_rule s9_hand, aI cy (ad 40) 16 a9_timesOn]) u) (va_A [oX9 ad s9_parts s9_rule s9_hand, aI cy (ad 40) 16 a9_timesOn] sz) t) (va_A [oX9 ad s9_parts s9_rule s9_hand, aI cy (ad 40) 16 a9_timesOn] sz)) 0 0 (va_A [oX9 ad s9_parts s9_rule s9_hand, aI cy (ad 40) 16 a9_timesOn] sz) := by
  refine k_ofW (cc := cX9_mostLessLeast) (maxL := 4) (ret := (some .int)) (fun A => va_Qi (fun (r : Int32) (u : Unit) => K r) (fun u t => we D ((fun u : Unit => [oX9 ad s9_parts s9_rule s9_hand, aI cy (ad 40) 16 a9_timesOn]) u) A t) A) (by decide) rfl (Nat.le_of_ble_eq_true rfl) ?_
  intro p e s m below meth c A ls H locs hx hb hml hr hts hown hlocks hname hK hN hA hP hD hS hl
  have hl : lv_has ls 4 [(0, .ref (ad 9))] := hl
  generalize hQ : MQ below _ _ s _ _ A = Q
  unfold v_X9_mostLessLeast at hv
  refine lv_aload_n hx hb dX9_mostLessLeast_0 rfl (lv_at hl 0 rfl) ?_
  refine va_get (D := D) (ci := 9) (v := .ref (ad 40)) (C := RX9) (T := TX9) (N := 5) hx hb hts in_X9_mostLessLeast_9 hown hK hP 0 rfl rfl 1 (by decide) (hts _ lk_X9_mostLessLeast_15) (fun _ h9 => h9) rfl dX9_mostLessLeast_1 ?_
  refine lv_iconst (v := 0) hx hb dX9_mostLessLeast_4 (by decide) ?_
  refine va_iald hx hb hK hP 1 0 rfl rfl hv.1 dX9_mostLessLeast_5 ?_
  refine lv_topi (fun g1 h_g1 => ?_)
  have hv := hv.2 g1 h_g1
  refine lv_istore_n (lv' := [(1, .int g1), (0, .ref (ad 9))]) hx hb dX9_mostLessLeast_6 rfl hl (by decide) rfl (fun ls hl => ?_)
  refine lv_aload_n hx hb dX9_mostLessLeast_7 rfl (lv_at hl 1 rfl) ?_
  refine va_get (D := D) (ci := 9) (v := .ref (ad 40)) (C := RX9) (T := TX9) (N := 5) hx hb hts in_X9_mostLessLeast_9 hown hK hP 0 rfl rfl 1 (by decide) (hts _ lk_X9_mostLessLeast_15) (fun _ h9 => h9) rfl dX9_mostLessLeast_8 ?_
  refine lv_iconst (v := 0) hx hb dX9_mostLessLeast_11 (by decide) ?_
  refine va_iald hx hb hK hP 1 0 rfl rfl hv.1 dX9_mostLessLeast_12 ?_
  refine lv_topi (fun g2 h_g2 => ?_)
  have hv := hv.2 g2 h_g2
  refine lv_istore_n (lv' := [(2, .int g2), (1, .int g1), (0, .ref (ad 9))]) hx hb dX9_mostLessLeast_13 rfl hl (by decide) rfl (fun ls hl => ?_)
  refine lv_iconst (v := 1) hx hb dX9_mostLessLeast_14 (by decide) ?_
  refine lv_istore_n (lv' := [(3, .int (1 : Int32)), (2, .int g2), (1, .int g1), (0, .ref (ad 9))]) hx hb dX9_mostLessLeast_15 rfl hl (by decide) rfl (fun ls hl => ?_)
  have lp16 : ∀ (n16 : Nat) (l3_3 : Int32) (l2_4 : Int32) (l1_5 : Int32) (H : Heap) (locs : List Loc) (ls : Array Slot), vfix (vF_X9_mostLessLeast_16 s9_parts a9_timesOn K) n16 (l3_3, l2_4, l1_5) → lv_has ls 4 [(3, .int l3_3), (2, .int l2_4), (1, .int l1_5), (0, .ref (ad 9))] → va_P D vwCl [oX9 ad s9_parts s9_rule s9_hand, aI cy (ad 40) 16 a9_timesOn] H → va_D A [oX9 ad s9_parts s9_rule s9_hand, aI cy (ad 40) 16 a9_timesOn] → va_S A s.heap H locs → W p l e rm_X9_mostLessLeast s m ([.ref (ad 9)] : List Value).toArray below meth c H locs 0 0 Q (F0 m 16 ls []) := by
    intro n16
    induction n16 with
    | zero => intro l3_3 l2_4 l1_5 H locs ls hv; exact hv.elim
    | succ n16 ih16 =>
      intro l3_3 l2_4 l1_5 H locs ls hv hl hP hD hS
      have hv : vB_X9_mostLessLeast_16 s9_parts a9_timesOn K (fun z0 z1 z2 => vfix (vF_X9_mostLessLeast_16 s9_parts a9_timesOn K) n16 (z0, z1, z2)) l3_3 l2_4 l1_5 := hv
      unfold vB_X9_mostLessLeast_16 at hv
      refine lv_iload_n hx hb dX9_mostLessLeast_16 rfl (lv_at hl 0 rfl) ?_
      refine lv_aload_n hx hb dX9_mostLessLeast_17 rfl (lv_at hl 3 rfl) ?_
      refine va_get (D := D) (ci := 9) (v := .int s9_parts) (C := RX9) (T := TX9) (N := 5) hx hb hts in_X9_mostLessLeast_9 hown hK hP 0 rfl rfl 2 (by decide) (hts _ lk_X9_mostLessLeast_19) (fun _ h9 => h9) rfl dX9_mostLessLeast_18 ?_
      refine lv_icmp_ge (tgt := 52) hx hb dX9_mostLessLeast_21 (by decide) (fun c_21 => ?_) (fun c_21 => ?_)
      · have hv := hv.1 c_21
        refine lv_iload_n hx hb dX9_mostLessLeast_52 rfl (lv_at hl 1 rfl) ?_
        refine lv_iload_n hx hb dX9_mostLessLeast_53 rfl (lv_at hl 2 rfl) ?_
        refine lv_isub hx hb dX9_mostLessLeast_54 ?_
        refine lv_topi (fun e6 h_e6 => ?_)
        have hv := hv e6 h_e6
        rw [← hQ]
        exact k_iret hx hb hr hlocks hS () hP hD hv dX9_mostLessLeast_55
      · have hv := hv.2 c_21
        refine lv_iload_n hx hb dX9_mostLessLeast_24 rfl (lv_at hl 2 rfl) ?_
        refine lv_aload_n hx hb dX9_mostLessLeast_25 rfl (lv_at hl 3 rfl) ?_
        refine va_get (D := D) (ci := 9) (v := .ref (ad 40)) (C := RX9) (T := TX9) (N := 5) hx hb hts in_X9_mostLessLeast_9 hown hK hP 0 rfl rfl 1 (by decide) (hts _ lk_X9_mostLessLeast_15) (fun _ h9 => h9) rfl dX9_mostLessLeast_26 ?_
        refine lv_iload_n hx hb dX9_mostLessLeast_29 rfl (lv_at hl 0 rfl) ?_
        refine va_iald hx hb hK hP 1 0 rfl rfl hv.1 dX9_mostLessLeast_30 ?_
        refine lv_topi (fun g7 h_g7 => ?_)
        have hv := hv.2 g7 h_g7
        refine va_mmin hx hb (hml.trans hl.1.symm) hown (hts _ lm1_X9_mostLessLeast_min) (hts _ lm2_X9_mostLessLeast_min) (hts _ lm3_X9_mostLessLeast) (hts _ lm4_X9_mostLessLeast_min) (Nat.le_of_ble_eq_true rfl) (Nat.le_of_ble_eq_true rfl) (Nat.le_of_ble_eq_true rfl) (Nat.le_of_ble_eq_true rfl) dX9_mostLessLeast_31 ?_
        refine lv_topi (fun e8 h_e8 => ?_)
        have hv := hv e8 h_e8
        refine lv_istore_n (lv' := [(1, .int e8), (3, .int l3_3), (2, .int l2_4), (0, .ref (ad 9))]) hx hb dX9_mostLessLeast_34 rfl hl (by decide) rfl (fun ls hl => ?_)
        refine lv_iload_n hx hb dX9_mostLessLeast_35 rfl (lv_at hl 2 rfl) ?_
        refine lv_aload_n hx hb dX9_mostLessLeast_36 rfl (lv_at hl 3 rfl) ?_
        refine va_get (D := D) (ci := 9) (v := .ref (ad 40)) (C := RX9) (T := TX9) (N := 5) hx hb hts in_X9_mostLessLeast_9 hown hK hP 0 rfl rfl 1 (by decide) (hts _ lk_X9_mostLessLeast_15) (fun _ h9 => h9) rfl dX9_mostLessLeast_37 ?_
        refine lv_iload_n hx hb dX9_mostLessLeast_40 rfl (lv_at hl 1 rfl) ?_
        refine va_iald hx hb hK hP 1 0 rfl rfl hv.1 dX9_mostLessLeast_41 ?_
        refine lv_topi (fun g9 h_g9 => ?_)
        have hv := hv.2 g9 h_g9
        refine va_mmax hx hb (hml.trans hl.1.symm) hown (hts _ lm1_X9_mostLessLeast_max) (hts _ lm2_X9_mostLessLeast_max) (hts _ lm3_X9_mostLessLeast) (hts _ lm4_X9_mostLessLeast_max) (Nat.le_of_ble_eq_true rfl) (Nat.le_of_ble_eq_true rfl) (Nat.le_of_ble_eq_true rfl) (Nat.le_of_ble_eq_true rfl) dX9_mostLessLeast_42 ?_
        refine lv_topi (fun e10 h_e10 => ?_)
        have hv := hv e10 h_e10
        refine lv_istore_n (lv' := [(2, .int e10), (1, .int e8), (3, .int l3_3), (0, .ref (ad 9))]) hx hb dX9_mostLessLeast_45 rfl hl (by decide) rfl (fun ls hl => ?_)
        obtain ⟨i11, h_i11⟩ : ∃ y : Int32, y = l3_3 + 1 := ⟨_, rfl⟩
        refine lv_iinc (v := i11) (lv' := [(3, .int i11), (2, .int e10), (1, .int e8), (0, .ref (ad 9))]) hx hb dX9_mostLessLeast_46 hl (k := 2) rfl (by rw [h_i11]; rfl) (by decide) rfl (fun ls hl => ?_)
        have hv := hv i11 h_i11
        refine lv_goto (tgt := 16) hx hb dX9_mostLessLeast_49 (by decide) ?_
        exact ih16 i11 e10 e8 H locs ls hv (lv_sub hl [0, 1, 2, 3] rfl) hP hD hS
  obtain ⟨nn, hv⟩ := hv
  exact lp16 nn (1 : Int32) g2 g1 H locs ls hv (lv_sub hl [0, 1, 2, 3] rfl) hP hD hS
theorem lk_X10_over_10 : Cond.fieldLink RX10 10 "CoarseSteps" "scale" "LCoarseSteps$Scale;" ∈ wsX10_over := by decide +kernel
theorem in_X10_over_10 : ∀ w ∈ wsX100, w ∈ wsX10_over := by decide +kernel
theorem in_X10_over_7 : ∀ w ∈ wsX70, w ∈ wsX10_over := by decide +kernel
theorem lk_X10_over_21 : Cond.fieldLink RX10 21 "CoarseSteps" "loop" "LCoarseSteps$Loop;" ∈ wsX10_over := by decide +kernel
abbrev rm_X10_over : Room := { frames := 2, cells := 0, slots := 0, locals := 42 }
set_option maxHeartbeats 4000000 in
set_option maxRecDepth 100000 in
theorem m_X10_over (l : Launch) (D : va_G) (cy : ClassId × ClassId × ClassId) (ad : Nat → Nat) (s3_next : Int32) (s3_kept : Int32) (s4_ticks : Int32) (s4_firstBeganWith : Int64) (s4_secondBefore : Int32) (s4_thirdBefore : Int32) (s4_thirdTwoBefore : Int32) (s7_over : Int32) (s7_count : Int32) (s9_parts : Int32) (s9_rule : Int32) (s9_hand : Int32) (a4_sums : Nat → Int64) (a9_isOn : Nat → Int32) (a9_timesOn : Nat → Int32) (x1 : Int32) (sz : Nat) {K : Int32 → Int32 → Int32 → Int32 → Int64 → Int32 → Int32 → Int32 → Int32 → Int32 → (Nat → Int64) → (Nat → Int32) → (Nat → Int32) → Prop} (hv : v_X10_over s3_next s3_kept s4_ticks s4_firstBeganWith s4_secondBefore s4_thirdBefore s4_thirdTwoBefore s7_over s9_hand a4_sums a9_isOn a9_timesOn x1 K) : Met l yX10_over wsX10_over rm_X10_over (va_Pc [.ref (ad 10), .int x1] (wd D cy [oX3 ad s3_next s3_kept, oX4 ad s4_ticks s4_firstBeganWith s4_secondBefore s4_thirdBefore s4_thirdTwoBefore, oX7 ad s7_over s7_count, oX9 ad s9_parts s9_rule s9_hand, oX10 ad , aJ cy (ad 29) 4 a4_sums, aZ cy (ad 39) 16 a9_isOn, aI cy (ad 40) 16 a9_timesOn] sz)) (va_Qi (fun (r : Int32) (u : Int32 × Int32 × Int32 × Int64 × Int32 × Int32 × Int32 × Int32 × Int32 × (Nat → Int64) × (Nat → Int32) × (Nat → Int32)) => (r = 0 ∨ r = 1) ∧ K r u.1 u.2.1 u.2.2.1 u.2.2.2.1 u.2.2.2.2.1 u.2.2.2.2.2.1 u.2.2.2.2.2.2.1 u.2.2.2.2.2.2.2.1 u.2.2.2.2.2.2.2.2.1 u.2.2.2.2.2.2.2.2.2.1 u.2.2.2.2.2.2.2.2.2.2.1 u.2.2.2.2.2.2.2.2.2.2.2) (fun u t => we D ((fun u : Int32 × Int32 × Int32 × Int64 × Int32 × Int32 × Int32 × Int32 × Int32 × (Nat → Int64) × (Nat → Int32) × (Nat → Int32) => [oX3 ad u.1 u.2.1, oX4 ad u.2.2.1 u.2.2.2.1 u.2.2.2.2.1 u.2.2.2.2.2.1 u.2.2.2.2.2.2.1, oX7 ad u.2.2.2.2.2.2.2.1 s7_count, oX9 ad s9_parts s9_rule u.2.2.2.2.2.2.2.2.1, oX10 ad , aJ cy (ad 29) 4 u.2.2.2.2.2.2.2.2.2.1, aZ cy (ad 39) 16 u.2.2.2.2.2.2.2.2.2.2.1, aI cy (ad 40) 16 u.2.2.2.2.2.2.2.2.2.2.2]) u) (va_A [oX3 ad s3_next s3_kept, oX4 ad s4_ticks s4_firstBeganWith s4_secondBefore s4_thirdBefore s4_thirdTwoBefore, oX7 ad s7_over s7_count, oX9 ad s9_parts s9_rule s9_hand, oX10 ad , aJ cy (ad 29) 4 a4_sums, aZ cy (ad 39) 16 a9_isOn, aI cy (ad 40) 16 a9_timesOn] sz) t) (va_A [oX3 ad s3_next s3_kept, oX4 ad s4_ticks s4_firstBeganWith s4_secondBefore s4_thirdBefore s4_thirdTwoBefore, oX7 ad s7_over s7_count, oX9 ad s9_parts s9_rule s9_hand, oX10 ad , aJ cy (ad 29) 4 a4_sums, aZ cy (ad 39) 16 a9_isOn, aI cy (ad 40) 16 a9_timesOn] sz)) 0 0 (va_A [oX3 ad s3_next s3_kept, oX4 ad s4_ticks s4_firstBeganWith s4_secondBefore s4_thirdBefore s4_thirdTwoBefore, oX7 ad s7_over s7_count, oX9 ad s9_parts s9_rule s9_hand, oX10 ad , aJ cy (ad 29) 4 a4_sums, aZ cy (ad 39) 16 a9_isOn, aI cy (ad 40) 16 a9_timesOn] sz) := by
  refine k_ofW (cc := cX10_over) (maxL := 2) (ret := (some .boolean)) (fun A => va_Qi (fun (r : Int32) (u : Int32 × Int32 × Int32 × Int64 × Int32 × Int32 × Int32 × Int32 × Int32 × (Nat → Int64) × (Nat → Int32) × (Nat → Int32)) => (r = 0 ∨ r = 1) ∧ K r u.1 u.2.1 u.2.2.1 u.2.2.2.1 u.2.2.2.2.1 u.2.2.2.2.2.1 u.2.2.2.2.2.2.1 u.2.2.2.2.2.2.2.1 u.2.2.2.2.2.2.2.2.1 u.2.2.2.2.2.2.2.2.2.1 u.2.2.2.2.2.2.2.2.2.2.1 u.2.2.2.2.2.2.2.2.2.2.2) (fun u t => we D ((fun u : Int32 × Int32 × Int32 × Int64 × Int32 × Int32 × Int32 × Int32 × Int32 × (Nat → Int64) × (Nat → Int32) × (Nat → Int32) => [oX3 ad u.1 u.2.1, oX4 ad u.2.2.1 u.2.2.2.1 u.2.2.2.2.1 u.2.2.2.2.2.1 u.2.2.2.2.2.2.1, oX7 ad u.2.2.2.2.2.2.2.1 s7_count, oX9 ad s9_parts s9_rule u.2.2.2.2.2.2.2.2.1, oX10 ad , aJ cy (ad 29) 4 u.2.2.2.2.2.2.2.2.2.1, aZ cy (ad 39) 16 u.2.2.2.2.2.2.2.2.2.2.1, aI cy (ad 40) 16 u.2.2.2.2.2.2.2.2.2.2.2]) u) A t) A) (by decide) rfl (Nat.le_of_ble_eq_true rfl) ?_
  intro p e s m below meth c A ls H locs hx hb hml hr hts hown hlocks hname hK hN hA hP hD hS hl
  have hl : lv_has ls 2 [(0, .ref (ad 10)), (1, .int x1)] := hl
  generalize hQ : MQ below _ _ s _ _ A = Q
  unfold v_X10_over at hv
  refine lv_iload_n hx hb dX10_over_0 rfl (lv_at hl 1 rfl) ?_
  refine lv_iconst (v := 1) hx hb dX10_over_1 (by decide) ?_
  refine lv_icmp_lt (tgt := 12) hx hb dX10_over_2 (by decide) (fun c_2 => ?_) (fun c_2 => ?_)
  · have hv := hv.1 c_2
    refine lv_iconst (v := 0) hx hb dX10_over_12 (by decide) ?_
    rw [← hQ]
    exact k_zret hx hb hr hlocks hS (s3_next, s3_kept, s4_ticks, s4_firstBeganWith, s4_secondBefore, s4_thirdBefore, s4_thirdTwoBefore, s7_over, s9_hand, a4_sums, a9_isOn, a9_timesOn) hP hD (by decide) hv dX10_over_13
  · have hv := hv.2 c_2
    refine lv_iload_n hx hb dX10_over_5 rfl (lv_at hl 1 rfl) ?_
    refine lv_sipush (v := 10000) hx hb dX10_over_6 (by decide) ?_
    refine lv_icmp_le (tgt := 14) hx hb dX10_over_9 (by decide) (fun c_9 => ?_) (fun c_9 => ?_)
    · have hv := hv.1 c_9
      refine lv_aload_n hx hb dX10_over_14 rfl (lv_at hl 0 rfl) ?_
      refine va_get (D := D) (ci := 10) (v := .ref (ad 7)) (C := RX10) (T := TX10) (N := 6) hx hb hts in_X10_over_10 hown hK hP 4 rfl rfl 0 (by decide) (hts _ lk_X10_over_10) (fun _ h9 => h9) rfl dX10_over_15 ?_
      refine lv_iload_n hx hb dX10_over_18 rfl (lv_at hl 1 rfl) ?_
      refine va_putN (D := D) (ci := 7) (v := .int x1) (ty := .int) (C := RX7) (T := TX7) (N := 3) hx hb hts in_X10_over_7 tyX7 tyX7_ok nmX7 hown hK hP hD hS 2 rfl rfl 0 (by decide) (nz_use hN nzf_X10_55) (fun _ h9 => h9) rfl (by decide +kernel) rfl rfl (Nat.le_of_ble_eq_true rfl) dX10_over_19 (fun H locs hP hD hS => ?_)
      have hP : va_P D vwCl [oX3 ad s3_next s3_kept, oX4 ad s4_ticks s4_firstBeganWith s4_secondBefore s4_thirdBefore s4_thirdTwoBefore, oX7 ad x1 s7_count, oX9 ad s9_parts s9_rule s9_hand, oX10 ad , aJ cy (ad 29) 4 a4_sums, aZ cy (ad 39) 16 a9_isOn, aI cy (ad 40) 16 a9_timesOn] H := hP
      have hD : va_D A [oX3 ad s3_next s3_kept, oX4 ad s4_ticks s4_firstBeganWith s4_secondBefore s4_thirdBefore s4_thirdTwoBefore, oX7 ad x1 s7_count, oX9 ad s9_parts s9_rule s9_hand, oX10 ad , aJ cy (ad 29) 4 a4_sums, aZ cy (ad 39) 16 a9_isOn, aI cy (ad 40) 16 a9_timesOn] := hD
      refine lv_aload_n hx hb dX10_over_22 rfl (lv_at hl 0 rfl) ?_
      refine va_get (D := D) (ci := 10) (v := .ref (ad 4)) (C := RX10) (T := TX10) (N := 6) hx hb hts in_X10_over_10 hown hK hP 4 rfl rfl 1 (by decide) (hts _ lk_X10_over_21) (fun _ h9 => h9) rfl dX10_over_23 ?_
      have hPc := hP.sub (ws' := [oX3 ad s3_next s3_kept, oX4 ad s4_ticks s4_firstBeganWith s4_secondBefore s4_thirdBefore s4_thirdTwoBefore, oX9 ad s9_parts s9_rule s9_hand, aJ cy (ad 29) 4 a4_sums, aZ cy (ad 39) 16 a9_isOn, aI cy (ad 40) 16 a9_timesOn]) [0, 1, 3, 5, 6, 7] rfl
      have hDc := hD.sub (ws' := [oX3 ad s3_next s3_kept, oX4 ad s4_ticks s4_firstBeganWith s4_secondBefore s4_thirdBefore s4_thirdTwoBefore, oX9 ad s9_parts s9_rule s9_hand, aJ cy (ad 29) 4 a4_sums, aZ cy (ad 39) 16 a9_isOn, aI cy (ad 40) 16 a9_timesOn]) [0, 1, 3, 5, 6, 7] (by decide) rfl
      refine k_calv (wc := [oX3 ad s3_next s3_kept, oX4 ad s4_ticks s4_firstBeganWith s4_secondBefore s4_thirdBefore s4_thirdTwoBefore, oX9 ad s9_parts s9_rule s9_hand, aJ cy (ad 29) 4 a4_sums, aZ cy (ad 39) 16 a9_isOn, aI cy (ad 40) 16 a9_timesOn]) (wr := [oX7 ad x1 s7_count, oX10 ad ]) (va_runV (As := []) (rest := []) ⟨hx, hb, hml, hown, hts⟩ (m_X4_beginAnew l D cy ad s3_next s3_kept s4_ticks s4_firstBeganWith s4_secondBefore s4_thirdBefore s4_thirdTwoBefore s9_parts s9_rule s9_hand a4_sums a9_isOn a9_timesOn H.size hv) (cwV 0 hts gX10_over_X4_beginAnew rfl rfl rfl (by decide +kernel) ⟨Nat.le_of_ble_eq_true rfl, Nat.le_of_ble_eq_true rfl⟩) ⟨wd_blind, va_recv hK hPc (ci := 4) (q0 := 1) rfl rfl, wd_ok hPc hK hDc hN⟩ rfl rfl hl.1 rfl (lv_room (Nat.le_of_ble_eq_true rfl)) dX10_over_26 ⟨Nat.le_of_ble_eq_true rfl, Nat.le_of_ble_eq_true rfl⟩) hP hD hS hA [0, 1, 3, 5, 6, 7] [2, 4] rfl rfl (by decide) (by decide) (fun u H locs hv hP hD hS => ?_)
      obtain ⟨s3_next_1, s3_kept_2, s4_ticks_3, s4_firstBeganWith_4, s4_secondBefore_5, s4_thirdBefore_6, s4_thirdTwoBefore_7, s9_hand_8, a4_sums_9, a9_isOn_10, a9_timesOn_11⟩ := u
      have hP : va_P D vwCl [oX3 ad s3_next_1 s3_kept_2, oX4 ad s4_ticks_3 s4_firstBeganWith_4 s4_secondBefore_5 s4_thirdBefore_6 s4_thirdTwoBefore_7, oX7 ad x1 s7_count, oX9 ad s9_parts s9_rule s9_hand_8, oX10 ad , aJ cy (ad 29) 4 a4_sums_9, aZ cy (ad 39) 16 a9_isOn_10, aI cy (ad 40) 16 a9_timesOn_11] H := hP.sub [2, 3, 0, 4, 1, 5, 6, 7] rfl
      have hD : va_D A [oX3 ad s3_next_1 s3_kept_2, oX4 ad s4_ticks_3 s4_firstBeganWith_4 s4_secondBefore_5 s4_thirdBefore_6 s4_thirdTwoBefore_7, oX7 ad x1 s7_count, oX9 ad s9_parts s9_rule s9_hand_8, oX10 ad , aJ cy (ad 29) 4 a4_sums_9, aZ cy (ad 39) 16 a9_isOn_10, aI cy (ad 40) 16 a9_timesOn_11] := hD.sub [2, 3, 0, 4, 1, 5, 6, 7] (by decide) rfl
      refine lv_iconst (v := 1) hx hb dX10_over_29 (by decide) ?_
      rw [← hQ]
      exact k_zret hx hb hr hlocks hS (s3_next_1, s3_kept_2, s4_ticks_3, s4_firstBeganWith_4, s4_secondBefore_5, s4_thirdBefore_6, s4_thirdTwoBefore_7, x1, s9_hand_8, a4_sums_9, a9_isOn_10, a9_timesOn_11) hP hD (by decide) hv dX10_over_30
    · have hv := hv.2 c_9
      refine lv_iconst (v := 0) hx hb dX10_over_12 (by decide) ?_
      rw [← hQ]
      exact k_zret hx hb hr hlocks hS (s3_next, s3_kept, s4_ticks, s4_firstBeganWith, s4_secondBefore, s4_thirdBefore, s4_thirdTwoBefore, s7_over, s9_hand, a4_sums, a9_isOn, a9_timesOn) hP hD (by decide) hv dX10_over_13
theorem lna_X10_steps_I : Cond.arrayClass .int ∈ wsX10_steps := by decide +kernel
theorem lk_X10_steps_10 : Cond.fieldLink RX10 10 "CoarseSteps" "scale" "LCoarseSteps$Scale;" ∈ wsX10_steps := by decide +kernel
theorem in_X10_steps_10 : ∀ w ∈ wsX100, w ∈ wsX10_steps := by decide +kernel
theorem lk_X10_steps_21 : Cond.fieldLink RX10 21 "CoarseSteps" "loop" "LCoarseSteps$Loop;" ∈ wsX10_steps := by decide +kernel
abbrev rm_X10_steps : Room := { frames := 2, cells := 1, slots := 8, locals := 44 }
set_option maxHeartbeats 4000000 in
set_option maxRecDepth 100000 in
theorem m_X10_steps (l : Launch) (D : va_G) (cy : ClassId × ClassId × ClassId) (ad : Nat → Nat) (s3_next : Int32) (s3_kept : Int32) (s4_ticks : Int32) (s4_firstBeganWith : Int64) (s4_secondBefore : Int32) (s4_thirdBefore : Int32) (s4_thirdTwoBefore : Int32) (s7_over : Int32) (s7_count : Int32) (s9_parts : Int32) (s9_rule : Int32) (s9_hand : Int32) (a4_sums : Nat → Int64) (a7_values : Nat → Int32) (a9_isOn : Nat → Int32) (a9_timesOn : Nat → Int32) (x1 : Int32) (x2 : Int32) (x3 : Int32) (x4 : Int32) (x5 : Int32) (x6 : Int32) (x7 : Int32) (x8 : Int32) (x9 : Int32) (sz : Nat) {K : Int32 → Int32 → Int32 → Int32 → Int64 → Int32 → Int32 → Int32 → Int32 → Int32 → (Nat → Int64) → (Nat → Int32) → (Nat → Int32) → (Nat → Int32) → Prop} (hv : v_X10_steps s3_next s3_kept s4_ticks s4_firstBeganWith s4_secondBefore s4_thirdBefore s4_thirdTwoBefore s7_count s9_hand a4_sums a7_values a9_isOn a9_timesOn x1 x2 x3 x4 x5 x6 x7 x8 x9 K) : Met l yX10_steps wsX10_steps rm_X10_steps (va_Pc [.ref (ad 10), .int x1, .int x2, .int x3, .int x4, .int x5, .int x6, .int x7, .int x8, .int x9] (wd D cy [oX3 ad s3_next s3_kept, oX4 ad s4_ticks s4_firstBeganWith s4_secondBefore s4_thirdBefore s4_thirdTwoBefore, oX7 ad s7_over s7_count, oX9 ad s9_parts s9_rule s9_hand, oX10 ad , aJ cy (ad 29) 4 a4_sums, aI cy (ad 34) 8 a7_values, aZ cy (ad 39) 16 a9_isOn, aI cy (ad 40) 16 a9_timesOn] sz)) (va_Qi (fun (r : Int32) (u : Int32 × Int32 × Int32 × Int64 × Int32 × Int32 × Int32 × Int32 × Int32 × (Nat → Int64) × (Nat → Int32) × (Nat → Int32) × (Nat → Int32)) => (r = 0 ∨ r = 1) ∧ K r u.1 u.2.1 u.2.2.1 u.2.2.2.1 u.2.2.2.2.1 u.2.2.2.2.2.1 u.2.2.2.2.2.2.1 u.2.2.2.2.2.2.2.1 u.2.2.2.2.2.2.2.2.1 u.2.2.2.2.2.2.2.2.2.1 u.2.2.2.2.2.2.2.2.2.2.1 u.2.2.2.2.2.2.2.2.2.2.2.1 u.2.2.2.2.2.2.2.2.2.2.2.2) (fun u t => we D ((fun u : Int32 × Int32 × Int32 × Int64 × Int32 × Int32 × Int32 × Int32 × Int32 × (Nat → Int64) × (Nat → Int32) × (Nat → Int32) × (Nat → Int32) => [oX3 ad u.1 u.2.1, oX4 ad u.2.2.1 u.2.2.2.1 u.2.2.2.2.1 u.2.2.2.2.2.1 u.2.2.2.2.2.2.1, oX7 ad s7_over u.2.2.2.2.2.2.2.1, oX9 ad s9_parts s9_rule u.2.2.2.2.2.2.2.2.1, oX10 ad , aJ cy (ad 29) 4 u.2.2.2.2.2.2.2.2.2.1, aI cy (ad 34) 8 u.2.2.2.2.2.2.2.2.2.2.1, aZ cy (ad 39) 16 u.2.2.2.2.2.2.2.2.2.2.2.1, aI cy (ad 40) 16 u.2.2.2.2.2.2.2.2.2.2.2.2]) u) (va_A [oX3 ad s3_next s3_kept, oX4 ad s4_ticks s4_firstBeganWith s4_secondBefore s4_thirdBefore s4_thirdTwoBefore, oX7 ad s7_over s7_count, oX9 ad s9_parts s9_rule s9_hand, oX10 ad , aJ cy (ad 29) 4 a4_sums, aI cy (ad 34) 8 a7_values, aZ cy (ad 39) 16 a9_isOn, aI cy (ad 40) 16 a9_timesOn] sz) t) (va_A [oX3 ad s3_next s3_kept, oX4 ad s4_ticks s4_firstBeganWith s4_secondBefore s4_thirdBefore s4_thirdTwoBefore, oX7 ad s7_over s7_count, oX9 ad s9_parts s9_rule s9_hand, oX10 ad , aJ cy (ad 29) 4 a4_sums, aI cy (ad 34) 8 a7_values, aZ cy (ad 39) 16 a9_isOn, aI cy (ad 40) 16 a9_timesOn] sz)) 1 8 (va_A [oX3 ad s3_next s3_kept, oX4 ad s4_ticks s4_firstBeganWith s4_secondBefore s4_thirdBefore s4_thirdTwoBefore, oX7 ad s7_over s7_count, oX9 ad s9_parts s9_rule s9_hand, oX10 ad , aJ cy (ad 29) 4 a4_sums, aI cy (ad 34) 8 a7_values, aZ cy (ad 39) 16 a9_isOn, aI cy (ad 40) 16 a9_timesOn] sz) := by
  refine k_ofW (cc := cX10_steps) (maxL := 11) (ret := (some .boolean)) (fun A => va_Qi (fun (r : Int32) (u : Int32 × Int32 × Int32 × Int64 × Int32 × Int32 × Int32 × Int32 × Int32 × (Nat → Int64) × (Nat → Int32) × (Nat → Int32) × (Nat → Int32)) => (r = 0 ∨ r = 1) ∧ K r u.1 u.2.1 u.2.2.1 u.2.2.2.1 u.2.2.2.2.1 u.2.2.2.2.2.1 u.2.2.2.2.2.2.1 u.2.2.2.2.2.2.2.1 u.2.2.2.2.2.2.2.2.1 u.2.2.2.2.2.2.2.2.2.1 u.2.2.2.2.2.2.2.2.2.2.1 u.2.2.2.2.2.2.2.2.2.2.2.1 u.2.2.2.2.2.2.2.2.2.2.2.2) (fun u t => we D ((fun u : Int32 × Int32 × Int32 × Int64 × Int32 × Int32 × Int32 × Int32 × Int32 × (Nat → Int64) × (Nat → Int32) × (Nat → Int32) × (Nat → Int32) => [oX3 ad u.1 u.2.1, oX4 ad u.2.2.1 u.2.2.2.1 u.2.2.2.2.1 u.2.2.2.2.2.1 u.2.2.2.2.2.2.1, oX7 ad s7_over u.2.2.2.2.2.2.2.1, oX9 ad s9_parts s9_rule u.2.2.2.2.2.2.2.2.1, oX10 ad , aJ cy (ad 29) 4 u.2.2.2.2.2.2.2.2.2.1, aI cy (ad 34) 8 u.2.2.2.2.2.2.2.2.2.2.1, aZ cy (ad 39) 16 u.2.2.2.2.2.2.2.2.2.2.2.1, aI cy (ad 40) 16 u.2.2.2.2.2.2.2.2.2.2.2.2]) u) A t) A) (by decide) rfl (Nat.le_of_ble_eq_true rfl) ?_
  intro p e s m below meth c A ls H locs hx hb hml hr hts hown hlocks hname hK hN hA hP hD hS hl
  have hl : lv_has ls 11 [(0, .ref (ad 10)), (1, .int x1), (2, .int x2), (3, .int x3), (4, .int x4), (5, .int x5), (6, .int x6), (7, .int x7), (8, .int x8), (9, .int x9)] := hl
  generalize hQ : MQ below _ _ s _ _ A = Q
  unfold v_X10_steps at hv
  refine lv_bipush (v := 8) hx hb dX10_steps_0 (by decide) ?_
  refine k_newI (N := 8) (cy := cy) hx hb (hts _ lna_X10_steps_I) hK hP hD hS hA (by decide) (by decide) (by decide) (Nat.le_of_ble_eq_true rfl) (Nat.le_of_ble_eq_true rfl) dX10_steps_2 (fun qn2 H hP hD hS => ?_)
  have hP : va_P D vwCl [oX3 ad s3_next s3_kept, oX4 ad s4_ticks s4_firstBeganWith s4_secondBefore s4_thirdBefore s4_thirdTwoBefore, oX7 ad s7_over s7_count, oX9 ad s9_parts s9_rule s9_hand, oX10 ad , aJ cy (ad 29) 4 a4_sums, aI cy (ad 34) 8 a7_values, aZ cy (ad 39) 16 a9_isOn, aI cy (ad 40) 16 a9_timesOn, aI cy qn2 8 (fun _ => 0)] H := hP
  have hD : va_D A [oX3 ad s3_next s3_kept, oX4 ad s4_ticks s4_firstBeganWith s4_secondBefore s4_thirdBefore s4_thirdTwoBefore, oX7 ad s7_over s7_count, oX9 ad s9_parts s9_rule s9_hand, oX10 ad , aJ cy (ad 29) 4 a4_sums, aI cy (ad 34) 8 a7_values, aZ cy (ad 39) 16 a9_isOn, aI cy (ad 40) 16 a9_timesOn, aI cy qn2 8 (fun _ => 0)] := hD
  refine lv_dup hx hb dX10_steps_4 rfl ?_
  refine lv_iconst (v := 0) hx hb dX10_steps_5 (by decide) ?_
  refine lv_iload_n hx hb dX10_steps_6 rfl (lv_at hl 2 rfl) ?_
  refine k_iast hx hb hK hP hD hS 9 0 rfl rfl hv.1 dX10_steps_7 (fun n2_1 H locs h_n2_1 hP hD hS => ?_)
  have hv := hv.2 n2_1 h_n2_1
  have hP : va_P D vwCl [oX3 ad s3_next s3_kept, oX4 ad s4_ticks s4_firstBeganWith s4_secondBefore s4_thirdBefore s4_thirdTwoBefore, oX7 ad s7_over s7_count, oX9 ad s9_parts s9_rule s9_hand, oX10 ad , aJ cy (ad 29) 4 a4_sums, aI cy (ad 34) 8 a7_values, aZ cy (ad 39) 16 a9_isOn, aI cy (ad 40) 16 a9_timesOn, aI cy qn2 8 n2_1] H := hP
  have hD : va_D A [oX3 ad s3_next s3_kept, oX4 ad s4_ticks s4_firstBeganWith s4_secondBefore s4_thirdBefore s4_thirdTwoBefore, oX7 ad s7_over s7_count, oX9 ad s9_parts s9_rule s9_hand, oX10 ad , aJ cy (ad 29) 4 a4_sums, aI cy (ad 34) 8 a7_values, aZ cy (ad 39) 16 a9_isOn, aI cy (ad 40) 16 a9_timesOn, aI cy qn2 8 n2_1] := hD
  refine lv_dup hx hb dX10_steps_8 rfl ?_
  refine lv_iconst (v := 1) hx hb dX10_steps_9 (by decide) ?_
  refine lv_iload_n hx hb dX10_steps_10 rfl (lv_at hl 3 rfl) ?_
  refine k_iast hx hb hK hP hD hS 9 0 rfl rfl hv.1 dX10_steps_11 (fun n2_2 H locs h_n2_2 hP hD hS => ?_)
  have hv := hv.2 n2_2 h_n2_2
  have hP : va_P D vwCl [oX3 ad s3_next s3_kept, oX4 ad s4_ticks s4_firstBeganWith s4_secondBefore s4_thirdBefore s4_thirdTwoBefore, oX7 ad s7_over s7_count, oX9 ad s9_parts s9_rule s9_hand, oX10 ad , aJ cy (ad 29) 4 a4_sums, aI cy (ad 34) 8 a7_values, aZ cy (ad 39) 16 a9_isOn, aI cy (ad 40) 16 a9_timesOn, aI cy qn2 8 n2_2] H := hP
  have hD : va_D A [oX3 ad s3_next s3_kept, oX4 ad s4_ticks s4_firstBeganWith s4_secondBefore s4_thirdBefore s4_thirdTwoBefore, oX7 ad s7_over s7_count, oX9 ad s9_parts s9_rule s9_hand, oX10 ad , aJ cy (ad 29) 4 a4_sums, aI cy (ad 34) 8 a7_values, aZ cy (ad 39) 16 a9_isOn, aI cy (ad 40) 16 a9_timesOn, aI cy qn2 8 n2_2] := hD
  refine lv_dup hx hb dX10_steps_12 rfl ?_
  refine lv_iconst (v := 2) hx hb dX10_steps_13 (by decide) ?_
  refine lv_iload hx hb dX10_steps_14 (lv_at hl 4 rfl) ?_
  refine k_iast hx hb hK hP hD hS 9 0 rfl rfl hv.1 dX10_steps_16 (fun n2_3 H locs h_n2_3 hP hD hS => ?_)
  have hv := hv.2 n2_3 h_n2_3
  have hP : va_P D vwCl [oX3 ad s3_next s3_kept, oX4 ad s4_ticks s4_firstBeganWith s4_secondBefore s4_thirdBefore s4_thirdTwoBefore, oX7 ad s7_over s7_count, oX9 ad s9_parts s9_rule s9_hand, oX10 ad , aJ cy (ad 29) 4 a4_sums, aI cy (ad 34) 8 a7_values, aZ cy (ad 39) 16 a9_isOn, aI cy (ad 40) 16 a9_timesOn, aI cy qn2 8 n2_3] H := hP
  have hD : va_D A [oX3 ad s3_next s3_kept, oX4 ad s4_ticks s4_firstBeganWith s4_secondBefore s4_thirdBefore s4_thirdTwoBefore, oX7 ad s7_over s7_count, oX9 ad s9_parts s9_rule s9_hand, oX10 ad , aJ cy (ad 29) 4 a4_sums, aI cy (ad 34) 8 a7_values, aZ cy (ad 39) 16 a9_isOn, aI cy (ad 40) 16 a9_timesOn, aI cy qn2 8 n2_3] := hD
  refine lv_dup hx hb dX10_steps_17 rfl ?_
  refine lv_iconst (v := 3) hx hb dX10_steps_18 (by decide) ?_
  refine lv_iload hx hb dX10_steps_19 (lv_at hl 5 rfl) ?_
  refine k_iast hx hb hK hP hD hS 9 0 rfl rfl hv.1 dX10_steps_21 (fun n2_4 H locs h_n2_4 hP hD hS => ?_)
  have hv := hv.2 n2_4 h_n2_4
  have hP : va_P D vwCl [oX3 ad s3_next s3_kept, oX4 ad s4_ticks s4_firstBeganWith s4_secondBefore s4_thirdBefore s4_thirdTwoBefore, oX7 ad s7_over s7_count, oX9 ad s9_parts s9_rule s9_hand, oX10 ad , aJ cy (ad 29) 4 a4_sums, aI cy (ad 34) 8 a7_values, aZ cy (ad 39) 16 a9_isOn, aI cy (ad 40) 16 a9_timesOn, aI cy qn2 8 n2_4] H := hP
  have hD : va_D A [oX3 ad s3_next s3_kept, oX4 ad s4_ticks s4_firstBeganWith s4_secondBefore s4_thirdBefore s4_thirdTwoBefore, oX7 ad s7_over s7_count, oX9 ad s9_parts s9_rule s9_hand, oX10 ad , aJ cy (ad 29) 4 a4_sums, aI cy (ad 34) 8 a7_values, aZ cy (ad 39) 16 a9_isOn, aI cy (ad 40) 16 a9_timesOn, aI cy qn2 8 n2_4] := hD
  refine lv_dup hx hb dX10_steps_22 rfl ?_
  refine lv_iconst (v := 4) hx hb dX10_steps_23 (by decide) ?_
  refine lv_iload hx hb dX10_steps_24 (lv_at hl 6 rfl) ?_
  refine k_iast hx hb hK hP hD hS 9 0 rfl rfl hv.1 dX10_steps_26 (fun n2_5 H locs h_n2_5 hP hD hS => ?_)
  have hv := hv.2 n2_5 h_n2_5
  have hP : va_P D vwCl [oX3 ad s3_next s3_kept, oX4 ad s4_ticks s4_firstBeganWith s4_secondBefore s4_thirdBefore s4_thirdTwoBefore, oX7 ad s7_over s7_count, oX9 ad s9_parts s9_rule s9_hand, oX10 ad , aJ cy (ad 29) 4 a4_sums, aI cy (ad 34) 8 a7_values, aZ cy (ad 39) 16 a9_isOn, aI cy (ad 40) 16 a9_timesOn, aI cy qn2 8 n2_5] H := hP
  have hD : va_D A [oX3 ad s3_next s3_kept, oX4 ad s4_ticks s4_firstBeganWith s4_secondBefore s4_thirdBefore s4_thirdTwoBefore, oX7 ad s7_over s7_count, oX9 ad s9_parts s9_rule s9_hand, oX10 ad , aJ cy (ad 29) 4 a4_sums, aI cy (ad 34) 8 a7_values, aZ cy (ad 39) 16 a9_isOn, aI cy (ad 40) 16 a9_timesOn, aI cy qn2 8 n2_5] := hD
  refine lv_dup hx hb dX10_steps_27 rfl ?_
  refine lv_iconst (v := 5) hx hb dX10_steps_28 (by decide) ?_
  refine lv_iload hx hb dX10_steps_29 (lv_at hl 7 rfl) ?_
  refine k_iast hx hb hK hP hD hS 9 0 rfl rfl hv.1 dX10_steps_31 (fun n2_6 H locs h_n2_6 hP hD hS => ?_)
  have hv := hv.2 n2_6 h_n2_6
  have hP : va_P D vwCl [oX3 ad s3_next s3_kept, oX4 ad s4_ticks s4_firstBeganWith s4_secondBefore s4_thirdBefore s4_thirdTwoBefore, oX7 ad s7_over s7_count, oX9 ad s9_parts s9_rule s9_hand, oX10 ad , aJ cy (ad 29) 4 a4_sums, aI cy (ad 34) 8 a7_values, aZ cy (ad 39) 16 a9_isOn, aI cy (ad 40) 16 a9_timesOn, aI cy qn2 8 n2_6] H := hP
  have hD : va_D A [oX3 ad s3_next s3_kept, oX4 ad s4_ticks s4_firstBeganWith s4_secondBefore s4_thirdBefore s4_thirdTwoBefore, oX7 ad s7_over s7_count, oX9 ad s9_parts s9_rule s9_hand, oX10 ad , aJ cy (ad 29) 4 a4_sums, aI cy (ad 34) 8 a7_values, aZ cy (ad 39) 16 a9_isOn, aI cy (ad 40) 16 a9_timesOn, aI cy qn2 8 n2_6] := hD
  refine lv_dup hx hb dX10_steps_32 rfl ?_
  refine lv_bipush (v := 6) hx hb dX10_steps_33 (by decide) ?_
  refine lv_iload hx hb dX10_steps_35 (lv_at hl 8 rfl) ?_
  refine k_iast hx hb hK hP hD hS 9 0 rfl rfl hv.1 dX10_steps_37 (fun n2_7 H locs h_n2_7 hP hD hS => ?_)
  have hv := hv.2 n2_7 h_n2_7
  have hP : va_P D vwCl [oX3 ad s3_next s3_kept, oX4 ad s4_ticks s4_firstBeganWith s4_secondBefore s4_thirdBefore s4_thirdTwoBefore, oX7 ad s7_over s7_count, oX9 ad s9_parts s9_rule s9_hand, oX10 ad , aJ cy (ad 29) 4 a4_sums, aI cy (ad 34) 8 a7_values, aZ cy (ad 39) 16 a9_isOn, aI cy (ad 40) 16 a9_timesOn, aI cy qn2 8 n2_7] H := hP
  have hD : va_D A [oX3 ad s3_next s3_kept, oX4 ad s4_ticks s4_firstBeganWith s4_secondBefore s4_thirdBefore s4_thirdTwoBefore, oX7 ad s7_over s7_count, oX9 ad s9_parts s9_rule s9_hand, oX10 ad , aJ cy (ad 29) 4 a4_sums, aI cy (ad 34) 8 a7_values, aZ cy (ad 39) 16 a9_isOn, aI cy (ad 40) 16 a9_timesOn, aI cy qn2 8 n2_7] := hD
  refine lv_dup hx hb dX10_steps_38 rfl ?_
  refine lv_bipush (v := 7) hx hb dX10_steps_39 (by decide) ?_
  refine lv_iload hx hb dX10_steps_41 (lv_at hl 9 rfl) ?_
  refine k_iast hx hb hK hP hD hS 9 0 rfl rfl hv.1 dX10_steps_43 (fun n2_8 H locs h_n2_8 hP hD hS => ?_)
  have hv := hv.2 n2_8 h_n2_8
  have hP : va_P D vwCl [oX3 ad s3_next s3_kept, oX4 ad s4_ticks s4_firstBeganWith s4_secondBefore s4_thirdBefore s4_thirdTwoBefore, oX7 ad s7_over s7_count, oX9 ad s9_parts s9_rule s9_hand, oX10 ad , aJ cy (ad 29) 4 a4_sums, aI cy (ad 34) 8 a7_values, aZ cy (ad 39) 16 a9_isOn, aI cy (ad 40) 16 a9_timesOn, aI cy qn2 8 n2_8] H := hP
  have hD : va_D A [oX3 ad s3_next s3_kept, oX4 ad s4_ticks s4_firstBeganWith s4_secondBefore s4_thirdBefore s4_thirdTwoBefore, oX7 ad s7_over s7_count, oX9 ad s9_parts s9_rule s9_hand, oX10 ad , aJ cy (ad 29) 4 a4_sums, aI cy (ad 34) 8 a7_values, aZ cy (ad 39) 16 a9_isOn, aI cy (ad 40) 16 a9_timesOn, aI cy qn2 8 n2_8] := hD
  refine lv_astore (lv' := [(10, .ref qn2), (0, .ref (ad 10)), (1, .int x1), (2, .int x2), (3, .int x3), (4, .int x4), (5, .int x5), (6, .int x6), (7, .int x7), (8, .int x8), (9, .int x9)]) hx hb dX10_steps_44 hl (by decide) rfl (fun ls hl => ?_)
  refine lv_aload_n hx hb dX10_steps_46 rfl (lv_at hl 1 rfl) ?_
  refine va_get (D := D) (ci := 10) (v := .ref (ad 7)) (C := RX10) (T := TX10) (N := 6) hx hb hts in_X10_steps_10 hown hK hP 4 rfl rfl 0 (by decide) (hts _ lk_X10_steps_10) (fun _ h9 => h9) rfl dX10_steps_47 ?_
  refine lv_iload_n hx hb dX10_steps_50 rfl (lv_at hl 2 rfl) ?_
  refine lv_aload hx hb dX10_steps_51 (lv_at hl 0 rfl) ?_
  have hPc := hP.sub (ws' := [oX7 ad s7_over s7_count, aI cy qn2 8 n2_8]) [2, 9] rfl
  have hDc := hD.sub (ws' := [oX7 ad s7_over s7_count, aI cy qn2 8 n2_8]) [2, 9] (by decide) rfl
  refine k_cali (wc := [oX7 ad s7_over s7_count, aI cy qn2 8 n2_8]) (wr := [oX3 ad s3_next s3_kept, oX4 ad s4_ticks s4_firstBeganWith s4_secondBefore s4_thirdBefore s4_thirdTwoBefore, oX9 ad s9_parts s9_rule s9_hand, oX10 ad , aJ cy (ad 29) 4 a4_sums, aI cy (ad 34) 8 a7_values, aZ cy (ad 39) 16 a9_isOn, aI cy (ad 40) 16 a9_timesOn]) (va_runV (As := [.int x1, .ref qn2]) (rest := []) ⟨hx, hb, hml, hown, hts⟩ (m_X7_canTake l D cy ad s7_over s7_count n2_8 qn2 x1 H.size hv) (cwV 2 hts gX10_steps_X7_canTake rfl rfl rfl (by decide +kernel) ⟨Nat.le_of_ble_eq_true rfl, Nat.le_of_ble_eq_true rfl⟩) ⟨wd_blind, va_recv hK hPc (ci := 7) (q0 := 0) rfl rfl, wd_ok hPc hK hDc hN⟩ rfl rfl hl.1 rfl (lv_room (Nat.le_of_ble_eq_true rfl)) dX10_steps_53 ⟨Nat.le_of_ble_eq_true rfl, Nat.le_of_ble_eq_true rfl⟩) hP hD hS hA [2, 9] [0, 1, 3, 4, 5, 6, 7, 8] rfl rfl (by decide) (by decide) (fun r9 u H locs hv hP hD hS => ?_)
  obtain ⟨hz_r9, hv⟩ := hv
  have hP : va_P D vwCl [oX3 ad s3_next s3_kept, oX4 ad s4_ticks s4_firstBeganWith s4_secondBefore s4_thirdBefore s4_thirdTwoBefore, oX7 ad s7_over s7_count, oX9 ad s9_parts s9_rule s9_hand, oX10 ad , aJ cy (ad 29) 4 a4_sums, aI cy (ad 34) 8 a7_values, aZ cy (ad 39) 16 a9_isOn, aI cy (ad 40) 16 a9_timesOn, aI cy qn2 8 n2_8] H := hP.sub [0, 1, 8, 2, 3, 4, 5, 6, 7, 9] rfl
  have hD : va_D A [oX3 ad s3_next s3_kept, oX4 ad s4_ticks s4_firstBeganWith s4_secondBefore s4_thirdBefore s4_thirdTwoBefore, oX7 ad s7_over s7_count, oX9 ad s9_parts s9_rule s9_hand, oX10 ad , aJ cy (ad 29) 4 a4_sums, aI cy (ad 34) 8 a7_values, aZ cy (ad 39) 16 a9_isOn, aI cy (ad 40) 16 a9_timesOn, aI cy qn2 8 n2_8] := hD.sub [0, 1, 8, 2, 3, 4, 5, 6, 7, 9] (by decide) rfl
  refine lv_if_ne (tgt := 61) hx hb dX10_steps_56 (by decide) (fun c_56 => ?_) (fun c_56 => ?_)
  · have hv := hv.1 c_56
    refine lv_aload_n hx hb dX10_steps_61 rfl (lv_at hl 1 rfl) ?_
    refine va_get (D := D) (ci := 10) (v := .ref (ad 7)) (C := RX10) (T := TX10) (N := 6) hx hb hts in_X10_steps_10 hown hK hP 4 rfl rfl 0 (by decide) (hts _ lk_X10_steps_10) (fun _ h9 => h9) rfl dX10_steps_62 ?_
    refine lv_iload_n hx hb dX10_steps_65 rfl (lv_at hl 2 rfl) ?_
    refine lv_aload hx hb dX10_steps_66 (lv_at hl 0 rfl) ?_
    have hPc := hP.sub (ws' := [oX7 ad s7_over s7_count, aI cy (ad 34) 8 a7_values, aI cy qn2 8 n2_8]) [2, 6, 9] rfl
    have hDc := hD.sub (ws' := [oX7 ad s7_over s7_count, aI cy (ad 34) 8 a7_values, aI cy qn2 8 n2_8]) [2, 6, 9] (by decide) rfl
    refine k_calv (wc := [oX7 ad s7_over s7_count, aI cy (ad 34) 8 a7_values, aI cy qn2 8 n2_8]) (wr := [oX3 ad s3_next s3_kept, oX4 ad s4_ticks s4_firstBeganWith s4_secondBefore s4_thirdBefore s4_thirdTwoBefore, oX9 ad s9_parts s9_rule s9_hand, oX10 ad , aJ cy (ad 29) 4 a4_sums, aZ cy (ad 39) 16 a9_isOn, aI cy (ad 40) 16 a9_timesOn]) (va_runV (As := [.int x1, .ref qn2]) (rest := []) ⟨hx, hb, hml, hown, hts⟩ (m_X7_take l D cy ad s7_over s7_count a7_values n2_8 qn2 x1 H.size hv) (cwV 2 hts gX10_steps_X7_take rfl rfl rfl (by decide +kernel) ⟨Nat.le_of_ble_eq_true rfl, Nat.le_of_ble_eq_true rfl⟩) ⟨wd_blind, va_recv hK hPc (ci := 7) (q0 := 0) rfl rfl, wd_ok hPc hK hDc hN⟩ rfl rfl hl.1 rfl (lv_room (Nat.le_of_ble_eq_true rfl)) dX10_steps_68 ⟨Nat.le_of_ble_eq_true rfl, Nat.le_of_ble_eq_true rfl⟩) hP hD hS hA [2, 6, 9] [0, 1, 3, 4, 5, 7, 8] rfl rfl (by decide) (by decide) (fun u H locs hv hP hD hS => ?_)
    obtain ⟨s7_count_10, a7_values_11⟩ := u
    have hP : va_P D vwCl [oX3 ad s3_next s3_kept, oX4 ad s4_ticks s4_firstBeganWith s4_secondBefore s4_thirdBefore s4_thirdTwoBefore, oX7 ad s7_over s7_count_10, oX9 ad s9_parts s9_rule s9_hand, oX10 ad , aJ cy (ad 29) 4 a4_sums, aI cy (ad 34) 8 a7_values_11, aZ cy (ad 39) 16 a9_isOn, aI cy (ad 40) 16 a9_timesOn, aI cy qn2 8 n2_8] H := hP.sub [0, 1, 7, 2, 3, 4, 8, 5, 6, 9] rfl
    have hD : va_D A [oX3 ad s3_next s3_kept, oX4 ad s4_ticks s4_firstBeganWith s4_secondBefore s4_thirdBefore s4_thirdTwoBefore, oX7 ad s7_over s7_count_10, oX9 ad s9_parts s9_rule s9_hand, oX10 ad , aJ cy (ad 29) 4 a4_sums, aI cy (ad 34) 8 a7_values_11, aZ cy (ad 39) 16 a9_isOn, aI cy (ad 40) 16 a9_timesOn, aI cy qn2 8 n2_8] := hD.sub [0, 1, 7, 2, 3, 4, 8, 5, 6, 9] (by decide) rfl
    refine lv_aload_n hx hb dX10_steps_71 rfl (lv_at hl 1 rfl) ?_
    refine va_get (D := D) (ci := 10) (v := .ref (ad 4)) (C := RX10) (T := TX10) (N := 6) hx hb hts in_X10_steps_10 hown hK hP 4 rfl rfl 1 (by decide) (hts _ lk_X10_steps_21) (fun _ h9 => h9) rfl dX10_steps_72 ?_
    have hPc := hP.sub (ws' := [oX3 ad s3_next s3_kept, oX4 ad s4_ticks s4_firstBeganWith s4_secondBefore s4_thirdBefore s4_thirdTwoBefore, oX9 ad s9_parts s9_rule s9_hand, aJ cy (ad 29) 4 a4_sums, aZ cy (ad 39) 16 a9_isOn, aI cy (ad 40) 16 a9_timesOn]) [0, 1, 3, 5, 7, 8] rfl
    have hDc := hD.sub (ws' := [oX3 ad s3_next s3_kept, oX4 ad s4_ticks s4_firstBeganWith s4_secondBefore s4_thirdBefore s4_thirdTwoBefore, oX9 ad s9_parts s9_rule s9_hand, aJ cy (ad 29) 4 a4_sums, aZ cy (ad 39) 16 a9_isOn, aI cy (ad 40) 16 a9_timesOn]) [0, 1, 3, 5, 7, 8] (by decide) rfl
    refine k_calv (wc := [oX3 ad s3_next s3_kept, oX4 ad s4_ticks s4_firstBeganWith s4_secondBefore s4_thirdBefore s4_thirdTwoBefore, oX9 ad s9_parts s9_rule s9_hand, aJ cy (ad 29) 4 a4_sums, aZ cy (ad 39) 16 a9_isOn, aI cy (ad 40) 16 a9_timesOn]) (wr := [oX7 ad s7_over s7_count_10, oX10 ad , aI cy (ad 34) 8 a7_values_11, aI cy qn2 8 n2_8]) (va_runV (As := []) (rest := []) ⟨hx, hb, hml, hown, hts⟩ (m_X4_beginAnew l D cy ad s3_next s3_kept s4_ticks s4_firstBeganWith s4_secondBefore s4_thirdBefore s4_thirdTwoBefore s9_parts s9_rule s9_hand a4_sums a9_isOn a9_timesOn H.size hv) (cwV 0 hts gX10_steps_X4_beginAnew rfl rfl rfl (by decide +kernel) ⟨Nat.le_of_ble_eq_true rfl, Nat.le_of_ble_eq_true rfl⟩) ⟨wd_blind, va_recv hK hPc (ci := 4) (q0 := 1) rfl rfl, wd_ok hPc hK hDc hN⟩ rfl rfl hl.1 rfl (lv_room (Nat.le_of_ble_eq_true rfl)) dX10_steps_75 ⟨Nat.le_of_ble_eq_true rfl, Nat.le_of_ble_eq_true rfl⟩) hP hD hS hA [0, 1, 3, 5, 7, 8] [2, 4, 6, 9] rfl rfl (by decide) (by decide) (fun u H locs hv hP hD hS => ?_)
    obtain ⟨s3_next_12, s3_kept_13, s4_ticks_14, s4_firstBeganWith_15, s4_secondBefore_16, s4_thirdBefore_17, s4_thirdTwoBefore_18, s9_hand_19, a4_sums_20, a9_isOn_21, a9_timesOn_22⟩ := u
    have hP : va_P D vwCl [oX3 ad s3_next_12 s3_kept_13, oX4 ad s4_ticks_14 s4_firstBeganWith_15 s4_secondBefore_16 s4_thirdBefore_17 s4_thirdTwoBefore_18, oX7 ad s7_over s7_count_10, oX9 ad s9_parts s9_rule s9_hand_19, oX10 ad , aJ cy (ad 29) 4 a4_sums_20, aI cy (ad 34) 8 a7_values_11, aZ cy (ad 39) 16 a9_isOn_21, aI cy (ad 40) 16 a9_timesOn_22, aI cy qn2 8 n2_8] H := hP.sub [4, 5, 0, 6, 1, 7, 2, 8, 9, 3] rfl
    have hD : va_D A [oX3 ad s3_next_12 s3_kept_13, oX4 ad s4_ticks_14 s4_firstBeganWith_15 s4_secondBefore_16 s4_thirdBefore_17 s4_thirdTwoBefore_18, oX7 ad s7_over s7_count_10, oX9 ad s9_parts s9_rule s9_hand_19, oX10 ad , aJ cy (ad 29) 4 a4_sums_20, aI cy (ad 34) 8 a7_values_11, aZ cy (ad 39) 16 a9_isOn_21, aI cy (ad 40) 16 a9_timesOn_22, aI cy qn2 8 n2_8] := hD.sub [4, 5, 0, 6, 1, 7, 2, 8, 9, 3] (by decide) rfl
    refine lv_iconst (v := 1) hx hb dX10_steps_78 (by decide) ?_
    rw [← hQ]
    have hP := hP.sub (ws' := [oX3 ad s3_next_12 s3_kept_13, oX4 ad s4_ticks_14 s4_firstBeganWith_15 s4_secondBefore_16 s4_thirdBefore_17 s4_thirdTwoBefore_18, oX7 ad s7_over s7_count_10, oX9 ad s9_parts s9_rule s9_hand_19, oX10 ad , aJ cy (ad 29) 4 a4_sums_20, aI cy (ad 34) 8 a7_values_11, aZ cy (ad 39) 16 a9_isOn_21, aI cy (ad 40) 16 a9_timesOn_22]) [0, 1, 2, 3, 4, 5, 6, 7, 8] rfl
    have hD := hD.sub (ws' := [oX3 ad s3_next_12 s3_kept_13, oX4 ad s4_ticks_14 s4_firstBeganWith_15 s4_secondBefore_16 s4_thirdBefore_17 s4_thirdTwoBefore_18, oX7 ad s7_over s7_count_10, oX9 ad s9_parts s9_rule s9_hand_19, oX10 ad , aJ cy (ad 29) 4 a4_sums_20, aI cy (ad 34) 8 a7_values_11, aZ cy (ad 39) 16 a9_isOn_21, aI cy (ad 40) 16 a9_timesOn_22]) [0, 1, 2, 3, 4, 5, 6, 7, 8] (by decide) rfl
    exact k_zret hx hb hr hlocks hS (s3_next_12, s3_kept_13, s4_ticks_14, s4_firstBeganWith_15, s4_secondBefore_16, s4_thirdBefore_17, s4_thirdTwoBefore_18, s7_count_10, s9_hand_19, a4_sums_20, a7_values_11, a9_isOn_21, a9_timesOn_22) hP hD (by decide) hv dX10_steps_79
  · have hv := hv.2 c_56
    refine lv_iconst (v := 0) hx hb dX10_steps_59 (by decide) ?_
    rw [← hQ]
    have hP := hP.sub (ws' := [oX3 ad s3_next s3_kept, oX4 ad s4_ticks s4_firstBeganWith s4_secondBefore s4_thirdBefore s4_thirdTwoBefore, oX7 ad s7_over s7_count, oX9 ad s9_parts s9_rule s9_hand, oX10 ad , aJ cy (ad 29) 4 a4_sums, aI cy (ad 34) 8 a7_values, aZ cy (ad 39) 16 a9_isOn, aI cy (ad 40) 16 a9_timesOn]) [0, 1, 2, 3, 4, 5, 6, 7, 8] rfl
    have hD := hD.sub (ws' := [oX3 ad s3_next s3_kept, oX4 ad s4_ticks s4_firstBeganWith s4_secondBefore s4_thirdBefore s4_thirdTwoBefore, oX7 ad s7_over s7_count, oX9 ad s9_parts s9_rule s9_hand, oX10 ad , aJ cy (ad 29) 4 a4_sums, aI cy (ad 34) 8 a7_values, aZ cy (ad 39) 16 a9_isOn, aI cy (ad 40) 16 a9_timesOn]) [0, 1, 2, 3, 4, 5, 6, 7, 8] (by decide) rfl
    exact k_zret hx hb hr hlocks hS (s3_next, s3_kept, s4_ticks, s4_firstBeganWith, s4_secondBefore, s4_thirdBefore, s4_thirdTwoBefore, s7_count, s9_hand, a4_sums, a7_values, a9_isOn, a9_timesOn) hP hD (by decide) hv dX10_steps_60
abbrev rm_X10_canLoop : Room := { frames := 0, cells := 0, slots := 0, locals := 0 }
set_option maxHeartbeats 4000000 in
set_option maxRecDepth 100000 in
theorem m_X10_canLoop (l : Launch) (D : va_G) (cy : ClassId × ClassId × ClassId) (ad : Nat → Nat) (x0 : Int32) (x1 : Int32) (x2 : Int32) (sz : Nat) {K : Int32 → Prop} (hv : v_X10_canLoop x0 x1 x2 K) : Met l yX10_canLoop wsX10_canLoop rm_X10_canLoop (va_Pc [.int x0, .int x1, .int x2] (wd D cy [] sz)) (va_Qi (fun (r : Int32) (u : Unit) => (r = 0 ∨ r = 1) ∧ K r) (fun u t => we D ((fun u : Unit => []) u) (va_A [] sz) t) (va_A [] sz)) 0 0 (va_A [] sz) := by
  refine k_ofW (cc := cX10_canLoop) (maxL := 3) (ret := (some .boolean)) (fun A => va_Qi (fun (r : Int32) (u : Unit) => (r = 0 ∨ r = 1) ∧ K r) (fun u t => we D ((fun u : Unit => []) u) A t) A) (by decide) rfl (Nat.le_of_ble_eq_true rfl) ?_
  intro p e s m below meth c A ls H locs hx hb hml hr hts hown hlocks hname hK hN hA hP hD hS hl
  have hl : lv_has ls 3 [(0, .int x0), (1, .int x1), (2, .int x2)] := hl
  generalize hQ : MQ below _ _ s _ _ A = Q
  unfold v_X10_canLoop at hv
  refine lv_iload_n hx hb dX10_canLoop_0 rfl (lv_at hl 0 rfl) ?_
  have jn36 : ∀ (H : Heap) (locs : List Loc) (ls : Array Slot), vJ_X10_canLoop_36 x1 x2 K → lv_has ls 3 [(1, .int x1), (2, .int x2)] → va_P D vwCl [] H → va_D A [] → va_S A s.heap H locs → W p l e rm_X10_canLoop s m ([.int x0, .int x1, .int x2] : List Value).toArray below meth c H locs 0 0 Q (F0 m 36 ls []) := by
    intro H locs ls hv hl hP hD hS
    unfold vJ_X10_canLoop_36 at hv
    refine lv_iload_n hx hb dX10_canLoop_36 rfl (lv_at hl 0 rfl) ?_
    refine lv_if_ne (tgt := 48) hx hb dX10_canLoop_37 (by decide) (fun c_37 => ?_) (fun c_37 => ?_)
    · have hv := hv.1 c_37
      refine lv_iconst (v := 0) hx hb dX10_canLoop_48 (by decide) ?_
      rw [← hQ]
      exact k_zret hx hb hr hlocks hS () hP hD (by decide) hv dX10_canLoop_49
    · have hv := hv.2 c_37
      refine lv_iload_n hx hb dX10_canLoop_40 rfl (lv_at hl 1 rfl) ?_
      refine lv_if_ne (tgt := 48) hx hb dX10_canLoop_41 (by decide) (fun c_41 => ?_) (fun c_41 => ?_)
      · have hv := hv.1 c_41
        refine lv_iconst (v := 0) hx hb dX10_canLoop_48 (by decide) ?_
        rw [← hQ]
        exact k_zret hx hb hr hlocks hS () hP hD (by decide) hv dX10_canLoop_49
      · have hv := hv.2 c_41
        refine lv_iconst (v := 1) hx hb dX10_canLoop_44 (by decide) ?_
        refine lv_goto (tgt := 49) hx hb dX10_canLoop_45 (by decide) ?_
        rw [← hQ]
        exact k_zret hx hb hr hlocks hS () hP hD (by decide) hv dX10_canLoop_49
  by_cases c_1_0 : x0 = 0
  · refine lv_tableIn (tgt := 36) (off := 35) hx hb dX10_canLoop_1 (by rw [c_1_0] <;> decide) (by rw [c_1_0] <;> decide) (by rw [c_1_0] <;> rfl) (by decide) ?_
    have hv := hv.1 c_1_0
    exact jn36  H locs ls hv (lv_sub hl [1, 2] rfl) hP hD hS
  have hv := hv.2
  by_cases c_1_1 : x0 = 1
  · refine lv_tableIn (tgt := 36) (off := 35) hx hb dX10_canLoop_1 (by rw [c_1_1] <;> decide) (by rw [c_1_1] <;> decide) (by rw [c_1_1] <;> rfl) (by decide) ?_
    have hv := hv.1 c_1_1
    exact jn36  H locs ls hv (lv_sub hl [1, 2] rfl) hP hD hS
  have hv := hv.2
  by_cases c_1_2 : x0 = 2
  · refine lv_tableIn (tgt := 50) (off := 49) hx hb dX10_canLoop_1 (by rw [c_1_2] <;> decide) (by rw [c_1_2] <;> decide) (by rw [c_1_2] <;> rfl) (by decide) ?_
    have hv := hv.1 c_1_2
    refine lv_iload_n hx hb dX10_canLoop_50 rfl (lv_at hl 1 rfl) ?_
    refine lv_iconst (v := 1) hx hb dX10_canLoop_51 (by decide) ?_
    refine lv_icmp_lt (tgt := 68) hx hb dX10_canLoop_52 (by decide) (fun c_52 => ?_) (fun c_52 => ?_)
    · have hv := hv.1 c_52
      refine lv_iconst (v := 0) hx hb dX10_canLoop_68 (by decide) ?_
      rw [← hQ]
      exact k_zret hx hb hr hlocks hS () hP hD (by decide) hv dX10_canLoop_69
    · have hv := hv.2 c_52
      refine lv_iload_n hx hb dX10_canLoop_55 rfl (lv_at hl 1 rfl) ?_
      refine lv_iconst (v := 4) hx hb dX10_canLoop_56 (by decide) ?_
      refine lv_icmp_gt (tgt := 68) hx hb dX10_canLoop_57 (by decide) (fun c_57 => ?_) (fun c_57 => ?_)
      · have hv := hv.1 c_57
        refine lv_iconst (v := 0) hx hb dX10_canLoop_68 (by decide) ?_
        rw [← hQ]
        exact k_zret hx hb hr hlocks hS () hP hD (by decide) hv dX10_canLoop_69
      · have hv := hv.2 c_57
        refine lv_iload_n hx hb dX10_canLoop_60 rfl (lv_at hl 2 rfl) ?_
        refine lv_if_ne (tgt := 68) hx hb dX10_canLoop_61 (by decide) (fun c_61 => ?_) (fun c_61 => ?_)
        · have hv := hv.1 c_61
          refine lv_iconst (v := 0) hx hb dX10_canLoop_68 (by decide) ?_
          rw [← hQ]
          exact k_zret hx hb hr hlocks hS () hP hD (by decide) hv dX10_canLoop_69
        · have hv := hv.2 c_61
          refine lv_iconst (v := 1) hx hb dX10_canLoop_64 (by decide) ?_
          refine lv_goto (tgt := 69) hx hb dX10_canLoop_65 (by decide) ?_
          rw [← hQ]
          exact k_zret hx hb hr hlocks hS () hP hD (by decide) hv dX10_canLoop_69
  have hv := hv.2
  by_cases c_1_3 : x0 = 3
  · refine lv_tableIn (tgt := 70) (off := 69) hx hb dX10_canLoop_1 (by rw [c_1_3] <;> decide) (by rw [c_1_3] <;> decide) (by rw [c_1_3] <;> rfl) (by decide) ?_
    have hv := hv.1 c_1_3
    refine lv_iload_n hx hb dX10_canLoop_70 rfl (lv_at hl 1 rfl) ?_
    refine lv_iconst (v := 2) hx hb dX10_canLoop_71 (by decide) ?_
    refine lv_icmp_lt (tgt := 88) hx hb dX10_canLoop_72 (by decide) (fun c_72 => ?_) (fun c_72 => ?_)
    · have hv := hv.1 c_72
      refine lv_iconst (v := 0) hx hb dX10_canLoop_88 (by decide) ?_
      rw [← hQ]
      exact k_zret hx hb hr hlocks hS () hP hD (by decide) hv dX10_canLoop_89
    · have hv := hv.2 c_72
      refine lv_iload_n hx hb dX10_canLoop_75 rfl (lv_at hl 1 rfl) ?_
      refine lv_iconst (v := 3) hx hb dX10_canLoop_76 (by decide) ?_
      refine lv_icmp_gt (tgt := 88) hx hb dX10_canLoop_77 (by decide) (fun c_77 => ?_) (fun c_77 => ?_)
      · have hv := hv.1 c_77
        refine lv_iconst (v := 0) hx hb dX10_canLoop_88 (by decide) ?_
        rw [← hQ]
        exact k_zret hx hb hr hlocks hS () hP hD (by decide) hv dX10_canLoop_89
      · have hv := hv.2 c_77
        refine lv_iload_n hx hb dX10_canLoop_80 rfl (lv_at hl 2 rfl) ?_
        refine lv_if_ne (tgt := 88) hx hb dX10_canLoop_81 (by decide) (fun c_81 => ?_) (fun c_81 => ?_)
        · have hv := hv.1 c_81
          refine lv_iconst (v := 0) hx hb dX10_canLoop_88 (by decide) ?_
          rw [← hQ]
          exact k_zret hx hb hr hlocks hS () hP hD (by decide) hv dX10_canLoop_89
        · have hv := hv.2 c_81
          refine lv_iconst (v := 1) hx hb dX10_canLoop_84 (by decide) ?_
          refine lv_goto (tgt := 89) hx hb dX10_canLoop_85 (by decide) ?_
          rw [← hQ]
          exact k_zret hx hb hr hlocks hS () hP hD (by decide) hv dX10_canLoop_89
  have hv := hv.2
  by_cases c_1_4 : x0 = 4
  · refine lv_tableIn (tgt := 90) (off := 89) hx hb dX10_canLoop_1 (by rw [c_1_4] <;> decide) (by rw [c_1_4] <;> decide) (by rw [c_1_4] <;> rfl) (by decide) ?_
    have hv := hv.1 c_1_4
    refine lv_iload_n hx hb dX10_canLoop_90 rfl (lv_at hl 1 rfl) ?_
    refine lv_iconst (v := 2) hx hb dX10_canLoop_91 (by decide) ?_
    refine lv_icmp_lt (tgt := 114) hx hb dX10_canLoop_92 (by decide) (fun c_92 => ?_) (fun c_92 => ?_)
    · have hv := hv.1 c_92
      refine lv_iconst (v := 0) hx hb dX10_canLoop_114 (by decide) ?_
      rw [← hQ]
      exact k_zret hx hb hr hlocks hS () hP hD (by decide) hv dX10_canLoop_115
    · have hv := hv.2 c_92
      refine lv_iload_n hx hb dX10_canLoop_95 rfl (lv_at hl 1 rfl) ?_
      refine lv_bipush (v := 16) hx hb dX10_canLoop_96 (by decide) ?_
      refine lv_icmp_gt (tgt := 114) hx hb dX10_canLoop_98 (by decide) (fun c_98 => ?_) (fun c_98 => ?_)
      · have hv := hv.1 c_98
        refine lv_iconst (v := 0) hx hb dX10_canLoop_114 (by decide) ?_
        rw [← hQ]
        exact k_zret hx hb hr hlocks hS () hP hD (by decide) hv dX10_canLoop_115
      · have hv := hv.2 c_98
        refine lv_iload_n hx hb dX10_canLoop_101 rfl (lv_at hl 2 rfl) ?_
        refine lv_if_eq (tgt := 110) hx hb dX10_canLoop_102 (by decide) (fun c_102 => ?_) (fun c_102 => ?_)
        · have hv := hv.1 c_102
          refine lv_iconst (v := 1) hx hb dX10_canLoop_110 (by decide) ?_
          refine lv_goto (tgt := 115) hx hb dX10_canLoop_111 (by decide) ?_
          rw [← hQ]
          exact k_zret hx hb hr hlocks hS () hP hD (by decide) hv dX10_canLoop_115
        · have hv := hv.2 c_102
          refine lv_iload_n hx hb dX10_canLoop_105 rfl (lv_at hl 2 rfl) ?_
          refine lv_iconst (v := 1) hx hb dX10_canLoop_106 (by decide) ?_
          refine lv_icmp_ne (tgt := 114) hx hb dX10_canLoop_107 (by decide) (fun c_107 => ?_) (fun c_107 => ?_)
          · have hv := hv.1 c_107
            refine lv_iconst (v := 0) hx hb dX10_canLoop_114 (by decide) ?_
            rw [← hQ]
            exact k_zret hx hb hr hlocks hS () hP hD (by decide) hv dX10_canLoop_115
          · have hv := hv.2 c_107
            refine lv_iconst (v := 1) hx hb dX10_canLoop_110 (by decide) ?_
            refine lv_goto (tgt := 115) hx hb dX10_canLoop_111 (by decide) ?_
            rw [← hQ]
            exact k_zret hx hb hr hlocks hS () hP hD (by decide) hv dX10_canLoop_115
  have hv := hv.2
  refine lv_tableOut (tgt := 116) hx hb dX10_canLoop_1 (by have q0 := lv_neT c_1_0 (a := 0) (by decide); have q1 := lv_neT c_1_1 (a := 1) (by decide); have q2 := lv_neT c_1_2 (a := 2) (by decide); have q3 := lv_neT c_1_3 (a := 3) (by decide); have q4 := lv_neT c_1_4 (a := 4) (by decide); omega) (by decide) ?_
  have hv := hv c_1_0 c_1_1 c_1_2 c_1_3 c_1_4
  refine lv_iconst (v := 0) hx hb dX10_canLoop_116 (by decide) ?_
  rw [← hQ]
  exact k_zret hx hb hr hlocks hS () hP hD (by decide) hv dX10_canLoop_117
theorem lk_X10_loop_21 : Cond.fieldLink RX10 21 "CoarseSteps" "loop" "LCoarseSteps$Loop;" ∈ wsX10_loop := by decide +kernel
theorem in_X10_loop_10 : ∀ w ∈ wsX100, w ∈ wsX10_loop := by decide +kernel
theorem in_X10_loop_4 : ∀ w ∈ wsX40, w ∈ wsX10_loop := by decide +kernel
theorem in_X10_loop_5 : ∀ w ∈ wsX50, w ∈ wsX10_loop := by decide +kernel
theorem lk_X10_loop_37 : Cond.fieldLink RX10 37 "CoarseSteps" "inside" "LCoarseSteps$Box;" ∈ wsX10_loop := by decide +kernel
abbrev rm_X10_loop : Room := { frames := 3, cells := 0, slots := 0, locals := 67 }
set_option maxHeartbeats 4000000 in
set_option maxRecDepth 100000 in
theorem m_X10_loop (l : Launch) (D : va_G) (cy : ClassId × ClassId × ClassId) (ad : Nat → Nat) (s3_next : Int32) (s3_kept : Int32) (s4_ticks : Int32) (s4_firstBeganWith : Int64) (s4_secondBefore : Int32) (s4_thirdBefore : Int32) (s4_thirdTwoBefore : Int32) (s5_kind : Int32) (s5_sums : Int32) (s8_sums : Int32) (s8_g : Int32) (s9_parts : Int32) (s9_rule : Int32) (s9_hand : Int32) (a0_least : Nat → Int64) (a0_most : Nat → Int64) (a4_sums : Nat → Int64) (a8_a : Nat → Int32) (a8_b : Nat → Int32) (a8_e : Nat → Int32) (a8_h : Nat → Int32) (a9_isOn : Nat → Int32) (a9_timesOn : Nat → Int32) (x1 : Int32) (x2 : Int32) (x3 : Int32) (sz : Nat) {K : Int32 → Int32 → Int32 → Int32 → Int64 → Int32 → Int32 → Int32 → Int32 → Int32 → Int32 → Int32 → Int32 → Int32 → Int32 → (Nat → Int64) → (Nat → Int64) → (Nat → Int64) → (Nat → Int32) → (Nat → Int32) → (Nat → Int32) → (Nat → Int32) → (Nat → Int32) → (Nat → Int32) → Prop} (hv : v_X10_loop s3_next s3_kept s4_ticks s4_firstBeganWith s4_secondBefore s4_thirdBefore s4_thirdTwoBefore s5_kind s5_sums s8_sums s8_g s9_parts s9_rule s9_hand a0_least a0_most a4_sums a8_a a8_b a8_e a8_h a9_isOn a9_timesOn x1 x2 x3 K) : Met l yX10_loop wsX10_loop rm_X10_loop (va_Pc [.ref (ad 10), .int x1, .int x2, .int x3] (wd D cy [oX0 ad , oX3 ad s3_next s3_kept, oX4 ad s4_ticks s4_firstBeganWith s4_secondBefore s4_thirdBefore s4_thirdTwoBefore, oX5 ad s5_kind s5_sums, oX8 ad s8_sums s8_g, oX9 ad s9_parts s9_rule s9_hand, oX10 ad , aJ cy (ad 20) 4 a0_least, aJ cy (ad 21) 4 a0_most, aJ cy (ad 29) 4 a4_sums, aI cy (ad 35) 16 a8_a, aI cy (ad 36) 4 a8_b, aI cy (ad 37) 4 a8_e, aI cy (ad 38) 4 a8_h, aZ cy (ad 39) 16 a9_isOn, aI cy (ad 40) 16 a9_timesOn] sz)) (va_Qi (fun (r : Int32) (u : Int32 × Int32 × Int32 × Int64 × Int32 × Int32 × Int32 × Int32 × Int32 × Int32 × Int32 × Int32 × Int32 × Int32 × (Nat → Int64) × (Nat → Int64) × (Nat → Int64) × (Nat → Int32) × (Nat → Int32) × (Nat → Int32) × (Nat → Int32) × (Nat → Int32) × (Nat → Int32)) => (r = 0 ∨ r = 1) ∧ K r u.1 u.2.1 u.2.2.1 u.2.2.2.1 u.2.2.2.2.1 u.2.2.2.2.2.1 u.2.2.2.2.2.2.1 u.2.2.2.2.2.2.2.1 u.2.2.2.2.2.2.2.2.1 u.2.2.2.2.2.2.2.2.2.1 u.2.2.2.2.2.2.2.2.2.2.1 u.2.2.2.2.2.2.2.2.2.2.2.1 u.2.2.2.2.2.2.2.2.2.2.2.2.1 u.2.2.2.2.2.2.2.2.2.2.2.2.2.1 u.2.2.2.2.2.2.2.2.2.2.2.2.2.2.1 u.2.2.2.2.2.2.2.2.2.2.2.2.2.2.2.1 u.2.2.2.2.2.2.2.2.2.2.2.2.2.2.2.2.1 u.2.2.2.2.2.2.2.2.2.2.2.2.2.2.2.2.2.1 u.2.2.2.2.2.2.2.2.2.2.2.2.2.2.2.2.2.2.1 u.2.2.2.2.2.2.2.2.2.2.2.2.2.2.2.2.2.2.2.1 u.2.2.2.2.2.2.2.2.2.2.2.2.2.2.2.2.2.2.2.2.1 u.2.2.2.2.2.2.2.2.2.2.2.2.2.2.2.2.2.2.2.2.2.1 u.2.2.2.2.2.2.2.2.2.2.2.2.2.2.2.2.2.2.2.2.2.2) (fun u t => we D ((fun u : Int32 × Int32 × Int32 × Int64 × Int32 × Int32 × Int32 × Int32 × Int32 × Int32 × Int32 × Int32 × Int32 × Int32 × (Nat → Int64) × (Nat → Int64) × (Nat → Int64) × (Nat → Int32) × (Nat → Int32) × (Nat → Int32) × (Nat → Int32) × (Nat → Int32) × (Nat → Int32) => [oX0 ad , oX3 ad u.1 u.2.1, oX4 ad u.2.2.1 u.2.2.2.1 u.2.2.2.2.1 u.2.2.2.2.2.1 u.2.2.2.2.2.2.1, oX5 ad u.2.2.2.2.2.2.2.1 u.2.2.2.2.2.2.2.2.1, oX8 ad u.2.2.2.2.2.2.2.2.2.1 u.2.2.2.2.2.2.2.2.2.2.1, oX9 ad u.2.2.2.2.2.2.2.2.2.2.2.1 u.2.2.2.2.2.2.2.2.2.2.2.2.1 u.2.2.2.2.2.2.2.2.2.2.2.2.2.1, oX10 ad , aJ cy (ad 20) 4 u.2.2.2.2.2.2.2.2.2.2.2.2.2.2.1, aJ cy (ad 21) 4 u.2.2.2.2.2.2.2.2.2.2.2.2.2.2.2.1, aJ cy (ad 29) 4 u.2.2.2.2.2.2.2.2.2.2.2.2.2.2.2.2.1, aI cy (ad 35) 16 u.2.2.2.2.2.2.2.2.2.2.2.2.2.2.2.2.2.1, aI cy (ad 36) 4 u.2.2.2.2.2.2.2.2.2.2.2.2.2.2.2.2.2.2.1, aI cy (ad 37) 4 u.2.2.2.2.2.2.2.2.2.2.2.2.2.2.2.2.2.2.2.1, aI cy (ad 38) 4 u.2.2.2.2.2.2.2.2.2.2.2.2.2.2.2.2.2.2.2.2.1, aZ cy (ad 39) 16 u.2.2.2.2.2.2.2.2.2.2.2.2.2.2.2.2.2.2.2.2.2.1, aI cy (ad 40) 16 u.2.2.2.2.2.2.2.2.2.2.2.2.2.2.2.2.2.2.2.2.2.2]) u) (va_A [oX0 ad , oX3 ad s3_next s3_kept, oX4 ad s4_ticks s4_firstBeganWith s4_secondBefore s4_thirdBefore s4_thirdTwoBefore, oX5 ad s5_kind s5_sums, oX8 ad s8_sums s8_g, oX9 ad s9_parts s9_rule s9_hand, oX10 ad , aJ cy (ad 20) 4 a0_least, aJ cy (ad 21) 4 a0_most, aJ cy (ad 29) 4 a4_sums, aI cy (ad 35) 16 a8_a, aI cy (ad 36) 4 a8_b, aI cy (ad 37) 4 a8_e, aI cy (ad 38) 4 a8_h, aZ cy (ad 39) 16 a9_isOn, aI cy (ad 40) 16 a9_timesOn] sz) t) (va_A [oX0 ad , oX3 ad s3_next s3_kept, oX4 ad s4_ticks s4_firstBeganWith s4_secondBefore s4_thirdBefore s4_thirdTwoBefore, oX5 ad s5_kind s5_sums, oX8 ad s8_sums s8_g, oX9 ad s9_parts s9_rule s9_hand, oX10 ad , aJ cy (ad 20) 4 a0_least, aJ cy (ad 21) 4 a0_most, aJ cy (ad 29) 4 a4_sums, aI cy (ad 35) 16 a8_a, aI cy (ad 36) 4 a8_b, aI cy (ad 37) 4 a8_e, aI cy (ad 38) 4 a8_h, aZ cy (ad 39) 16 a9_isOn, aI cy (ad 40) 16 a9_timesOn] sz)) 0 0 (va_A [oX0 ad , oX3 ad s3_next s3_kept, oX4 ad s4_ticks s4_firstBeganWith s4_secondBefore s4_thirdBefore s4_thirdTwoBefore, oX5 ad s5_kind s5_sums, oX8 ad s8_sums s8_g, oX9 ad s9_parts s9_rule s9_hand, oX10 ad , aJ cy (ad 20) 4 a0_least, aJ cy (ad 21) 4 a0_most, aJ cy (ad 29) 4 a4_sums, aI cy (ad 35) 16 a8_a, aI cy (ad 36) 4 a8_b, aI cy (ad 37) 4 a8_e, aI cy (ad 38) 4 a8_h, aZ cy (ad 39) 16 a9_isOn, aI cy (ad 40) 16 a9_timesOn] sz) := by
  refine k_ofW (cc := cX10_loop) (maxL := 5) (ret := (some .boolean)) (fun A => va_Qi (fun (r : Int32) (u : Int32 × Int32 × Int32 × Int64 × Int32 × Int32 × Int32 × Int32 × Int32 × Int32 × Int32 × Int32 × Int32 × Int32 × (Nat → Int64) × (Nat → Int64) × (Nat → Int64) × (Nat → Int32) × (Nat → Int32) × (Nat → Int32) × (Nat → Int32) × (Nat → Int32) × (Nat → Int32)) => (r = 0 ∨ r = 1) ∧ K r u.1 u.2.1 u.2.2.1 u.2.2.2.1 u.2.2.2.2.1 u.2.2.2.2.2.1 u.2.2.2.2.2.2.1 u.2.2.2.2.2.2.2.1 u.2.2.2.2.2.2.2.2.1 u.2.2.2.2.2.2.2.2.2.1 u.2.2.2.2.2.2.2.2.2.2.1 u.2.2.2.2.2.2.2.2.2.2.2.1 u.2.2.2.2.2.2.2.2.2.2.2.2.1 u.2.2.2.2.2.2.2.2.2.2.2.2.2.1 u.2.2.2.2.2.2.2.2.2.2.2.2.2.2.1 u.2.2.2.2.2.2.2.2.2.2.2.2.2.2.2.1 u.2.2.2.2.2.2.2.2.2.2.2.2.2.2.2.2.1 u.2.2.2.2.2.2.2.2.2.2.2.2.2.2.2.2.2.1 u.2.2.2.2.2.2.2.2.2.2.2.2.2.2.2.2.2.2.1 u.2.2.2.2.2.2.2.2.2.2.2.2.2.2.2.2.2.2.2.1 u.2.2.2.2.2.2.2.2.2.2.2.2.2.2.2.2.2.2.2.2.1 u.2.2.2.2.2.2.2.2.2.2.2.2.2.2.2.2.2.2.2.2.2.1 u.2.2.2.2.2.2.2.2.2.2.2.2.2.2.2.2.2.2.2.2.2.2) (fun u t => we D ((fun u : Int32 × Int32 × Int32 × Int64 × Int32 × Int32 × Int32 × Int32 × Int32 × Int32 × Int32 × Int32 × Int32 × Int32 × (Nat → Int64) × (Nat → Int64) × (Nat → Int64) × (Nat → Int32) × (Nat → Int32) × (Nat → Int32) × (Nat → Int32) × (Nat → Int32) × (Nat → Int32) => [oX0 ad , oX3 ad u.1 u.2.1, oX4 ad u.2.2.1 u.2.2.2.1 u.2.2.2.2.1 u.2.2.2.2.2.1 u.2.2.2.2.2.2.1, oX5 ad u.2.2.2.2.2.2.2.1 u.2.2.2.2.2.2.2.2.1, oX8 ad u.2.2.2.2.2.2.2.2.2.1 u.2.2.2.2.2.2.2.2.2.2.1, oX9 ad u.2.2.2.2.2.2.2.2.2.2.2.1 u.2.2.2.2.2.2.2.2.2.2.2.2.1 u.2.2.2.2.2.2.2.2.2.2.2.2.2.1, oX10 ad , aJ cy (ad 20) 4 u.2.2.2.2.2.2.2.2.2.2.2.2.2.2.1, aJ cy (ad 21) 4 u.2.2.2.2.2.2.2.2.2.2.2.2.2.2.2.1, aJ cy (ad 29) 4 u.2.2.2.2.2.2.2.2.2.2.2.2.2.2.2.2.1, aI cy (ad 35) 16 u.2.2.2.2.2.2.2.2.2.2.2.2.2.2.2.2.2.1, aI cy (ad 36) 4 u.2.2.2.2.2.2.2.2.2.2.2.2.2.2.2.2.2.2.1, aI cy (ad 37) 4 u.2.2.2.2.2.2.2.2.2.2.2.2.2.2.2.2.2.2.2.1, aI cy (ad 38) 4 u.2.2.2.2.2.2.2.2.2.2.2.2.2.2.2.2.2.2.2.2.1, aZ cy (ad 39) 16 u.2.2.2.2.2.2.2.2.2.2.2.2.2.2.2.2.2.2.2.2.2.1, aI cy (ad 40) 16 u.2.2.2.2.2.2.2.2.2.2.2.2.2.2.2.2.2.2.2.2.2.2]) u) A t) A) (by decide) rfl (Nat.le_of_ble_eq_true rfl) ?_
  intro p e s m below meth c A ls H locs hx hb hml hr hts hown hlocks hname hK hN hA hP hD hS hl
  have hl : lv_has ls 5 [(0, .ref (ad 10)), (1, .int x1), (2, .int x2), (3, .int x3)] := hl
  generalize hQ : MQ below _ _ s _ _ A = Q
  unfold v_X10_loop at hv
  refine lv_iload_n hx hb dX10_loop_0 rfl (lv_at hl 1 rfl) ?_
  refine lv_iload_n hx hb dX10_loop_1 rfl (lv_at hl 2 rfl) ?_
  refine lv_iload_n hx hb dX10_loop_2 rfl (lv_at hl 3 rfl) ?_
  have hPc := hP.sub (ws' := []) [] rfl
  have hDc := hD.sub (ws' := []) [] (by decide) rfl
  refine k_cali (wc := []) (wr := [oX0 ad , oX3 ad s3_next s3_kept, oX4 ad s4_ticks s4_firstBeganWith s4_secondBefore s4_thirdBefore s4_thirdTwoBefore, oX5 ad s5_kind s5_sums, oX8 ad s8_sums s8_g, oX9 ad s9_parts s9_rule s9_hand, oX10 ad , aJ cy (ad 20) 4 a0_least, aJ cy (ad 21) 4 a0_most, aJ cy (ad 29) 4 a4_sums, aI cy (ad 35) 16 a8_a, aI cy (ad 36) 4 a8_b, aI cy (ad 37) 4 a8_e, aI cy (ad 38) 4 a8_h, aZ cy (ad 39) 16 a9_isOn, aI cy (ad 40) 16 a9_timesOn]) (va_runS (As := [.int x1, .int x2, .int x3]) (rest := []) ⟨hx, hb, hml, hown, hts⟩ (m_X10_canLoop l D cy ad x1 x2 x3 H.size hv) (va_cwS 3 hts gX10_loop_X10_canLoop rfl rfl rfl (by decide +kernel) ⟨Nat.le_of_ble_eq_true rfl, Nat.le_of_ble_eq_true rfl⟩) ⟨wd_blind, wd_ok hPc hK hDc hN⟩ rfl rfl hl.1 rfl (lv_room (Nat.le_of_ble_eq_true rfl)) dX10_loop_3 ⟨Nat.le_of_ble_eq_true rfl, Nat.le_of_ble_eq_true rfl⟩) hP hD hS hA [] [0, 1, 2, 3, 4, 5, 6, 7, 8, 9, 10, 11, 12, 13, 14, 15] rfl rfl (by decide) (by decide) (fun r1 u H locs hv hP hD hS => ?_)
  obtain ⟨hz_r1, hv⟩ := hv
  have hP : va_P D vwCl [oX0 ad , oX3 ad s3_next s3_kept, oX4 ad s4_ticks s4_firstBeganWith s4_secondBefore s4_thirdBefore s4_thirdTwoBefore, oX5 ad s5_kind s5_sums, oX8 ad s8_sums s8_g, oX9 ad s9_parts s9_rule s9_hand, oX10 ad , aJ cy (ad 20) 4 a0_least, aJ cy (ad 21) 4 a0_most, aJ cy (ad 29) 4 a4_sums, aI cy (ad 35) 16 a8_a, aI cy (ad 36) 4 a8_b, aI cy (ad 37) 4 a8_e, aI cy (ad 38) 4 a8_h, aZ cy (ad 39) 16 a9_isOn, aI cy (ad 40) 16 a9_timesOn] H := hP.sub [0, 1, 2, 3, 4, 5, 6, 7, 8, 9, 10, 11, 12, 13, 14, 15] rfl
  have hD : va_D A [oX0 ad , oX3 ad s3_next s3_kept, oX4 ad s4_ticks s4_firstBeganWith s4_secondBefore s4_thirdBefore s4_thirdTwoBefore, oX5 ad s5_kind s5_sums, oX8 ad s8_sums s8_g, oX9 ad s9_parts s9_rule s9_hand, oX10 ad , aJ cy (ad 20) 4 a0_least, aJ cy (ad 21) 4 a0_most, aJ cy (ad 29) 4 a4_sums, aI cy (ad 35) 16 a8_a, aI cy (ad 36) 4 a8_b, aI cy (ad 37) 4 a8_e, aI cy (ad 38) 4 a8_h, aZ cy (ad 39) 16 a9_isOn, aI cy (ad 40) 16 a9_timesOn] := hD.sub [0, 1, 2, 3, 4, 5, 6, 7, 8, 9, 10, 11, 12, 13, 14, 15] (by decide) rfl
  refine lv_if_ne (tgt := 11) hx hb dX10_loop_6 (by decide) (fun c_6 => ?_) (fun c_6 => ?_)
  · have hv := hv.1 c_6
    refine lv_aload_n hx hb dX10_loop_11 rfl (lv_at hl 0 rfl) ?_
    refine va_get (D := D) (ci := 10) (v := .ref (ad 4)) (C := RX10) (T := TX10) (N := 6) hx hb hts in_X10_loop_10 hown hK hP 6 rfl rfl 1 (by decide) (hts _ lk_X10_loop_21) (fun _ h9 => h9) rfl dX10_loop_12 ?_
    refine va_getN (D := D) (ci := 4) (v := .ref (ad 5)) (C := RX4) (T := TX4) (N := 9) hx hb hts in_X10_loop_4 hown hK hP 2 rfl rfl 0 (by decide) (nz_use hN nzf_X10_74) (fun _ h9 => h9) rfl dX10_loop_15 ?_
    refine va_getN (D := D) (ci := 5) (v := .int s5_sums) (C := RX5) (T := TX5) (N := 6) hx hb hts in_X10_loop_5 hown hK hP 3 rfl rfl 5 (by decide) (nz_use hN nzf_X10_78) (fun _ h9 => h9) rfl dX10_loop_18 ?_
    refine lv_istore (lv' := [(4, .int s5_sums), (0, .ref (ad 10)), (1, .int x1), (2, .int x2), (3, .int x3)]) hx hb dX10_loop_21 hl (by decide) rfl (fun ls hl => ?_)
    refine lv_aload_n hx hb dX10_loop_23 rfl (lv_at hl 1 rfl) ?_
    refine va_get (D := D) (ci := 10) (v := .ref (ad 4)) (C := RX10) (T := TX10) (N := 6) hx hb hts in_X10_loop_10 hown hK hP 6 rfl rfl 1 (by decide) (hts _ lk_X10_loop_21) (fun _ h9 => h9) rfl dX10_loop_24 ?_
    refine lv_iload_n hx hb dX10_loop_27 rfl (lv_at hl 2 rfl) ?_
    refine lv_iload_n hx hb dX10_loop_28 rfl (lv_at hl 3 rfl) ?_
    refine lv_iload_n hx hb dX10_loop_29 rfl (lv_at hl 4 rfl) ?_
    have hPc := hP.sub (ws' := [oX3 ad s3_next s3_kept, oX4 ad s4_ticks s4_firstBeganWith s4_secondBefore s4_thirdBefore s4_thirdTwoBefore, oX5 ad s5_kind s5_sums, oX8 ad s8_sums s8_g, oX9 ad s9_parts s9_rule s9_hand, aJ cy (ad 29) 4 a4_sums, aI cy (ad 35) 16 a8_a, aI cy (ad 36) 4 a8_b, aI cy (ad 37) 4 a8_e, aI cy (ad 38) 4 a8_h, aZ cy (ad 39) 16 a9_isOn, aI cy (ad 40) 16 a9_timesOn]) [1, 2, 3, 4, 5, 9, 10, 11, 12, 13, 14, 15] rfl
    have hDc := hD.sub (ws' := [oX3 ad s3_next s3_kept, oX4 ad s4_ticks s4_firstBeganWith s4_secondBefore s4_thirdBefore s4_thirdTwoBefore, oX5 ad s5_kind s5_sums, oX8 ad s8_sums s8_g, oX9 ad s9_parts s9_rule s9_hand, aJ cy (ad 29) 4 a4_sums, aI cy (ad 35) 16 a8_a, aI cy (ad 36) 4 a8_b, aI cy (ad 37) 4 a8_e, aI cy (ad 38) 4 a8_h, aZ cy (ad 39) 16 a9_isOn, aI cy (ad 40) 16 a9_timesOn]) [1, 2, 3, 4, 5, 9, 10, 11, 12, 13, 14, 15] (by decide) rfl
    refine k_calv (wc := [oX3 ad s3_next s3_kept, oX4 ad s4_ticks s4_firstBeganWith s4_secondBefore s4_thirdBefore s4_thirdTwoBefore, oX5 ad s5_kind s5_sums, oX8 ad s8_sums s8_g, oX9 ad s9_parts s9_rule s9_hand, aJ cy (ad 29) 4 a4_sums, aI cy (ad 35) 16 a8_a, aI cy (ad 36) 4 a8_b, aI cy (ad 37) 4 a8_e, aI cy (ad 38) 4 a8_h, aZ cy (ad 39) 16 a9_isOn, aI cy (ad 40) 16 a9_timesOn]) (wr := [oX0 ad , oX10 ad , aJ cy (ad 20) 4 a0_least, aJ cy (ad 21) 4 a0_most]) (va_runV (As := [.int x1, .int x2, .int x3]) (rest := []) ⟨hx, hb, hml, hown, hts⟩ (m_X4_begin l D cy ad s3_next s3_kept s4_ticks s4_firstBeganWith s4_secondBefore s4_thirdBefore s4_thirdTwoBefore s5_kind s5_sums s8_sums s8_g s9_parts s9_rule s9_hand a4_sums a8_a a8_b a8_e a8_h a9_isOn a9_timesOn x1 x2 x3 H.size hv) (cwV 3 hts gX10_loop_X4_begin rfl rfl rfl (by decide +kernel) ⟨Nat.le_of_ble_eq_true rfl, Nat.le_of_ble_eq_true rfl⟩) ⟨wd_blind, va_recv hK hPc (ci := 4) (q0 := 1) rfl rfl, wd_ok hPc hK hDc hN⟩ rfl rfl hl.1 rfl (lv_room (Nat.le_of_ble_eq_true rfl)) dX10_loop_30 ⟨Nat.le_of_ble_eq_true rfl, Nat.le_of_ble_eq_true rfl⟩) hP hD hS hA [1, 2, 3, 4, 5, 9, 10, 11, 12, 13, 14, 15] [0, 6, 7, 8] rfl rfl (by decide) (by decide) (fun u H locs hv hP hD hS => ?_)
    obtain ⟨s3_next_2, s3_kept_3, s4_ticks_4, s4_firstBeganWith_5, s4_secondBefore_6, s4_thirdBefore_7, s4_thirdTwoBefore_8, s5_kind_9, s5_sums_10, s8_sums_11, s8_g_12, s9_parts_13, s9_rule_14, s9_hand_15, a4_sums_16, a8_a_17, a8_b_18, a8_e_19, a8_h_20, a9_isOn_21, a9_timesOn_22⟩ := u
    have hP : va_P D vwCl [oX0 ad , oX3 ad s3_next_2 s3_kept_3, oX4 ad s4_ticks_4 s4_firstBeganWith_5 s4_secondBefore_6 s4_thirdBefore_7 s4_thirdTwoBefore_8, oX5 ad s5_kind_9 s5_sums_10, oX8 ad s8_sums_11 s8_g_12, oX9 ad s9_parts_13 s9_rule_14 s9_hand_15, oX10 ad , aJ cy (ad 20) 4 a0_least, aJ cy (ad 21) 4 a0_most, aJ cy (ad 29) 4 a4_sums_16, aI cy (ad 35) 16 a8_a_17, aI cy (ad 36) 4 a8_b_18, aI cy (ad 37) 4 a8_e_19, aI cy (ad 38) 4 a8_h_20, aZ cy (ad 39) 16 a9_isOn_21, aI cy (ad 40) 16 a9_timesOn_22] H := hP.sub [0, 4, 5, 6, 7, 8, 1, 2, 3, 9, 10, 11, 12, 13, 14, 15] rfl
    have hD : va_D A [oX0 ad , oX3 ad s3_next_2 s3_kept_3, oX4 ad s4_ticks_4 s4_firstBeganWith_5 s4_secondBefore_6 s4_thirdBefore_7 s4_thirdTwoBefore_8, oX5 ad s5_kind_9 s5_sums_10, oX8 ad s8_sums_11 s8_g_12, oX9 ad s9_parts_13 s9_rule_14 s9_hand_15, oX10 ad , aJ cy (ad 20) 4 a0_least, aJ cy (ad 21) 4 a0_most, aJ cy (ad 29) 4 a4_sums_16, aI cy (ad 35) 16 a8_a_17, aI cy (ad 36) 4 a8_b_18, aI cy (ad 37) 4 a8_e_19, aI cy (ad 38) 4 a8_h_20, aZ cy (ad 39) 16 a9_isOn_21, aI cy (ad 40) 16 a9_timesOn_22] := hD.sub [0, 4, 5, 6, 7, 8, 1, 2, 3, 9, 10, 11, 12, 13, 14, 15] (by decide) rfl
    refine lv_aload_n hx hb dX10_loop_33 rfl (lv_at hl 1 rfl) ?_
    refine va_get (D := D) (ci := 10) (v := .ref (ad 4)) (C := RX10) (T := TX10) (N := 6) hx hb hts in_X10_loop_10 hown hK hP 6 rfl rfl 1 (by decide) (hts _ lk_X10_loop_21) (fun _ h9 => h9) rfl dX10_loop_34 ?_
    refine va_getN (D := D) (ci := 4) (v := .ref (ad 5)) (C := RX4) (T := TX4) (N := 9) hx hb hts in_X10_loop_4 hown hK hP 2 rfl rfl 0 (by decide) (nz_use hN nzf_X10_74) (fun _ h9 => h9) rfl dX10_loop_37 ?_
    refine va_getN (D := D) (ci := 5) (v := .int s5_sums_10) (C := RX5) (T := TX5) (N := 6) hx hb hts in_X10_loop_5 hown hK hP 3 rfl rfl 5 (by decide) (nz_use hN nzf_X10_78) (fun _ h9 => h9) rfl dX10_loop_40 ?_
    refine lv_iload hx hb dX10_loop_43 (lv_at hl 0 rfl) ?_
    refine lv_icmp_eq (tgt := 55) hx hb dX10_loop_45 (by decide) (fun c_45 => ?_) (fun c_45 => ?_)
    · have hv := hv.1 c_45
      refine lv_iconst (v := 1) hx hb dX10_loop_55 (by decide) ?_
      rw [← hQ]
      exact k_zret hx hb hr hlocks hS (s3_next_2, s3_kept_3, s4_ticks_4, s4_firstBeganWith_5, s4_secondBefore_6, s4_thirdBefore_7, s4_thirdTwoBefore_8, s5_kind_9, s5_sums_10, s8_sums_11, s8_g_12, s9_parts_13, s9_rule_14, s9_hand_15, a0_least, a0_most, a4_sums_16, a8_a_17, a8_b_18, a8_e_19, a8_h_20, a9_isOn_21, a9_timesOn_22) hP hD (by decide) hv dX10_loop_56
    · have hv := hv.2 c_45
      refine lv_aload_n hx hb dX10_loop_48 rfl (lv_at hl 1 rfl) ?_
      refine va_get (D := D) (ci := 10) (v := .ref (ad 0)) (C := RX10) (T := TX10) (N := 6) hx hb hts in_X10_loop_10 hown hK hP 6 rfl rfl 3 (by decide) (hts _ lk_X10_loop_37) (fun _ h9 => h9) rfl dX10_loop_49 ?_
      have hPc := hP.sub (ws' := [oX0 ad , aJ cy (ad 20) 4 a0_least, aJ cy (ad 21) 4 a0_most]) [0, 7, 8] rfl
      have hDc := hD.sub (ws' := [oX0 ad , aJ cy (ad 20) 4 a0_least, aJ cy (ad 21) 4 a0_most]) [0, 7, 8] (by decide) rfl
      refine k_calv (wc := [oX0 ad , aJ cy (ad 20) 4 a0_least, aJ cy (ad 21) 4 a0_most]) (wr := [oX3 ad s3_next_2 s3_kept_3, oX4 ad s4_ticks_4 s4_firstBeganWith_5 s4_secondBefore_6 s4_thirdBefore_7 s4_thirdTwoBefore_8, oX5 ad s5_kind_9 s5_sums_10, oX8 ad s8_sums_11 s8_g_12, oX9 ad s9_parts_13 s9_rule_14 s9_hand_15, oX10 ad , aJ cy (ad 29) 4 a4_sums_16, aI cy (ad 35) 16 a8_a_17, aI cy (ad 36) 4 a8_b_18, aI cy (ad 37) 4 a8_e_19, aI cy (ad 38) 4 a8_h_20, aZ cy (ad 39) 16 a9_isOn_21, aI cy (ad 40) 16 a9_timesOn_22]) (va_runV (As := []) (rest := []) ⟨hx, hb, hml, hown, hts⟩ (m_X0_empty l D cy ad a0_least a0_most H.size hv) (cwV 0 hts gX10_loop_X0_empty rfl rfl rfl (by decide +kernel) ⟨Nat.le_of_ble_eq_true rfl, Nat.le_of_ble_eq_true rfl⟩) ⟨wd_blind, va_recv hK hPc (ci := 0) (q0 := 0) rfl rfl, wd_ok hPc hK hDc hN⟩ rfl rfl hl.1 rfl (lv_room (Nat.le_of_ble_eq_true rfl)) dX10_loop_52 ⟨Nat.le_of_ble_eq_true rfl, Nat.le_of_ble_eq_true rfl⟩) hP hD hS hA [0, 7, 8] [1, 2, 3, 4, 5, 6, 9, 10, 11, 12, 13, 14, 15] rfl rfl (by decide) (by decide) (fun u H locs hv hP hD hS => ?_)
      obtain ⟨a0_least_23, a0_most_24⟩ := u
      have hP : va_P D vwCl [oX0 ad , oX3 ad s3_next_2 s3_kept_3, oX4 ad s4_ticks_4 s4_firstBeganWith_5 s4_secondBefore_6 s4_thirdBefore_7 s4_thirdTwoBefore_8, oX5 ad s5_kind_9 s5_sums_10, oX8 ad s8_sums_11 s8_g_12, oX9 ad s9_parts_13 s9_rule_14 s9_hand_15, oX10 ad , aJ cy (ad 20) 4 a0_least_23, aJ cy (ad 21) 4 a0_most_24, aJ cy (ad 29) 4 a4_sums_16, aI cy (ad 35) 16 a8_a_17, aI cy (ad 36) 4 a8_b_18, aI cy (ad 37) 4 a8_e_19, aI cy (ad 38) 4 a8_h_20, aZ cy (ad 39) 16 a9_isOn_21, aI cy (ad 40) 16 a9_timesOn_22] H := hP.sub [13, 0, 1, 2, 3, 4, 5, 14, 15, 6, 7, 8, 9, 10, 11, 12] rfl
      have hD : va_D A [oX0 ad , oX3 ad s3_next_2 s3_kept_3, oX4 ad s4_ticks_4 s4_firstBeganWith_5 s4_secondBefore_6 s4_thirdBefore_7 s4_thirdTwoBefore_8, oX5 ad s5_kind_9 s5_sums_10, oX8 ad s8_sums_11 s8_g_12, oX9 ad s9_parts_13 s9_rule_14 s9_hand_15, oX10 ad , aJ cy (ad 20) 4 a0_least_23, aJ cy (ad 21) 4 a0_most_24, aJ cy (ad 29) 4 a4_sums_16, aI cy (ad 35) 16 a8_a_17, aI cy (ad 36) 4 a8_b_18, aI cy (ad 37) 4 a8_e_19, aI cy (ad 38) 4 a8_h_20, aZ cy (ad 39) 16 a9_isOn_21, aI cy (ad 40) 16 a9_timesOn_22] := hD.sub [13, 0, 1, 2, 3, 4, 5, 14, 15, 6, 7, 8, 9, 10, 11, 12] (by decide) rfl
      refine lv_iconst (v := 1) hx hb dX10_loop_55 (by decide) ?_
      rw [← hQ]
      exact k_zret hx hb hr hlocks hS (s3_next_2, s3_kept_3, s4_ticks_4, s4_firstBeganWith_5, s4_secondBefore_6, s4_thirdBefore_7, s4_thirdTwoBefore_8, s5_kind_9, s5_sums_10, s8_sums_11, s8_g_12, s9_parts_13, s9_rule_14, s9_hand_15, a0_least_23, a0_most_24, a4_sums_16, a8_a_17, a8_b_18, a8_e_19, a8_h_20, a9_isOn_21, a9_timesOn_22) hP hD (by decide) hv dX10_loop_56
  · have hv := hv.2 c_6
    refine lv_iconst (v := 0) hx hb dX10_loop_9 (by decide) ?_
    rw [← hQ]
    exact k_zret hx hb hr hlocks hS (s3_next, s3_kept, s4_ticks, s4_firstBeganWith, s4_secondBefore, s4_thirdBefore, s4_thirdTwoBefore, s5_kind, s5_sums, s8_sums, s8_g, s9_parts, s9_rule, s9_hand, a0_least, a0_most, a4_sums, a8_a, a8_b, a8_e, a8_h, a9_isOn, a9_timesOn) hP hD (by decide) hv dX10_loop_10
theorem lk_X10_table_21 : Cond.fieldLink RX10 21 "CoarseSteps" "loop" "LCoarseSteps$Loop;" ∈ wsX10_table := by decide +kernel
theorem in_X10_table_10 : ∀ w ∈ wsX100, w ∈ wsX10_table := by decide +kernel
theorem in_X10_table_4 : ∀ w ∈ wsX40, w ∈ wsX10_table := by decide +kernel
theorem in_X10_table_5 : ∀ w ∈ wsX50, w ∈ wsX10_table := by decide +kernel
abbrev rm_X10_table : Room := { frames := 2, cells := 0, slots := 0, locals := 42 }
set_option maxHeartbeats 4000000 in
set_option maxRecDepth 100000 in
theorem m_X10_table (l : Launch) (D : va_G) (cy : ClassId × ClassId × ClassId) (ad : Nat → Nat) (s3_next : Int32) (s3_kept : Int32) (s4_ticks : Int32) (s4_firstBeganWith : Int64) (s4_secondBefore : Int32) (s4_thirdBefore : Int32) (s4_thirdTwoBefore : Int32) (s5_kind : Int32) (s5_sums : Int32) (s8_sums : Int32) (s8_g : Int32) (s9_parts : Int32) (s9_rule : Int32) (s9_hand : Int32) (a4_sums : Nat → Int64) (a8_a : Nat → Int32) (a8_b : Nat → Int32) (a8_e : Nat → Int32) (a8_h : Nat → Int32) (a9_isOn : Nat → Int32) (a9_timesOn : Nat → Int32) (x1 : Int32) (x2 : Int32) (x3 : Int32) (sz : Nat) {K : Int32 → Int32 → Int32 → Int32 → Int64 → Int32 → Int32 → Int32 → Int32 → Int32 → (Nat → Int64) → (Nat → Int32) → (Nat → Int32) → (Nat → Int32) → (Nat → Int32) → (Nat → Int32) → (Nat → Int32) → Prop} (hv : v_X10_table s3_next s3_kept s4_ticks s4_firstBeganWith s4_secondBefore s4_thirdBefore s4_thirdTwoBefore s5_kind s8_sums s8_g s9_hand a4_sums a8_a a8_b a8_e a8_h a9_isOn a9_timesOn x1 x2 x3 K) : Met l yX10_table wsX10_table rm_X10_table (va_Pc [.ref (ad 10), .int x1, .int x2, .int x3] (wd D cy [oX3 ad s3_next s3_kept, oX4 ad s4_ticks s4_firstBeganWith s4_secondBefore s4_thirdBefore s4_thirdTwoBefore, oX5 ad s5_kind s5_sums, oX8 ad s8_sums s8_g, oX9 ad s9_parts s9_rule s9_hand, oX10 ad , aJ cy (ad 29) 4 a4_sums, aI cy (ad 35) 16 a8_a, aI cy (ad 36) 4 a8_b, aI cy (ad 37) 4 a8_e, aI cy (ad 38) 4 a8_h, aZ cy (ad 39) 16 a9_isOn, aI cy (ad 40) 16 a9_timesOn] sz)) (va_Qi (fun (r : Int32) (u : Int32 × Int32 × Int32 × Int64 × Int32 × Int32 × Int32 × Int32 × Int32 × (Nat → Int64) × (Nat → Int32) × (Nat → Int32) × (Nat → Int32) × (Nat → Int32) × (Nat → Int32) × (Nat → Int32)) => (r = 0 ∨ r = 1) ∧ K r u.1 u.2.1 u.2.2.1 u.2.2.2.1 u.2.2.2.2.1 u.2.2.2.2.2.1 u.2.2.2.2.2.2.1 u.2.2.2.2.2.2.2.1 u.2.2.2.2.2.2.2.2.1 u.2.2.2.2.2.2.2.2.2.1 u.2.2.2.2.2.2.2.2.2.2.1 u.2.2.2.2.2.2.2.2.2.2.2.1 u.2.2.2.2.2.2.2.2.2.2.2.2.1 u.2.2.2.2.2.2.2.2.2.2.2.2.2.1 u.2.2.2.2.2.2.2.2.2.2.2.2.2.2.1 u.2.2.2.2.2.2.2.2.2.2.2.2.2.2.2) (fun u t => we D ((fun u : Int32 × Int32 × Int32 × Int64 × Int32 × Int32 × Int32 × Int32 × Int32 × (Nat → Int64) × (Nat → Int32) × (Nat → Int32) × (Nat → Int32) × (Nat → Int32) × (Nat → Int32) × (Nat → Int32) => [oX3 ad u.1 u.2.1, oX4 ad u.2.2.1 u.2.2.2.1 u.2.2.2.2.1 u.2.2.2.2.2.1 u.2.2.2.2.2.2.1, oX5 ad s5_kind s5_sums, oX8 ad s8_sums u.2.2.2.2.2.2.2.1, oX9 ad s9_parts s9_rule u.2.2.2.2.2.2.2.2.1, oX10 ad , aJ cy (ad 29) 4 u.2.2.2.2.2.2.2.2.2.1, aI cy (ad 35) 16 u.2.2.2.2.2.2.2.2.2.2.1, aI cy (ad 36) 4 u.2.2.2.2.2.2.2.2.2.2.2.1, aI cy (ad 37) 4 u.2.2.2.2.2.2.2.2.2.2.2.2.1, aI cy (ad 38) 4 u.2.2.2.2.2.2.2.2.2.2.2.2.2.1, aZ cy (ad 39) 16 u.2.2.2.2.2.2.2.2.2.2.2.2.2.2.1, aI cy (ad 40) 16 u.2.2.2.2.2.2.2.2.2.2.2.2.2.2.2]) u) (va_A [oX3 ad s3_next s3_kept, oX4 ad s4_ticks s4_firstBeganWith s4_secondBefore s4_thirdBefore s4_thirdTwoBefore, oX5 ad s5_kind s5_sums, oX8 ad s8_sums s8_g, oX9 ad s9_parts s9_rule s9_hand, oX10 ad , aJ cy (ad 29) 4 a4_sums, aI cy (ad 35) 16 a8_a, aI cy (ad 36) 4 a8_b, aI cy (ad 37) 4 a8_e, aI cy (ad 38) 4 a8_h, aZ cy (ad 39) 16 a9_isOn, aI cy (ad 40) 16 a9_timesOn] sz) t) (va_A [oX3 ad s3_next s3_kept, oX4 ad s4_ticks s4_firstBeganWith s4_secondBefore s4_thirdBefore s4_thirdTwoBefore, oX5 ad s5_kind s5_sums, oX8 ad s8_sums s8_g, oX9 ad s9_parts s9_rule s9_hand, oX10 ad , aJ cy (ad 29) 4 a4_sums, aI cy (ad 35) 16 a8_a, aI cy (ad 36) 4 a8_b, aI cy (ad 37) 4 a8_e, aI cy (ad 38) 4 a8_h, aZ cy (ad 39) 16 a9_isOn, aI cy (ad 40) 16 a9_timesOn] sz)) 0 0 (va_A [oX3 ad s3_next s3_kept, oX4 ad s4_ticks s4_firstBeganWith s4_secondBefore s4_thirdBefore s4_thirdTwoBefore, oX5 ad s5_kind s5_sums, oX8 ad s8_sums s8_g, oX9 ad s9_parts s9_rule s9_hand, oX10 ad , aJ cy (ad 29) 4 a4_sums, aI cy (ad 35) 16 a8_a, aI cy (ad 36) 4 a8_b, aI cy (ad 37) 4 a8_e, aI cy (ad 38) 4 a8_h, aZ cy (ad 39) 16 a9_isOn, aI cy (ad 40) 16 a9_timesOn] sz) := by
  refine k_ofW (cc := cX10_table) (maxL := 4) (ret := (some .boolean)) (fun A => va_Qi (fun (r : Int32) (u : Int32 × Int32 × Int32 × Int64 × Int32 × Int32 × Int32 × Int32 × Int32 × (Nat → Int64) × (Nat → Int32) × (Nat → Int32) × (Nat → Int32) × (Nat → Int32) × (Nat → Int32) × (Nat → Int32)) => (r = 0 ∨ r = 1) ∧ K r u.1 u.2.1 u.2.2.1 u.2.2.2.1 u.2.2.2.2.1 u.2.2.2.2.2.1 u.2.2.2.2.2.2.1 u.2.2.2.2.2.2.2.1 u.2.2.2.2.2.2.2.2.1 u.2.2.2.2.2.2.2.2.2.1 u.2.2.2.2.2.2.2.2.2.2.1 u.2.2.2.2.2.2.2.2.2.2.2.1 u.2.2.2.2.2.2.2.2.2.2.2.2.1 u.2.2.2.2.2.2.2.2.2.2.2.2.2.1 u.2.2.2.2.2.2.2.2.2.2.2.2.2.2.1 u.2.2.2.2.2.2.2.2.2.2.2.2.2.2.2) (fun u t => we D ((fun u : Int32 × Int32 × Int32 × Int64 × Int32 × Int32 × Int32 × Int32 × Int32 × (Nat → Int64) × (Nat → Int32) × (Nat → Int32) × (Nat → Int32) × (Nat → Int32) × (Nat → Int32) × (Nat → Int32) => [oX3 ad u.1 u.2.1, oX4 ad u.2.2.1 u.2.2.2.1 u.2.2.2.2.1 u.2.2.2.2.2.1 u.2.2.2.2.2.2.1, oX5 ad s5_kind s5_sums, oX8 ad s8_sums u.2.2.2.2.2.2.2.1, oX9 ad s9_parts s9_rule u.2.2.2.2.2.2.2.2.1, oX10 ad , aJ cy (ad 29) 4 u.2.2.2.2.2.2.2.2.2.1, aI cy (ad 35) 16 u.2.2.2.2.2.2.2.2.2.2.1, aI cy (ad 36) 4 u.2.2.2.2.2.2.2.2.2.2.2.1, aI cy (ad 37) 4 u.2.2.2.2.2.2.2.2.2.2.2.2.1, aI cy (ad 38) 4 u.2.2.2.2.2.2.2.2.2.2.2.2.2.1, aZ cy (ad 39) 16 u.2.2.2.2.2.2.2.2.2.2.2.2.2.2.1, aI cy (ad 40) 16 u.2.2.2.2.2.2.2.2.2.2.2.2.2.2.2]) u) A t) A) (by decide) rfl (Nat.le_of_ble_eq_true rfl) ?_
  intro p e s m below meth c A ls H locs hx hb hml hr hts hown hlocks hname hK hN hA hP hD hS hl
  have hl : lv_has ls 4 [(0, .ref (ad 10)), (1, .int x1), (2, .int x2), (3, .int x3)] := hl
  generalize hQ : MQ below _ _ s _ _ A = Q
  unfold v_X10_table at hv
  refine lv_aload_n hx hb dX10_table_0 rfl (lv_at hl 0 rfl) ?_
  refine va_get (D := D) (ci := 10) (v := .ref (ad 4)) (C := RX10) (T := TX10) (N := 6) hx hb hts in_X10_table_10 hown hK hP 5 rfl rfl 1 (by decide) (hts _ lk_X10_table_21) (fun _ h9 => h9) rfl dX10_table_1 ?_
  refine va_getN (D := D) (ci := 4) (v := .ref (ad 5)) (C := RX4) (T := TX4) (N := 9) hx hb hts in_X10_table_4 hown hK hP 1 rfl rfl 0 (by decide) (nz_use hN nzf_X10_74) (fun _ h9 => h9) rfl dX10_table_4 ?_
  refine va_getN (D := D) (ci := 5) (v := .int s5_kind) (C := RX5) (T := TX5) (N := 6) hx hb hts in_X10_table_5 hown hK hP 2 rfl rfl 4 (by decide) (nz_use hN nzf_X10_90) (fun _ h9 => h9) rfl dX10_table_7 ?_
  refine lv_iconst (v := 2) hx hb dX10_table_10 (by decide) ?_
  refine lv_icmp_ne (tgt := 23) hx hb dX10_table_11 (by decide) (fun c_11 => ?_) (fun c_11 => ?_)
  · have hv := hv.1 c_11
    refine lv_iconst (v := 0) hx hb dX10_table_23 (by decide) ?_
    rw [← hQ]
    exact k_zret hx hb hr hlocks hS (s3_next, s3_kept, s4_ticks, s4_firstBeganWith, s4_secondBefore, s4_thirdBefore, s4_thirdTwoBefore, s8_g, s9_hand, a4_sums, a8_a, a8_b, a8_e, a8_h, a9_isOn, a9_timesOn) hP hD (by decide) hv dX10_table_24
  · have hv := hv.2 c_11
    refine lv_iload_n hx hb dX10_table_14 rfl (lv_at hl 3 rfl) ?_
    refine lv_bipush (v := 10) hx hb dX10_table_15 (by decide) ?_
    have hPc := hP.sub (ws' := []) [] rfl
    have hDc := hD.sub (ws' := []) [] (by decide) rfl
    refine k_cali (wc := []) (wr := [oX3 ad s3_next s3_kept, oX4 ad s4_ticks s4_firstBeganWith s4_secondBefore s4_thirdBefore s4_thirdTwoBefore, oX5 ad s5_kind s5_sums, oX8 ad s8_sums s8_g, oX9 ad s9_parts s9_rule s9_hand, oX10 ad , aJ cy (ad 29) 4 a4_sums, aI cy (ad 35) 16 a8_a, aI cy (ad 36) 4 a8_b, aI cy (ad 37) 4 a8_e, aI cy (ad 38) 4 a8_h, aZ cy (ad 39) 16 a9_isOn, aI cy (ad 40) 16 a9_timesOn]) (va_runS (As := [.int x3, .int (10 : Int32)]) (rest := []) ⟨hx, hb, hml, hown, hts⟩ (m_X10_isWithin l D cy ad x3 (10 : Int32) H.size hv) (va_cwS 2 hts gX10_table_X10_isWithin rfl rfl rfl (by decide +kernel) ⟨Nat.le_of_ble_eq_true rfl, Nat.le_of_ble_eq_true rfl⟩) ⟨wd_blind, wd_ok hPc hK hDc hN⟩ rfl rfl hl.1 rfl (lv_room (Nat.le_of_ble_eq_true rfl)) dX10_table_17 ⟨Nat.le_of_ble_eq_true rfl, Nat.le_of_ble_eq_true rfl⟩) hP hD hS hA [] [0, 1, 2, 3, 4, 5, 6, 7, 8, 9, 10, 11, 12] rfl rfl (by decide) (by decide) (fun r1 u H locs hv hP hD hS => ?_)
    obtain ⟨hz_r1, hv⟩ := hv
    have hP : va_P D vwCl [oX3 ad s3_next s3_kept, oX4 ad s4_ticks s4_firstBeganWith s4_secondBefore s4_thirdBefore s4_thirdTwoBefore, oX5 ad s5_kind s5_sums, oX8 ad s8_sums s8_g, oX9 ad s9_parts s9_rule s9_hand, oX10 ad , aJ cy (ad 29) 4 a4_sums, aI cy (ad 35) 16 a8_a, aI cy (ad 36) 4 a8_b, aI cy (ad 37) 4 a8_e, aI cy (ad 38) 4 a8_h, aZ cy (ad 39) 16 a9_isOn, aI cy (ad 40) 16 a9_timesOn] H := hP.sub [0, 1, 2, 3, 4, 5, 6, 7, 8, 9, 10, 11, 12] rfl
    have hD : va_D A [oX3 ad s3_next s3_kept, oX4 ad s4_ticks s4_firstBeganWith s4_secondBefore s4_thirdBefore s4_thirdTwoBefore, oX5 ad s5_kind s5_sums, oX8 ad s8_sums s8_g, oX9 ad s9_parts s9_rule s9_hand, oX10 ad , aJ cy (ad 29) 4 a4_sums, aI cy (ad 35) 16 a8_a, aI cy (ad 36) 4 a8_b, aI cy (ad 37) 4 a8_e, aI cy (ad 38) 4 a8_h, aZ cy (ad 39) 16 a9_isOn, aI cy (ad 40) 16 a9_timesOn] := hD.sub [0, 1, 2, 3, 4, 5, 6, 7, 8, 9, 10, 11, 12] (by decide) rfl
    refine lv_if_ne (tgt := 25) hx hb dX10_table_20 (by decide) (fun c_20 => ?_) (fun c_20 => ?_)
    · have hv := hv.1 c_20
      refine lv_aload_n hx hb dX10_table_25 rfl (lv_at hl 0 rfl) ?_
      refine va_get (D := D) (ci := 10) (v := .ref (ad 4)) (C := RX10) (T := TX10) (N := 6) hx hb hts in_X10_table_10 hown hK hP 5 rfl rfl 1 (by decide) (hts _ lk_X10_table_21) (fun _ h9 => h9) rfl dX10_table_26 ?_
      refine va_getN (D := D) (ci := 4) (v := .ref (ad 5)) (C := RX4) (T := TX4) (N := 9) hx hb hts in_X10_table_4 hown hK hP 1 rfl rfl 0 (by decide) (nz_use hN nzf_X10_74) (fun _ h9 => h9) rfl dX10_table_29 ?_
      refine va_getN (D := D) (ci := 5) (v := .ref (ad 8)) (C := RX5) (T := TX5) (N := 6) hx hb hts in_X10_table_5 hown hK hP 2 rfl rfl 1 (by decide) (nz_use hN nzf_X10_97) (fun _ h9 => h9) rfl dX10_table_32 ?_
      refine lv_iload_n hx hb dX10_table_35 rfl (lv_at hl 1 rfl) ?_
      refine lv_iload_n hx hb dX10_table_36 rfl (lv_at hl 2 rfl) ?_
      refine lv_iload_n hx hb dX10_table_37 rfl (lv_at hl 3 rfl) ?_
      have hPc := hP.sub (ws' := [oX8 ad s8_sums s8_g, aI cy (ad 35) 16 a8_a, aI cy (ad 36) 4 a8_b, aI cy (ad 37) 4 a8_e, aI cy (ad 38) 4 a8_h]) [3, 7, 8, 9, 10] rfl
      have hDc := hD.sub (ws' := [oX8 ad s8_sums s8_g, aI cy (ad 35) 16 a8_a, aI cy (ad 36) 4 a8_b, aI cy (ad 37) 4 a8_e, aI cy (ad 38) 4 a8_h]) [3, 7, 8, 9, 10] (by decide) rfl
      refine k_cali (wc := [oX8 ad s8_sums s8_g, aI cy (ad 35) 16 a8_a, aI cy (ad 36) 4 a8_b, aI cy (ad 37) 4 a8_e, aI cy (ad 38) 4 a8_h]) (wr := [oX3 ad s3_next s3_kept, oX4 ad s4_ticks s4_firstBeganWith s4_secondBefore s4_thirdBefore s4_thirdTwoBefore, oX5 ad s5_kind s5_sums, oX9 ad s9_parts s9_rule s9_hand, oX10 ad , aJ cy (ad 29) 4 a4_sums, aZ cy (ad 39) 16 a9_isOn, aI cy (ad 40) 16 a9_timesOn]) (va_runV (As := [.int x1, .int x2, .int x3]) (rest := []) ⟨hx, hb, hml, hown, hts⟩ (m_X8_put l D cy ad s8_sums s8_g a8_a a8_b a8_e a8_h x1 x2 x3 H.size hv) (cwV 3 hts gX10_table_X8_put rfl rfl rfl (by decide +kernel) ⟨Nat.le_of_ble_eq_true rfl, Nat.le_of_ble_eq_true rfl⟩) ⟨wd_blind, va_recv hK hPc (ci := 8) (q0 := 0) rfl rfl, wd_ok hPc hK hDc hN⟩ rfl rfl hl.1 rfl (lv_room (Nat.le_of_ble_eq_true rfl)) dX10_table_38 ⟨Nat.le_of_ble_eq_true rfl, Nat.le_of_ble_eq_true rfl⟩) hP hD hS hA [3, 7, 8, 9, 10] [0, 1, 2, 4, 5, 6, 11, 12] rfl rfl (by decide) (by decide) (fun r2 u H locs hv hP hD hS => ?_)
      obtain ⟨s8_g_3, a8_a_4, a8_b_5, a8_e_6, a8_h_7⟩ := u
      obtain ⟨hz_r2, hv⟩ := hv
      have hP : va_P D vwCl [oX3 ad s3_next s3_kept, oX4 ad s4_ticks s4_firstBeganWith s4_secondBefore s4_thirdBefore s4_thirdTwoBefore, oX5 ad s5_kind s5_sums, oX8 ad s8_sums s8_g_3, oX9 ad s9_parts s9_rule s9_hand, oX10 ad , aJ cy (ad 29) 4 a4_sums, aI cy (ad 35) 16 a8_a_4, aI cy (ad 36) 4 a8_b_5, aI cy (ad 37) 4 a8_e_6, aI cy (ad 38) 4 a8_h_7, aZ cy (ad 39) 16 a9_isOn, aI cy (ad 40) 16 a9_timesOn] H := hP.sub [0, 1, 2, 8, 3, 4, 5, 9, 10, 11, 12, 6, 7] rfl
      have hD : va_D A [oX3 ad s3_next s3_kept, oX4 ad s4_ticks s4_firstBeganWith s4_secondBefore s4_thirdBefore s4_thirdTwoBefore, oX5 ad s5_kind s5_sums, oX8 ad s8_sums s8_g_3, oX9 ad s9_parts s9_rule s9_hand, oX10 ad , aJ cy (ad 29) 4 a4_sums, aI cy (ad 35) 16 a8_a_4, aI cy (ad 36) 4 a8_b_5, aI cy (ad 37) 4 a8_e_6, aI cy (ad 38) 4 a8_h_7, aZ cy (ad 39) 16 a9_isOn, aI cy (ad 40) 16 a9_timesOn] := hD.sub [0, 1, 2, 8, 3, 4, 5, 9, 10, 11, 12, 6, 7] (by decide) rfl
      refine lv_if_ne (tgt := 46) hx hb dX10_table_41 (by decide) (fun c_41 => ?_) (fun c_41 => ?_)
      · have hv := hv.1 c_41
        refine lv_aload_n hx hb dX10_table_46 rfl (lv_at hl 0 rfl) ?_
        refine va_get (D := D) (ci := 10) (v := .ref (ad 4)) (C := RX10) (T := TX10) (N := 6) hx hb hts in_X10_table_10 hown hK hP 5 rfl rfl 1 (by decide) (hts _ lk_X10_table_21) (fun _ h9 => h9) rfl dX10_table_47 ?_
        have hPc := hP.sub (ws' := [oX3 ad s3_next s3_kept, oX4 ad s4_ticks s4_firstBeganWith s4_secondBefore s4_thirdBefore s4_thirdTwoBefore, oX9 ad s9_parts s9_rule s9_hand, aJ cy (ad 29) 4 a4_sums, aZ cy (ad 39) 16 a9_isOn, aI cy (ad 40) 16 a9_timesOn]) [0, 1, 4, 6, 11, 12] rfl
        have hDc := hD.sub (ws' := [oX3 ad s3_next s3_kept, oX4 ad s4_ticks s4_firstBeganWith s4_secondBefore s4_thirdBefore s4_thirdTwoBefore, oX9 ad s9_parts s9_rule s9_hand, aJ cy (ad 29) 4 a4_sums, aZ cy (ad 39) 16 a9_isOn, aI cy (ad 40) 16 a9_timesOn]) [0, 1, 4, 6, 11, 12] (by decide) rfl
        refine k_calv (wc := [oX3 ad s3_next s3_kept, oX4 ad s4_ticks s4_firstBeganWith s4_secondBefore s4_thirdBefore s4_thirdTwoBefore, oX9 ad s9_parts s9_rule s9_hand, aJ cy (ad 29) 4 a4_sums, aZ cy (ad 39) 16 a9_isOn, aI cy (ad 40) 16 a9_timesOn]) (wr := [oX5 ad s5_kind s5_sums, oX8 ad s8_sums s8_g_3, oX10 ad , aI cy (ad 35) 16 a8_a_4, aI cy (ad 36) 4 a8_b_5, aI cy (ad 37) 4 a8_e_6, aI cy (ad 38) 4 a8_h_7]) (va_runV (As := []) (rest := []) ⟨hx, hb, hml, hown, hts⟩ (m_X4_beginAnew l D cy ad s3_next s3_kept s4_ticks s4_firstBeganWith s4_secondBefore s4_thirdBefore s4_thirdTwoBefore s9_parts s9_rule s9_hand a4_sums a9_isOn a9_timesOn H.size hv) (cwV 0 hts gX10_table_X4_beginAnew rfl rfl rfl (by decide +kernel) ⟨Nat.le_of_ble_eq_true rfl, Nat.le_of_ble_eq_true rfl⟩) ⟨wd_blind, va_recv hK hPc (ci := 4) (q0 := 1) rfl rfl, wd_ok hPc hK hDc hN⟩ rfl rfl hl.1 rfl (lv_room (Nat.le_of_ble_eq_true rfl)) dX10_table_50 ⟨Nat.le_of_ble_eq_true rfl, Nat.le_of_ble_eq_true rfl⟩) hP hD hS hA [0, 1, 4, 6, 11, 12] [2, 3, 5, 7, 8, 9, 10] rfl rfl (by decide) (by decide) (fun u H locs hv hP hD hS => ?_)
        obtain ⟨s3_next_8, s3_kept_9, s4_ticks_10, s4_firstBeganWith_11, s4_secondBefore_12, s4_thirdBefore_13, s4_thirdTwoBefore_14, s9_hand_15, a4_sums_16, a9_isOn_17, a9_timesOn_18⟩ := u
        have hP : va_P D vwCl [oX3 ad s3_next_8 s3_kept_9, oX4 ad s4_ticks_10 s4_firstBeganWith_11 s4_secondBefore_12 s4_thirdBefore_13 s4_thirdTwoBefore_14, oX5 ad s5_kind s5_sums, oX8 ad s8_sums s8_g_3, oX9 ad s9_parts s9_rule s9_hand_15, oX10 ad , aJ cy (ad 29) 4 a4_sums_16, aI cy (ad 35) 16 a8_a_4, aI cy (ad 36) 4 a8_b_5, aI cy (ad 37) 4 a8_e_6, aI cy (ad 38) 4 a8_h_7, aZ cy (ad 39) 16 a9_isOn_17, aI cy (ad 40) 16 a9_timesOn_18] H := hP.sub [7, 8, 0, 1, 9, 2, 10, 3, 4, 5, 6, 11, 12] rfl
        have hD : va_D A [oX3 ad s3_next_8 s3_kept_9, oX4 ad s4_ticks_10 s4_firstBeganWith_11 s4_secondBefore_12 s4_thirdBefore_13 s4_thirdTwoBefore_14, oX5 ad s5_kind s5_sums, oX8 ad s8_sums s8_g_3, oX9 ad s9_parts s9_rule s9_hand_15, oX10 ad , aJ cy (ad 29) 4 a4_sums_16, aI cy (ad 35) 16 a8_a_4, aI cy (ad 36) 4 a8_b_5, aI cy (ad 37) 4 a8_e_6, aI cy (ad 38) 4 a8_h_7, aZ cy (ad 39) 16 a9_isOn_17, aI cy (ad 40) 16 a9_timesOn_18] := hD.sub [7, 8, 0, 1, 9, 2, 10, 3, 4, 5, 6, 11, 12] (by decide) rfl
        refine lv_iconst (v := 1) hx hb dX10_table_53 (by decide) ?_
        rw [← hQ]
        exact k_zret hx hb hr hlocks hS (s3_next_8, s3_kept_9, s4_ticks_10, s4_firstBeganWith_11, s4_secondBefore_12, s4_thirdBefore_13, s4_thirdTwoBefore_14, s8_g_3, s9_hand_15, a4_sums_16, a8_a_4, a8_b_5, a8_e_6, a8_h_7, a9_isOn_17, a9_timesOn_18) hP hD (by decide) hv dX10_table_54
      · have hv := hv.2 c_41
        refine lv_iconst (v := 0) hx hb dX10_table_44 (by decide) ?_
        rw [← hQ]
        exact k_zret hx hb hr hlocks hS (s3_next, s3_kept, s4_ticks, s4_firstBeganWith, s4_secondBefore, s4_thirdBefore, s4_thirdTwoBefore, s8_g_3, s9_hand, a4_sums, a8_a_4, a8_b_5, a8_e_6, a8_h_7, a9_isOn, a9_timesOn) hP hD (by decide) hv dX10_table_45
    · have hv := hv.2 c_20
      refine lv_iconst (v := 0) hx hb dX10_table_23 (by decide) ?_
      rw [← hQ]
      exact k_zret hx hb hr hlocks hS (s3_next, s3_kept, s4_ticks, s4_firstBeganWith, s4_secondBefore, s4_thirdBefore, s4_thirdTwoBefore, s8_g, s9_hand, a4_sums, a8_a, a8_b, a8_e, a8_h, a9_isOn, a9_timesOn) hP hD (by decide) hv dX10_table_24
theorem lk_X10_start_21 : Cond.fieldLink RX10 21 "CoarseSteps" "loop" "LCoarseSteps$Loop;" ∈ wsX10_start := by decide +kernel
theorem in_X10_start_10 : ∀ w ∈ wsX100, w ∈ wsX10_start := by decide +kernel
theorem in_X10_start_4 : ∀ w ∈ wsX40, w ∈ wsX10_start := by decide +kernel
abbrev rm_X10_start : Room := { frames := 1, cells := 0, slots := 0, locals := 23 }
set_option maxHeartbeats 4000000 in
set_option maxRecDepth 100000 in
theorem m_X10_start (l : Launch) (D : va_G) (cy : ClassId × ClassId × ClassId) (ad : Nat → Nat) (s4_ticks : Int32) (s4_firstBeganWith : Int64) (s4_secondBefore : Int32) (s4_thirdBefore : Int32) (s4_thirdTwoBefore : Int32) (s5_kind : Int32) (s5_sums : Int32) (a4_sums : Nat → Int64) (x1 : Int32) (x2 : Int64) (sz : Nat) {K : Int32 → Int64 → (Nat → Int64) → Prop} (hv : v_X10_start s4_ticks s4_firstBeganWith s5_sums a4_sums x1 x2 K) : Met l yX10_start wsX10_start rm_X10_start (va_Pc [.ref (ad 10), .int x1, .long x2] (wd D cy [oX4 ad s4_ticks s4_firstBeganWith s4_secondBefore s4_thirdBefore s4_thirdTwoBefore, oX5 ad s5_kind s5_sums, oX10 ad , aJ cy (ad 29) 4 a4_sums] sz)) (va_Qi (fun (r : Int32) (u : Int64 × (Nat → Int64)) => (r = 0 ∨ r = 1) ∧ K r u.1 u.2) (fun u t => we D ((fun u : Int64 × (Nat → Int64) => [oX4 ad s4_ticks u.1 s4_secondBefore s4_thirdBefore s4_thirdTwoBefore, oX5 ad s5_kind s5_sums, oX10 ad , aJ cy (ad 29) 4 u.2]) u) (va_A [oX4 ad s4_ticks s4_firstBeganWith s4_secondBefore s4_thirdBefore s4_thirdTwoBefore, oX5 ad s5_kind s5_sums, oX10 ad , aJ cy (ad 29) 4 a4_sums] sz) t) (va_A [oX4 ad s4_ticks s4_firstBeganWith s4_secondBefore s4_thirdBefore s4_thirdTwoBefore, oX5 ad s5_kind s5_sums, oX10 ad , aJ cy (ad 29) 4 a4_sums] sz)) 0 0 (va_A [oX4 ad s4_ticks s4_firstBeganWith s4_secondBefore s4_thirdBefore s4_thirdTwoBefore, oX5 ad s5_kind s5_sums, oX10 ad , aJ cy (ad 29) 4 a4_sums] sz) := by
  refine k_ofW (cc := cX10_start) (maxL := 4) (ret := (some .boolean)) (fun A => va_Qi (fun (r : Int32) (u : Int64 × (Nat → Int64)) => (r = 0 ∨ r = 1) ∧ K r u.1 u.2) (fun u t => we D ((fun u : Int64 × (Nat → Int64) => [oX4 ad s4_ticks u.1 s4_secondBefore s4_thirdBefore s4_thirdTwoBefore, oX5 ad s5_kind s5_sums, oX10 ad , aJ cy (ad 29) 4 u.2]) u) A t) A) (by decide) rfl (Nat.le_of_ble_eq_true rfl) ?_
  intro p e s m below meth c A ls H locs hx hb hml hr hts hown hlocks hname hK hN hA hP hD hS hl
  have hl : lv_has ls 4 [(0, .ref (ad 10)), (1, .int x1), (2, .long x2)] := hl
  generalize hQ : MQ below _ _ s _ _ A = Q
  unfold v_X10_start at hv
  refine lv_aload_n hx hb dX10_start_0 rfl (lv_at hl 0 rfl) ?_
  refine va_get (D := D) (ci := 10) (v := .ref (ad 4)) (C := RX10) (T := TX10) (N := 6) hx hb hts in_X10_start_10 hown hK hP 2 rfl rfl 1 (by decide) (hts _ lk_X10_start_21) (fun _ h9 => h9) rfl dX10_start_1 ?_
  refine va_getN (D := D) (ci := 4) (v := .ref (ad 5)) (C := RX4) (T := TX4) (N := 9) hx hb hts in_X10_start_4 hown hK hP 0 rfl rfl 0 (by decide) (nz_use hN nzf_X10_74) (fun _ h9 => h9) rfl dX10_start_4 ?_
  refine lv_iload_n hx hb dX10_start_7 rfl (lv_at hl 1 rfl) ?_
  have hPc := hP.sub (ws' := [oX5 ad s5_kind s5_sums]) [1] rfl
  have hDc := hD.sub (ws' := [oX5 ad s5_kind s5_sums]) [1] (by decide) rfl
  refine k_cali (wc := [oX5 ad s5_kind s5_sums]) (wr := [oX4 ad s4_ticks s4_firstBeganWith s4_secondBefore s4_thirdBefore s4_thirdTwoBefore, oX10 ad , aJ cy (ad 29) 4 a4_sums]) (va_runV (As := [.int x1]) (rest := []) ⟨hx, hb, hml, hown, hts⟩ (m_X5_hasSum l D cy ad s5_kind s5_sums x1 H.size hv) (cwV 1 hts gX10_start_X5_hasSum rfl rfl rfl (by decide +kernel) ⟨Nat.le_of_ble_eq_true rfl, Nat.le_of_ble_eq_true rfl⟩) ⟨wd_blind, va_recv hK hPc (ci := 5) (q0 := 0) rfl rfl, wd_ok hPc hK hDc hN⟩ rfl rfl hl.1 rfl (lv_room (Nat.le_of_ble_eq_true rfl)) dX10_start_8 ⟨Nat.le_of_ble_eq_true rfl, Nat.le_of_ble_eq_true rfl⟩) hP hD hS hA [1] [0, 2, 3] rfl rfl (by decide) (by decide) (fun r1 u H locs hv hP hD hS => ?_)
  obtain ⟨hz_r1, hv⟩ := hv
  have hP : va_P D vwCl [oX4 ad s4_ticks s4_firstBeganWith s4_secondBefore s4_thirdBefore s4_thirdTwoBefore, oX5 ad s5_kind s5_sums, oX10 ad , aJ cy (ad 29) 4 a4_sums] H := hP.sub [0, 3, 1, 2] rfl
  have hD : va_D A [oX4 ad s4_ticks s4_firstBeganWith s4_secondBefore s4_thirdBefore s4_thirdTwoBefore, oX5 ad s5_kind s5_sums, oX10 ad , aJ cy (ad 29) 4 a4_sums] := hD.sub [0, 3, 1, 2] (by decide) rfl
  refine lv_if_eq (tgt := 31) hx hb dX10_start_11 (by decide) (fun c_11 => ?_) (fun c_11 => ?_)
  · have hv := hv.1 c_11
    refine lv_iconst (v := 0) hx hb dX10_start_31 (by decide) ?_
    rw [← hQ]
    exact k_zret hx hb hr hlocks hS (s4_firstBeganWith, a4_sums) hP hD (by decide) hv dX10_start_32
  · have hv := hv.2 c_11
    refine lv_lload_n hx hb dX10_start_14 rfl (lv_at hl 2 rfl) ?_
    have hPc := hP.sub (ws' := []) [] rfl
    have hDc := hD.sub (ws' := []) [] (by decide) rfl
    refine k_cali (wc := []) (wr := [oX4 ad s4_ticks s4_firstBeganWith s4_secondBefore s4_thirdBefore s4_thirdTwoBefore, oX5 ad s5_kind s5_sums, oX10 ad , aJ cy (ad 29) 4 a4_sums]) (va_runS (As := [.long x2]) (rest := []) ⟨hx, hb, hml, hown, hts⟩ (m_X10_isSum l D cy ad x2 H.size hv) (va_cwS 1 hts gX10_start_X10_isSum rfl rfl rfl (by decide +kernel) ⟨Nat.le_of_ble_eq_true rfl, Nat.le_of_ble_eq_true rfl⟩) ⟨wd_blind, wd_ok hPc hK hDc hN⟩ rfl rfl hl.1 rfl (lv_room (Nat.le_of_ble_eq_true rfl)) dX10_start_15 ⟨Nat.le_of_ble_eq_true rfl, Nat.le_of_ble_eq_true rfl⟩) hP hD hS hA [] [0, 1, 2, 3] rfl rfl (by decide) (by decide) (fun r2 u H locs hv hP hD hS => ?_)
    obtain ⟨hz_r2, hv⟩ := hv
    have hP : va_P D vwCl [oX4 ad s4_ticks s4_firstBeganWith s4_secondBefore s4_thirdBefore s4_thirdTwoBefore, oX5 ad s5_kind s5_sums, oX10 ad , aJ cy (ad 29) 4 a4_sums] H := hP.sub [0, 1, 2, 3] rfl
    have hD : va_D A [oX4 ad s4_ticks s4_firstBeganWith s4_secondBefore s4_thirdBefore s4_thirdTwoBefore, oX5 ad s5_kind s5_sums, oX10 ad , aJ cy (ad 29) 4 a4_sums] := hD.sub [0, 1, 2, 3] (by decide) rfl
    refine lv_if_eq (tgt := 31) hx hb dX10_start_18 (by decide) (fun c_18 => ?_) (fun c_18 => ?_)
    · have hv := hv.1 c_18
      refine lv_iconst (v := 0) hx hb dX10_start_31 (by decide) ?_
      rw [← hQ]
      exact k_zret hx hb hr hlocks hS (s4_firstBeganWith, a4_sums) hP hD (by decide) hv dX10_start_32
    · have hv := hv.2 c_18
      refine lv_aload_n hx hb dX10_start_21 rfl (lv_at hl 0 rfl) ?_
      refine va_get (D := D) (ci := 10) (v := .ref (ad 4)) (C := RX10) (T := TX10) (N := 6) hx hb hts in_X10_start_10 hown hK hP 2 rfl rfl 1 (by decide) (hts _ lk_X10_start_21) (fun _ h9 => h9) rfl dX10_start_22 ?_
      refine va_getN (D := D) (ci := 4) (v := .int s4_ticks) (C := RX4) (T := TX4) (N := 9) hx hb hts in_X10_start_4 hown hK hP 0 rfl rfl 4 (by decide) (nz_use hN nzf_X10_114) (fun _ h9 => h9) rfl dX10_start_25 ?_
      refine lv_if_eq (tgt := 33) hx hb dX10_start_28 (by decide) (fun c_28 => ?_) (fun c_28 => ?_)
      · have hv := hv.1 c_28
        refine lv_aload_n hx hb dX10_start_33 rfl (lv_at hl 0 rfl) ?_
        refine va_get (D := D) (ci := 10) (v := .ref (ad 4)) (C := RX10) (T := TX10) (N := 6) hx hb hts in_X10_start_10 hown hK hP 2 rfl rfl 1 (by decide) (hts _ lk_X10_start_21) (fun _ h9 => h9) rfl dX10_start_34 ?_
        refine lv_iload_n hx hb dX10_start_37 rfl (lv_at hl 1 rfl) ?_
        refine lv_lload_n hx hb dX10_start_38 rfl (lv_at hl 2 rfl) ?_
        have hPc := hP.sub (ws' := [oX4 ad s4_ticks s4_firstBeganWith s4_secondBefore s4_thirdBefore s4_thirdTwoBefore, aJ cy (ad 29) 4 a4_sums]) [0, 3] rfl
        have hDc := hD.sub (ws' := [oX4 ad s4_ticks s4_firstBeganWith s4_secondBefore s4_thirdBefore s4_thirdTwoBefore, aJ cy (ad 29) 4 a4_sums]) [0, 3] (by decide) rfl
        refine k_calv (wc := [oX4 ad s4_ticks s4_firstBeganWith s4_secondBefore s4_thirdBefore s4_thirdTwoBefore, aJ cy (ad 29) 4 a4_sums]) (wr := [oX5 ad s5_kind s5_sums, oX10 ad ]) (va_runV (As := [.int x1, .long x2]) (rest := []) ⟨hx, hb, hml, hown, hts⟩ (m_X4_startAt l D cy ad s4_ticks s4_firstBeganWith s4_secondBefore s4_thirdBefore s4_thirdTwoBefore a4_sums x1 x2 H.size hv) (cwV 2 hts gX10_start_X4_startAt rfl rfl rfl (by decide +kernel) ⟨Nat.le_of_ble_eq_true rfl, Nat.le_of_ble_eq_true rfl⟩) ⟨wd_blind, va_recv hK hPc (ci := 4) (q0 := 0) rfl rfl, wd_ok hPc hK hDc hN⟩ rfl rfl hl.1 rfl (lv_room (Nat.le_of_ble_eq_true rfl)) dX10_start_39 ⟨Nat.le_of_ble_eq_true rfl, Nat.le_of_ble_eq_true rfl⟩) hP hD hS hA [0, 3] [1, 2] rfl rfl (by decide) (by decide) (fun u H locs hv hP hD hS => ?_)
        obtain ⟨s4_firstBeganWith_3, a4_sums_4⟩ := u
        have hP : va_P D vwCl [oX4 ad s4_ticks s4_firstBeganWith_3 s4_secondBefore s4_thirdBefore s4_thirdTwoBefore, oX5 ad s5_kind s5_sums, oX10 ad , aJ cy (ad 29) 4 a4_sums_4] H := hP.sub [2, 0, 1, 3] rfl
        have hD : va_D A [oX4 ad s4_ticks s4_firstBeganWith_3 s4_secondBefore s4_thirdBefore s4_thirdTwoBefore, oX5 ad s5_kind s5_sums, oX10 ad , aJ cy (ad 29) 4 a4_sums_4] := hD.sub [2, 0, 1, 3] (by decide) rfl
        refine lv_iconst (v := 1) hx hb dX10_start_42 (by decide) ?_
        rw [← hQ]
        exact k_zret hx hb hr hlocks hS (s4_firstBeganWith_3, a4_sums_4) hP hD (by decide) hv dX10_start_43
      · have hv := hv.2 c_28
        refine lv_iconst (v := 0) hx hb dX10_start_31 (by decide) ?_
        rw [← hQ]
        exact k_zret hx hb hr hlocks hS (s4_firstBeganWith, a4_sums) hP hD (by decide) hv dX10_start_32
theorem lk_X10_isWish_176 : Cond.constant RX10 176 (1000000) ∈ wsX10_isWish := by decide +kernel
abbrev rm_X10_isWish : Room := { frames := 1, cells := 0, slots := 0, locals := 21 }
set_option maxHeartbeats 4000000 in
set_option maxRecDepth 100000 in
theorem m_X10_isWish (l : Launch) (D : va_G) (cy : ClassId × ClassId × ClassId) (ad : Nat → Nat) (x0 : Int32) (sz : Nat) {K : Int32 → Prop} (hv : v_X10_isWish x0 K) : Met l yX10_isWish wsX10_isWish rm_X10_isWish (va_Pc [.int x0] (wd D cy [] sz)) (va_Qi (fun (r : Int32) (u : Unit) => (r = 0 ∨ r = 1) ∧ K r) (fun u t => we D ((fun u : Unit => []) u) (va_A [] sz) t) (va_A [] sz)) 0 0 (va_A [] sz) := by
  refine k_ofW (cc := cX10_isWish) (maxL := 1) (ret := (some .boolean)) (fun A => va_Qi (fun (r : Int32) (u : Unit) => (r = 0 ∨ r = 1) ∧ K r) (fun u t => we D ((fun u : Unit => []) u) A t) A) (by decide) rfl (Nat.le_of_ble_eq_true rfl) ?_
  intro p e s m below meth c A ls H locs hx hb hml hr hts hown hlocks hname hK hN hA hP hD hS hl
  have hl : lv_has ls 1 [(0, .int x0)] := hl
  generalize hQ : MQ below _ _ s _ _ A = Q
  unfold v_X10_isWish at hv
  refine lv_iload_n hx hb dX10_isWish_0 rfl (lv_at hl 0 rfl) ?_
  refine lv_ldc hx hb hown (hts _ lk_X10_isWish_176) dX10_isWish_1 ?_
  have hPc := hP.sub (ws' := []) [] rfl
  have hDc := hD.sub (ws' := []) [] (by decide) rfl
  refine k_cali (wc := []) (wr := []) (va_runS (As := [.int x0, .int (1000000 : Int32)]) (rest := []) ⟨hx, hb, hml, hown, hts⟩ (m_X10_isWithin l D cy ad x0 (1000000 : Int32) H.size hv) (va_cwS 2 hts gX10_isWish_X10_isWithin rfl rfl rfl (by decide +kernel) ⟨Nat.le_of_ble_eq_true rfl, Nat.le_of_ble_eq_true rfl⟩) ⟨wd_blind, wd_ok hPc hK hDc hN⟩ rfl rfl hl.1 rfl (lv_room (Nat.le_of_ble_eq_true rfl)) dX10_isWish_3 ⟨Nat.le_of_ble_eq_true rfl, Nat.le_of_ble_eq_true rfl⟩) hP hD hS hA [] [] rfl rfl (by decide) (by decide) (fun r1 u H locs hv hP hD hS => ?_)
  obtain ⟨hz_r1, hv⟩ := hv
  have hP : va_P D vwCl [] H := hP.sub [] rfl
  have hD : va_D A [] := hD.sub [] (by decide) rfl
  rw [← hQ]
  exact k_zret hx hb hr hlocks hS () hP hD hz_r1 hv dX10_isWish_6
theorem lk_X10_tick_128 : Cond.constant RX10 128 (-2147483648) ∈ wsX10_tick := by decide +kernel
theorem lk_X10_tick_21 : Cond.fieldLink RX10 21 "CoarseSteps" "loop" "LCoarseSteps$Loop;" ∈ wsX10_tick := by decide +kernel
theorem in_X10_tick_10 : ∀ w ∈ wsX100, w ∈ wsX10_tick := by decide +kernel
abbrev rm_X10_tick : Room := { frames := 5, cells := 0, slots := 0, locals := 118 }
set_option maxHeartbeats 4000000 in
set_option maxRecDepth 100000 in
theorem m_X10_tick (l : Launch) (D : va_G) (cy : ClassId × ClassId × ClassId) (ad : Nat → Nat) (s3_next : Int32) (s3_kept : Int32) (s4_ticks : Int32) (s4_firstBeganWith : Int64) (s4_secondBefore : Int32) (s4_thirdBefore : Int32) (s4_thirdTwoBefore : Int32) (s5_kind : Int32) (s5_sums : Int32) (s7_over : Int32) (s7_count : Int32) (s8_sums : Int32) (s8_g : Int32) (s9_parts : Int32) (s9_rule : Int32) (s9_hand : Int32) (a3_wishes : Nat → Int32) (a3_givens : Nat → Int32) (a3_sums : Nat → Int64) (a4_sums : Nat → Int64) (a5_coming : Nat → Int64) (a5_picked : Nat → Int32) (a7_values : Nat → Int32) (a8_a : Nat → Int32) (a8_b : Nat → Int32) (a8_e : Nat → Int32) (a8_h : Nat → Int32) (a9_isOn : Nat → Int32) (a9_timesOn : Nat → Int32) (x1 : Int32) (sz : Nat) {K : Int32 → Int32 → Int32 → Int32 → Int32 → Int32 → Int32 → Int32 → (Nat → Int32) → (Nat → Int32) → (Nat → Int64) → (Nat → Int64) → (Nat → Int64) → (Nat → Int32) → (Nat → Int32) → (Nat → Int32) → Prop} (hv : v_X10_tick s3_next s3_kept s4_ticks s4_secondBefore s4_thirdBefore s4_thirdTwoBefore s5_kind s5_sums s7_over s7_count s8_sums s8_g s9_parts s9_rule s9_hand a3_wishes a3_givens a3_sums a4_sums a5_coming a5_picked a7_values a8_a a8_b a8_e a8_h a9_isOn a9_timesOn x1 K) : Met l yX10_tick wsX10_tick rm_X10_tick (va_Pc [.ref (ad 10), .int x1] (wd D cy [oX3 ad s3_next s3_kept, oX4 ad s4_ticks s4_firstBeganWith s4_secondBefore s4_thirdBefore s4_thirdTwoBefore, oX5 ad s5_kind s5_sums, oX7 ad s7_over s7_count, oX8 ad s8_sums s8_g, oX9 ad s9_parts s9_rule s9_hand, oX10 ad , aI cy (ad 25) 256 a3_wishes, aI cy (ad 26) 256 a3_givens, aJ cy (ad 27) 256 a3_sums, aJ cy (ad 29) 4 a4_sums, aJ cy (ad 30) 4 a5_coming, aI cy (ad 31) 3 a5_picked, aI cy (ad 34) 8 a7_values, aI cy (ad 35) 16 a8_a, aI cy (ad 36) 4 a8_b, aI cy (ad 37) 4 a8_e, aI cy (ad 38) 4 a8_h, aZ cy (ad 39) 16 a9_isOn, aI cy (ad 40) 16 a9_timesOn] sz)) (va_Qi (fun (r : Int32) (u : Int32 × Int32 × Int32 × Int32 × Int32 × Int32 × Int32 × (Nat → Int32) × (Nat → Int32) × (Nat → Int64) × (Nat → Int64) × (Nat → Int64) × (Nat → Int32) × (Nat → Int32) × (Nat → Int32)) => K r u.1 u.2.1 u.2.2.1 u.2.2.2.1 u.2.2.2.2.1 u.2.2.2.2.2.1 u.2.2.2.2.2.2.1 u.2.2.2.2.2.2.2.1 u.2.2.2.2.2.2.2.2.1 u.2.2.2.2.2.2.2.2.2.1 u.2.2.2.2.2.2.2.2.2.2.1 u.2.2.2.2.2.2.2.2.2.2.2.1 u.2.2.2.2.2.2.2.2.2.2.2.2.1 u.2.2.2.2.2.2.2.2.2.2.2.2.2.1 u.2.2.2.2.2.2.2.2.2.2.2.2.2.2) (fun u t => we D ((fun u : Int32 × Int32 × Int32 × Int32 × Int32 × Int32 × Int32 × (Nat → Int32) × (Nat → Int32) × (Nat → Int64) × (Nat → Int64) × (Nat → Int64) × (Nat → Int32) × (Nat → Int32) × (Nat → Int32) => [oX3 ad u.1 u.2.1, oX4 ad u.2.2.1 s4_firstBeganWith u.2.2.2.1 u.2.2.2.2.1 u.2.2.2.2.2.1, oX5 ad s5_kind s5_sums, oX7 ad s7_over s7_count, oX8 ad s8_sums s8_g, oX9 ad s9_parts s9_rule u.2.2.2.2.2.2.1, oX10 ad , aI cy (ad 25) 256 u.2.2.2.2.2.2.2.1, aI cy (ad 26) 256 u.2.2.2.2.2.2.2.2.1, aJ cy (ad 27) 256 u.2.2.2.2.2.2.2.2.2.1, aJ cy (ad 29) 4 u.2.2.2.2.2.2.2.2.2.2.1, aJ cy (ad 30) 4 u.2.2.2.2.2.2.2.2.2.2.2.1, aI cy (ad 31) 3 u.2.2.2.2.2.2.2.2.2.2.2.2.1, aI cy (ad 34) 8 a7_values, aI cy (ad 35) 16 a8_a, aI cy (ad 36) 4 a8_b, aI cy (ad 37) 4 a8_e, aI cy (ad 38) 4 a8_h, aZ cy (ad 39) 16 u.2.2.2.2.2.2.2.2.2.2.2.2.2.1, aI cy (ad 40) 16 u.2.2.2.2.2.2.2.2.2.2.2.2.2.2]) u) (va_A [oX3 ad s3_next s3_kept, oX4 ad s4_ticks s4_firstBeganWith s4_secondBefore s4_thirdBefore s4_thirdTwoBefore, oX5 ad s5_kind s5_sums, oX7 ad s7_over s7_count, oX8 ad s8_sums s8_g, oX9 ad s9_parts s9_rule s9_hand, oX10 ad , aI cy (ad 25) 256 a3_wishes, aI cy (ad 26) 256 a3_givens, aJ cy (ad 27) 256 a3_sums, aJ cy (ad 29) 4 a4_sums, aJ cy (ad 30) 4 a5_coming, aI cy (ad 31) 3 a5_picked, aI cy (ad 34) 8 a7_values, aI cy (ad 35) 16 a8_a, aI cy (ad 36) 4 a8_b, aI cy (ad 37) 4 a8_e, aI cy (ad 38) 4 a8_h, aZ cy (ad 39) 16 a9_isOn, aI cy (ad 40) 16 a9_timesOn] sz) t) (va_A [oX3 ad s3_next s3_kept, oX4 ad s4_ticks s4_firstBeganWith s4_secondBefore s4_thirdBefore s4_thirdTwoBefore, oX5 ad s5_kind s5_sums, oX7 ad s7_over s7_count, oX8 ad s8_sums s8_g, oX9 ad s9_parts s9_rule s9_hand, oX10 ad , aI cy (ad 25) 256 a3_wishes, aI cy (ad 26) 256 a3_givens, aJ cy (ad 27) 256 a3_sums, aJ cy (ad 29) 4 a4_sums, aJ cy (ad 30) 4 a5_coming, aI cy (ad 31) 3 a5_picked, aI cy (ad 34) 8 a7_values, aI cy (ad 35) 16 a8_a, aI cy (ad 36) 4 a8_b, aI cy (ad 37) 4 a8_e, aI cy (ad 38) 4 a8_h, aZ cy (ad 39) 16 a9_isOn, aI cy (ad 40) 16 a9_timesOn] sz)) 0 0 (va_A [oX3 ad s3_next s3_kept, oX4 ad s4_ticks s4_firstBeganWith s4_secondBefore s4_thirdBefore s4_thirdTwoBefore, oX5 ad s5_kind s5_sums, oX7 ad s7_over s7_count, oX8 ad s8_sums s8_g, oX9 ad s9_parts s9_rule s9_hand, oX10 ad , aI cy (ad 25) 256 a3_wishes, aI cy (ad 26) 256 a3_givens, aJ cy (ad 27) 256 a3_sums, aJ cy (ad 29) 4 a4_sums, aJ cy (ad 30) 4 a5_coming, aI cy (ad 31) 3 a5_picked, aI cy (ad 34) 8 a7_values, aI cy (ad 35) 16 a8_a, aI cy (ad 36) 4 a8_b, aI cy (ad 37) 4 a8_e, aI cy (ad 38) 4 a8_h, aZ cy (ad 39) 16 a9_isOn, aI cy (ad 40) 16 a9_timesOn] sz) := by
  refine k_ofW (cc := cX10_tick) (maxL := 2) (ret := (some .int)) (fun A => va_Qi (fun (r : Int32) (u : Int32 × Int32 × Int32 × Int32 × Int32 × Int32 × Int32 × (Nat → Int32) × (Nat → Int32) × (Nat → Int64) × (Nat → Int64) × (Nat → Int64) × (Nat → Int32) × (Nat → Int32) × (Nat → Int32)) => K r u.1 u.2.1 u.2.2.1 u.2.2.2.1 u.2.2.2.2.1 u.2.2.2.2.2.1 u.2.2.2.2.2.2.1 u.2.2.2.2.2.2.2.1 u.2.2.2.2.2.2.2.2.1 u.2.2.2.2.2.2.2.2.2.1 u.2.2.2.2.2.2.2.2.2.2.1 u.2.2.2.2.2.2.2.2.2.2.2.1 u.2.2.2.2.2.2.2.2.2.2.2.2.1 u.2.2.2.2.2.2.2.2.2.2.2.2.2.1 u.2.2.2.2.2.2.2.2.2.2.2.2.2.2) (fun u t => we D ((fun u : Int32 × Int32 × Int32 × Int32 × Int32 × Int32 × Int32 × (Nat → Int32) × (Nat → Int32) × (Nat → Int64) × (Nat → Int64) × (Nat → Int64) × (Nat → Int32) × (Nat → Int32) × (Nat → Int32) => [oX3 ad u.1 u.2.1, oX4 ad u.2.2.1 s4_firstBeganWith u.2.2.2.1 u.2.2.2.2.1 u.2.2.2.2.2.1, oX5 ad s5_kind s5_sums, oX7 ad s7_over s7_count, oX8 ad s8_sums s8_g, oX9 ad s9_parts s9_rule u.2.2.2.2.2.2.1, oX10 ad , aI cy (ad 25) 256 u.2.2.2.2.2.2.2.1, aI cy (ad 26) 256 u.2.2.2.2.2.2.2.2.1, aJ cy (ad 27) 256 u.2.2.2.2.2.2.2.2.2.1, aJ cy (ad 29) 4 u.2.2.2.2.2.2.2.2.2.2.1, aJ cy (ad 30) 4 u.2.2.2.2.2.2.2.2.2.2.2.1, aI cy (ad 31) 3 u.2.2.2.2.2.2.2.2.2.2.2.2.1, aI cy (ad 34) 8 a7_values, aI cy (ad 35) 16 a8_a, aI cy (ad 36) 4 a8_b, aI cy (ad 37) 4 a8_e, aI cy (ad 38) 4 a8_h, aZ cy (ad 39) 16 u.2.2.2.2.2.2.2.2.2.2.2.2.2.1, aI cy (ad 40) 16 u.2.2.2.2.2.2.2.2.2.2.2.2.2.2]) u) A t) A) (by decide) rfl (Nat.le_of_ble_eq_true rfl) ?_
  intro p e s m below meth c A ls H locs hx hb hml hr hts hown hlocks hname hK hN hA hP hD hS hl
  have hl : lv_has ls 2 [(0, .ref (ad 10)), (1, .int x1)] := hl
  generalize hQ : MQ below _ _ s _ _ A = Q
  unfold v_X10_tick at hv
  refine lv_iload_n hx hb dX10_tick_0 rfl (lv_at hl 1 rfl) ?_
  have hPc := hP.sub (ws' := []) [] rfl
  have hDc := hD.sub (ws' := []) [] (by decide) rfl
  refine k_cali (wc := []) (wr := [oX3 ad s3_next s3_kept, oX4 ad s4_ticks s4_firstBeganWith s4_secondBefore s4_thirdBefore s4_thirdTwoBefore, oX5 ad s5_kind s5_sums, oX7 ad s7_over s7_count, oX8 ad s8_sums s8_g, oX9 ad s9_parts s9_rule s9_hand, oX10 ad , aI cy (ad 25) 256 a3_wishes, aI cy (ad 26) 256 a3_givens, aJ cy (ad 27) 256 a3_sums, aJ cy (ad 29) 4 a4_sums, aJ cy (ad 30) 4 a5_coming, aI cy (ad 31) 3 a5_picked, aI cy (ad 34) 8 a7_values, aI cy (ad 35) 16 a8_a, aI cy (ad 36) 4 a8_b, aI cy (ad 37) 4 a8_e, aI cy (ad 38) 4 a8_h, aZ cy (ad 39) 16 a9_isOn, aI cy (ad 40) 16 a9_timesOn]) (va_runS (As := [.int x1]) (rest := []) ⟨hx, hb, hml, hown, hts⟩ (m_X10_isWish l D cy ad x1 H.size hv) (va_cwS 1 hts gX10_tick_X10_isWish rfl rfl rfl (by decide +kernel) ⟨Nat.le_of_ble_eq_true rfl, Nat.le_of_ble_eq_true rfl⟩) ⟨wd_blind, wd_ok hPc hK hDc hN⟩ rfl rfl hl.1 rfl (lv_room (Nat.le_of_ble_eq_true rfl)) dX10_tick_1 ⟨Nat.le_of_ble_eq_true rfl, Nat.le_of_ble_eq_true rfl⟩) hP hD hS hA [] [0, 1, 2, 3, 4, 5, 6, 7, 8, 9, 10, 11, 12, 13, 14, 15, 16, 17, 18, 19] rfl rfl (by decide) (by decide) (fun r1 u H locs hv hP hD hS => ?_)
  obtain ⟨hz_r1, hv⟩ := hv
  have hP : va_P D vwCl [oX3 ad s3_next s3_kept, oX4 ad s4_ticks s4_firstBeganWith s4_secondBefore s4_thirdBefore s4_thirdTwoBefore, oX5 ad s5_kind s5_sums, oX7 ad s7_over s7_count, oX8 ad s8_sums s8_g, oX9 ad s9_parts s9_rule s9_hand, oX10 ad , aI cy (ad 25) 256 a3_wishes, aI cy (ad 26) 256 a3_givens, aJ cy (ad 27) 256 a3_sums, aJ cy (ad 29) 4 a4_sums, aJ cy (ad 30) 4 a5_coming, aI cy (ad 31) 3 a5_picked, aI cy (ad 34) 8 a7_values, aI cy (ad 35) 16 a8_a, aI cy (ad 36) 4 a8_b, aI cy (ad 37) 4 a8_e, aI cy (ad 38) 4 a8_h, aZ cy (ad 39) 16 a9_isOn, aI cy (ad 40) 16 a9_timesOn] H := hP.sub [0, 1, 2, 3, 4, 5, 6, 7, 8, 9, 10, 11, 12, 13, 14, 15, 16, 17, 18, 19] rfl
  have hD : va_D A [oX3 ad s3_next s3_kept, oX4 ad s4_ticks s4_firstBeganWith s4_secondBefore s4_thirdBefore s4_thirdTwoBefore, oX5 ad s5_kind s5_sums, oX7 ad s7_over s7_count, oX8 ad s8_sums s8_g, oX9 ad s9_parts s9_rule s9_hand, oX10 ad , aI cy (ad 25) 256 a3_wishes, aI cy (ad 26) 256 a3_givens, aJ cy (ad 27) 256 a3_sums, aJ cy (ad 29) 4 a4_sums, aJ cy (ad 30) 4 a5_coming, aI cy (ad 31) 3 a5_picked, aI cy (ad 34) 8 a7_values, aI cy (ad 35) 16 a8_a, aI cy (ad 36) 4 a8_b, aI cy (ad 37) 4 a8_e, aI cy (ad 38) 4 a8_h, aZ cy (ad 39) 16 a9_isOn, aI cy (ad 40) 16 a9_timesOn] := hD.sub [0, 1, 2, 3, 4, 5, 6, 7, 8, 9, 10, 11, 12, 13, 14, 15, 16, 17, 18, 19] (by decide) rfl
  refine lv_if_eq (tgt := 18) hx hb dX10_tick_4 (by decide) (fun c_4 => ?_) (fun c_4 => ?_)
  · have hv := hv.1 c_4
    refine lv_ldc hx hb hown (hts _ lk_X10_tick_128) dX10_tick_18 ?_
    rw [← hQ]
    exact k_iret hx hb hr hlocks hS (s3_next, s3_kept, s4_ticks, s4_secondBefore, s4_thirdBefore, s4_thirdTwoBefore, s9_hand, a3_wishes, a3_givens, a3_sums, a4_sums, a5_coming, a5_picked, a9_isOn, a9_timesOn) hP hD hv dX10_tick_20
  · have hv := hv.2 c_4
    refine lv_aload_n hx hb dX10_tick_7 rfl (lv_at hl 0 rfl) ?_
    refine va_get (D := D) (ci := 10) (v := .ref (ad 4)) (C := RX10) (T := TX10) (N := 6) hx hb hts in_X10_tick_10 hown hK hP 6 rfl rfl 1 (by decide) (hts _ lk_X10_tick_21) (fun _ h9 => h9) rfl dX10_tick_8 ?_
    refine lv_iload_n hx hb dX10_tick_11 rfl (lv_at hl 1 rfl) ?_
    have hPc := hP.sub (ws' := [oX3 ad s3_next s3_kept, oX4 ad s4_ticks s4_firstBeganWith s4_secondBefore s4_thirdBefore s4_thirdTwoBefore, oX5 ad s5_kind s5_sums, oX7 ad s7_over s7_count, oX8 ad s8_sums s8_g, oX9 ad s9_parts s9_rule s9_hand, aI cy (ad 25) 256 a3_wishes, aI cy (ad 26) 256 a3_givens, aJ cy (ad 27) 256 a3_sums, aJ cy (ad 29) 4 a4_sums, aJ cy (ad 30) 4 a5_coming, aI cy (ad 31) 3 a5_picked, aI cy (ad 34) 8 a7_values, aI cy (ad 35) 16 a8_a, aI cy (ad 36) 4 a8_b, aI cy (ad 37) 4 a8_e, aI cy (ad 38) 4 a8_h, aZ cy (ad 39) 16 a9_isOn, aI cy (ad 40) 16 a9_timesOn]) [0, 1, 2, 3, 4, 5, 7, 8, 9, 10, 11, 12, 13, 14, 15, 16, 17, 18, 19] rfl
    have hDc := hD.sub (ws' := [oX3 ad s3_next s3_kept, oX4 ad s4_ticks s4_firstBeganWith s4_secondBefore s4_thirdBefore s4_thirdTwoBefore, oX5 ad s5_kind s5_sums, oX7 ad s7_over s7_count, oX8 ad s8_sums s8_g, oX9 ad s9_parts s9_rule s9_hand, aI cy (ad 25) 256 a3_wishes, aI cy (ad 26) 256 a3_givens, aJ cy (ad 27) 256 a3_sums, aJ cy (ad 29) 4 a4_sums, aJ cy (ad 30) 4 a5_coming, aI cy (ad 31) 3 a5_picked, aI cy (ad 34) 8 a7_values, aI cy (ad 35) 16 a8_a, aI cy (ad 36) 4 a8_b, aI cy (ad 37) 4 a8_e, aI cy (ad 38) 4 a8_h, aZ cy (ad 39) 16 a9_isOn, aI cy (ad 40) 16 a9_timesOn]) [0, 1, 2, 3, 4, 5, 7, 8, 9, 10, 11, 12, 13, 14, 15, 16, 17, 18, 19] (by decide) rfl
    refine k_cali (wc := [oX3 ad s3_next s3_kept, oX4 ad s4_ticks s4_firstBeganWith s4_secondBefore s4_thirdBefore s4_thirdTwoBefore, oX5 ad s5_kind s5_sums, oX7 ad s7_over s7_count, oX8 ad s8_sums s8_g, oX9 ad s9_parts s9_rule s9_hand, aI cy (ad 25) 256 a3_wishes, aI cy (ad 26) 256 a3_givens, aJ cy (ad 27) 256 a3_sums, aJ cy (ad 29) 4 a4_sums, aJ cy (ad 30) 4 a5_coming, aI cy (ad 31) 3 a5_picked, aI cy (ad 34) 8 a7_values, aI cy (ad 35) 16 a8_a, aI cy (ad 36) 4 a8_b, aI cy (ad 37) 4 a8_e, aI cy (ad 38) 4 a8_h, aZ cy (ad 39) 16 a9_isOn, aI cy (ad 40) 16 a9_timesOn]) (wr := [oX10 ad ]) (va_runV (As := [.int x1]) (rest := []) ⟨hx, hb, hml, hown, hts⟩ (m_X4_turn l D cy ad s3_next s3_kept s4_ticks s4_firstBeganWith s4_secondBefore s4_thirdBefore s4_thirdTwoBefore s5_kind s5_sums s7_over s7_count s8_sums s8_g s9_parts s9_rule s9_hand a3_wishes a3_givens a3_sums a4_sums a5_coming a5_picked a7_values a8_a a8_b a8_e a8_h a9_isOn a9_timesOn x1 H.size hv) (cwV 1 hts gX10_tick_X4_turn rfl rfl rfl (by decide +kernel) ⟨Nat.le_of_ble_eq_true rfl, Nat.le_of_ble_eq_true rfl⟩) ⟨wd_blind, va_recv hK hPc (ci := 4) (q0 := 1) rfl rfl, wd_ok hPc hK hDc hN⟩ rfl rfl hl.1 rfl (lv_room (Nat.le_of_ble_eq_true rfl)) dX10_tick_12 ⟨Nat.le_of_ble_eq_true rfl, Nat.le_of_ble_eq_true rfl⟩) hP hD hS hA [0, 1, 2, 3, 4, 5, 7, 8, 9, 10, 11, 12, 13, 14, 15, 16, 17, 18, 19] [6] rfl rfl (by decide) (by decide) (fun r2 u H locs hv hP hD hS => ?_)
    obtain ⟨s3_next_3, s3_kept_4, s4_ticks_5, s4_secondBefore_6, s4_thirdBefore_7, s4_thirdTwoBefore_8, s9_hand_9, a3_wishes_10, a3_givens_11, a3_sums_12, a4_sums_13, a5_coming_14, a5_picked_15, a9_isOn_16, a9_timesOn_17⟩ := u
    have hP : va_P D vwCl [oX3 ad s3_next_3 s3_kept_4, oX4 ad s4_ticks_5 s4_firstBeganWith s4_secondBefore_6 s4_thirdBefore_7 s4_thirdTwoBefore_8, oX5 ad s5_kind s5_sums, oX7 ad s7_over s7_count, oX8 ad s8_sums s8_g, oX9 ad s9_parts s9_rule s9_hand_9, oX10 ad , aI cy (ad 25) 256 a3_wishes_10, aI cy (ad 26) 256 a3_givens_11, aJ cy (ad 27) 256 a3_sums_12, aJ cy (ad 29) 4 a4_sums_13, aJ cy (ad 30) 4 a5_coming_14, aI cy (ad 31) 3 a5_picked_15, aI cy (ad 34) 8 a7_values, aI cy (ad 35) 16 a8_a, aI cy (ad 36) 4 a8_b, aI cy (ad 37) 4 a8_e, aI cy (ad 38) 4 a8_h, aZ cy (ad 39) 16 a9_isOn_16, aI cy (ad 40) 16 a9_timesOn_17] H := hP.sub [1, 2, 3, 4, 5, 6, 0, 7, 8, 9, 10, 11, 12, 13, 14, 15, 16, 17, 18, 19] rfl
    have hD : va_D A [oX3 ad s3_next_3 s3_kept_4, oX4 ad s4_ticks_5 s4_firstBeganWith s4_secondBefore_6 s4_thirdBefore_7 s4_thirdTwoBefore_8, oX5 ad s5_kind s5_sums, oX7 ad s7_over s7_count, oX8 ad s8_sums s8_g, oX9 ad s9_parts s9_rule s9_hand_9, oX10 ad , aI cy (ad 25) 256 a3_wishes_10, aI cy (ad 26) 256 a3_givens_11, aJ cy (ad 27) 256 a3_sums_12, aJ cy (ad 29) 4 a4_sums_13, aJ cy (ad 30) 4 a5_coming_14, aI cy (ad 31) 3 a5_picked_15, aI cy (ad 34) 8 a7_values, aI cy (ad 35) 16 a8_a, aI cy (ad 36) 4 a8_b, aI cy (ad 37) 4 a8_e, aI cy (ad 38) 4 a8_h, aZ cy (ad 39) 16 a9_isOn_16, aI cy (ad 40) 16 a9_timesOn_17] := hD.sub [1, 2, 3, 4, 5, 6, 0, 7, 8, 9, 10, 11, 12, 13, 14, 15, 16, 17, 18, 19] (by decide) rfl
    refine lv_goto (tgt := 20) hx hb dX10_tick_15 (by decide) ?_
    rw [← hQ]
    exact k_iret hx hb hr hlocks hS (s3_next_3, s3_kept_4, s4_ticks_5, s4_secondBefore_6, s4_thirdBefore_7, s4_thirdTwoBefore_8, s9_hand_9, a3_wishes_10, a3_givens_11, a3_sums_12, a4_sums_13, a5_coming_14, a5_picked_15, a9_isOn_16, a9_timesOn_17) hP hD hv dX10_tick_20
