/-! pure: tick and run, both -/
theorem tkF_tab {kd ov g g' rl w : Int32} {n c p : Nat} {vals aa b e hh aa' b' e' hh' : Nat → Int32} (h : kd = 2 → g = g' ∧ aa = aa' ∧ b = b' ∧ e = e' ∧ hh = hh') : tkF kd n c ov vals g aa b e hh p rl w = tkF kd n c ov vals g' aa' b' e' hh' p rl w := by
  have h1 := toF_tab (n := n) (c := c) (ov := ov) (vals := vals) h
  have h2 := mdF_tab (n := n) (c := c) (ov := ov) (vals := vals) (fun q => ⟨(h q).1, (h q).2.2.2.2⟩)
  funext ⟨t, su, sb, tb, tt, h, on, ot, wi, gv, hs⟩
  simp only [tkF, h1, h2]
theorem okP_tab {kd ov g g' w : Int32} {n c : Nat} {vals aa b e hh aa' b' e' hh' : Nat → Int32} (h : kd = 2 → g = g' ∧ aa = aa' ∧ b = b' ∧ e = e' ∧ hh = hh') : okP kd n c ov vals g aa b e hh w = okP kd n c ov vals g' aa' b' e' hh' w := by
  have h1 := toF_tab (n := n) (c := c) (ov := ov) (vals := vals) h
  funext ⟨t, su, sb, tb, tt, h, on, ot, wi, gv, hs⟩
  simp only [okP, h1]
theorem enP_tab {kd ov g g' rl w : Int32} {n c p : Nat} {vals aa b e hh aa' b' e' hh' : Nat → Int32} (h : kd = 2 → g = g' ∧ aa = aa' ∧ b = b' ∧ e = e' ∧ hh = hh') : enP kd n c ov vals g aa b e hh p rl w = enP kd n c ov vals g' aa' b' e' hh' p rl w := by
  funext σ m k
  unfold enP
  rw [tkF_tab h, okP_tab h]
theorem QL_mono {T T' : Nat} {s5_kind s5_sums s7_count s3_next s3_kept s4_ticks s4_secondBefore s4_thirdBefore s4_thirdTwoBefore s11_ticks s11_beganElsewhere s11_dBefore s11_fBefore s11_fFirst : Int32} {s4_firstBeganWith : Int64} {a7_values a3_wishes a3_givens a3_totals a11_wished a11_given : Nat → Int32} {a4_sums a3_sums a11_sums a11_firstSum : Nat → Int64} (h : QL T s5_kind s5_sums s7_count a7_values s3_next s3_kept s4_ticks s4_firstBeganWith s4_secondBefore s4_thirdBefore s4_thirdTwoBefore a4_sums a3_wishes a3_givens a3_sums a3_totals s11_ticks s11_beganElsewhere s11_dBefore s11_fBefore s11_fFirst a11_sums a11_wished a11_given a11_firstSum) (hT : T ≤ T') : QL T' s5_kind s5_sums s7_count a7_values s3_next s3_kept s4_ticks s4_firstBeganWith s4_secondBefore s4_thirdBefore s4_thirdTwoBefore a4_sums a3_wishes a3_givens a3_sums a3_totals s11_ticks s11_beganElsewhere s11_dBefore s11_fBefore s11_fFirst a11_sums a11_wished a11_given a11_firstSum := by
  obtain ⟨t, h1, h2⟩ := h
  exact ⟨t, by omega, h2⟩
theorem QL_of {kd sm cn be sb tb tt : Int32} {fb : Int64} {vals on ot wi gv tot : Nat → Int32} {su hs : Nat → Int64} {n c p t h T : Nat} (hI : stI kd n c vals p fb (t, su, sb, tb, tt, h, on, ot, wi, gv, hs)) (hn : sm = nI n) (n4 : n ≤ 4) (hc : cn = nI c) (c8 : c ≤ 8) (hT : t ≤ T) (htot : tot 0 = 0) (hfb : (be = 0 ∧ fb = 0) ∨ (be = 1 ∧ ¬ fb = 0)) :
    QL T kd sm cn vals (nI (t % 256)) (nI (ktF t)) (nI t) fb sb tb tt su wi gv hs tot (nI t) be sb tb tt su wi gv hs := by
  obtain ⟨i1, i2, i3, i4, i5, i6, i7, i8, i9⟩ := hI
  refine ⟨t, hT, rfl, rfl, rfl, rfl, rfl, rfl, rfl, rfl, htot, rfl, rfl, rfl, i2, i3, i4, fun q => i5 (fun z => q ?_), i6, hfb, i9, fun k0 k hk => ?_⟩
  · rw [hn, z]; rfl
  · obtain ⟨j, hj, he⟩ := i8 k0 k hk
    exact ⟨j, c, hc, c8, hj, he⟩
theorem QW_of {kd pa rl : Int32} {fb : Int64} {vals on ot wi gv : Nat → Int32} {su hs : Nat → Int64} {sb tb tt : Int32} {n c p t h : Nat} (hI : stI kd n c vals p fb (t, su, sb, tb, tt, h, on, ot, wi, gv, hs)) (hp : pa = nI p) (p16 : p ≤ 16) (hp4 : kd = 4 → 2 ≤ p) (hpn : ¬ kd = 4 → p = 0) (hrl : rl = 0 ∨ rl = 1) :
    QW kd pa rl (nI h) on ot pa rl (nI h) on ot := by
  obtain ⟨i1, i2, i3, i4, i5, i6, i7, i8, i9⟩ := hI
  exact ⟨p, h, hp, hp, p16, hp4, hpn, rfl, hrl, rfl, rfl, i1, rfl, rfl, i7⟩
theorem op_tick {s3_next s3_kept s4_ticks s4_secondBefore s4_thirdBefore s4_thirdTwoBefore s5_kind s5_sums s7_over s7_count s8_sums s8_g s9_parts s9_rule s9_hand s11_d s11_stepMany s11_kind s11_many s11_partMany s11_rule s11_ticks s11_hand s11_g s11_dBefore s11_fBefore s11_fFirst s11_beganElsewhere x1 : Int32} {a3_wishes a3_givens a5_picked a7_values a8_a a8_b a8_e a8_h a9_isOn a9_timesOn a11_steps a11_a a11_b a11_e a11_h a11_on a11_often a11_given a11_wished a11_made a3_totals : Nat → Int32} {a3_sums a4_sums a5_coming a11_sums a11_firstSum a11_now a11_to : Nat → Int64} {T : Nat} {s4_firstBeganWith : Int64} (hQK : QK s5_kind s5_sums s8_sums s8_g a8_a a8_b a8_e a8_h s11_kind s11_many s11_g a11_a a11_b a11_e a11_h) (hQL : QL T s5_kind s5_sums s7_count a7_values s3_next s3_kept s4_ticks s4_firstBeganWith s4_secondBefore s4_thirdBefore s4_thirdTwoBefore a4_sums a3_wishes a3_givens a3_sums a3_totals s11_ticks s11_beganElsewhere s11_dBefore s11_fBefore s11_fFirst a11_sums a11_wished a11_given a11_firstSum) (hQS : QS s7_over s7_count a7_values s11_d s11_stepMany a11_steps) (hQW : QW s5_kind s9_parts s9_rule s9_hand a9_isOn a9_timesOn s11_partMany s11_rule s11_hand a11_on a11_often) (hT : T + 10000 < 1073741824) : v_X10_tick s3_next s3_kept s4_ticks s4_secondBefore s4_thirdBefore s4_thirdTwoBefore s5_kind s5_sums s7_over s7_count s8_sums s8_g s9_parts s9_rule s9_hand a3_wishes a3_givens a3_sums a4_sums a5_coming a5_picked a7_values a8_a a8_b a8_e a8_h a9_isOn a9_timesOn x1 (fun r s3_next' s3_kept' s4_ticks' s4_secondBefore' s4_thirdBefore' s4_thirdTwoBefore' s9_hand' a3_wishes' a3_givens' a3_sums' a4_sums' a5_coming' a5_picked' a9_isOn' a9_timesOn' => v_X11_tick s11_d s11_stepMany s11_kind s11_many s11_partMany s11_rule s11_ticks s11_hand s11_g s11_dBefore s11_fBefore s11_fFirst a11_steps a11_a a11_b a11_e a11_h a11_sums a11_on a11_often a11_given a11_wished a11_firstSum a11_now a11_to a11_made x1 (fun r' s11_ticks' s11_hand' s11_dBefore' s11_fBefore' s11_fFirst' a11_sums' a11_on' a11_often' a11_given' a11_wished' a11_firstSum' a11_now' a11_to' a11_made' => r = r' ∧ QW s5_kind s9_parts s9_rule s9_hand' a9_isOn' a9_timesOn' s11_partMany s11_rule s11_hand' a11_on' a11_often' ∧ QL (T + 10000) s5_kind s5_sums s7_count a7_values s3_next' s3_kept' s4_ticks' s4_firstBeganWith s4_secondBefore' s4_thirdBefore' s4_thirdTwoBefore' a4_sums' a3_wishes' a3_givens' a3_sums' a3_totals s11_ticks' s11_beganElsewhere s11_dBefore' s11_fBefore' s11_fFirst' a11_sums' a11_wished' a11_given' a11_firstSum')) := by
  have stay := QL_mono hQL (T' := T + 10000) (by omega)
  by_cases q3 : ¬ wishP x1
  · exact s_X10_isWish (fun z => absurd z q3) (fun _ => ⟨fun _ => s_X11_isWish (fun z => absurd z q3) (fun _ => ⟨fun _ => ⟨rfl, hQW, stay⟩, fun z => absurd rfl z⟩), fun z => absurd rfl z⟩)
  have q3 : wishP x1 := Classical.not_not.mp q3
  obtain ⟨n, k1, k2, k3, k4, k5, -, -, -, -, kt⟩ := hQK
  obtain ⟨c, s1, s2, s3, s4, s5, s6, s7, s8⟩ := hQS
  have hQW' := hQW
  obtain ⟨p, h, w1, w2, w3, w4, w5, w6, w7, w8, w9, w10, w11, w12, w13⟩ := hQW
  obtain ⟨t, l1, l2, l3, l4, l5, l6, l7, l8, l9, l10, l11, l12, l13, l14, l15, l16, l17, l18, l19, l20, l21⟩ := hQL
  subst k1 s5 s6 w6 w11 w12 l6 l7 l8 l9 l11 l12 l13
  have n4 := k4.2.1
  have nn : s5_sums = 3 ↔ n = 3 := by rw [k2]; exact nI_eq (b := 3) (by omega) (by omega)
  have hI : stI s5_kind n c a7_values p s4_firstBeganWith (t, a4_sums, s4_secondBefore, s4_thirdBefore, s4_thirdTwoBefore, h, a9_isOn, a9_timesOn, a3_wishes, a3_givens, a3_sums) := by
    refine ⟨w10, l14, l15, l16, fun q => l17 (fun z => q (nn.mp z)), l18, w13, fun k0 k hk => ?_, l20⟩
    obtain ⟨j, c', hc', c8', hj, he⟩ := l21 k0 k hk
    have : c = c' := (nI_eq (by omega) (by omega)).mp (by rw [← s1, hc'])
    subst this
    exact ⟨j, hj, he⟩
  have kt' : s5_kind = 2 → s8_g = s11_g ∧ a8_a = a11_a ∧ a8_b = a11_b ∧ a8_e = a11_e ∧ a8_h = a11_h := fun q => (kt q).2
  have eT := toF_tab (n := n) (c := c) (ov := s7_over) (vals := a7_values) kt'
  have eM := mdF_tab (n := n) (c := c) (ov := s7_over) (vals := a7_values) (fun q => ⟨(kt' q).1, (kt' q).2.2.2.2⟩)
  have step := stI_step (ov := s7_over) (g := s8_g) (rl := s9_rule) (w := x1) (aa := a8_a) (b := a8_b) (e := a8_e) (hh := a8_h) (show 1 ≤ c by omega) s8 _ hI
  refine s_X10_isWish (fun _ => ⟨fun z => absurd z r1n, fun _ => ?_⟩) (fun z => absurd q3 z)
  refine s_X4_turn s1 (by omega) s4 k2 k4 k5 (fun q => (kt q).1) w1 w3 w8 w10 l4 l5 l2 (fun cm' pk' md gg hmd hgg hnr => ?_) (fun cm' pk' hx => ?_)
  · refine s_X11_isWish (fun _ => ⟨fun z => absurd z r1n, fun _ => ?_⟩) (fun z => absurd q3 z)
    refine s_X11_done s2 (by omega) s4 k3 k4 k5 w2 w3 w4 w5 w7 w9 w10 l3 (by omega) (fun q => l17 (fun z => q (nn.mp z))) (fun now' to' md2 md' gg' hmd' hgg' hnr' => ⟨fun z => absurd z r1n, fun _ => ?_⟩) (fun now' to' md2 hx => ?_)
    · rw [← eT]
      rw [← eM, ← hmd] at hmd'
      subst hmd'
      rw [← hgg] at hgg'
      subst hgg'
      intro e17 he17 e18 he18
      rw [nI_s1] at he17
      subst he17
      have ix : e18 = nI (t % 256) := by rw [he18]; exact pk_rem (d := 256) (by omega) (by omega) (by omega)
      have hl : t % 256 < 256 := Nat.mod_lt _ (by decide)
      rw [ix]
      refine ⟨nI_inI hl (by decide), ?_⟩
      intro g19 hg19
      rw [nI_cl (by omega), upd_self] at hg19
      subst hmd hgg
      have e2 : s11_partMany = s9_parts := by rw [w1, w2]
      rw [e2]
      exact ⟨hg19.symm, QW_of step w1 w3 w4 w5 w7, QL_of step k2 n4 s1 s4 (by omega) l10 l19⟩
    · exfalso
      obtain ⟨k, hk, hq⟩ := hx
      rw [← eT] at hq
      exact hq (hnr k hk)
  · refine s_X11_isWish (fun _ => ⟨fun z => absurd z r1n, fun _ => ?_⟩) (fun z => absurd q3 z)
    refine s_X11_done s2 (by omega) s4 k3 k4 k5 w2 w3 w4 w5 w7 w9 w10 l3 (by omega) (fun q => l17 (fun z => q (nn.mp z))) (fun now' to' md2 md' gg' hmd' hgg' hnr' => ?_) (fun now' to' md2 hx => ⟨fun _ => ⟨rfl, hQW', stay⟩, fun z => absurd rfl z⟩)
    exfalso
    obtain ⟨k, hk, hq⟩ := hx
    rw [eT] at hq
    exact hq (hnr' k hk)
theorem op_run {s3_next s3_kept s4_ticks s4_secondBefore s4_thirdBefore s4_thirdTwoBefore s5_kind s5_sums s7_over s7_count s8_sums s8_g s9_parts s9_rule s9_hand s11_d s11_stepMany s11_kind s11_many s11_partMany s11_rule s11_ticks s11_hand s11_g s11_dBefore s11_fBefore s11_fFirst s11_beganElsewhere x1 x2 : Int32} {a3_wishes a3_givens a5_picked a7_values a8_a a8_b a8_e a8_h a9_isOn a9_timesOn a11_steps a11_a a11_b a11_e a11_h a11_on a11_often a11_given a11_wished a11_made a3_totals : Nat → Int32} {a3_sums a4_sums a5_coming a11_sums a11_firstSum a11_now a11_to : Nat → Int64} {T : Nat} {s4_firstBeganWith : Int64} (hQK : QK s5_kind s5_sums s8_sums s8_g a8_a a8_b a8_e a8_h s11_kind s11_many s11_g a11_a a11_b a11_e a11_h) (hQL : QL T s5_kind s5_sums s7_count a7_values s3_next s3_kept s4_ticks s4_firstBeganWith s4_secondBefore s4_thirdBefore s4_thirdTwoBefore a4_sums a3_wishes a3_givens a3_sums a3_totals s11_ticks s11_beganElsewhere s11_dBefore s11_fBefore s11_fFirst a11_sums a11_wished a11_given a11_firstSum) (hQS : QS s7_over s7_count a7_values s11_d s11_stepMany a11_steps) (hQW : QW s5_kind s9_parts s9_rule s9_hand a9_isOn a9_timesOn s11_partMany s11_rule s11_hand a11_on a11_often) (hT : T + 10000 < 1073741824) : v_X10_run s3_next s3_kept s4_ticks s4_secondBefore s4_thirdBefore s4_thirdTwoBefore s5_kind s5_sums s7_over s7_count s8_sums s8_g s9_parts s9_rule s9_hand a3_wishes a3_givens a3_sums a4_sums a5_coming a5_picked a7_values a8_a a8_b a8_e a8_h a9_isOn a9_timesOn x1 x2 (fun r s3_next' s3_kept' s4_ticks' s4_secondBefore' s4_thirdBefore' s4_thirdTwoBefore' s9_hand' a3_wishes' a3_givens' a3_sums' a4_sums' a5_coming' a5_picked' a9_isOn' a9_timesOn' => v_X11_run s11_d s11_stepMany s11_kind s11_many s11_partMany s11_rule s11_ticks s11_hand s11_g s11_dBefore s11_fBefore s11_fFirst a11_steps a11_a a11_b a11_e a11_h a11_sums a11_on a11_often a11_given a11_wished a11_firstSum a11_now a11_to a11_made x1 x2 (fun r' s11_ticks' s11_hand' s11_dBefore' s11_fBefore' s11_fFirst' a11_sums' a11_on' a11_often' a11_given' a11_wished' a11_firstSum' a11_now' a11_to' a11_made' => r = r' ∧ QW s5_kind s9_parts s9_rule s9_hand' a9_isOn' a9_timesOn' s11_partMany s11_rule s11_hand' a11_on' a11_often' ∧ QL (T + 10000) s5_kind s5_sums s7_count a7_values s3_next' s3_kept' s4_ticks' s4_firstBeganWith s4_secondBefore' s4_thirdBefore' s4_thirdTwoBefore' a4_sums' a3_wishes' a3_givens' a3_sums' a3_totals s11_ticks' s11_beganElsewhere s11_dBefore' s11_fBefore' s11_fFirst' a11_sums' a11_wished' a11_given' a11_firstSum')) := by
  have stay := QL_mono hQL (T' := T + 10000) (by omega)
  by_cases q1 : x1 < 0
  · exact ⟨fun _ => ⟨fun _ => ⟨rfl, hQW, stay⟩, fun z => absurd q1 z⟩, fun z => absurd q1 z⟩
  by_cases q2 : (10000 : Int32) < x1
  · exact ⟨fun z => absurd z q1, fun _ => ⟨fun _ => ⟨fun z => absurd z q1, fun _ => ⟨fun _ => ⟨rfl, hQW, stay⟩, fun z => absurd q2 z⟩⟩, fun z => absurd q2 z⟩⟩
  by_cases q3 : ¬ wishP x2
  · exact ⟨fun z => absurd z q1, fun _ => ⟨fun z => absurd z q2, fun _ => s_X10_isWish (fun z => absurd z q3) (fun _ => ⟨fun z => absurd rfl z, fun _ => ⟨fun z => absurd z q1, fun _ => ⟨fun z => absurd z q2, fun _ => s_X11_isWish (fun z => absurd z q3) (fun _ => ⟨fun z => absurd rfl z, fun _ => ⟨rfl, hQW, stay⟩⟩)⟩⟩⟩)⟩⟩
  have q3 : wishP x2 := Classical.not_not.mp q3
  obtain ⟨n, k1, k2, k3, k4, k5, -, -, -, -, kt⟩ := hQK
  obtain ⟨c, s1, s2, s3, s4, s5, s6, s7, s8⟩ := hQS
  obtain ⟨p, h, w1, w2, w3, w4, w5, w6, w7, w8, w9, w10, w11, w12, w13⟩ := hQW
  obtain ⟨t, l1, l2, l3, l4, l5, l6, l7, l8, l9, l10, l11, l12, l13, l14, l15, l16, l17, l18, l19, l20, l21⟩ := hQL
  subst k1 s5 s6 w6 w11 w12 l6 l7 l8 l9 l11 l12 l13
  have n4 := k4.2.1
  have nn : s5_sums = 3 ↔ n = 3 := by rw [k2]; exact nI_eq (b := 3) (by omega) (by omega)
  have hI : stI s5_kind n c a7_values p s4_firstBeganWith (t, a4_sums, s4_secondBefore, s4_thirdBefore, s4_thirdTwoBefore, h, a9_isOn, a9_timesOn, a3_wishes, a3_givens, a3_sums) := by
    refine ⟨w10, l14, l15, l16, fun q => l17 (fun z => q (nn.mp z)), l18, w13, fun k0 k hk => ?_, l20⟩
    obtain ⟨j, c', hc', c8', hj, he⟩ := l21 k0 k hk
    have : c = c' := (nI_eq (by omega) (by omega)).mp (by rw [← s1, hc'])
    subst this
    exact ⟨j, hj, he⟩
  have kt' : s5_kind = 2 → s8_g = s11_g ∧ a8_a = a11_a ∧ a8_b = a11_b ∧ a8_e = a11_e ∧ a8_h = a11_h := fun q => (kt q).2
  have hx1 : x1 = nI x1.toInt.toNat := by
    rw [Int32.lt_iff_toInt_lt, t32_0] at q1
    exact nI_tn (by omega)
  have hm : x1.toInt.toNat ≤ 10000 := by
    have t4 : (10000 : Int32).toInt = 10000 := by decide
    rw [Int32.lt_iff_toInt_lt, t4] at q2
    omega
  refine s_X10_run s1 (by omega) s4 s8 k2 k4 k5 (fun q => (kt q).1) w1 w3 w8 l4 l5 l2 hx1 hm q3 hI (fun k t' h' su' hs' cm' sb' tb' tt' on' ot' wi' gv' pk' hen hit => ?_)
  refine s_X11_run s2 (by omega) s4 s8 k3 k4 k5 w2 w3 w4 w5 w7 w9 l3 (by omega) hx1 hm q3 hI (fun k2 t2 h2 su2 hs2 now' to' sb2 tb2 tt2 on2 ot2 wi2 gv2 md' hen2 hit2 => ?_)
  rw [← enP_tab kt'] at hen2
  rw [← tkF_tab kt'] at hit2
  have ek := en_uniq hen hen2
  subst ek
  rw [hit] at hit2
  simp only [Prod.mk.injEq] at hit2
  obtain ⟨rfl, rfl, rfl, rfl, rfl, rfl, rfl, rfl, rfl, rfl, rfl⟩ := hit2
  have iI := it_I (ov := s7_over) (g := s8_g) (rl := s9_rule) (w := x2) (aa := a8_a) (b := a8_b) (e := a8_e) (hh := a8_h) (show 1 ≤ c by omega) s8 _ hI k
  have iT := it_t (kd := s5_kind) (ov := s7_over) (g := s8_g) (rl := s9_rule) (w := x2) (n := n) (c := c) (p := p) (vals := a7_values) (aa := a8_a) (b := a8_b) (e := a8_e) (hh := a8_h) (t, a4_sums, s4_secondBefore, s4_thirdBefore, s4_thirdTwoBefore, h, a9_isOn, a9_timesOn, a3_wishes, a3_givens, a3_sums) k
  rw [hit] at iI iT
  have iT : t' = t + k := iT
  have hk := hen.1
  have e2 : s11_partMany = s9_parts := by rw [w1, w2]
  rw [e2]
  exact ⟨rfl, QW_of iI w1 w3 w4 w5 w7, QL_of iI k2 n4 s1 s4 (by omega) l10 l19⟩
