theorem op_clear {s2_count s11_weightMany : Int32} {a2_weights a11_weights : Nat → Int32} (hQF : QF s2_count a2_weights s11_weightMany a11_weights) : v_X10_clear s2_count  (fun r s2_count' => v_X11_clear s11_weightMany  (fun r' s11_weightMany' => r = r' ∧ QF s2_count' a2_weights s11_weightMany' a11_weights)) := by
  obtain ⟨wc, h1, h2, h3, h4⟩ := hQF
  subst h1 h2
  exact ⟨rfl, 0, rfl, rfl, by omega, h4⟩
theorem op_weight {s2_count s11_weightMany x1 : Int32} {a2_weights a11_weights : Nat → Int32} (hQF : QF s2_count a2_weights s11_weightMany a11_weights) : v_X10_weight s2_count a2_weights x1 (fun r s2_count' a2_weights' => v_X11_weight s11_weightMany a11_weights x1 (fun r' s11_weightMany' a11_weights' => r = r' ∧ QF s2_count' a2_weights' s11_weightMany' a11_weights')) := by
  obtain ⟨wc, h1, h2, h3, h4⟩ := hQF
  subst h1 h2 h4
  have same : QF (nI wc) a2_weights (nI wc) a2_weights := ⟨wc, rfl, rfl, h3, rfl⟩
  refine s_X10_isWithin (fun h => ⟨fun z => absurd z r1n, fun _ => ⟨fun q => ?_, fun q => ?_⟩⟩) (fun h => ⟨fun _ => ⟨fun _ => ⟨rfl, same⟩, fun _ => ⟨fun _ => ⟨rfl, same⟩, fun q2 => ⟨fun q3 => ?_, fun _ => ⟨rfl, same⟩⟩⟩⟩, fun z => absurd rfl z⟩)
  · have q : wc < 64 := (nI_lt_iff (b := 64) (by omega) (by omega)).mp q
    refine ⟨nI_inI q (by decide), ?_⟩
    intro w1 hw1 e2 he2
    refine ⟨fun z => ?_, fun _ => ⟨fun z => absurd z h.1, fun _ => ⟨fun _ => ⟨nI_inI q (by decide), ?_⟩, fun z => absurd (Int32.not_lt.mp h.2) z⟩⟩⟩
    · have : wc = 64 := (nI_eq (b := 64) (by omega) (by omega)).mp z
      omega
    · intro w2 hw2 e3 he3
      refine ⟨by rw [he2, he3], wc + 1, ?_, ?_, by omega, by rw [hw1, hw2]⟩
      · rw [he2]; exact nI_1 wc
      · rw [he3]; exact nI_1 wc
  · have q : wc = 64 := by
      rcases Nat.lt_or_ge wc 64 with z | z
      · exact absurd ((nI_lt_iff (b := 64) (by omega) (by omega)).mpr z) q
      · omega
    exact ⟨fun _ => ⟨rfl, same⟩, fun z => absurd (by rw [q]; rfl) z⟩
  · exfalso
    exact h ⟨q2, fun z => absurd q3 (Int32.not_le.mpr z)⟩
theorem op_step {s7_count s11_stepMany s7_over s11_d x1 : Int32} {a7_values a11_steps : Nat → Int32} (hQS : QS s7_over s7_count a7_values s11_d s11_stepMany a11_steps) : v_X10_step s7_count a7_values x1 (fun r => v_X11_step s11_stepMany a11_steps x1 (fun r' => r = r')) := by
  obtain ⟨c, h1, h2, -, h4, -, h6, -, -⟩ := hQS
  subst h1 h2 h6
  refine ⟨fun q => ⟨fun _ => rfl, fun z => absurd q z⟩, fun q => ⟨fun q2 => ⟨fun z => absurd z q, fun _ => ⟨fun z => absurd q2 (Int32.not_le.mpr z), fun _ => rfl⟩⟩, fun q2 => ?_⟩⟩
  rcases pk_ix x1 (n := c) (by omega) with z | z | ⟨j, hj, hx⟩
  · exact absurd z q
  · exact absurd z q2
  · subst hx
    refine ⟨nI_inI (by omega) (by decide), ?_⟩
    intro g hg
    refine ⟨fun z => absurd z q, fun _ => ⟨fun _ => ⟨nI_inI (by omega) (by decide), ?_⟩, fun z => absurd (Int32.not_le.mp q2) z⟩⟩
    intro g2 hg2
    rw [hg, hg2]
theorem op_part {s9_parts s11_partMany s5_kind s9_rule s9_hand s11_rule s11_hand x1 x2 : Int32} {a9_isOn a9_timesOn a11_on a11_often : Nat → Int32} (hQW : QW s5_kind s9_parts s9_rule s9_hand a9_isOn a9_timesOn s11_partMany s11_rule s11_hand a11_on a11_often) : v_X10_part s9_parts a9_isOn a9_timesOn x1 x2 (fun r => v_X11_part s11_partMany a11_on a11_often x1 x2 (fun r' => r = r')) := by
  obtain ⟨p, h, h1, h2, h3, -, -, -, -, -, -, -, h11, h12, h13⟩ := hQW
  subst h1 h2 h11 h12
  refine ⟨fun q => ⟨fun _ => rfl, fun z => absurd q z⟩, fun q => ⟨fun q2 => ?_, fun q2 => ⟨fun z => absurd z q, fun _ => ⟨fun _ => rfl, fun z => absurd (Int32.not_lt.mp q2) z⟩⟩⟩⟩
  rcases pk_ix x1 (n := p) (by omega) with z | z | ⟨j, hj, hx⟩
  · exact absurd z q
  · exact absurd q2 (Int32.not_lt.mpr z)
  · subst hx
    have go : ∀ K : Int32 → Prop, (x2 < 0 → K (-1)) ∧ (¬ x2 < 0 → ((x2 ≤ (1 : Int32) → (¬ x2 = 0 → K (a9_timesOn j)) ∧ (x2 = 0 → K (a9_isOn j))) ∧ (¬ x2 ≤ (1 : Int32) → K (-1)))) → v_X11_part (nI p) a9_isOn a9_timesOn (nI j) x2 K := by
      intro K hK
      refine ⟨fun z => absurd z q, fun _ => ⟨fun z => absurd z (Int32.not_le.mpr q2), fun _ => ⟨hK.1, fun y => ⟨fun y1 => ⟨fun y2 => ⟨nI_inI (by omega) (by decide), ?_⟩, fun y2 => ⟨nI_inI (by omega) (by decide), ?_⟩⟩, (hK.2 y).2⟩⟩⟩⟩
      · intro g hg
        rw [hg, nI_cl (by omega)]
        exact ((hK.2 y).1 y1).1 y2
      · intro g hg
        rw [hg, nI_cl (by omega)]
        exact ((hK.2 y).1 y1).2 y2
    refine ⟨fun e0 => ⟨nI_inI (by omega) (by decide), ?_⟩, fun e1 => ⟨nI_inI (by omega) (by decide), ?_⟩, fun e0 e1 => ?_⟩
    · intro g hg
      rw [nI_cl (by omega)] at hg
      subst e0
      refine ⟨fun z => go _ ⟨fun y => absurd y (by decide), fun _ => ⟨fun _ => ⟨fun y => absurd rfl y, fun _ => by rw [← hg, z]⟩, fun y => absurd (by decide) y⟩⟩, fun z => go _ ⟨fun y => absurd y (by decide), fun _ => ⟨fun _ => ⟨fun y => absurd rfl y, fun _ => ?_⟩, fun y => absurd (by decide) y⟩⟩⟩
      rcases h13 j with w | w
      · rw [← hg] at w
        exact absurd w z
      · rw [w]
    · intro g hg
      rw [nI_cl (by omega)] at hg
      subst e1
      exact go _ ⟨fun y => absurd y (by decide), fun _ => ⟨fun _ => ⟨fun _ => hg, fun y => absurd y (by decide)⟩, fun y => absurd (by decide) y⟩⟩
    · refine go _ ⟨fun _ => rfl, fun y => ⟨fun y1 => ?_, fun _ => rfl⟩⟩
      exfalso
      rw [Int32.lt_iff_toInt_lt, t32_0] at y
      rw [Int32.le_iff_toInt_le, t32_1] at y1
      have n0 : x2.toInt ≠ (0 : Int32).toInt := fun z => e0 (Int32.toInt_inj.mp z)
      have n1 : x2.toInt ≠ (1 : Int32).toInt := fun z => e1 (Int32.toInt_inj.mp z)
      rw [t32_0] at n0
      rw [t32_1] at n1
      omega
theorem op_about {s2_count s3_kept s4_ticks s5_kind s5_sums s7_over s7_count s9_parts s9_hand s11_d s11_stepMany s11_kind s11_many s11_partMany s11_ticks s11_hand s11_weightMany s8_sums s8_g s11_g s3_next s4_secondBefore s4_thirdBefore s4_thirdTwoBefore s11_beganElsewhere s11_dBefore s11_fBefore s11_fFirst s9_rule s11_rule x1 : Int32} {a2_weights a11_weights a8_a a8_b a8_e a8_h a11_a a11_b a11_e a11_h a7_values a3_wishes a3_givens a3_totals a11_wished a11_given a11_steps a9_isOn a9_timesOn a11_on a11_often : Nat → Int32} {T : Nat} {s4_firstBeganWith : Int64} {a4_sums a3_sums a11_sums a11_firstSum : Nat → Int64} (hQF : QF s2_count a2_weights s11_weightMany a11_weights) (hQK : QK s5_kind s5_sums s8_sums s8_g a8_a a8_b a8_e a8_h s11_kind s11_many s11_g a11_a a11_b a11_e a11_h) (hQL : QL T s5_kind s5_sums s7_count a7_values s3_next s3_kept s4_ticks s4_firstBeganWith s4_secondBefore s4_thirdBefore s4_thirdTwoBefore a4_sums a3_wishes a3_givens a3_sums a3_totals s11_ticks s11_beganElsewhere s11_dBefore s11_fBefore s11_fFirst a11_sums a11_wished a11_given a11_firstSum) (hQS : QS s7_over s7_count a7_values s11_d s11_stepMany a11_steps) (hQW : QW s5_kind s9_parts s9_rule s9_hand a9_isOn a9_timesOn s11_partMany s11_rule s11_hand a11_on a11_often) (hT : T + 10000 < 1073741824) : v_X10_about s2_count s3_kept s4_ticks s5_kind s5_sums s7_over s7_count s9_parts s9_hand x1 (fun r => v_X11_about s11_d s11_stepMany s11_kind s11_many s11_partMany s11_ticks s11_hand s11_weightMany x1 (fun r' => r = r')) := by
  obtain ⟨wc, f1, f2, f3, f4⟩ := hQF
  obtain ⟨n, k1, k2, k3, -⟩ := hQK
  obtain ⟨t, l1, l2, l3, l4, l5, -⟩ := hQL
  obtain ⟨c, s1, s2, -, -, s5, -⟩ := hQS
  obtain ⟨p, h, w1, w2, -, -, -, -, -, w8, w9, -⟩ := hQW
  have o : ∀ K : Int32 → Prop, ∀ hx : ((x1 = 0 → K s7_over) ∧ (x1 = 1 → K s7_count) ∧ (x1 = 2 → K s5_kind) ∧ (x1 = 3 → K s5_sums) ∧ (x1 = 4 → K s9_parts) ∧ (x1 = 5 → K s4_ticks) ∧ (x1 = 6 → K s3_kept) ∧ (x1 = 7 → K s2_count) ∧ (x1 = 8 → K s9_hand) ∧ (¬ x1 = 0 → ¬ x1 = 1 → ¬ x1 = 2 → ¬ x1 = 3 → ¬ x1 = 4 → ¬ x1 = 5 → ¬ x1 = 6 → ¬ x1 = 7 → ¬ x1 = 8 → K (-1))), v_X11_about s11_d s11_stepMany s11_kind s11_many s11_partMany s11_ticks s11_hand s11_weightMany x1 K := by
    rintro K ⟨a0, a1, a2, a3, a4, a5, a6, a7, a8, a9⟩
    refine ⟨fun e => ?_, fun e => ?_, fun e => ?_, fun e => ?_, fun e => ?_, fun e => ?_, fun e => ?_, fun e => ?_, fun e => ?_, a9⟩
    · rw [← s5]; exact a0 e
    · rw [s2, ← s1]; exact a1 e
    · rw [← k1]; exact a2 e
    · rw [k3, ← k2]; exact a3 e
    · rw [w2, ← w1]; exact a4 e
    · rw [l3, ← l2]; exact a5 e
    · refine s_X11_kept l3 (by omega) ?_
      rw [← l5]; exact a6 e
    · rw [f2, ← f1]; exact a7 e
    · rw [w9, ← w8]; exact a8 e
  have n01 : ∀ a b : Int32, x1 = a → x1 = b → a = b := fun a b h1 h2 => by rw [← h1, h2]
  refine ⟨fun e => ?_, fun e => ?_, fun e => ?_, fun e => ?_, fun e => ?_, fun e => ?_, fun e => ?_, fun e => ?_, fun e => ?_, fun b0 b1 b2 b3 b4 b5 b6 b7 b8 => ?_⟩
  · exact o _ ⟨fun _ => rfl, fun y => absurd (n01 _ _ e y) (by decide), fun y => absurd (n01 _ _ e y) (by decide), fun y => absurd (n01 _ _ e y) (by decide), fun y => absurd (n01 _ _ e y) (by decide), fun y => absurd (n01 _ _ e y) (by decide), fun y => absurd (n01 _ _ e y) (by decide), fun y => absurd (n01 _ _ e y) (by decide), fun y => absurd (n01 _ _ e y) (by decide), fun y _ _ _ _ _ _ _ _ => absurd e y⟩
  · exact o _ ⟨fun y => absurd (n01 _ _ e y) (by decide), fun _ => rfl, fun y => absurd (n01 _ _ e y) (by decide), fun y => absurd (n01 _ _ e y) (by decide), fun y => absurd (n01 _ _ e y) (by decide), fun y => absurd (n01 _ _ e y) (by decide), fun y => absurd (n01 _ _ e y) (by decide), fun y => absurd (n01 _ _ e y) (by decide), fun y => absurd (n01 _ _ e y) (by decide), fun _ y _ _ _ _ _ _ _ => absurd e y⟩
  · exact o _ ⟨fun y => absurd (n01 _ _ e y) (by decide), fun y => absurd (n01 _ _ e y) (by decide), fun _ => rfl, fun y => absurd (n01 _ _ e y) (by decide), fun y => absurd (n01 _ _ e y) (by decide), fun y => absurd (n01 _ _ e y) (by decide), fun y => absurd (n01 _ _ e y) (by decide), fun y => absurd (n01 _ _ e y) (by decide), fun y => absurd (n01 _ _ e y) (by decide), fun _ _ y _ _ _ _ _ _ => absurd e y⟩
  · exact o _ ⟨fun y => absurd (n01 _ _ e y) (by decide), fun y => absurd (n01 _ _ e y) (by decide), fun y => absurd (n01 _ _ e y) (by decide), fun _ => rfl, fun y => absurd (n01 _ _ e y) (by decide), fun y => absurd (n01 _ _ e y) (by decide), fun y => absurd (n01 _ _ e y) (by decide), fun y => absurd (n01 _ _ e y) (by decide), fun y => absurd (n01 _ _ e y) (by decide), fun _ _ _ y _ _ _ _ _ => absurd e y⟩
  · exact o _ ⟨fun y => absurd (n01 _ _ e y) (by decide), fun y => absurd (n01 _ _ e y) (by decide), fun y => absurd (n01 _ _ e y) (by decide), fun y => absurd (n01 _ _ e y) (by decide), fun _ => rfl, fun y => absurd (n01 _ _ e y) (by decide), fun y => absurd (n01 _ _ e y) (by decide), fun y => absurd (n01 _ _ e y) (by decide), fun y => absurd (n01 _ _ e y) (by decide), fun _ _ _ _ y _ _ _ _ => absurd e y⟩
  · exact o _ ⟨fun y => absurd (n01 _ _ e y) (by decide), fun y => absurd (n01 _ _ e y) (by decide), fun y => absurd (n01 _ _ e y) (by decide), fun y => absurd (n01 _ _ e y) (by decide), fun y => absurd (n01 _ _ e y) (by decide), fun _ => rfl, fun y => absurd (n01 _ _ e y) (by decide), fun y => absurd (n01 _ _ e y) (by decide), fun y => absurd (n01 _ _ e y) (by decide), fun _ _ _ _ _ y _ _ _ => absurd e y⟩
  · exact o _ ⟨fun y => absurd (n01 _ _ e y) (by decide), fun y => absurd (n01 _ _ e y) (by decide), fun y => absurd (n01 _ _ e y) (by decide), fun y => absurd (n01 _ _ e y) (by decide), fun y => absurd (n01 _ _ e y) (by decide), fun y => absurd (n01 _ _ e y) (by decide), fun _ => rfl, fun y => absurd (n01 _ _ e y) (by decide), fun y => absurd (n01 _ _ e y) (by decide), fun _ _ _ _ _ _ y _ _ => absurd e y⟩
  · exact o _ ⟨fun y => absurd (n01 _ _ e y) (by decide), fun y => absurd (n01 _ _ e y) (by decide), fun y => absurd (n01 _ _ e y) (by decide), fun y => absurd (n01 _ _ e y) (by decide), fun y => absurd (n01 _ _ e y) (by decide), fun y => absurd (n01 _ _ e y) (by decide), fun y => absurd (n01 _ _ e y) (by decide), fun _ => rfl, fun y => absurd (n01 _ _ e y) (by decide), fun _ _ _ _ _ _ _ y _ => absurd e y⟩
  · exact o _ ⟨fun y => absurd (n01 _ _ e y) (by decide), fun y => absurd (n01 _ _ e y) (by decide), fun y => absurd (n01 _ _ e y) (by decide), fun y => absurd (n01 _ _ e y) (by decide), fun y => absurd (n01 _ _ e y) (by decide), fun y => absurd (n01 _ _ e y) (by decide), fun y => absurd (n01 _ _ e y) (by decide), fun y => absurd (n01 _ _ e y) (by decide), fun _ => rfl, fun _ _ _ _ _ _ _ _ y => absurd e y⟩
  · exact o _ ⟨fun y => absurd y b0, fun y => absurd y b1, fun y => absurd y b2, fun y => absurd y b3, fun y => absurd y b4, fun y => absurd y b5, fun y => absurd y b6, fun y => absurd y b7, fun y => absurd y b8, fun _ _ _ _ _ _ _ _ _ => rfl⟩
def startP (n t : Nat) (x1 : Int32) (x2 : Int64) : Prop := ixP n x1 ∧ nearP x2 ∧ t = 0
theorem nI_le0 {t : Nat} (ht : t < 2147483648) : nI t ≤ 0 ↔ t = 0 := by
  have := nI_le_iff (b := 0) ht (by omega)
  constructor
  · intro h; have := this.mp h; omega
  · intro h; exact this.mpr (by omega)
theorem nI_eq0 {t : Nat} (ht : t < 2147483648) : nI t = 0 ↔ t = 0 := nI_eq (b := 0) ht (by omega)
theorem op_start {s4_ticks s5_sums s11_many s11_ticks s11_beganElsewhere s5_kind s8_sums s8_g s11_kind s11_g s7_count s3_next s3_kept s4_secondBefore s4_thirdBefore s4_thirdTwoBefore s11_dBefore s11_fBefore s11_fFirst x1 : Int32} {s4_firstBeganWith x2 : Int64} {a4_sums a11_sums a3_sums a11_firstSum : Nat → Int64} {a8_a a8_b a8_e a8_h a11_a a11_b a11_e a11_h a7_values a3_wishes a3_givens a3_totals a11_wished a11_given : Nat → Int32} {T : Nat} (hQK : QK s5_kind s5_sums s8_sums s8_g a8_a a8_b a8_e a8_h s11_kind s11_many s11_g a11_a a11_b a11_e a11_h) (hQL : QL T s5_kind s5_sums s7_count a7_values s3_next s3_kept s4_ticks s4_firstBeganWith s4_secondBefore s4_thirdBefore s4_thirdTwoBefore a4_sums a3_wishes a3_givens a3_sums a3_totals s11_ticks s11_beganElsewhere s11_dBefore s11_fBefore s11_fFirst a11_sums a11_wished a11_given a11_firstSum) (hT : T + 10000 < 1073741824) : v_X10_start s4_ticks s4_firstBeganWith s5_sums a4_sums x1 x2 (fun r s4_firstBeganWith' a4_sums' => v_X11_start s11_many s11_ticks s11_beganElsewhere a11_sums x1 x2 (fun r' s11_beganElsewhere' a11_sums' => r = r' ∧ QL T s5_kind s5_sums s7_count a7_values s3_next s3_kept s4_ticks s4_firstBeganWith' s4_secondBefore s4_thirdBefore s4_thirdTwoBefore a4_sums' a3_wishes a3_givens a3_sums a3_totals s11_ticks s11_beganElsewhere' s11_dBefore s11_fBefore s11_fFirst a11_sums' a11_wished a11_given a11_firstSum)) := by
  obtain ⟨n, -, hsm, hmn, ⟨n1, n4, -⟩, -⟩ := hQK
  have hQL' := hQL
  obtain ⟨t, h1, h2, h3, h4, h5, h6, h7, h8, h9, h10, h11, h12, h13, h14, h15, h16, h17, h18, h19, h20, h21⟩ := hQL
  subst h6
  have cls : ∀ K : Int32 → Int64 → (Nat → Int64) → Prop, (startP n t x1 x2 → K 1 (if x1 = 0 then x2 else s4_firstBeganWith) (vp_updL a4_sums x1.toNatClampNeg x2)) → (¬ startP n t x1 x2 → K 0 s4_firstBeganWith a4_sums) → v_X10_start s4_ticks s4_firstBeganWith s5_sums a4_sums x1 x2 K := by
    intro K hy hno
    refine s_X5_hasSum hsm (by omega) (fun k hk hx => ⟨fun z => absurd z r1n, fun _ => ?_⟩) (fun h => ⟨fun _ => hno (fun q => ixP_no (by omega) h q.1), fun z => absurd rfl z⟩)
    refine s_X10_isSum (fun hq => ⟨fun z => absurd z r1n, fun _ => ?_⟩) (fun hq => ⟨fun _ => hno (fun q => hq q.2.1), fun z => absurd rfl z⟩)
    rw [h2]
    refine ⟨fun z => ?_, fun z => hno (fun q => z ((nI_eq0 (by omega)).mpr q.2.2))⟩
    have t0 := (nI_eq0 (by omega)).mp z
    have ix : ixP n x1 := ⟨k, hk, hx⟩
    have hy := hy ⟨ix, hq, t0⟩
    refine ⟨ixP_in ix n4 (by omega), ?_⟩
    intro a ha
    rw [ha]
    refine ⟨fun e => ?_, fun e => ?_⟩
    · rw [if_neg e] at hy; exact hy
    · rw [if_pos e] at hy; exact hy
  have mod : ∀ K : Int32 → Int32 → (Nat → Int64) → Prop, (startP n t x1 x2 → (vp_updL a4_sums x1.toNatClampNeg x2 0 = 0 → K 1 0 (vp_updL a4_sums x1.toNatClampNeg x2)) ∧ (¬ vp_updL a4_sums x1.toNatClampNeg x2 0 = 0 → K 1 1 (vp_updL a4_sums x1.toNatClampNeg x2))) → (¬ startP n t x1 x2 → K 0 s11_beganElsewhere a4_sums) → v_X11_start s11_many s11_ticks s11_beganElsewhere a4_sums x1 x2 K := by
    intro K hy hno
    refine s_X11_isSum hmn (by omega) (fun k hk hx => ⟨fun z => absurd z r1n, fun _ => ?_⟩) (fun h => ⟨fun _ => hno (fun q => ixP_no (by omega) h q.1), fun z => absurd rfl z⟩)
    refine s_X11_isNear (fun hq => ⟨fun z => absurd z r1n, fun _ => ?_⟩) (fun hq => ⟨fun _ => hno (fun q => hq q.2.1), fun z => absurd rfl z⟩)
    rw [h3]
    refine ⟨fun z => ?_, fun z => hno (fun q => z ((nI_le0 (by omega)).mpr q.2.2))⟩
    have t0 := (nI_le0 (by omega)).mp z
    have ix : ixP n x1 := ⟨k, hk, hx⟩
    have hy := hy ⟨ix, hq, t0⟩
    refine ⟨ixP_in ix n4 (by omega), ?_⟩
    intro a ha
    refine ⟨nI_inI (a := 0) (by omega) (by decide), ?_⟩
    intro g hg
    rw [cl0] at hg
    rw [hg, ha]
    exact hy
  refine cls _ (fun g => mod _ (fun _ => ?_) (fun b => absurd g b)) (fun b => mod _ (fun g => absurd g b) (fun _ => ⟨rfl, hQL'⟩))
  obtain ⟨⟨k, hk, hx⟩, hq, t0⟩ := g
  subst hx t0
  rw [nI_cl (by omega)]
  have fb : vp_updL a4_sums k x2 0 = (if nI k = 0 then x2 else s4_firstBeganWith) := by
    unfold vp_updL
    rcases Nat.eq_zero_or_pos k with z | z
    · subst z
      rw [if_pos rfl, if_pos nI0]
    · rw [if_neg (by omega), if_neg (fun y => by have := (nI_eq0 (by omega)).mp y; omega)]
      exact h20 rfl
  refine ⟨fun z => ⟨rfl, 0, h1, h2, h3, h4, h5, rfl, h7, h8, h9, h10, h11, h12, h13, h14, h15, h16, h17, h18, Or.inl ⟨rfl, by rw [← fb]; exact z⟩, fun _ => fb, h21⟩, fun z => ⟨rfl, 0, h1, h2, h3, h4, h5, rfl, h7, h8, h9, h10, h11, h12, h13, h14, h15, h16, h17, h18, Or.inr ⟨rfl, by rw [← fb]; exact z⟩, fun _ => fb, h21⟩⟩
def spH (f : Nat → Int32) : Nat → Int32
  | 0 => f 0
  | k + 1 => if spH f k < f (k + 1) then f (k + 1) else spH f k
def spL (f : Nat → Int32) : Nat → Int32
  | 0 => f 0
  | k + 1 => if f (k + 1) < spL f k then f (k + 1) else spL f k
theorem op_spread {s5_kind s9_parts s11_kind s11_partMany s5_sums s8_sums s8_g s11_many s11_g s9_rule s9_hand s11_rule s11_hand : Int32} {a9_timesOn a11_often a8_a a8_b a8_e a8_h a11_a a11_b a11_e a11_h a9_isOn a11_on : Nat → Int32} (hQK : QK s5_kind s5_sums s8_sums s8_g a8_a a8_b a8_e a8_h s11_kind s11_many s11_g a11_a a11_b a11_e a11_h) (hQW : QW s5_kind s9_parts s9_rule s9_hand a9_isOn a9_timesOn s11_partMany s11_rule s11_hand a11_on a11_often) : v_X10_spread s5_kind s9_parts a9_timesOn  (fun r => v_X11_spread s11_kind s11_partMany a11_often  (fun r' => r = r')) := by
  obtain ⟨n, hkd, -⟩ := hQK
  obtain ⟨p, h, h1, h2, h3, h4, -, -, -, -, -, -, -, h12, -⟩ := hQW
  subst hkd h1 h2 h12
  refine ⟨fun q => ⟨fun z => absurd z q, fun _ => rfl⟩, fun q => ?_⟩
  have p2 := h4 q
  refine ⟨nI_inI (a := 0) (by omega) (by decide), ?_⟩
  intro g1 hg1
  refine ⟨nI_inI (a := 0) (by omega) (by decide), ?_⟩
  intro g2 hg2
  rw [cl0] at hg1 hg2
  subst hg1 hg2
  refine vloop (fun k => (nI (k + 1), spH a9_timesOn k, spL a9_timesOn k)) (p - 1) ?_ ?_
  · intro bk k hk hb
    unfold vF_X9_mostLessLeast_16 vB_X9_mostLessLeast_16
    refine ⟨fun z => absurd z (nI_nle_lt (by omega) (by omega)), fun _ => ⟨nI_inI (by omega) (by decide), ?_⟩⟩
    intro g7 hg7 e8 he8
    refine ⟨nI_inI (by omega) (by decide), ?_⟩
    intro g9 hg9 e10 he10 i11 hi11
    rw [nI_cl (by omega)] at hg7 hg9
    subst hg7 hg9 he8 he10 hi11
    dsimp only
    rw [nI_1]
    exact hb
  · intro bk
    have e : p - 1 + 1 = p := by omega
    unfold vF_X9_mostLessLeast_16 vB_X9_mostLessLeast_16
    refine ⟨fun _ => ?_, fun z => absurd (by dsimp only; rw [e]; exact nI_rfl p (by omega)) z⟩
    intro e6 he6
    refine ⟨fun _ => ⟨nI_inI (a := 0) (by omega) (by decide), ?_⟩, fun z => absurd q z⟩
    intro g1 hg1
    refine ⟨nI_inI (a := 0) (by omega) (by decide), ?_⟩
    intro g2 hg2
    rw [cl0] at hg1 hg2
    subst hg1 hg2
    refine vloop (fun k => (nI (k + 1), spH a9_timesOn k, spL a9_timesOn k)) (p - 1) ?_ ?_
    · intro bk k hk hb
      unfold vF_X11_spread_26 vB_X11_spread_26
      have hb : bk (nI (k + 1 + 1), (if spH a9_timesOn k < a9_timesOn (k + 1) then a9_timesOn (k + 1) else spH a9_timesOn k), (if a9_timesOn (k + 1) < spL a9_timesOn k then a9_timesOn (k + 1) else spL a9_timesOn k)) := hb
      have tl : ∀ t8 : Int32, t8 = (if a9_timesOn (k + 1) < spL a9_timesOn k then a9_timesOn (k + 1) else spL a9_timesOn k) → vJ_X11_spread_54 a9_timesOn (nI (k + 1)) (spH a9_timesOn k) (fun z0 z1 z2 => bk (z0, z1, z2)) t8 := by
        intro t8 ht8
        refine ⟨nI_inI (by omega) (by decide), ?_⟩
        intro g9 hg9
        rw [nI_cl (by omega)] at hg9
        subst hg9
        refine ⟨fun y => ?_, fun y => ⟨nI_inI (by omega) (by decide), ?_⟩⟩
        · intro i11 hi11
          rw [hi11, nI_1, ht8]
          rw [if_neg (Int32.not_lt.mpr y)] at hb
          exact hb
        · intro g12 hg12 i11 hi11
          rw [nI_cl (by omega)] at hg12
          rw [hi11, nI_1, ht8, hg12]
          rw [if_pos (Int32.not_le.mp y)] at hb
          exact hb
      refine ⟨fun z => absurd z (nI_nle_lt (by omega) (by omega)), fun _ => ⟨nI_inI (by omega) (by decide), ?_⟩⟩
      intro g7 hg7
      rw [nI_cl (by omega)] at hg7
      subst hg7
      refine ⟨fun y => tl _ (by rw [if_neg (Int32.not_lt.mpr y)]), fun y => ⟨nI_inI (by omega) (by decide), ?_⟩⟩
      intro g13 hg13
      rw [nI_cl (by omega)] at hg13
      exact tl _ (by rw [if_pos (Int32.not_le.mp y), hg13])
    · intro bk
      unfold vF_X11_spread_26 vB_X11_spread_26
      refine ⟨fun _ => ?_, fun z => absurd (by dsimp only; rw [e]; exact nI_rfl p (by omega)) z⟩
      intro e7 he7
      rw [he6, he7]
