/-! pure: how the class's cells stand to the reference's -/
def ovP (ov : Int32) : Prop := 1 ≤ ov.toInt ∧ ov.toInt ≤ 10000
def stpP (vals : Nat → Int32) (c : Nat) : Prop := (∀ k, k < c → -100 ≤ (vals k).toInt ∧ (vals k).toInt ≤ 100) ∧ (∀ k, k + 1 < c → (vals k).toInt < (vals (k + 1)).toInt)
def QS (s7_over : Int32) (s7_count : Int32) (a7_values : Nat → Int32) (s11_d : Int32) (s11_stepMany : Int32) (a11_steps : Nat → Int32) : Prop :=
  ∃ c : Nat, s7_count = nI c ∧ s11_stepMany = nI c ∧ 2 ≤ c ∧ c ≤ 8 ∧ s7_over = s11_d ∧ a7_values = a11_steps ∧ ovP s7_over ∧ stpP a7_values c
def QK (s5_kind : Int32) (s5_sums : Int32) (s8_sums : Int32) (s8_g : Int32) (a8_a : Nat → Int32) (a8_b : Nat → Int32) (a8_e : Nat → Int32) (a8_h : Nat → Int32) (s11_kind : Int32) (s11_many : Int32) (s11_g : Int32) (a11_a : Nat → Int32) (a11_b : Nat → Int32) (a11_e : Nat → Int32) (a11_h : Nat → Int32) : Prop :=
  ∃ n : Nat, s5_kind = s11_kind ∧ s5_sums = nI n ∧ s11_many = nI n ∧ kindP s5_kind n ∧ (s5_kind = 3 → 2 ≤ n) ∧ (∀ k, 16 ≤ k → a8_a k = a11_a k) ∧ (∀ k, 4 ≤ k → a8_b k = a11_b k) ∧ (∀ k, 4 ≤ k → a8_e k = a11_e k) ∧ (∀ k, 4 ≤ k → a8_h k = a11_h k) ∧ (s5_kind = 2 → s8_sums = nI n ∧ s8_g = s11_g ∧ a8_a = a11_a ∧ a8_b = a11_b ∧ a8_e = a11_e ∧ a8_h = a11_h)
def QW (s5_kind : Int32) (s9_parts : Int32) (s9_rule : Int32) (s9_hand : Int32) (a9_isOn : Nat → Int32) (a9_timesOn : Nat → Int32) (s11_partMany : Int32) (s11_rule : Int32) (s11_hand : Int32) (a11_on : Nat → Int32) (a11_often : Nat → Int32) : Prop :=
  ∃ p h : Nat, s9_parts = nI p ∧ s11_partMany = nI p ∧ p ≤ 16 ∧ (s5_kind = 4 → 2 ≤ p) ∧ (¬ s5_kind = 4 → p = 0) ∧ s9_rule = s11_rule ∧ (s9_rule = 0 ∨ s9_rule = 1) ∧ s9_hand = nI h ∧ s11_hand = nI h ∧ (h = 0 ∨ h < p) ∧ a9_isOn = a11_on ∧ a9_timesOn = a11_often ∧ (∀ k, a9_isOn k = 0 ∨ a9_isOn k = 1)
def gvP (g : Int32) : Prop := -700 ≤ g.toInt ∧ g.toInt ≤ 700
def bfP (g : Int32) : Prop := -100 ≤ g.toInt ∧ g.toInt ≤ 100
def QL (T : Nat) (s5_kind : Int32) (s5_sums : Int32) (s7_count : Int32) (a7_values : Nat → Int32) (s3_next : Int32) (s3_kept : Int32) (s4_ticks : Int32) (s4_firstBeganWith : Int64) (s4_secondBefore : Int32) (s4_thirdBefore : Int32) (s4_thirdTwoBefore : Int32) (a4_sums : Nat → Int64) (a3_wishes : Nat → Int32) (a3_givens : Nat → Int32) (a3_sums : Nat → Int64) (a3_totals : Nat → Int32) (s11_ticks : Int32) (s11_beganElsewhere : Int32) (s11_dBefore : Int32) (s11_fBefore : Int32) (s11_fFirst : Int32) (a11_sums : Nat → Int64) (a11_wished : Nat → Int32) (a11_given : Nat → Int32) (a11_firstSum : Nat → Int64) : Prop :=
  ∃ t : Nat, t ≤ T ∧ s4_ticks = nI t ∧ s11_ticks = nI t ∧ s3_next = nI (t % 256) ∧ s3_kept = nI (ktF t) ∧ a4_sums = a11_sums ∧ a3_wishes = a11_wished ∧ a3_givens = a11_given ∧ a3_sums = a11_firstSum ∧ a3_totals 0 = 0 ∧ s4_secondBefore = s11_dBefore ∧ s4_thirdBefore = s11_fBefore ∧ s4_thirdTwoBefore = s11_fFirst ∧ bfP s4_secondBefore ∧ bfP s4_thirdBefore ∧ bfP s4_thirdTwoBefore ∧ (¬ s5_sums = 3 → s4_thirdBefore = 0 ∧ s4_thirdTwoBefore = 0) ∧ (∀ k, gvP (a3_givens k)) ∧ ((s11_beganElsewhere = 0 ∧ s4_firstBeganWith = 0) ∨ (s11_beganElsewhere = 1 ∧ ¬ s4_firstBeganWith = 0)) ∧ (t = 0 → a4_sums 0 = s4_firstBeganWith) ∧ (s5_kind = 0 → ∀ k, k < ktF t → ∃ j c : Nat, s7_count = nI c ∧ c ≤ 8 ∧ j < c ∧ a3_givens k = a7_values j)
def QB (a0_least : Nat → Int64) (a0_most : Nat → Int64) (a11_least : Nat → Int64) (a11_most : Nat → Int64) : Prop :=
  a0_least = a11_least ∧ a0_most = a11_most ∧ ∀ k, nearP (a0_least k) ∧ nearP (a0_most k) ∧ a0_least k ≤ a0_most k
def QF (s2_count : Int32) (a2_weights : Nat → Int32) (s11_weightMany : Int32) (a11_weights : Nat → Int32) : Prop :=
  ∃ wc : Nat, s2_count = nI wc ∧ s11_weightMany = nI wc ∧ wc ≤ 64 ∧ a2_weights = a11_weights
def QO (s6_toldTail : Int32) (s11_tailTold : Int32) : Prop :=
  s6_toldTail = s11_tailTold
/-! pure: a new beginning -/
def zL (a : Nat → Int64) (n : Nat) : Nat → Int64 := setL a (fun _ => 0) n
def zI (a : Nat → Int32) (n : Nat) : Nat → Int32 := setI a (fun _ => 0) n
theorem zI_lt (a : Nat → Int32) (n j : Nat) (h : j < n) : zI a n j = 0 := setI_lt _ _ _ _ h
theorem zI_ge (a : Nat → Int32) (n j : Nat) (h : n ≤ j) : zI a n j = a j := setI_ge _ _ _ _ h
theorem zL_lt (a : Nat → Int64) (n j : Nat) (h : j < n) : zL a n j = 0 := setL_lt _ _ _ _ h
theorem zI_eq (a b : Nat → Int32) (n : Nat) (h : ∀ k, n ≤ k → a k = b k) : zI a n = zI b n := by
  funext j
  rcases Nat.lt_or_ge j n with z | z
  · rw [zI_lt _ _ _ z, zI_lt _ _ _ z]
  · rw [zI_ge _ _ _ z, zI_ge _ _ _ z, h j z]
theorem s_X9_beginAnew {on ot : Nat → Int32} {K : Int32 → (Nat → Int32) → (Nat → Int32) → Prop} (h : K 0 (zI on 16) (zI ot 16)) : v_X9_beginAnew on ot K := by
  refine vloop (fun k => (nI k, zI on k, zI ot k)) 16 ?_ ?_
  · intro bk k hk hb
    unfold vF_X9_beginAnew_7 vB_X9_beginAnew_7
    refine ⟨fun q => absurd q (nI_nle_lt (b := 16) (by omega) hk), fun _ => ⟨nI_inI (by omega) (by decide), ?_⟩⟩
    intro g4 hg4
    refine ⟨nI_inI (by omega) (by decide), ?_⟩
    intro g5 hg5 i6 hi6
    rw [nI_cl (by omega)] at hg4 hg5
    subst hg4 hg5 hi6
    dsimp only
    rw [nI_1]
    exact hb
  · intro bk
    unfold vF_X9_beginAnew_7 vB_X9_beginAnew_7
    exact ⟨fun _ => h, fun q => absurd (nI_rfl 16 (by omega)) q⟩
theorem s_X4_beginAnew {su : Nat → Int64} {on ot : Nat → Int32} {K : Int32 → Int32 → Int32 → Int64 → Int32 → Int32 → Int32 → Int32 → (Nat → Int64) → (Nat → Int32) → (Nat → Int32) → Prop} (h : K 0 0 0 0 0 0 0 0 (zL su 4) (zI on 16) (zI ot 16)) : v_X4_beginAnew su on ot K := by
  refine vloop (fun k => (nI k, zL su k)) 4 ?_ ?_
  · intro bk k hk hb
    unfold vF_X4_beginAnew_2 vB_X4_beginAnew_2
    refine ⟨fun q => absurd q (nI_nle_lt (b := 4) (by omega) hk), fun _ => ⟨nI_inI (by omega) (by decide), ?_⟩⟩
    intro g4 hg4 i6 hi6
    rw [nI_cl (by omega)] at hg4
    subst hg4 hi6
    dsimp only
    rw [nI_1]
    exact hb
  · intro bk
    unfold vF_X4_beginAnew_2 vB_X4_beginAnew_2
    refine ⟨fun _ => ?_, fun q => absurd (nI_rfl 4 (by omega)) q⟩
    exact s_X9_beginAnew h
theorem s_X11_anew {su : Nat → Int64} {on ot : Nat → Int32} {K : Int32 → Int32 → Int32 → Int32 → Int32 → Int32 → (Nat → Int64) → (Nat → Int32) → (Nat → Int32) → Prop} (h : K 0 0 0 0 0 0 (zL su 4) (zI on 16) (zI ot 16)) : v_X11_anew su on ot K := by
  refine vloop (fun k => (nI k, zL su k)) 4 ?_ ?_
  · intro bk k hk hb
    unfold vF_X11_anew_2 vB_X11_anew_2
    refine ⟨fun q => absurd q (nI_nle_lt (b := 4) (by omega) hk), fun _ => ⟨nI_inI (by omega) (by decide), ?_⟩⟩
    intro g4 hg4 i6 hi6
    rw [nI_cl (by omega)] at hg4
    subst hg4 hi6
    dsimp only
    rw [nI_1]
    exact hb
  · intro bk
    unfold vF_X11_anew_2 vB_X11_anew_2
    refine ⟨fun _ => ?_, fun q => absurd (nI_rfl 4 (by omega)) q⟩
    refine vloop (fun k => (nI k, zI on k, zI ot k)) 16 ?_ ?_
    · intro bk k hk hb
      unfold vF_X11_anew_22 vB_X11_anew_22
      refine ⟨fun q => absurd q (nI_nle_lt (b := 16) (by omega) hk), fun _ => ⟨nI_inI (by omega) (by decide), ?_⟩⟩
      intro g4 hg4
      refine ⟨nI_inI (by omega) (by decide), ?_⟩
      intro g5 hg5 i6 hi6
      rw [nI_cl (by omega)] at hg4 hg5
      subst hg4 hg5 hi6
      dsimp only
      rw [nI_1]
      exact hb
    · intro bk
      unfold vF_X11_anew_22 vB_X11_anew_22
      exact ⟨fun _ => h, fun q => absurd (nI_rfl 16 (by omega)) q⟩
theorem zI_01 {on : Nat → Int32} (h : ∀ k, on k = 0 ∨ on k = 1) (n : Nat) : ∀ k, zI on n k = 0 ∨ zI on n k = 1 := by
  intro k
  rcases Nat.lt_or_ge k n with z | z
  · exact Or.inl (zI_lt _ _ _ z)
  · rw [zI_ge _ _ _ z]; exact h k
theorem bfP_0 : bfP 0 := by unfold bfP; decide
theorem nI0 : nI 0 = 0 := rfl
theorem QW_anew {s5_kind s9_parts s9_rule s9_hand s11_partMany s11_rule s11_hand : Int32} {a9_isOn a9_timesOn a11_on a11_often : Nat → Int32} (h : QW s5_kind s9_parts s9_rule s9_hand a9_isOn a9_timesOn s11_partMany s11_rule s11_hand a11_on a11_often) : QW s5_kind s9_parts s9_rule 0 (zI a9_isOn 16) (zI a9_timesOn 16) s11_partMany s11_rule 0 (zI a11_on 16) (zI a11_often 16) := by
  obtain ⟨p, h, h1, h2, h3, h4, h5, h6, h7, h8, h9, h10, h11, h12, h13⟩ := h
  refine ⟨p, 0, h1, h2, h3, h4, h5, h6, h7, rfl, rfl, Or.inl rfl, by rw [h11], by rw [h12], zI_01 h13 16⟩
theorem QL_anew {T : Nat} {kd' sm' cn' s5_kind s5_sums s7_count s3_next s3_kept s4_ticks s4_secondBefore s4_thirdBefore s4_thirdTwoBefore s11_ticks s11_beganElsewhere s11_dBefore s11_fBefore s11_fFirst : Int32} {s4_firstBeganWith : Int64} {v' a7_values a3_wishes a3_givens a3_totals a11_wished a11_given : Nat → Int32} {a4_sums a3_sums a11_sums a11_firstSum : Nat → Int64} (h : QL T s5_kind s5_sums s7_count a7_values s3_next s3_kept s4_ticks s4_firstBeganWith s4_secondBefore s4_thirdBefore s4_thirdTwoBefore a4_sums a3_wishes a3_givens a3_sums a3_totals s11_ticks s11_beganElsewhere s11_dBefore s11_fBefore s11_fFirst a11_sums a11_wished a11_given a11_firstSum) : QL T kd' sm' cn' v' 0 0 0 0 0 0 0 (zL a4_sums 4) a3_wishes a3_givens a3_sums a3_totals 0 0 0 0 0 (zL a11_sums 4) a11_wished a11_given a11_firstSum := by
  obtain ⟨t, h1, h2, h3, h4, h5, h6, h7, h8, h9, h10, h11, h12, h13, h14, h15, h16, h17, h18, h19, h20, h21⟩ := h
  exact ⟨0, by omega, rfl, rfl, rfl, rfl, by rw [h6], h7, h8, h9, h10, rfl, rfl, rfl, bfP_0, bfP_0, bfP_0, fun _ => ⟨rfl, rfl⟩, h18, Or.inl ⟨rfl, rfl⟩, fun _ => zL_lt _ _ _ (by omega), fun _ k hk => absurd hk (Nat.not_lt_zero k)⟩
theorem op_over {s3_next s3_kept s4_ticks s4_secondBefore s4_thirdBefore s4_thirdTwoBefore s7_over s9_hand s11_d s11_ticks s11_hand s11_beganElsewhere s11_dBefore s11_fBefore s11_fFirst s5_kind s5_sums s7_count s11_stepMany s9_parts s9_rule s11_partMany s11_rule x1 : Int32} {s4_firstBeganWith : Int64} {a4_sums a11_sums a3_sums a11_firstSum : Nat → Int64} {a9_isOn a9_timesOn a11_on a11_often a7_values a3_wishes a3_givens a3_totals a11_wished a11_given a11_steps : Nat → Int32} {T : Nat} (hQL : QL T s5_kind s5_sums s7_count a7_values s3_next s3_kept s4_ticks s4_firstBeganWith s4_secondBefore s4_thirdBefore s4_thirdTwoBefore a4_sums a3_wishes a3_givens a3_sums a3_totals s11_ticks s11_beganElsewhere s11_dBefore s11_fBefore s11_fFirst a11_sums a11_wished a11_given a11_firstSum) (hQS : QS s7_over s7_count a7_values s11_d s11_stepMany a11_steps) (hQW : QW s5_kind s9_parts s9_rule s9_hand a9_isOn a9_timesOn s11_partMany s11_rule s11_hand a11_on a11_often) (hT : T + 10000 < 1073741824) : v_X10_over s3_next s3_kept s4_ticks s4_firstBeganWith s4_secondBefore s4_thirdBefore s4_thirdTwoBefore s7_over s9_hand a4_sums a9_isOn a9_timesOn x1 (fun r s3_next' s3_kept' s4_ticks' s4_firstBeganWith' s4_secondBefore' s4_thirdBefore' s4_thirdTwoBefore' s7_over' s9_hand' a4_sums' a9_isOn' a9_timesOn' => v_X11_over s11_d s11_ticks s11_hand s11_beganElsewhere s11_dBefore s11_fBefore s11_fFirst a11_sums a11_on a11_often x1 (fun r' s11_d' s11_ticks' s11_hand' s11_beganElsewhere' s11_dBefore' s11_fBefore' s11_fFirst' a11_sums' a11_on' a11_often' => r = r' ∧ QS s7_over' s7_count a7_values s11_d' s11_stepMany a11_steps ∧ QW s5_kind s9_parts s9_rule s9_hand' a9_isOn' a9_timesOn' s11_partMany s11_rule s11_hand' a11_on' a11_often' ∧ QL T s5_kind s5_sums s7_count a7_values s3_next' s3_kept' s4_ticks' s4_firstBeganWith' s4_secondBefore' s4_thirdBefore' s4_thirdTwoBefore' a4_sums' a3_wishes a3_givens a3_sums a3_totals s11_ticks' s11_beganElsewhere' s11_dBefore' s11_fBefore' s11_fFirst' a11_sums' a11_wished a11_given a11_firstSum)) := by
  refine ⟨fun q => ⟨fun _ => ⟨rfl, hQS, hQW, hQL⟩, fun q2 => absurd q q2⟩, fun q => ⟨fun q2 => ?_, fun q2 => ⟨fun q3 => absurd q3 q, fun _ => ⟨fun q4 => absurd q4 q2, fun _ => ⟨rfl, hQS, hQW, hQL⟩⟩⟩⟩⟩
  refine s_X4_beginAnew ?_
  refine ⟨fun q3 => absurd q3 q, fun _ => ⟨fun _ => s_X11_anew ⟨rfl, ?_, QW_anew hQW, QL_anew hQL⟩, fun q4 => absurd q2 q4⟩⟩
  obtain ⟨c, h1, h2, h3, h4, h5, h6, h7, h8⟩ := hQS
  refine ⟨c, h1, h2, h3, h4, rfl, h6, ?_, h8⟩
  rw [Int32.lt_iff_toInt_lt] at q
  rw [Int32.le_iff_toInt_le] at q2
  have a1 : (1 : Int32).toInt = 1 := by decide
  have a2 : (10000 : Int32).toInt = 10000 := by decide
  unfold ovP
  omega
