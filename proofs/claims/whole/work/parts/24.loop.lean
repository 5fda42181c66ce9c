/-! pure: a loop is told -/
def loopP (kd n rl : Int32) : Prop := ((kd.toInt = 0 ∨ kd.toInt = 1) ∧ n.toInt = 0 ∧ rl.toInt = 0) ∨ (kd.toInt = 2 ∧ 1 ≤ n.toInt ∧ n.toInt ≤ 4 ∧ rl.toInt = 0) ∨ (kd.toInt = 3 ∧ 2 ≤ n.toInt ∧ n.toInt ≤ 3 ∧ rl.toInt = 0) ∨ (kd.toInt = 4 ∧ 2 ≤ n.toInt ∧ n.toInt ≤ 16 ∧ (rl.toInt = 0 ∨ rl.toInt = 1))
theorem s_X10_canLoop {x0 x1 x2 : Int32} {K : Int32 → Prop} (h1 : loopP x0 x1 x2 → K 1) (h0 : ¬ loopP x0 x1 x2 → K 0) : v_X10_canLoop x0 x1 x2 K := by
  have z36 : x0.toInt = 0 ∨ x0.toInt = 1 → vJ_X10_canLoop_36 x1 x2 K := by
    intro e
    refine ⟨fun q => h0 ?_, fun q => ⟨fun q2 => h0 ?_, fun q2 => h1 ?_⟩⟩
    all_goals
      clear h1 h0
      unfold loopP
      simp only [i32_eq, t32_0] at *
      omega
  refine ⟨fun e => z36 (Or.inl ?_), fun e => z36 (Or.inr ?_), fun e => ⟨fun q => h0 ?_, fun q => ⟨fun q2 => h0 ?_, fun q2 => ⟨fun q3 => h0 ?_, fun q3 => h1 ?_⟩⟩⟩, fun e => ⟨fun q => h0 ?_, fun q => ⟨fun q2 => h0 ?_, fun q2 => ⟨fun q3 => h0 ?_, fun q3 => h1 ?_⟩⟩⟩, fun e => ⟨fun q => h0 ?_, fun q => ⟨fun q2 => h0 ?_, fun q2 => ⟨fun q3 => h1 ?_, fun q3 => ⟨fun q4 => h0 ?_, fun q4 => h1 ?_⟩⟩⟩⟩, fun e0 e1 e2 e3 e4 => h0 ?_⟩
  · rw [e]; exact t32_0
  · rw [e]; exact t32_1
  all_goals
    clear h1 h0 z36
    unfold loopP
    simp only [i32_eq, Int32.lt_iff_toInt_lt, t32_0, t32_1, t32_2, t32_3, t32_4, t32_16] at *
    omega
/-- how many sums and parts a loop has -/
def smF (kd n : Int32) : Int32 := if kd = 1 then 2 else if kd = 2 then n else if kd = 3 then n else 1
def ptF (kd n : Int32) : Int32 := if kd = 4 then n else 0
theorem zI_zI (f : Nat → Int32) (n : Nat) : zI (zI f n) n = zI f n := by
  funext j
  rcases Nat.lt_or_ge j n with z | z
  · rw [zI_lt _ _ _ z, zI_lt _ _ _ z]
  · rw [zI_ge _ _ _ z]
theorem s_X8_begin {aa b e hh : Nat → Int32} {x1 : Int32} {K : Int32 → Int32 → (Nat → Int32) → (Nat → Int32) → (Nat → Int32) → (Nat → Int32) → Prop} (h : K x1 0 (zI aa 16) (zI b 4) (zI e 4) (zI hh 4)) : v_X8_begin aa b e hh x1 K := by
  refine vloop (fun k => (nI k, zI aa k)) 16 ?_ ?_
  · intro bk k hk hb
    unfold vF_X8_begin_12 vB_X8_begin_12
    refine ⟨fun q => absurd q (nI_nle_lt (b := 16) (by omega) hk), fun _ => ⟨nI_inI (by omega) (by decide), ?_⟩⟩
    intro g4 hg4 i6 hi6
    rw [nI_cl (by omega)] at hg4
    subst hg4 hi6
    dsimp only
    rw [nI_1]
    exact hb
  · intro bk
    unfold vF_X8_begin_12 vB_X8_begin_12
    refine ⟨fun _ => ?_, fun q => absurd (nI_rfl 16 (by omega)) q⟩
    refine vloop (fun k => (nI k, zI b k, zI e k, zI hh k)) 4 ?_ ?_
    · intro bk k hk hb
      unfold vF_X8_begin_36 vB_X8_begin_36
      refine ⟨fun q => absurd q (nI_nle_lt (b := 4) (by omega) hk), fun _ => ⟨nI_inI (by omega) (by decide), ?_⟩⟩
      intro g4 hg4
      refine ⟨nI_inI (by omega) (by decide), ?_⟩
      intro g5 hg5
      refine ⟨nI_inI (by omega) (by decide), ?_⟩
      intro g7 hg7 i6 hi6
      rw [nI_cl (by omega)] at hg4 hg5 hg7
      subst hg4 hg5 hg7 hi6
      dsimp only
      rw [nI_1]
      exact hb
    · intro bk
      unfold vF_X8_begin_36 vB_X8_begin_36
      exact ⟨fun _ => h, fun q => absurd (nI_rfl 4 (by omega)) q⟩
theorem s_X4_begin {s8_sums s8_g x1 x2 x3 : Int32} {a4_sums : Nat → Int64} {a8_a a8_b a8_e a8_h a9_isOn a9_timesOn : Nat → Int32} {K : Int32 → Int32 → Int32 → Int64 → Int32 → Int32 → Int32 → Int32 → Int32 → Int32 → Int32 → Int32 → Int32 → Int32 → (Nat → Int64) → (Nat → Int32) → (Nat → Int32) → (Nat → Int32) → (Nat → Int32) → (Nat → Int32) → (Nat → Int32) → Prop}
    (h2 : x1 = 2 → K 0 0 0 0 0 0 0 x1 (smF x1 x2) x2 0 (ptF x1 x2) x3 0 (zL a4_sums 4) (zI a8_a 16) (zI a8_b 4) (zI a8_e 4) (zI a8_h 4) (zI a9_isOn 16) (zI a9_timesOn 16))
    (hn : ¬ x1 = 2 → K 0 0 0 0 0 0 0 x1 (smF x1 x2) s8_sums s8_g (ptF x1 x2) x3 0 (zL a4_sums 4) a8_a a8_b a8_e a8_h (zI a9_isOn 16) (zI a9_timesOn 16)) :
    v_X4_begin s8_sums s8_g a4_sums a8_a a8_b a8_e a8_h a9_isOn a9_timesOn x1 x2 x3 K := by
  have fin : ∀ (sm ts g : Int32) (aa b e hh : Nat → Int32), K 0 0 0 0 0 0 0 x1 sm ts g (ptF x1 x2) x3 0 (zL a4_sums 4) aa b e hh (zI a9_isOn 16) (zI a9_timesOn 16) → (¬ x1 = (4 : Int32) → v_X9_begin a9_isOn a9_timesOn (0 : Int32) x3 (fun s9_parts_9 s9_rule_10 s9_hand_11 a9_isOn_12 a9_timesOn_13 => v_X4_beginAnew a4_sums a9_isOn_12 a9_timesOn_13 (fun s3_next_14 s3_kept_15 s4_ticks_16 s4_firstBeganWith_17 s4_secondBefore_18 s4_thirdBefore_19 s4_thirdTwoBefore_20 s9_hand_21 a4_sums_22 a9_isOn_23 a9_timesOn_24 => K s3_next_14 s3_kept_15 s4_ticks_16 s4_firstBeganWith_17 s4_secondBefore_18 s4_thirdBefore_19 s4_thirdTwoBefore_20 x1 sm ts g s9_parts_9 s9_rule_10 s9_hand_21 a4_sums_22 aa b e hh a9_isOn_23 a9_timesOn_24))) ∧ (x1 = (4 : Int32) → v_X9_begin a9_isOn a9_timesOn x2 x3 (fun s9_parts_9 s9_rule_10 s9_hand_11 a9_isOn_12 a9_timesOn_13 => v_X4_beginAnew a4_sums a9_isOn_12 a9_timesOn_13 (fun s3_next_14 s3_kept_15 s4_ticks_16 s4_firstBeganWith_17 s4_secondBefore_18 s4_thirdBefore_19 s4_thirdTwoBefore_20 s9_hand_21 a4_sums_22 a9_isOn_23 a9_timesOn_24 => K s3_next_14 s3_kept_15 s4_ticks_16 s4_firstBeganWith_17 s4_secondBefore_18 s4_thirdBefore_19 s4_thirdTwoBefore_20 x1 sm ts g s9_parts_9 s9_rule_10 s9_hand_21 a4_sums_22 aa b e hh a9_isOn_23 a9_timesOn_24))) := by
    intro sm ts g aa b e hh hK
    unfold ptF at hK
    refine ⟨fun q => ?_, fun q => ?_⟩
    · rw [if_neg q] at hK
      refine s_X9_beginAnew (s_X4_beginAnew ?_)
      rw [zI_zI, zI_zI]
      exact hK
    · rw [if_pos q] at hK
      refine s_X9_beginAnew (s_X4_beginAnew ?_)
      rw [zI_zI, zI_zI]
      exact hK
  unfold smF at h2 hn
  refine ⟨fun e => ?_, fun e => ?_, fun e => ?_, fun e1 e2 e3 => ?_⟩
  · have := hn (by rw [e]; decide)
    rw [if_pos e] at this
    exact fin _ _ _ _ _ _ _ this
  · have := h2 e
    rw [if_neg (by rw [e]; decide), if_pos e] at this
    exact s_X8_begin (fin _ _ _ _ _ _ _ this)
  · have := hn (by rw [e]; decide)
    rw [if_neg (by rw [e]; decide), if_neg (by rw [e]; decide), if_pos e] at this
    exact fin _ _ _ _ _ _ _ this
  · have := hn e2
    rw [if_neg e1, if_neg e2, if_neg e3] at this
    exact fin _ _ _ _ _ _ _ this
theorem s_X0_empty {le mo : Nat → Int64} {K : (Nat → Int64) → (Nat → Int64) → Prop} (h : K (zL le 4) (zL mo 4)) : v_X0_empty le mo K := by
  refine vloop (fun k => (nI k, zL le k, zL mo k)) 4 ?_ ?_
  · intro bk k hk hb
    unfold vF_X0_empty_2 vB_X0_empty_2
    refine ⟨fun q => absurd q (nI_nle_lt (b := 4) (by omega) hk), fun _ => ⟨nI_inI (by omega) (by decide), ?_⟩⟩
    intro g4 hg4
    refine ⟨nI_inI (by omega) (by decide), ?_⟩
    intro g5 hg5 i6 hi6
    rw [nI_cl (by omega)] at hg4 hg5
    subst hg4 hg5 hi6
    dsimp only
    rw [nI_1]
    exact hb
  · intro bk
    unfold vF_X0_empty_2 vB_X0_empty_2
    exact ⟨fun _ => h, fun q => absurd (nI_rfl 4 (by omega)) q⟩
theorem s_X11_loop {s11_kind s11_many s11_partMany s11_rule s11_ticks s11_hand s11_g s11_beganElsewhere s11_dBefore s11_fBefore s11_fFirst x1 x2 x3 : Int32} {a11_a a11_b a11_e a11_h a11_on a11_often : Nat → Int32} {a11_sums a11_least a11_most : Nat → Int64} {K : Int32 → Int32 → Int32 → Int32 → Int32 → Int32 → Int32 → Int32 → Int32 → Int32 → Int32 → Int32 → (Nat → Int32) → (Nat → Int32) → (Nat → Int32) → (Nat → Int32) → (Nat → Int64) → (Nat → Int64) → (Nat → Int64) → (Nat → Int32) → (Nat → Int32) → Prop}
    (hy : loopP x1 x2 x3 → (smF x1 x2 = s11_many → K 1 x1 (smF x1 x2) (ptF x1 x2) x3 0 0 0 0 0 0 0 (zI a11_a 16) (zI a11_b 4) (zI a11_e 4) (zI a11_h 4) (zL a11_sums 4) a11_least a11_most (zI a11_on 16) (zI a11_often 16)) ∧ (¬ smF x1 x2 = s11_many → K 1 x1 (smF x1 x2) (ptF x1 x2) x3 0 0 0 0 0 0 0 (zI a11_a 16) (zI a11_b 4) (zI a11_e 4) (zI a11_h 4) (zL a11_sums 4) (zL a11_least 4) (zL a11_most 4) (zI a11_on 16) (zI a11_often 16)))
    (hno : ¬ loopP x1 x2 x3 → K 0 s11_kind s11_many s11_partMany s11_rule s11_ticks s11_hand s11_g s11_beganElsewhere s11_dBefore s11_fBefore s11_fFirst a11_a a11_b a11_e a11_h a11_sums a11_least a11_most a11_on a11_often) :
    v_X11_loop s11_kind s11_many s11_partMany s11_rule s11_ticks s11_hand s11_g s11_beganElsewhere s11_dBefore s11_fBefore s11_fFirst a11_a a11_b a11_e a11_h a11_sums a11_least a11_most a11_on a11_often x1 x2 x3 K := by
  have j244 : ∀ (t3 t6 : Int32) (le mo : Nat → Int64), K 1 x1 t3 t6 x3 0 0 0 0 0 0 0 (zI a11_a 16) (zI a11_b 4) (zI a11_e 4) (zI a11_h 4) (zL a11_sums 4) le mo (zI a11_on 16) (zI a11_often 16) → vJ_X11_loop_244 a11_a a11_b a11_e a11_h a11_sums a11_on a11_often x1 x3 K t3 le mo t6 := by
    intro t3 t6 le mo hK
    refine vloop (fun k => (nI k, zI a11_a k)) 16 ?_ ?_
    · intro bk k hk hb
      unfold vF_X11_loop_250 vB_X11_loop_250
      refine ⟨fun q => absurd q (nI_nle_lt (b := 16) (by omega) hk), fun _ => ⟨nI_inI (by omega) (by decide), ?_⟩⟩
      intro g4 hg4 i6 hi6
      rw [nI_cl (by omega)] at hg4
      subst hg4 hi6
      dsimp only
      rw [nI_1]
      exact hb
    · intro bk
      unfold vF_X11_loop_250 vB_X11_loop_250
      refine ⟨fun _ => ?_, fun q => absurd (nI_rfl 16 (by omega)) q⟩
      refine vloop (fun k => (nI k, zI a11_b k, zI a11_e k, zI a11_h k)) 4 ?_ ?_
      · intro bk k hk hb
        unfold vF_X11_loop_274 vB_X11_loop_274
        refine ⟨fun q => absurd q (nI_nle_lt (b := 4) (by omega) hk), fun _ => ⟨nI_inI (by omega) (by decide), ?_⟩⟩
        intro g4 hg4
        refine ⟨nI_inI (by omega) (by decide), ?_⟩
        intro g5 hg5
        refine ⟨nI_inI (by omega) (by decide), ?_⟩
        intro g7 hg7 i6 hi6
        rw [nI_cl (by omega)] at hg4 hg5 hg7
        subst hg4 hg5 hg7 hi6
        dsimp only
        rw [nI_1]
        exact hb
      · intro bk
        unfold vF_X11_loop_274 vB_X11_loop_274
        exact ⟨fun _ => s_X11_anew hK, fun q => absurd (nI_rfl 4 (by omega)) q⟩
  have j217 : ∀ (t3 : Int32) (le mo : Nat → Int64), K 1 x1 t3 (ptF x1 x2) x3 0 0 0 0 0 0 0 (zI a11_a 16) (zI a11_b 4) (zI a11_e 4) (zI a11_h 4) (zL a11_sums 4) le mo (zI a11_on 16) (zI a11_often 16) → vJ_X11_loop_217 a11_a a11_b a11_e a11_h a11_sums a11_on a11_often x1 x2 x3 K t3 le mo := by
    intro t3 le mo hK
    unfold ptF at hK
    refine ⟨fun q => j244 _ _ _ _ ?_, fun q => j244 _ _ _ _ ?_⟩
    · rw [if_neg q] at hK; exact hK
    · rw [if_pos q] at hK; exact hK
  have j175 : loopP x1 x2 x3 → vJ_X11_loop_175 s11_many a11_a a11_b a11_e a11_h a11_sums a11_least a11_most a11_on a11_often x1 x2 x3 K (smF x1 x2) := by
    intro hp
    obtain ⟨y1, y2⟩ := hy hp
    refine ⟨fun q => j217 _ _ _ (y1 q), fun q => ?_⟩
    have y2 := y2 q
    refine vloop (fun k => (nI k, zL a11_least k, zL a11_most k)) 4 ?_ ?_
    · intro bk k hk hb
      unfold vF_X11_loop_189 vB_X11_loop_189
      refine ⟨fun q => absurd q (nI_nle_lt (b := 4) (by omega) hk), fun _ => ⟨nI_inI (by omega) (by decide), ?_⟩⟩
      intro g4 hg4
      refine ⟨nI_inI (by omega) (by decide), ?_⟩
      intro g5 hg5 i6 hi6
      rw [nI_cl (by omega)] at hg4 hg5
      subst hg4 hg5 hi6
      dsimp only
      rw [nI_1]
      exact hb
    · intro bk
      unfold vF_X11_loop_189 vB_X11_loop_189
      exact ⟨fun _ => j217 _ _ _ y2, fun q => absurd (nI_rfl 4 (by omega)) q⟩
  have yes : loopP x1 x2 x3 → vJ_X11_loop_144 s11_kind s11_many s11_partMany s11_rule s11_ticks s11_hand s11_g s11_beganElsewhere s11_dBefore s11_fBefore s11_fFirst a11_a a11_b a11_e a11_h a11_sums a11_least a11_most a11_on a11_often x1 x2 x3 K 1 := by
    intro hp
    have j := j175 hp
    unfold smF at j
    refine ⟨fun _ => ⟨fun e2 => ?_, fun e2 => ⟨fun e3 => ⟨fun e1 => ?_, fun e1 => ?_⟩, fun e3 => ?_⟩⟩, fun z => absurd z r1n⟩
    · rw [if_neg (by rw [e2]; decide), if_pos e2] at j; exact j
    · rw [if_neg e1, if_neg e2, if_neg e3] at j; exact j
    · rw [if_pos e1] at j; exact j
    · rw [if_neg (by rw [e3]; decide), if_neg e2, if_pos e3] at j; exact j
  have no : ¬ loopP x1 x2 x3 → vJ_X11_loop_144 s11_kind s11_many s11_partMany s11_rule s11_ticks s11_hand s11_g s11_beganElsewhere s11_dBefore s11_fBefore s11_fFirst a11_a a11_b a11_e a11_h a11_sums a11_least a11_most a11_on a11_often x1 x2 x3 K 0 := fun hp => ⟨fun z => absurd rfl z, fun _ => hno hp⟩
  clear hy hno j244 j217 j175
  have j34 : ¬ loopP x1 x2 x3 → vJ_X11_loop_34 s11_kind s11_many s11_partMany s11_rule s11_ticks s11_hand s11_g s11_beganElsewhere s11_dBefore s11_fBefore s11_fFirst a11_a a11_b a11_e a11_h a11_sums a11_least a11_most a11_on a11_often x1 x2 x3 K := by
    intro hp
    have n0 := no hp
    exact ⟨fun _ => ⟨fun _ => ⟨fun _ => ⟨fun _ => n0, fun z => absurd rfl z⟩, fun _ => ⟨fun _ => n0, fun z => absurd rfl z⟩⟩, fun _ => ⟨fun _ => n0, fun z => absurd rfl z⟩⟩, fun _ => ⟨fun _ => n0, fun z => absurd rfl z⟩⟩
  have j30 : 0 ≤ x1.toInt → x1.toInt ≤ 4 → (x1.toInt = 4 ∧ (x3.toInt = 0 ∨ x3.toInt = 1) ∨ ¬ x1.toInt = 4 ∧ x3.toInt = 0) → vJ_X11_loop_30 s11_kind s11_many s11_partMany s11_rule s11_ticks s11_hand s11_g s11_beganElsewhere s11_dBefore s11_fBefore s11_fFirst a11_a a11_b a11_e a11_h a11_sums a11_least a11_most a11_on a11_often x1 x2 x3 K := by
    intro r1 r2 r3
    refine ⟨fun q2 => ⟨fun q3 => ⟨fun q4 => ⟨fun z => absurd z r1n, fun _ => ⟨fun q5 => no ?_, fun q5 => yes ?_⟩⟩, fun q4 => ⟨fun z => absurd z r1n, fun _ => ⟨fun q5 => no ?_, fun q5 => ⟨fun q6 => no ?_, fun q6 => yes ?_⟩⟩⟩⟩, fun q3 => ⟨fun z => absurd z r1n, fun _ => ⟨fun q5 => yes ?_, fun q5 => ⟨fun q6 => no ?_, fun q6 => yes ?_⟩⟩⟩⟩, fun q2 => ⟨fun z => absurd z r1n, fun _ => ⟨fun q5 => no ?_, fun q5 => ⟨fun q6 => no ?_, fun q6 => yes ?_⟩⟩⟩⟩
    all_goals
      clear yes no j34
      unfold loopP
      simp only [i32_eq, Int32.lt_iff_toInt_lt, t32_0, t32_1, t32_2, t32_3, t32_4, t32_16] at *
      omega
  refine ⟨fun q => j34 ?_, fun q => ⟨fun q2 => j34 ?_, fun q2 => ⟨fun q3 => ⟨fun q4 => j34 ?_, fun q4 => j30 ?_ ?_ ?_⟩, fun q3 => ⟨fun q4 => j30 ?_ ?_ ?_, fun q4 => ⟨fun q5 => j34 ?_, fun q5 => j30 ?_ ?_ ?_⟩⟩⟩⟩⟩
  all_goals
    clear yes no j34 j30
    try unfold loopP
    simp only [i32_eq, Int32.lt_iff_toInt_lt, t32_0, t32_1, t32_2, t32_3, t32_4, t32_16] at *
    omega
theorem nearP_0 : nearP 0 := by unfold nearP; decide
theorem QB_z {le mo : Nat → Int64} (h : ∀ k, nearP (le k) ∧ nearP (mo k) ∧ le k ≤ mo k) : ∀ k, nearP (zL le 4 k) ∧ nearP (zL mo 4 k) ∧ zL le 4 k ≤ zL mo 4 k := by
  intro k
  rcases Nat.lt_or_ge k 4 with z | z
  · rw [zL_lt _ _ _ z, zL_lt _ _ _ z]
    exact ⟨nearP_0, nearP_0, by decide⟩
  · have e : ∀ f : Nat → Int64, zL f 4 k = f k := fun f => setL_ge _ _ _ _ z
    rw [e, e]
    exact h k
theorem loop_n {x1 x2 x3 : Int32} (hp : loopP x1 x2 x3) : ∃ n : Nat, smF x1 x2 = nI n ∧ kindP x1 n ∧ (x1 = 3 → 2 ≤ n) := by
  refine ⟨(smF x1 x2).toInt.toNat, nI_tn ?_, ?_, ?_⟩
  · unfold smF
    split
    · decide
    · split
      · rename_i a b
        unfold loopP at hp
        simp only [i32_eq, t32_1, t32_2] at *
        omega
      · split
        · rename_i a b c
          unfold loopP at hp
          simp only [i32_eq, t32_1, t32_2, t32_3] at *
          omega
        · decide
  · unfold kindP smF
    unfold loopP at hp
    split
    · rename_i a
      have : (2 : Int32).toInt.toNat = 2 := by decide
      rw [this]
      exact ⟨by omega, by omega, fun _ => rfl, fun q => absurd a q, fun q => absurd a q⟩
    · split
      · rename_i a b
        refine ⟨?_, ?_, fun q => absurd q a, fun _ q => absurd b q, fun _ q => absurd b q⟩
        · simp only [i32_eq, t32_1, t32_2] at *
          omega
        · simp only [i32_eq, t32_1, t32_2] at *
          omega
      · split
        · rename_i a b c
          have hb : 2 ≤ x2.toInt ∧ x2.toInt ≤ 3 := by
            simp only [i32_eq, t32_1, t32_2, t32_3] at *
            omega
          exact ⟨by omega, by omega, fun q => absurd q a, fun _ _ => by omega, fun _ _ q => absurd c q⟩
        · rename_i a b c
          have : (1 : Int32).toInt.toNat = 1 := by decide
          rw [this]
          exact ⟨by omega, by omega, fun q => absurd q a, fun _ _ => by omega, fun _ _ _ => rfl⟩
  · intro e
    unfold smF
    rw [if_neg (by rw [e]; decide), if_neg (by rw [e]; decide), if_pos e]
    unfold loopP at hp
    simp only [i32_eq, t32_1, t32_2, t32_3] at *
    omega
theorem loop_w {x1 x2 x3 : Int32} (hp : loopP x1 x2 x3) : ∃ p : Nat, ptF x1 x2 = nI p ∧ p ≤ 16 ∧ (x1 = 4 → 2 ≤ p) ∧ (¬ x1 = 4 → p = 0) ∧ (x3 = 0 ∨ x3 = 1) := by
  have hr : x3 = 0 ∨ x3 = 1 := by
    unfold loopP at hp
    simp only [i32_eq, t32_0, t32_1] at *
    omega
  unfold ptF
  by_cases e : x1 = 4
  · rw [if_pos e]
    unfold loopP at hp
    have hb : 2 ≤ x2.toInt ∧ x2.toInt ≤ 16 := by
      simp only [i32_eq, t32_0, t32_1, t32_4] at *
      omega
    exact ⟨x2.toInt.toNat, nI_tn (by omega), by omega, fun _ => by omega, fun q => absurd e q, hr⟩
  · rw [if_neg e]
    exact ⟨0, rfl, by omega, fun q => absurd q e, fun _ => rfl, hr⟩
theorem op_loop {s3_next s3_kept s4_ticks s4_secondBefore s4_thirdBefore s4_thirdTwoBefore s5_kind s5_sums s8_sums s8_g s9_parts s9_rule s9_hand s11_kind s11_many s11_partMany s11_rule s11_ticks s11_hand s11_g s11_beganElsewhere s11_dBefore s11_fBefore s11_fFirst s7_count x1 x2 x3 : Int32} {s4_firstBeganWith : Int64} {a0_least a0_most a4_sums a11_sums a11_least a11_most a3_sums a11_firstSum : Nat → Int64} {a8_a a8_b a8_e a8_h a9_isOn a9_timesOn a11_a a11_b a11_e a11_h a11_on a11_often a7_values a3_wishes a3_givens a3_totals a11_wished a11_given : Nat → Int32} {T : Nat} (hQB : QB a0_least a0_most a11_least a11_most) (hQK : QK s5_kind s5_sums s8_sums s8_g a8_a a8_b a8_e a8_h s11_kind s11_many s11_g a11_a a11_b a11_e a11_h) (hQL : QL T s5_kind s5_sums s7_count a7_values s3_next s3_kept s4_ticks s4_firstBeganWith s4_secondBefore s4_thirdBefore s4_thirdTwoBefore a4_sums a3_wishes a3_givens a3_sums a3_totals s11_ticks s11_beganElsewhere s11_dBefore s11_fBefore s11_fFirst a11_sums a11_wished a11_given a11_firstSum) (hQW : QW s5_kind s9_parts s9_rule s9_hand a9_isOn a9_timesOn s11_partMany s11_rule s11_hand a11_on a11_often) (hT : T + 10000 < 1073741824) : v_X10_loop s3_next s3_kept s4_ticks s4_firstBeganWith s4_secondBefore s4_thirdBefore s4_thirdTwoBefore s5_kind s5_sums s8_sums s8_g s9_parts s9_rule s9_hand a0_least a0_most a4_sums a8_a a8_b a8_e a8_h a9_isOn a9_timesOn x1 x2 x3 (fun r s3_next' s3_kept' s4_ticks' s4_firstBeganWith' s4_secondBefore' s4_thirdBefore' s4_thirdTwoBefore' s5_kind' s5_sums' s8_sums' s8_g' s9_parts' s9_rule' s9_hand' a0_least' a0_most' a4_sums' a8_a' a8_b' a8_e' a8_h' a9_isOn' a9_timesOn' => v_X11_loop s11_kind s11_many s11_partMany s11_rule s11_ticks s11_hand s11_g s11_beganElsewhere s11_dBefore s11_fBefore s11_fFirst a11_a a11_b a11_e a11_h a11_sums a11_least a11_most a11_on a11_often x1 x2 x3 (fun r' s11_kind' s11_many' s11_partMany' s11_rule' s11_ticks' s11_hand' s11_g' s11_beganElsewhere' s11_dBefore' s11_fBefore' s11_fFirst' a11_a' a11_b' a11_e' a11_h' a11_sums' a11_least' a11_most' a11_on' a11_often' => r = r' ∧ QK s5_kind' s5_sums' s8_sums' s8_g' a8_a' a8_b' a8_e' a8_h' s11_kind' s11_many' s11_g' a11_a' a11_b' a11_e' a11_h' ∧ QW s5_kind' s9_parts' s9_rule' s9_hand' a9_isOn' a9_timesOn' s11_partMany' s11_rule' s11_hand' a11_on' a11_often' ∧ QL T s5_kind' s5_sums' s7_count a7_values s3_next' s3_kept' s4_ticks' s4_firstBeganWith' s4_secondBefore' s4_thirdBefore' s4_thirdTwoBefore' a4_sums' a3_wishes a3_givens a3_sums a3_totals s11_ticks' s11_beganElsewhere' s11_dBefore' s11_fBefore' s11_fFirst' a11_sums' a11_wished a11_given a11_firstSum ∧ QB a0_least' a0_most' a11_least' a11_most')) := by
  refine s_X10_canLoop (fun hp => ⟨fun _ => ?_, fun z => absurd z r1n⟩) (fun hp => ⟨fun z => absurd rfl z, fun _ => s_X11_loop (fun g => absurd g hp) (fun _ => ⟨rfl, hQK, hQW, hQL, hQB⟩)⟩)
  obtain ⟨n0, k1, k2, k3, -, -, ka, kb, ke, kh, -⟩ := hQK
  obtain ⟨n, hn, hkp, h3⟩ := loop_n hp
  obtain ⟨p, w1, w2, w3, w4, w5⟩ := loop_w hp
  obtain ⟨p0, h0, -, -, -, -, -, -, -, -, -, -, v11, v12, v13⟩ := hQW
  obtain ⟨b1, b2, b3⟩ := hQB
  have W : QW x1 (ptF x1 x2) x3 0 (zI a9_isOn 16) (zI a9_timesOn 16) (ptF x1 x2) x3 0 (zI a11_on 16) (zI a11_often 16) := ⟨p, 0, w1, w1, w2, w3, w4, rfl, w5, rfl, rfl, Or.inl rfl, by rw [v11], by rw [v12], zI_01 v13 16⟩
  have B1 : QB a0_least a0_most a11_least a11_most := ⟨b1, b2, b3⟩
  have B2 : QB (zL a0_least 4) (zL a0_most 4) (zL a11_least 4) (zL a11_most 4) := ⟨by rw [b1], by rw [b2], QB_z b3⟩
  have za := zI_eq _ _ 16 ka
  have zb := zI_eq _ _ 4 kb
  have ze := zI_eq _ _ 4 ke
  have zh := zI_eq _ _ 4 kh
  have gz : ∀ (f g : Nat → Int32) (m k : Nat), m ≤ k → (∀ k, m ≤ k → f k = g k) → f k = zI g m k := fun f g m k hk h => by rw [zI_ge _ _ _ hk]; exact h k hk
  refine s_X4_begin (fun e => ?_) (fun e => ?_)
  · have KQ : QK x1 (smF x1 x2) x2 0 (zI a8_a 16) (zI a8_b 4) (zI a8_e 4) (zI a8_h 4) x1 (smF x1 x2) 0 (zI a11_a 16) (zI a11_b 4) (zI a11_e 4) (zI a11_h 4) := by
      refine ⟨n, rfl, hn, hn, hkp, h3, fun k _ => by rw [za], fun k _ => by rw [zb], fun k _ => by rw [ze], fun k _ => by rw [zh], fun _ => ⟨?_, rfl, za, zb, ze, zh⟩⟩
      rw [← hn]
      unfold smF
      rw [if_neg (by rw [e]; decide), if_pos e]
    refine ⟨fun q => s_X11_loop (fun _ => ⟨fun _ => ⟨rfl, KQ, W, QL_anew hQL, B1⟩, fun z => absurd (by rw [q, k2, k3]) z⟩) (fun b => absurd hp b), fun q => s_X0_empty (s_X11_loop (fun _ => ⟨fun z => absurd (by rw [z, k2, k3]) q, fun _ => ⟨rfl, KQ, W, QL_anew hQL, B2⟩⟩) (fun b => absurd hp b))⟩
  · have KQ : QK x1 (smF x1 x2) s8_sums s8_g a8_a a8_b a8_e a8_h x1 (smF x1 x2) 0 (zI a11_a 16) (zI a11_b 4) (zI a11_e 4) (zI a11_h 4) :=
      ⟨n, rfl, hn, hn, hkp, h3, fun k hk => gz _ _ _ k hk ka, fun k hk => gz _ _ _ k hk kb, fun k hk => gz _ _ _ k hk ke, fun k hk => gz _ _ _ k hk kh, fun q => absurd q e⟩
    refine ⟨fun q => s_X11_loop (fun _ => ⟨fun _ => ⟨rfl, KQ, W, QL_anew hQL, B1⟩, fun z => absurd (by rw [q, k2, k3]) z⟩) (fun b => absurd hp b), fun q => s_X0_empty (s_X11_loop (fun _ => ⟨fun z => absurd (by rw [z, k2, k3]) q, fun _ => ⟨rfl, KQ, W, QL_anew hQL, B2⟩⟩) (fun b => absurd hp b))⟩
