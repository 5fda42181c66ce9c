/-! pure: steps are told -/
theorem t32_2 : (2 : Int32).toInt = 2 := by decide
theorem t32_3 : (3 : Int32).toInt = 3 := by decide
theorem t32_4 : (4 : Int32).toInt = 4 := by decide
theorem t32_5 : (5 : Int32).toInt = 5 := by decide
theorem t32_8 : (8 : Int32).toInt = 8 := by decide
theorem t32_16 : (16 : Int32).toInt = 16 := by decide
theorem t32_100 : (100 : Int32).toInt = 100 := by decide
theorem t32_m100 : (-100 : Int32).toInt = -100 := by decide
theorem i32_eq {x y : Int32} : x = y ↔ x.toInt = y.toInt := Int32.toInt_inj.symm
theorem nI_tn {x : Int32} (h : 0 ≤ x.toInt) : x = nI x.toInt.toNat := by
  apply Int32.toInt_inj.mp
  have := Int32.toInt_lt x
  rw [nI_toInt (by omega)]
  omega
def tdF (x2 x3 x4 x5 x6 x7 x8 x9 : Int32) : Nat → Int32 := upd (upd (upd (upd (upd (upd (upd (upd (fun _ => 0) (0 : Int32).toNatClampNeg x2) (1 : Int32).toNatClampNeg x3) (2 : Int32).toNatClampNeg x4) (3 : Int32).toNatClampNeg x5) (4 : Int32).toNatClampNeg x6) (5 : Int32).toNatClampNeg x7) (6 : Int32).toNatClampNeg x8) (7 : Int32).toNatClampNeg x9
theorem tdF_eq (f : Nat → Int32) (x2 x3 x4 x5 x6 x7 x8 x9 : Int32) : ∀ k, k < 8 → (upd (upd (upd (upd (upd (upd (upd (upd f (0 : Int32).toNatClampNeg x2) (1 : Int32).toNatClampNeg x3) (2 : Int32).toNatClampNeg x4) (3 : Int32).toNatClampNeg x5) (4 : Int32).toNatClampNeg x6) (5 : Int32).toNatClampNeg x7) (6 : Int32).toNatClampNeg x8) (7 : Int32).toNatClampNeg x9) k = tdF x2 x3 x4 x5 x6 x7 x8 x9 k := by
  intro k hk
  match k, hk with
  | 0, _ => rfl
  | 1, _ => rfl
  | 2, _ => rfl
  | 3, _ => rfl
  | 4, _ => rfl
  | 5, _ => rfl
  | 6, _ => rfl
  | 7, _ => rfl
theorem stpP_congr {f g : Nat → Int32} {n : Nat} (h : ∀ k, k < n → f k = g k) (hs : stpP f n) : stpP g n :=
  ⟨fun k hk => by rw [← h k hk]; exact hs.1 k hk, fun k hk => by rw [← h k (by omega), ← h (k + 1) hk]; exact hs.2 k hk⟩
theorem stpP_succ {f : Nat → Int32} {k : Nat} (h : stpP f k) (h1 : ¬ f k < -100) (h2 : ¬ (100 : Int32) < f k) (h3 : k = 0 ∨ ∃ j, k = j + 1 ∧ f j < f k) : stpP f (k + 1) := by
  rw [Int32.lt_iff_toInt_lt, t32_m100] at h1
  rw [Int32.lt_iff_toInt_lt, t32_100] at h2
  refine ⟨fun j hj => ?_, fun j hj => ?_⟩
  · by_cases e : j = k
    · rw [e]; omega
    · exact h.1 j (by omega)
  · by_cases e : j + 1 = k
    · rcases h3 with z | ⟨i, hi, hlt⟩
      · omega
      · have : i = j := by omega
        subst this
        rw [e, ← Int32.lt_iff_toInt_lt]
        exact hlt
    · exact h.2 j (by omega)
def tlP (td : Nat → Int32) (x1 : Int32) : Prop := ∃ n : Nat, 2 ≤ n ∧ n ≤ 8 ∧ x1 = nI n ∧ stpP td n
theorem tlP_lt {td : Nat → Int32} {x1 : Int32} (h : x1 < 2) : ¬ tlP td x1 := by
  rintro ⟨n, h1, h2, rfl, -⟩
  have := (nI_lt_iff (b := 2) (by omega) (by omega)).mp h
  omega
theorem tlP_gt {td : Nat → Int32} {x1 : Int32} (h : ¬ x1 ≤ 8) : ¬ tlP td x1 := by
  rintro ⟨n, h1, h2, rfl, -⟩
  exact h ((nI_le_iff (b := 8) (by omega) (by omega)).mpr h2)
theorem tl_nat {x1 : Int32} (h1 : ¬ x1 < 2) (h2 : x1 ≤ 8) : ∃ n : Nat, 2 ≤ n ∧ n ≤ 8 ∧ x1 = nI n := by
  rw [Int32.lt_iff_toInt_lt, t32_2] at h1
  rw [Int32.le_iff_toInt_le, t32_8] at h2
  exact ⟨x1.toInt.toNat, by omega, by omega, nI_tn (by omega)⟩
theorem s_X7_canTake {td : Nat → Int32} {x1 : Int32} {K : Int32 → Prop} (hy : tlP td x1 → K 1) (hno : ¬ tlP td x1 → K 0) : v_X7_canTake td x1 K := by
  refine ⟨fun q => hno (tlP_lt q), fun q => ⟨fun q2 => hno (tlP_gt (fun z => absurd q2 (Int32.not_lt.mpr z))), fun q2 => ⟨fun q3 => ?_, fun q3 => hno (tlP_gt q3)⟩⟩⟩
  obtain ⟨n, n2, n8, hx⟩ := tl_nat q q3
  subst hx
  refine vfix_ex (fun x : Int32 => ∃ k : Nat, x = nI k ∧ k ≤ n ∧ stpP td k) (fun x => n - x.toNatClampNeg) ?_ 0 ⟨0, rfl, by omega, fun j hj => by omega, fun j hj => by omega⟩
  rintro bk x ⟨k, rfl, hk, hs⟩ hbk
  unfold vF_X7_canTake_21 vB_X7_canTake_21
  refine ⟨fun z => ?_, fun z => ?_⟩
  · have z : n ≤ k := (nI_le_iff (by omega) (by omega)).mp z
    have : k = n := by omega
    subst this
    exact hy ⟨k, n2, n8, rfl, hs⟩
  · have z : k < n := by
      rcases Nat.lt_or_ge k n with y | y
      · exact y
      · exact absurd ((nI_le_iff (by omega) (by omega)).mpr y) z
    refine ⟨nI_inI (by omega) (by decide), ?_⟩
    intro g2 hg2
    rw [nI_cl (by omega)] at hg2
    subst hg2
    have nx : (k = 0 ∨ ∃ j, k = j + 1 ∧ td j < td k) → (¬ td k < -100 ∧ ¬ (100 : Int32) < td k) → vJ_X7_canTake_54 (nI k) bk := by
      intro h3 hw i4 hi4
      refine hbk i4 ⟨k + 1, by rw [hi4, nI_1], by omega, stpP_succ hs hw.1 hw.2 h3⟩ ?_
      rw [hi4, nI_1, nI_cl (by omega), nI_cl (by omega)]
      omega
    refine s_X10_isWithin (fun hw => ⟨fun y => absurd y r1n, fun _ => ?_⟩) (fun hw => ⟨fun _ => hno ?_, fun y => absurd rfl y⟩)
    · refine ⟨fun y => nx (Or.inl ((nI_le0 (by omega)).mp y)) hw, fun y => ?_⟩
      obtain ⟨j, rfl⟩ : ∃ j, k = j + 1 := by
        cases k with
        | zero => exact absurd ((nI_le0 (by omega)).mpr rfl) y
        | succ j => exact ⟨j, rfl⟩
      refine ⟨nI_inI (by omega) (by decide), ?_⟩
      intro g5 hg5 e6 he6
      rw [nI_s1] at he6
      subst he6
      refine ⟨nI_inI (by omega) (by decide), ?_⟩
      intro g7 hg7
      rw [nI_cl (by omega)] at hg5 hg7
      subst hg5 hg7
      refine ⟨fun w => nx (Or.inr ⟨j, rfl, w⟩) hw, fun w => hno ?_⟩
      rintro ⟨m, m2, m8, hm, hms⟩
      have : n = m := (nI_eq (by omega) (by omega)).mp hm
      subst this
      exact w (Int32.lt_iff_toInt_lt.mpr (hms.2 j z))
    · rintro ⟨m, m2, m8, hm, hms⟩
      have : n = m := (nI_eq (by omega) (by omega)).mp hm
      subst this
      have b := hms.1 k z
      refine hw ⟨fun y => ?_, fun y => ?_⟩
      · rw [Int32.lt_iff_toInt_lt, t32_m100] at y
        omega
      · rw [Int32.lt_iff_toInt_lt, t32_100] at y
        omega
theorem s_X7_take {vals td : Nat → Int32} {n : Nat} {K : Int32 → (Nat → Int32) → Prop} (h8 : n ≤ 8) (h : K (nI n) (setI vals td n)) : v_X7_take vals td (nI n) K := by
  refine vloop (fun k => (nI k, setI vals td k)) n ?_ ?_
  · intro bk k hk hb
    unfold vF_X7_take_7 vB_X7_take_7
    refine ⟨fun q => absurd q (nI_nle_lt (by omega) hk), fun _ => ⟨nI_inI (by omega) (by decide), ?_⟩⟩
    intro g3 hg3
    refine ⟨nI_inI (by omega) (by decide), ?_⟩
    intro a4 ha4 i5 hi5
    rw [nI_cl (by omega)] at hg3 ha4
    subst ha4 hg3 hi5
    dsimp only
    rw [nI_1]
    exact hb
  · intro bk
    unfold vF_X7_take_7 vB_X7_take_7
    exact ⟨fun _ => h, fun q => absurd (nI_rfl n (by omega)) q⟩
theorem s_X11_steps {s11_stepMany s11_ticks s11_hand s11_beganElsewhere s11_dBefore s11_fBefore s11_fFirst x1 x2 x3 x4 x5 x6 x7 x8 x9 : Int32} {a11_steps a11_stepsTold a11_on a11_often : Nat → Int32} {a11_sums : Nat → Int64} {K : Int32 → Int32 → Int32 → Int32 → Int32 → Int32 → Int32 → Int32 → (Nat → Int32) → (Nat → Int32) → (Nat → Int64) → (Nat → Int32) → (Nat → Int32) → Prop}
    (hy : ∀ (n : Nat) (td : Nat → Int32), 2 ≤ n → n ≤ 8 → x1 = nI n → stpP (tdF x2 x3 x4 x5 x6 x7 x8 x9) n → K 1 x1 0 0 0 0 0 0 (setI a11_steps (tdF x2 x3 x4 x5 x6 x7 x8 x9) n) td (zL a11_sums 4) (zI a11_on 16) (zI a11_often 16))
    (hno : ∀ td : Nat → Int32, ¬ tlP (tdF x2 x3 x4 x5 x6 x7 x8 x9) x1 → K 0 s11_stepMany s11_ticks s11_hand s11_beganElsewhere s11_dBefore s11_fBefore s11_fFirst a11_steps td a11_sums a11_on a11_often) :
    v_X11_steps s11_stepMany s11_ticks s11_hand s11_beganElsewhere s11_dBefore s11_fBefore s11_fFirst a11_steps a11_stepsTold a11_sums a11_on a11_often x1 x2 x3 x4 x5 x6 x7 x8 x9 K := by
  refine ⟨fun q => hno _ (tlP_lt q), fun q => ⟨fun q3 => ?_, fun q3 => hno _ (tlP_gt q3)⟩⟩
  obtain ⟨n, n2, n8, hx⟩ := tl_nat q q3
  refine ⟨nI_inI (a := 0) (by omega) (by decide), fun d1 h1 => ?_⟩
  refine ⟨nI_inI (a := 1) (by omega) (by decide), fun d2 h2 => ?_⟩
  refine ⟨nI_inI (a := 2) (by omega) (by decide), fun d3 h3 => ?_⟩
  refine ⟨nI_inI (a := 3) (by omega) (by decide), fun d4 h4 => ?_⟩
  refine ⟨nI_inI (a := 4) (by omega) (by decide), fun d5 h5 => ?_⟩
  refine ⟨nI_inI (a := 5) (by omega) (by decide), fun d6 h6 => ?_⟩
  refine ⟨nI_inI (a := 6) (by omega) (by decide), fun d7 h7 => ?_⟩
  refine ⟨nI_inI (a := 7) (by omega) (by decide), fun td h8 => ?_⟩
  have ht : ∀ k, k < 8 → td k = tdF x2 x3 x4 x5 x6 x7 x8 x9 k := by
    rw [h8, h7, h6, h5, h4, h3, h2, h1]
    exact tdF_eq a11_stepsTold x2 x3 x4 x5 x6 x7 x8 x9
  clear h1 h2 h3 h4 h5 h6 h7 h8
  generalize tdF x2 x3 x4 x5 x6 x7 x8 x9 = tf at hy hno ht
  have hse : setI a11_steps td n = setI a11_steps tf n := by
    funext j
    rcases Nat.lt_or_ge j n with z | z
    · rw [setI_lt _ _ _ _ z, setI_lt _ _ _ _ z, ht j (by omega)]
    · rw [setI_ge _ _ _ _ z, setI_ge _ _ _ _ z]
  subst hx
  have yes : stpP tf n → vJ_X11_steps_137 s11_stepMany s11_ticks s11_hand s11_beganElsewhere s11_dBefore s11_fBefore s11_fFirst a11_steps a11_sums a11_on a11_often (nI n) K td 1 := by
    intro hs
    have hK := hy n td n2 n8 rfl hs
    rw [← hse] at hK
    refine ⟨fun _ => ?_, fun z => absurd z r1n⟩
    refine vloop (fun k => (nI k, setI a11_steps td k)) n ?_ ?_
    · intro bk k hk hb
      unfold vF_X11_steps_147 vB_X11_steps_147
      refine ⟨fun q => absurd q (nI_nle_lt (by omega) hk), fun _ => ⟨nI_inI (by omega) (by decide), ?_⟩⟩
      intro g3 hg3
      refine ⟨nI_inI (by omega) (by decide), ?_⟩
      intro a4 ha4 i5 hi5
      rw [nI_cl (by omega)] at hg3 ha4
      subst ha4 hg3 hi5
      dsimp only
      rw [nI_1]
      exact hb
    · intro bk
      unfold vF_X11_steps_147 vB_X11_steps_147
      exact ⟨fun _ => s_X11_anew hK, fun q => absurd (nI_rfl n (by omega)) q⟩
  have no : ¬ stpP tf n → vJ_X11_steps_137 s11_stepMany s11_ticks s11_hand s11_beganElsewhere s11_dBefore s11_fBefore s11_fFirst a11_steps a11_sums a11_on a11_often (nI n) K td 0 := by
    intro hs
    refine ⟨fun z => absurd rfl z, fun _ => hno td ?_⟩
    rintro ⟨m, m2, m8, hm, hms⟩
    have : n = m := (nI_eq (by omega) (by omega)).mp hm
    subst this
    exact hs hms
  refine vfix_ex (fun x : Int32 × Int32 => ∃ k : Nat, x.1 = nI k ∧ k ≤ n ∧ ((x.2 = 1 ∧ stpP tf k) ∨ (x.2 = 0 ∧ ¬ stpP tf n))) (fun x => n - x.1.toNatClampNeg) ?_ ((0 : Int32), (1 : Int32)) ⟨0, rfl, by omega, Or.inl ⟨rfl, fun j hj => by omega, fun j hj => by omega⟩⟩
  rintro bk ⟨x, d⟩ ⟨k, hx, hk, hd⟩ hbk
  dsimp only at hx hd
  subst hx
  unfold vF_X11_steps_73 vB_X11_steps_73
  dsimp only
  have mu : ∀ d' : Int32, k < n → n - (nI (k + 1), d').1.toNatClampNeg < n - (nI k, d).1.toNatClampNeg := by
    intro d' hkn
    dsimp only
    rw [nI_cl (by omega), nI_cl (by omega)]
    omega
  rcases hd with ⟨rfl, hs⟩ | ⟨rfl, hs⟩
  · refine ⟨fun z => ?_, fun z => ⟨fun y => absurd y r1n, fun _ => ?_⟩⟩
    · have z : n ≤ k := (nI_le_iff (by omega) (by omega)).mp z
      have : k = n := by omega
      subst this
      exact yes hs
    · have z : k < n := by
        rcases Nat.lt_or_ge k n with y | y
        · exact y
        · exact absurd ((nI_le_iff (by omega) (by omega)).mpr y) z
      have out : ¬ stpP tf n → vJ_X11_steps_128 (nI k) (fun z0 z1 => bk (z0, z1)) := by
        intro hh i hi
        rw [hi, nI_1]
        exact hbk _ ⟨k + 1, rfl, by omega, Or.inr ⟨rfl, hh⟩⟩ (mu _ z)
      have on : stpP tf (k + 1) → vJ_X11_steps_124 (nI k) (fun z0 z1 => bk (z0, z1)) := by
        intro hh i hi
        rw [hi, nI_1]
        exact hbk _ ⟨k + 1, rfl, by omega, Or.inl ⟨rfl, hh⟩⟩ (mu _ z)
      refine ⟨nI_inI (by omega) (by decide), ?_⟩
      intro g25 hg25
      rw [nI_cl (by omega), ht k (by omega)] at hg25
      subst hg25
      refine ⟨fun y => out (fun w => ?_), fun y1 => ⟨nI_inI (by omega) (by decide), ?_⟩⟩
      · have b := w.1 k z
        rw [Int32.lt_iff_toInt_lt, t32_m100] at y
        omega
      intro g28 hg28
      rw [nI_cl (by omega), ht k (by omega)] at hg28
      subst hg28
      refine ⟨fun y => out (fun w => ?_), fun y2 => ⟨fun y3 => on (stpP_succ hs y1 y2 (Or.inl ((nI_eq0 (by omega)).mp y3))), fun y3 => ?_⟩⟩
      · have b := w.1 k z
        rw [Int32.lt_iff_toInt_lt, t32_100] at y
        omega
      obtain ⟨j, rfl⟩ : ∃ j, k = j + 1 := by
        cases k with
        | zero => exact absurd rfl y3
        | succ j => exact ⟨j, rfl⟩
      intro e29 he29
      rw [nI_s1] at he29
      subst he29
      refine ⟨nI_inI (by omega) (by decide), ?_⟩
      intro g30 hg30
      refine ⟨nI_inI (by omega) (by decide), ?_⟩
      intro g31 hg31
      rw [nI_cl (by omega), ht j (by omega)] at hg30
      rw [nI_cl (by omega), ht (j + 1) (by omega)] at hg31
      subst hg30 hg31
      refine ⟨fun y => out (fun w => ?_), fun y => on (stpP_succ hs y1 y2 (Or.inr ⟨j, rfl, Int32.not_le.mp y⟩))⟩
      have b := w.2 j z
      rw [Int32.le_iff_toInt_le] at y
      omega
  · exact ⟨fun _ => no hs, fun _ => ⟨fun _ => no hs, fun y => absurd rfl y⟩⟩
theorem op_steps {s3_next s3_kept s4_ticks s4_secondBefore s4_thirdBefore s4_thirdTwoBefore s7_count s9_hand s11_stepMany s11_ticks s11_hand s11_beganElsewhere s11_dBefore s11_fBefore s11_fFirst s5_kind s5_sums s7_over s11_d s9_parts s9_rule s11_partMany s11_rule x1 x2 x3 x4 x5 x6 x7 x8 x9 : Int32} {s4_firstBeganWith : Int64} {a4_sums a11_sums a3_sums a11_firstSum : Nat → Int64} {a7_values a9_isOn a9_timesOn a11_steps a11_stepsTold a11_on a11_often a3_wishes a3_givens a3_totals a11_wished a11_given : Nat → Int32} {T : Nat} (hQL : QL T s5_kind s5_sums s7_count a7_values s3_next s3_kept s4_ticks s4_firstBeganWith s4_secondBefore s4_thirdBefore s4_thirdTwoBefore a4_sums a3_wishes a3_givens a3_sums a3_totals s11_ticks s11_beganElsewhere s11_dBefore s11_fBefore s11_fFirst a11_sums a11_wished a11_given a11_firstSum) (hQS : QS s7_over s7_count a7_values s11_d s11_stepMany a11_steps) (hQW : QW s5_kind s9_parts s9_rule s9_hand a9_isOn a9_timesOn s11_partMany s11_rule s11_hand a11_on a11_often) (hT : T + 10000 < 1073741824) : v_X10_steps s3_next s3_kept s4_ticks s4_firstBeganWith s4_secondBefore s4_thirdBefore s4_thirdTwoBefore s7_count s9_hand a4_sums a7_values a9_isOn a9_timesOn x1 x2 x3 x4 x5 x6 x7 x8 x9 (fun r s3_next' s3_kept' s4_ticks' s4_firstBeganWith' s4_secondBefore' s4_thirdBefore' s4_thirdTwoBefore' s7_count' s9_hand' a4_sums' a7_values' a9_isOn' a9_timesOn' => v_X11_steps s11_stepMany s11_ticks s11_hand s11_beganElsewhere s11_dBefore s11_fBefore s11_fFirst a11_steps a11_stepsTold a11_sums a11_on a11_often x1 x2 x3 x4 x5 x6 x7 x8 x9 (fun r' s11_stepMany' s11_ticks' s11_hand' s11_beganElsewhere' s11_dBefore' s11_fBefore' s11_fFirst' a11_steps' a11_stepsTold' a11_sums' a11_on' a11_often' => r = r' ∧ QS s7_over s7_count' a7_values' s11_d s11_stepMany' a11_steps' ∧ QW s5_kind s9_parts s9_rule s9_hand' a9_isOn' a9_timesOn' s11_partMany s11_rule s11_hand' a11_on' a11_often' ∧ QL T s5_kind s5_sums s7_count' a7_values' s3_next' s3_kept' s4_ticks' s4_firstBeganWith' s4_secondBefore' s4_thirdBefore' s4_thirdTwoBefore' a4_sums' a3_wishes a3_givens a3_sums a3_totals s11_ticks' s11_beganElsewhere' s11_dBefore' s11_fBefore' s11_fFirst' a11_sums' a11_wished a11_given a11_firstSum)) := by
  have cls : ∀ K : Int32 → Int32 → Int32 → Int32 → Int64 → Int32 → Int32 → Int32 → Int32 → Int32 → (Nat → Int64) → (Nat → Int32) → (Nat → Int32) → (Nat → Int32) → Prop, (∀ n : Nat, 2 ≤ n → n ≤ 8 → x1 = nI n → stpP (tdF x2 x3 x4 x5 x6 x7 x8 x9) n → K 1 0 0 0 0 0 0 0 x1 0 (zL a4_sums 4) (setI a7_values (tdF x2 x3 x4 x5 x6 x7 x8 x9) n) (zI a9_isOn 16) (zI a9_timesOn 16)) → (¬ tlP (tdF x2 x3 x4 x5 x6 x7 x8 x9) x1 → K 0 s3_next s3_kept s4_ticks s4_firstBeganWith s4_secondBefore s4_thirdBefore s4_thirdTwoBefore s7_count s9_hand a4_sums a7_values a9_isOn a9_timesOn) → v_X10_steps s3_next s3_kept s4_ticks s4_firstBeganWith s4_secondBefore s4_thirdBefore s4_thirdTwoBefore s7_count s9_hand a4_sums a7_values a9_isOn a9_timesOn x1 x2 x3 x4 x5 x6 x7 x8 x9 K := by
    intro K hy hno
    refine ⟨nI_inI (a := 0) (by omega) (by decide), fun d1 h1 => ?_⟩
    refine ⟨nI_inI (a := 1) (by omega) (by decide), fun d2 h2 => ?_⟩
    refine ⟨nI_inI (a := 2) (by omega) (by decide), fun d3 h3 => ?_⟩
    refine ⟨nI_inI (a := 3) (by omega) (by decide), fun d4 h4 => ?_⟩
    refine ⟨nI_inI (a := 4) (by omega) (by decide), fun d5 h5 => ?_⟩
    refine ⟨nI_inI (a := 5) (by omega) (by decide), fun d6 h6 => ?_⟩
    refine ⟨nI_inI (a := 6) (by omega) (by decide), fun d7 h7 => ?_⟩
    refine ⟨nI_inI (a := 7) (by omega) (by decide), fun td h8 => ?_⟩
    have ht : td = tdF x2 x3 x4 x5 x6 x7 x8 x9 := by
      rw [h8, h7, h6, h5, h4, h3, h2, h1]
      rfl
    rw [ht]
    refine s_X7_canTake (fun g => ⟨fun _ => ?_, fun z => absurd z r1n⟩) (fun b => ⟨fun z => absurd rfl z, fun _ => hno b⟩)
    obtain ⟨n, n2, n8, hx, hs⟩ := g
    have hK := hy n n2 n8 hx hs
    subst hx
    exact s_X7_take n8 (s_X4_beginAnew hK)
  refine cls _ (fun n n2 n8 hx hs => ?_) (fun b => s_X11_steps (fun n td n2 n8 hx hs => absurd ⟨n, n2, n8, hx, hs⟩ b) (fun td _ => ⟨rfl, hQS, hQW, hQL⟩))
  refine s_X11_steps (fun m td m2 m8 hm hms => ⟨rfl, ?_, QW_anew hQW, QL_anew hQL⟩) (fun td b => absurd ⟨n, n2, n8, hx, hs⟩ b)
  have : n = m := (nI_eq (by omega) (by omega)).mp (by rw [← hx, hm])
  subst this
  obtain ⟨c, h1, h2, h3, h4, h5, h6, h7, h8⟩ := hQS
  refine ⟨n, hx, hx, n2, n8, h5, by rw [h6], h7, ?_⟩
  exact stpP_congr (fun k hk => (setI_lt _ _ _ _ hk).symm) hs
