/-! pure: the small ops -/
theorem ixno {k n : Nat} (hk : k < n) (hn : n < 2147483648) (h : nI k < 0 ∨ nI n ≤ nI k) : False := by
  rcases h with h | h
  · exact absurd h (nI_pos (by omega))
  · exact absurd h (nI_nle_lt hn hk)
theorem s_X5_hasSum {sm x : Int32} {n : Nat} {K : Int32 → Prop} (hn : sm = nI n) (hl : n < 1073741824) (h1 : ∀ k : Nat, k < n → x = nI k → K 1) (h0 : (x < 0 ∨ nI n ≤ x) → K 0) : v_X5_hasSum sm x K := by
  subst hn
  refine ⟨fun q => h0 (Or.inl q), fun q => ⟨fun q2 => h0 (Or.inr q2), fun q2 => ?_⟩⟩
  rcases pk_ix x (n := n) (by omega) with z | z | ⟨j, hj, hx⟩
  · exact absurd z q
  · exact absurd z q2
  · exact h1 j hj hx
theorem s_X11_isSum {sm x : Int32} {n : Nat} {K : Int32 → Prop} (hn : sm = nI n) (hl : n < 1073741824) (h1 : ∀ k : Nat, k < n → x = nI k → K 1) (h0 : (x < 0 ∨ nI n ≤ x) → K 0) : v_X11_isSum sm x K := by
  subst hn
  refine ⟨fun q => h0 (Or.inl q), fun q => ⟨fun q2 => h0 (Or.inr q2), fun q2 => ?_⟩⟩
  rcases pk_ix x (n := n) (by omega) with z | z | ⟨j, hj, hx⟩
  · exact absurd z q
  · exact absurd z q2
  · exact h1 j hj hx
theorem r1n : ¬ (1 : Int32) = 0 := by decide
theorem op_sum {s5_sums s11_many s5_kind s8_sums s8_g s11_kind s11_g s7_count s3_next s3_kept s4_ticks s4_secondBefore s4_thirdBefore s4_thirdTwoBefore s11_ticks s11_beganElsewhere s11_dBefore s11_fBefore s11_fFirst x1 : Int32} {a4_sums a11_sums a3_sums a11_firstSum : Nat → Int64} {a8_a a8_b a8_e a8_h a11_a a11_b a11_e a11_h a7_values a3_wishes a3_givens a3_totals a11_wished a11_given : Nat → Int32} {T : Nat} {s4_firstBeganWith : Int64} (hQK : QK s5_kind s5_sums s8_sums s8_g a8_a a8_b a8_e a8_h s11_kind s11_many s11_g a11_a a11_b a11_e a11_h) (hQL : QL T s5_kind s5_sums s7_count a7_values s3_next s3_kept s4_ticks s4_firstBeganWith s4_secondBefore s4_thirdBefore s4_thirdTwoBefore a4_sums a3_wishes a3_givens a3_sums a3_totals s11_ticks s11_beganElsewhere s11_dBefore s11_fBefore s11_fFirst a11_sums a11_wished a11_given a11_firstSum) (hT : T + 10000 < 1073741824) : v_X10_sum s5_sums a4_sums x1 (fun r => v_X11_sum s11_many a11_sums x1 (fun r' => r = r')) := by
  obtain ⟨n, -, hsm, hmn, ⟨n1, n4, -⟩, -⟩ := hQK
  obtain ⟨t, -, -, -, -, -, hsu, -⟩ := hQL
  subst hsu
  refine s_X5_hasSum hsm (by omega) (fun k hk hx => ?_) (fun h => ⟨fun _ => ?_, fun q => absurd rfl q⟩)
  · subst hx
    refine ⟨fun q => absurd q r1n, fun _ => ⟨nI_inI (by omega) (by decide), ?_⟩⟩
    intro g hg
    refine s_X11_isSum hmn (by omega) (fun j hj hx => ⟨fun q => absurd q r1n, fun _ => ⟨nI_inI (by omega) (by decide), ?_⟩⟩) (fun h => (ixno hk (by omega) h).elim)
    intro g2 hg2
    rw [hg, hg2]
  · refine s_X11_isSum hmn (by omega) (fun j hj hx => ?_) (fun _ => ⟨fun _ => rfl, fun q => absurd rfl q⟩)
    rw [hx] at h
    exact (ixno hj (by omega) h).elim
theorem op_tail {s6_toldTail s11_tailTold : Int32} (hQO : QO s6_toldTail s11_tailTold) : v_X10_tail s6_toldTail  (fun r => v_X11_tail s11_tailTold  (fun r' => r = r')) := by
  exact hQO
theorem QB_set {le mo : Nat → Int64} {x2 x4 : Int64} {k : Nat} (h : ∀ k, nearP (le k) ∧ nearP (mo k) ∧ le k ≤ mo k) (h2 : nearP x2) (h4 : nearP x4) (h24 : ¬ x4 < x2) : ∀ j, nearP (vp_updL le k x2 j) ∧ nearP (vp_updL mo k x4 j) ∧ vp_updL le k x2 j ≤ vp_updL mo k x4 j := by
  intro j
  unfold vp_updL
  by_cases e : j = k
  · rw [if_pos e, if_pos e]
    exact ⟨h2, h4, Int64.not_lt.mp h24⟩
  · rw [if_neg e, if_neg e]
    exact h j
def ixP (n : Nat) (x : Int32) : Prop := ∃ k : Nat, k < n ∧ x = nI k
theorem ixP_no {n : Nat} {x : Int32} (hn : n < 2147483648) (h : x < 0 ∨ nI n ≤ x) : ¬ ixP n x := by
  rintro ⟨k, hk, rfl⟩
  exact ixno hk hn h
theorem ixP_in {n m : Nat} {x : Int32} (h : ixP n x) (hm : n ≤ m) (hl : m < 2147483648) : vp_in x m := by
  obtain ⟨k, hk, rfl⟩ := h
  exact nI_inI (by omega) hl
def boxP (n : Nat) (x1 : Int32) (x2 x4 : Int64) : Prop := ixP n x1 ∧ ¬ x4 < x2 ∧ nearP x2 ∧ nearP x4
theorem s_X10_box {sm x1 : Int32} {x2 x4 : Int64} {le mo : Nat → Int64} {n : Nat} {K : Int32 → (Nat → Int64) → (Nat → Int64) → Prop} (hn : sm = nI n) (h4 : n ≤ 4) (hy : boxP n x1 x2 x4 → K 1 (vp_updL le x1.toNatClampNeg x2) (vp_updL mo x1.toNatClampNeg x4)) (hno : ¬ boxP n x1 x2 x4 → K 0 le mo) : v_X10_box sm le mo x1 x2 x4 K := by
  refine s_X5_hasSum hn (by omega) (fun k hk hx => ?_) (fun h => ⟨fun _ => hno (fun q => ixP_no (by omega) h q.1), fun q => absurd rfl q⟩)
  refine ⟨fun q => absurd q r1n, fun _ => ⟨fun q => hno (fun z => z.2.1 q), fun q => ?_⟩⟩
  refine s_X10_isSum (fun h2 => ⟨fun z => absurd z r1n, fun _ => ?_⟩) (fun h2 => ⟨fun _ => hno (fun z => h2 z.2.2.1), fun z => absurd rfl z⟩)
  refine s_X10_isSum (fun h3 => ⟨fun _ => ?_, fun z => absurd z r1n⟩) (fun h3 => ⟨fun z => absurd rfl z, fun _ => hno (fun z => h3 z.2.2.2)⟩)
  have ix : ixP n x1 := ⟨k, hk, hx⟩
  refine ⟨ixP_in ix h4 (by omega), ?_⟩
  intro a ha
  refine ⟨ixP_in ix h4 (by omega), ?_⟩
  intro b hb
  rw [ha, hb]
  exact hy ⟨ix, q, h2, h3⟩
theorem s_X11_box {sm x1 : Int32} {x2 x4 : Int64} {le mo : Nat → Int64} {n : Nat} {K : Int32 → (Nat → Int64) → (Nat → Int64) → Prop} (hn : sm = nI n) (h4 : n ≤ 4) (hy : boxP n x1 x2 x4 → K 1 (vp_updL le x1.toNatClampNeg x2) (vp_updL mo x1.toNatClampNeg x4)) (hno : ¬ boxP n x1 x2 x4 → K 0 le mo) : v_X11_box sm le mo x1 x2 x4 K := by
  refine s_X11_isSum hn (by omega) (fun k hk hx => ?_) (fun h => ⟨fun _ => hno (fun q => ixP_no (by omega) h q.1), fun q => absurd rfl q⟩)
  refine ⟨fun q => absurd q r1n, fun _ => ⟨fun q => hno (fun z => z.2.1 q), fun q => ?_⟩⟩
  refine s_X11_isNear (fun h2 => ⟨fun z => absurd z r1n, fun _ => ?_⟩) (fun h2 => ⟨fun _ => hno (fun z => h2 z.2.2.1), fun z => absurd rfl z⟩)
  refine s_X11_isNear (fun h3 => ⟨fun _ => ?_, fun z => absurd z r1n⟩) (fun h3 => ⟨fun z => absurd rfl z, fun _ => hno (fun z => h3 z.2.2.2)⟩)
  have ix : ixP n x1 := ⟨k, hk, hx⟩
  refine ⟨ixP_in ix h4 (by omega), ?_⟩
  intro a ha
  refine ⟨ixP_in ix h4 (by omega), ?_⟩
  intro b hb
  rw [ha, hb]
  exact hy ⟨ix, q, h2, h3⟩
theorem op_box {s5_sums s11_many s5_kind s8_sums s8_g s11_kind s11_g x1 : Int32} {a0_least a0_most a11_least a11_most : Nat → Int64} {a8_a a8_b a8_e a8_h a11_a a11_b a11_e a11_h : Nat → Int32} {x2 x4 : Int64} (hQB : QB a0_least a0_most a11_least a11_most) (hQK : QK s5_kind s5_sums s8_sums s8_g a8_a a8_b a8_e a8_h s11_kind s11_many s11_g a11_a a11_b a11_e a11_h) : v_X10_box s5_sums a0_least a0_most x1 x2 x4 (fun r a0_least' a0_most' => v_X11_box s11_many a11_least a11_most x1 x2 x4 (fun r' a11_least' a11_most' => r = r' ∧ QB a0_least' a0_most' a11_least' a11_most')) := by
  obtain ⟨n, -, hsm, hmn, ⟨n1, n4, -⟩, -⟩ := hQK
  obtain ⟨hle, hmo, hb⟩ := hQB
  subst hle hmo
  exact s_X10_box hsm n4 (fun g => s_X11_box hmn n4 (fun _ => ⟨rfl, rfl, rfl, QB_set hb g.2.2.1 g.2.2.2 g.2.1⟩) (fun b => absurd g b)) (fun b => s_X11_box hmn n4 (fun g => absurd g b) (fun _ => ⟨rfl, rfl, rfl, hb⟩))
/-! pure: numbers of 64 bits as integers -/
theorem i64_add {a b : Int64} (h : -9223372036854775808 ≤ a.toInt + b.toInt) (h2 : a.toInt + b.toInt < 9223372036854775808) : (a + b).toInt = a.toInt + b.toInt := by
  rw [Int64.toInt_add]
  exact Int.bmod_eq_of_le (by omega) (by omega)
theorem i64_sub {a b : Int64} (h : -9223372036854775808 ≤ a.toInt - b.toInt) (h2 : a.toInt - b.toInt < 9223372036854775808) : (a - b).toInt = a.toInt - b.toInt := by
  rw [Int64.toInt_sub]
  exact Int.bmod_eq_of_le (by omega) (by omega)
theorem i64_mul {a b : Int64} (h : -9223372036854775808 ≤ a.toInt * b.toInt) (h2 : a.toInt * b.toInt < 9223372036854775808) : (a * b).toInt = a.toInt * b.toInt := by
  rw [Int64.toInt_mul]
  exact Int.bmod_eq_of_le (by omega) (by omega)
theorem i64_neg {a : Int64} (h : -9223372036854775808 < a.toInt) : (-a).toInt = -a.toInt := by
  have := Int64.toInt_lt a
  rw [Int64.toInt_neg]
  exact Int.bmod_eq_of_le (by omega) (by omega)
theorem ilg (a b : Int) : a < b ∨ b ≤ a := by omega
theorem t64_0 : (0 : Int64).toInt = 0 := by decide
theorem t64_1 : (1 : Int64).toInt = 1 := by decide
theorem xor_neg {a b : Int64} (hb : 0 ≤ b.toInt) : (a ^^^ b) < 0 ↔ a.toInt < 0 := by
  rw [Int64.lt_iff_toInt_lt, t64_0]
  have h1 : (a ^^^ b).toBitVec.msb = (a.toBitVec.msb ^^ b.toBitVec.msb) := by rw [Int64.toBitVec_xor, BitVec.msb_xor]
  rw [BitVec.msb_eq_toInt, BitVec.msb_eq_toInt, BitVec.msb_eq_toInt] at h1
  have hb' : decide (b.toBitVec.toInt < 0) = false := decide_eq_false (show ¬ b.toInt < 0 by omega)
  rw [hb', Bool.xor_false] at h1
  exact decide_eq_decide.mp h1
theorem fl_unique {a b q r : Int} (hb : 0 < b) (h : r + b * q = a) (h0 : 0 ≤ r) (h1 : r < b) : a / b = q := ((Int.ediv_emod_unique hb).mpr ⟨h, h0, h1⟩).1
/-- the quotient of a negative number, towards 0, and what is left -/
theorem td_neg {v b : Int} (hb : 0 < b) (hv : v < 0) : ∃ m r : Int, v.tdiv b = -m ∧ v = -(b * m) - r ∧ 0 ≤ r ∧ r < b ∧ 0 ≤ m := by
  refine ⟨(-v) / b, (-v) % b, ?_, ?_, Int.emod_nonneg _ (by omega), Int.emod_lt_of_pos _ hb, Int.ediv_nonneg (by omega) (by omega)⟩
  · rw [← Int.tdiv_eq_ediv_of_nonneg (show 0 ≤ -v by omega), Int.neg_tdiv, Int.neg_neg]
  · have f2 := Int.mul_ediv_add_emod (-v) b
    omega
theorem b_ne {b : Int64} (hb : 0 < b.toInt) : b ≠ -1 := by
  intro z
  rw [z] at hb
  exact absurd hb (by decide)
theorem b_n0 {b : Int64} (hb : 0 < b.toInt) : ¬ b = 0 := by
  intro z
  rw [z] at hb
  exact absurd hb (by decide)
theorem s_floorDiv {v b : Int64} {K : Int64 → Prop} (hb : 0 < b.toInt) (hl : -4611686018427387904 ≤ v.toInt) (h : ∀ q : Int64, q.toInt = v.toInt / b.toInt → K q) : v_J9_floorDiv_f86c9 v b K := by
  have q0 : (v / b).toInt = v.toInt.tdiv b.toInt := Int64.toInt_div_of_ne_right _ _ (b_ne hb)
  refine ⟨b_n0 hb, ?_⟩
  intro e1 he1 e2 he2
  rw [← he1] at q0
  have sg : e2 < 0 ↔ v.toInt < 0 := by rw [he2]; exact xor_neg (by omega)
  refine ⟨fun z => ?_, fun z => ?_⟩
  · have hv : 0 ≤ v.toInt := by
      rcases ilg v.toInt 0 with y | y
      · exact absurd (sg.mpr y) z
      · exact y
    exact h e1 (by rw [q0, Int.tdiv_eq_ediv_of_nonneg hv])
  · have hv := sg.mp z
    intro e3 he3
    obtain ⟨m, r, f1, f2, f3, f4, f5⟩ := td_neg hb hv
    have f7 : 0 ≤ b.toInt * m := Int.mul_nonneg (by omega) f5
    have f6 : e1.toInt * b.toInt = -(b.toInt * m) := by rw [q0, f1, Int.neg_mul, Int.mul_comm]
    have e3i : e3.toInt = -(b.toInt * m) := by rw [he3, ← f6]; exact i64_mul (by omega) (by omega)
    refine ⟨fun z3 => h e1 ?_, fun z3 => ?_⟩
    · have z4 : e3.toInt = v.toInt := by rw [z3]
      rw [q0, f1]
      refine (fl_unique (r := 0) hb ?_ (by omega) (by omega)).symm
      rw [Int.mul_neg]
      omega
    · have r1 : 0 < r := by
        rcases ilg 0 r with y | y
        · exact y
        · exact absurd (Int64.toInt_inj.mp (by omega : e3.toInt = v.toInt)) z3
      intro e4 he4
      have mb : m ≤ b.toInt * m := by
        have := Int.mul_le_mul_of_nonneg_right (show (1 : Int) ≤ b.toInt by omega) f5
        omega
      have e4i : e4.toInt = -m - 1 := by
        rw [he4, i64_sub (by rw [q0, f1, t64_1]; omega) (by rw [q0, f1, t64_1]; omega), q0, f1, t64_1]
      refine h e4 ?_
      rw [e4i]
      refine (fl_unique (r := b.toInt - r) hb ?_ (by omega) (by omega)).symm
      rw [Int.mul_sub, Int.mul_neg]
      omega
theorem s_X11_floor {v b : Int64} {K : Int64 → Prop} (hb : 0 < b.toInt) (hl : -4611686018427387904 ≤ v.toInt) (h : ∀ q : Int64, q.toInt = v.toInt / b.toInt → K q) : v_X11_floor v b K := by
  have q0 : (v / b).toInt = v.toInt.tdiv b.toInt := Int64.toInt_div_of_ne_right _ _ (b_ne hb)
  refine ⟨b_n0 hb, ?_⟩
  intro e1 he1 e2 he2
  rw [← he1] at q0
  rcases ilg v.toInt 0 with hv | hv
  · obtain ⟨m, r, f1, f2, f3, f4, f5⟩ := td_neg hb hv
    have f7 : 0 ≤ b.toInt * m := Int.mul_nonneg (by omega) f5
    have f6 : e1.toInt * b.toInt = -(b.toInt * m) := by rw [q0, f1, Int.neg_mul, Int.mul_comm]
    have e3i : e2.toInt = -(b.toInt * m) := by rw [he2, ← f6]; exact i64_mul (by omega) (by omega)
    refine ⟨fun z3 => h e1 ?_, fun z3 => ?_⟩
    · rw [Int64.lt_iff_toInt_lt] at z3
      rw [q0, f1]
      refine (fl_unique (r := 0) hb ?_ (by omega) (by omega)).symm
      rw [Int.mul_neg]
      omega
    · rw [Int64.lt_iff_toInt_lt] at z3
      intro e4 he4
      have mb : m ≤ b.toInt * m := by
        have := Int.mul_le_mul_of_nonneg_right (show (1 : Int) ≤ b.toInt by omega) f5
        omega
      have e4i : e4.toInt = -m - 1 := by
        rw [he4, i64_sub (by rw [q0, f1, t64_1]; omega) (by rw [q0, f1, t64_1]; omega), q0, f1, t64_1]
      refine h e4 ?_
      rw [e4i]
      refine (fl_unique (r := b.toInt - r) hb ?_ (by omega) (by omega)).symm
      rw [Int.mul_sub, Int.mul_neg]
      omega
  · rw [Int.tdiv_eq_ediv_of_nonneg hv] at q0
    have g1 := Int.mul_ediv_add_emod v.toInt b.toInt
    have g2 := Int.emod_nonneg v.toInt (show b.toInt ≠ 0 by omega)
    have g3 : 0 ≤ b.toInt * (v.toInt / b.toInt) := Int.mul_nonneg (by omega) (Int.ediv_nonneg hv (by omega))
    have g4 := Int64.toInt_lt v
    have f6 : e1.toInt * b.toInt = b.toInt * (v.toInt / b.toInt) := by rw [q0, Int.mul_comm]
    have e3i : e2.toInt = b.toInt * (v.toInt / b.toInt) := by rw [he2, ← f6]; exact i64_mul (by omega) (by omega)
    refine ⟨fun _ => h e1 q0, fun z3 => ?_⟩
    rw [Int64.lt_iff_toInt_lt] at z3
    omega
/-- of numbers that are not negative Java's quotient is the floor -/
theorem i64_div {v b : Int64} (hb : 0 < b.toInt) (hv : 0 ≤ v.toInt) : (v / b).toInt = v.toInt / b.toInt := by
  rw [Int64.toInt_div_of_ne_right _ _ (b_ne hb), Int.tdiv_eq_ediv_of_nonneg hv]
theorem t32_0 : (0 : Int32).toInt = 0 := by decide
theorem t32_1 : (1 : Int32).toInt = 1 := by decide
theorem op_word {s7_over s11_d s7_count s11_stepMany x1 x2 : Int32} {a7_values a11_steps : Nat → Int32} (hQS : QS s7_over s7_count a7_values s11_d s11_stepMany a11_steps) : v_X10_word s7_over x1 x2 (fun r => v_X11_word s11_d x1 x2 (fun r' => r = r')) := by
  obtain ⟨c, -, -, -, -, hov, -, ⟨o1, o2⟩, -⟩ := hQS
  subst hov
  have hb : 0 < s7_over.toInt64.toInt := by rw [Int32.toInt_toInt64]; omega
  have nonneg : ¬ x1 < 0 → ¬ x2 < 0 → ¬ s7_over ≤ x1 → x2 ≤ (1000000 : Int32) → 0 ≤ (x2.toInt64 * x1.toInt64).toInt ∧ 0 ≤ ((x2.toInt64 + 1) * x1.toInt64).toInt := by
    intro q1 q2 q3 q4
    rw [Int32.lt_iff_toInt_lt, t32_0] at q1 q2
    rw [Int32.le_iff_toInt_le] at q3 q4
    have a1 : (1000000 : Int32).toInt = 1000000 := by decide
    have b1 : 0 ≤ x2.toInt * x1.toInt := Int.mul_nonneg (by omega) (by omega)
    have b2 : x2.toInt * x1.toInt ≤ 1000000 * x1.toInt := Int.mul_le_mul_of_nonneg_right (by omega) (by omega)
    have e1 : (x2.toInt64 + 1).toInt = x2.toInt + 1 := by
      rw [i64_add (by rw [Int32.toInt_toInt64, t64_1]; omega) (by rw [Int32.toInt_toInt64, t64_1]; omega), Int32.toInt_toInt64, t64_1]
    have e2 : (x2.toInt + 1) * x1.toInt = x2.toInt * x1.toInt + x1.toInt := by rw [Int.add_mul, Int.one_mul]
    constructor
    · rw [i64_mul (by rw [Int32.toInt_toInt64, Int32.toInt_toInt64]; omega) (by rw [Int32.toInt_toInt64, Int32.toInt_toInt64]; omega), Int32.toInt_toInt64, Int32.toInt_toInt64]
      exact b1
    · rw [i64_mul (by rw [e1, Int32.toInt_toInt64, e2]; omega) (by rw [e1, Int32.toInt_toInt64, e2]; omega), e1, Int32.toInt_toInt64, e2]
      omega
  refine ⟨fun q => ⟨fun _ => rfl, fun z => absurd q z⟩, fun q => ⟨fun q2 => ⟨fun z => absurd z q, fun _ => ⟨fun _ => rfl, fun z => absurd q2 z⟩⟩, fun q2 => ?_⟩⟩
  refine ⟨fun q3 => ⟨fun z => absurd z q, fun _ => ⟨fun z => absurd z q2, fun _ => ⟨fun _ => rfl, fun z => absurd q3 z⟩⟩⟩, fun q3 => ?_⟩
  refine ⟨fun q4 => ?_, fun q4 => ⟨fun z => absurd z q, fun _ => ⟨fun z => absurd z q2, fun _ => ⟨fun z => absurd z q3, fun _ => ⟨fun z => absurd z q4, fun _ => rfl⟩⟩⟩⟩⟩
  obtain ⟨n1, n2⟩ := nonneg q q3 q2 q4
  intro e1 he1 e2 he2
  have n2' : 0 ≤ e2.toInt := by rw [he2, he1]; exact n2
  refine s_floorDiv hb (by omega) ?_
  intro r3 hr3 e4 he4
  have n1' : 0 ≤ e4.toInt := by rw [he4]; exact n1
  refine s_floorDiv hb (by omega) ?_
  intro r5 hr5 e6 he6
  refine ⟨fun z => absurd z q, fun _ => ⟨fun z => absurd z q2, fun _ => ⟨fun z => absurd z q3, fun _ => ⟨fun _ => ?_, fun z => absurd q4 z⟩⟩⟩⟩
  intro f1 hf1 f2 hf2
  refine ⟨b_n0 hb, ?_⟩
  intro f3 hf3 f4 hf4
  refine ⟨b_n0 hb, ?_⟩
  intro f5 hf5 f6 hf6
  have c1 : f2 = e2 := by rw [hf2, he2, hf1, he1]
  have c2 : f4 = e4 := by rw [hf4, he4]
  have c3 : f3 = r3 := Int64.toInt_inj.mp (by rw [hf3, c1, i64_div hb n2', hr3])
  have c4 : f5 = r5 := Int64.toInt_inj.mp (by rw [hf5, c2, i64_div hb n1', hr5])
  rw [hf6, he6, c3, c4]
