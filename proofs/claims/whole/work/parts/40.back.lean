/-! pure: a wish read back -/
def flF (v b : Int64) : Int64 := Int64.ofInt (v.toInt / b.toInt)
theorem fl_q {v b q : Int64} (h : q.toInt = v.toInt / b.toInt) : q = flF v b := by
  unfold flF
  rw [← h, Int64.ofInt_toInt]
theorem mul_b {a b : Int} (h1 : -100 ≤ a) (h2 : a ≤ 100) (h3 : 1 ≤ b) (h4 : b ≤ 10000) : -1000000 ≤ a * b ∧ a * b ≤ 1000000 := by
  have q1 : a * b ≤ 100 * b := Int.mul_le_mul_of_nonneg_right h2 (by omega)
  have q2 : -100 * b ≤ a * b := Int.mul_le_mul_of_nonneg_right h1 (by omega)
  omega
theorem fi_int {ov x : Int32} (ho : ovP ov) (hx : bfP x) : (x.toInt64 * ov.toInt64).toInt = x.toInt * ov.toInt ∧ -1000000 ≤ x.toInt * ov.toInt ∧ x.toInt * ov.toInt ≤ 1000000 := by
  have b := mul_b hx.1 hx.2 ho.1 ho.2
  refine ⟨?_, b⟩
  rw [i64_mul (by rw [Int32.toInt_toInt64, Int32.toInt_toInt64]; omega) (by rw [Int32.toInt_toInt64, Int32.toInt_toInt64]; omega), Int32.toInt_toInt64, Int32.toInt_toInt64]
theorem st_lt {vals : Nat → Int32} {c : Nat} (hs : stpP vals c) : ∀ d i, i + 1 + d < c → (vals i).toInt < (vals (i + 1 + d)).toInt := by
  intro d
  induction d with
  | zero => intro i h; exact hs.2 i h
  | succ d ih =>
    intro i h
    have h1 := ih i (by omega)
    have h2 := hs.2 (i + 1 + d) (by omega)
    have e : i + 1 + (d + 1) = i + 1 + d + 1 := by omega
    rw [e]
    omega
theorem st_mono {vals : Nat → Int32} {c i k : Nat} (hs : stpP vals c) (h : i < k) (hk : k < c) : (vals i).toInt < (vals k).toInt := by
  have := st_lt hs (k - i - 1) i (by omega)
  have e : i + 1 + (k - i - 1) = k := by omega
  rw [e] at this
  exact this
theorem fi_mono {a b o : Int} (h : a < b) (ho : 1 ≤ o) : a * o < b * o := by
  have := Int.mul_le_mul_of_nonneg_right (show a + 1 ≤ b by omega) (show 0 ≤ o by omega)
  rw [Int.add_mul, Int.one_mul] at this
  omega
theorem pl_exact {vals : Nat → Int32} {ov : Int32} {c i : Nat} (hs : stpP vals c) (ho : ovP ov) (hi : i < c) : ∀ k, i ≤ k → k < c → plF vals ov ((vals i).toInt64 * ov.toInt64) k = i := by
  intro k
  induction k with
  | zero =>
    intro h1 _
    have : i = 0 := by omega
    rw [this]
    rfl
  | succ k ih =>
    intro h1 h2
    have e1 := fi_int ho (hs.1 i hi)
    have e2 := fi_int ho (hs.1 (k + 1) h2)
    show (if (vals i).toInt64 * ov.toInt64 < (vals (k + 1)).toInt64 * ov.toInt64 then plF vals ov ((vals i).toInt64 * ov.toInt64) k else k + 1) = i
    by_cases e : i = k + 1
    · rw [e, if_neg (fun z => by rw [Int64.lt_iff_toInt_lt] at z; omega)]
    · have lt := fi_mono (st_mono hs (show i < k + 1 by omega) h2) ho.1
      rw [if_pos (by rw [Int64.lt_iff_toInt_lt, e1.1, e2.1]; exact lt)]
      exact ih (by omega) (by omega)
def tkL (ov : Int32) (gv : Nat → Int32) (j : Nat) : Int64 := (gv j).toInt64 * ov.toInt64
def ixF (vals : Nat → Int32) (ov : Int32) (c : Nat) (gv : Nat → Int32) (j : Nat) : Nat := plF vals ov (tkL ov gv j) (c - 1)
def bfF (ov : Int32) (gv : Nat → Int32) : Nat → Int64
  | 0 => 0
  | j + 1 => bfF ov gv j + tkL ov gv j
def mxF (a b : Int64) : Int64 := if b < a then a else b
def lwF (vals : Nat → Int32) (ov : Int32) (c : Nat) (gv : Nat → Int32) : Nat → Int64
  | 0 => -1000000
  | j + 1 => if ixF vals ov c gv j = 0 then lwF vals ov c gv j else mxF (lwF vals ov c gv j) (-(flF (-(bfF ov gv j + tkL ov gv j)) (lN (j + 1))))
def hgF (vals : Nat → Int32) (ov : Int32) (c : Nat) (gv : Nat → Int32) : Nat → Int64
  | 0 => 1000000
  | j + 1 => if ixF vals ov c gv j + 1 < c then (if flF (bfF ov gv j + (vals (ixF vals ov c gv j + 1)).toInt64 * ov.toInt64 - 1) (lN (j + 1)) < hgF vals ov c gv j then flF (bfF ov gv j + (vals (ixF vals ov c gv j + 1)).toInt64 * ov.toInt64 - 1) (lN (j + 1)) else hgF vals ov c gv j) else hgF vals ov c gv j
theorem bf_b {ov : Int32} {gv : Nat → Int32} (ho : ovP ov) (n : Nat) (n256 : n ≤ 256) (hg : ∀ j, j < n → bfP (gv j)) : ∀ j, j ≤ n → -(1000000 * (j : Int)) ≤ (bfF ov gv j).toInt ∧ (bfF ov gv j).toInt ≤ 1000000 * (j : Int) := by
  intro j
  induction j with
  | zero =>
    intro _
    have : (bfF ov gv 0).toInt = 0 := t64_0
    omega
  | succ j ih =>
    intro hj
    have := ih (by omega)
    have e := fi_int ho (hg j (by omega))
    have e2 : (bfF ov gv (j + 1)).toInt = (bfF ov gv j).toInt + (gv j).toInt * ov.toInt := by
      show (bfF ov gv j + (gv j).toInt64 * ov.toInt64).toInt = _
      rw [i64_add (by rw [e.1]; omega) (by rw [e.1]; omega), e.1]
    omega
/-- what one given tells, both sides: the numbers and their bounds -/
theorem bk_num {vals gv : Nat → Int32} {ov : Int32} {c n j : Nat} (hs : stpP vals c) (ho : ovP ov) (c1 : 1 ≤ c) (n256 : n ≤ 256) (hg : ∀ j, j < n → ∃ i : Nat, i < c ∧ gv j = vals i) (hj : j < n) :
    ixF vals ov c gv j < c ∧ gv j = vals (ixF vals ov c gv j) ∧ -4611686018427387904 ≤ (-(bfF ov gv j + tkL ov gv j)).toInt ∧ (ixF vals ov c gv j + 1 < c → -4611686018427387904 ≤ (bfF ov gv j + (vals (ixF vals ov c gv j + 1)).toInt64 * ov.toInt64 - 1).toInt) := by
  obtain ⟨i, hi, he⟩ := hg j hj
  have hx : ixF vals ov c gv j = i := by
    unfold ixF tkL
    rw [he]
    exact pl_exact hs ho hi (c - 1) (by omega) (by omega)
  rw [hx]
  have hb : ∀ j, j < n → bfP (gv j) := by
    intro j hj
    obtain ⟨i, hi, he⟩ := hg j hj
    rw [he]
    exact hs.1 i hi
  have bb := bf_b ho n n256 hb j (by omega)
  have et := fi_int ho (hb j hj)
  have eb : (bfF ov gv j + tkL ov gv j).toInt = (bfF ov gv j).toInt + (gv j).toInt * ov.toInt := by
    unfold tkL
    rw [i64_add (by rw [et.1]; omega) (by rw [et.1]; omega), et.1]
  refine ⟨hi, he, ?_, fun hc => ?_⟩
  · rw [i64_neg (by omega)]
    omega
  · have ef := fi_int ho (hs.1 (i + 1) hc)
    have e1 : (bfF ov gv j + (vals (i + 1)).toInt64 * ov.toInt64).toInt = (bfF ov gv j).toInt + (vals (i + 1)).toInt * ov.toInt := by
      rw [i64_add (by rw [ef.1]; omega) (by rw [ef.1]; omega), ef.1]
    rw [i64_sub (by rw [t64_1]; omega) (by rw [t64_1]; omega), t64_1]
    omega
theorem lN_pos {j : Nat} (h : j < 1000) : 0 < (lN (j + 1)).toInt := by
  rw [pk_lT (by omega)]
  omega
theorem s_X1_narrow {nx kp ov cn : Int32} {gv vals : Nat → Int32} {t n c : Nat} {K : Int64 → Int64 → Prop} (hc : cn = nI c) (c1 : 1 ≤ c) (c8 : c ≤ 8) (hs : stpP vals c) (ho : ovP ov) (hnx : nx = nI (t % 256)) (hkp : kp = nI t) (t256 : t ≤ 256) (n1 : 1 ≤ n) (nt : n ≤ t) (hg : ∀ j, j < n → ∃ i : Nat, i < c ∧ gv j = vals i)
    (h : K (lwF vals ov c gv n) (hgF vals ov c gv n)) : v_X1_narrow nx kp ov cn gv vals (nI n) K := by
  refine vloop (B := vF_X1_narrow_19 nx kp ov cn gv vals (nI n) K) (fun j => (nI (j + 1), bfF ov gv j, lwF vals ov c gv j, hgF vals ov c gv j)) n ?_ ?_
  · intro bk j hj hb
    obtain ⟨x1, x2, x3, x4⟩ := bk_num hs ho c1 (show n ≤ 256 by omega) hg hj
    have lp := lN_pos (show j < 1000 by omega)
    unfold vF_X1_narrow_19 vB_X1_narrow_19
    dsimp only
    refine ⟨fun z => ?_, fun _ => ?_⟩
    · have := (nI_lt_iff (by omega) (by omega)).mp z
      omega
    intro e5 he5
    rw [hkp, pk_sub (by omega)] at he5
    subst he5
    refine s_X3_givenAt hnx (by omega) (by omega) ?_
    have ex : hxF t (t - (j + 1)) = j := by unfold hxF; omega
    rw [ex]
    intro e7 he7
    have he7 : e7 = tkL ov gv j := he7
    subst he7
    refine s_X7_placeFor hc c1 c8 ?_
    have eix : plF vals ov (tkL ov gv j) (c - 1) = ixF vals ov c gv j := rfl
    rw [eix]
    clear eix
    have hb : bk (nI (j + 1 + 1), bfF ov gv j + tkL ov gv j, (if ixF vals ov c gv j = 0 then lwF vals ov c gv j else mxF (lwF vals ov c gv j) (-(flF (-(bfF ov gv j + tkL ov gv j)) (lN (j + 1))))), (if ixF vals ov c gv j + 1 < c then (if flF (bfF ov gv j + (vals (ixF vals ov c gv j + 1)).toInt64 * ov.toInt64 - 1) (lN (j + 1)) < hgF vals ov c gv j then flF (bfF ov gv j + (vals (ixF vals ov c gv j + 1)).toInt64 * ov.toInt64 - 1) (lN (j + 1)) else hgF vals ov c gv j) else hgF vals ov c gv j)) := hb
    generalize ixF vals ov c gv j = ix at x1 x2 x4 hb
    have tl : ∀ low : Int64, low = (if ix = 0 then lwF vals ov c gv j else mxF (lwF vals ov c gv j) (-(flF (-(bfF ov gv j + tkL ov gv j)) (lN (j + 1))))) → vJ_X1_narrow_87 ov cn vals (nI (j + 1)) (bfF ov gv j) (hgF vals ov c gv j) (fun z0 z1 z2 z3 => bk (z0, z1, z2, z3)) (tkL ov gv j) (nI ix) low := by
      intro low hlow
      rw [← hlow] at hb
      intro e10 he10
      rw [nI_1] at he10
      subst he10
      have cc : cn ≤ nI (ix + 1) ↔ c ≤ ix + 1 := by rw [hc]; exact nI_le_iff (by omega) (by omega)
      refine ⟨fun z => ?_, fun z => ?_⟩
      · have z := cc.mp z
        rw [if_neg (by omega)] at hb
        intro e12 he12 i13 hi13
        rw [hi13, nI_1, he12]
        exact hb
      · have z : ix + 1 < c := by
          rcases Nat.lt_or_ge (ix + 1) c with y | y
          · exact y
          · exact absurd (cc.mpr y) z
        rw [if_pos z] at hb
        intro e14 he14
        rw [nI_1] at he14
        subst he14
        refine s_X7_fineAt (by omega) ?_
        intro e16 he16 e17 he17
        subst he16
        subst he17
        rw [nI_l (by omega)]
        refine s_floorDiv lp (x4 z) ?_
        intro r18 hr18
        rw [← fl_q hr18] at hb
        intro e19 he19 e12 he12 i13 hi13
        rw [hi13, nI_1, he12, he19]
        exact hb
    refine ⟨fun z => tl _ ?_, fun z => ?_⟩
    · rw [if_pos ((nI_le0 (by omega)).mp z)]
    · intro e20 he20 e21 he21
      subst he20
      subst he21
      rw [nI_l (by omega)]
      refine s_floorDiv lp x3 ?_
      intro r22 hr22 e23 he23 e24 he24
      refine tl _ ?_
      rw [if_neg (fun y => z ((nI_le0 (by omega)).mpr y)), ← fl_q hr22, he24, he23]
      rfl
  · intro bk
    unfold vF_X1_narrow_19 vB_X1_narrow_19
    exact ⟨fun _ => h, fun z => absurd ((nI_lt_iff (by omega) (by omega)).mpr (by omega)) z⟩
theorem mx_ref (a b : Int64) : (if a < b then b else a) = mxF a b := by
  unfold mxF
  by_cases h1 : a < b
  · rw [if_pos h1, if_neg (fun z => by rw [Int64.lt_iff_toInt_lt] at h1 z; omega)]
  · rw [if_neg h1]
    by_cases h2 : b < a
    · rw [if_pos h2]
    · rw [if_neg h2]
      apply Int64.toInt_inj.mp
      rw [Int64.lt_iff_toInt_lt] at h1 h2
      omega
theorem s_back_71 {ov cn x2 : Int32} {gv vals : Nat → Int32} {n c : Nat} {K : Int32 → Prop} (hc : cn = nI c) (c1 : 1 ≤ c) (c8 : c ≤ 8) (hs : stpP vals c) (ho : ovP ov) (n1 : 1 ≤ n) (n256 : n ≤ 256) (hg : ∀ j, j < n → ∃ i : Nat, i < c ∧ gv j = vals i)
    (h : (¬ hgF vals ov c gv n < lwF vals ov c gv n → (¬ x2 = 0 → K (hgF vals ov c gv n).toInt32) ∧ (x2 = 0 → K (lwF vals ov c gv n).toInt32)) ∧ (hgF vals ov c gv n < lwF vals ov c gv n → K (-2147483648))) : ∃ nn, vfix (vF_X11_back_71 ov cn vals gv (nI n) x2 K) nn ((0 : Int32), (0 : Int64), (1000000 : Int64), (-1000000 : Int64)) := by
  refine vloop (B := vF_X11_back_71 ov cn vals gv (nI n) x2 K) (fun j => (nI j, bfF ov gv j, hgF vals ov c gv j, lwF vals ov c gv j)) n ?_ ?_
  · intro bk j hj hb
    obtain ⟨x1, x2', x3, x4⟩ := bk_num hs ho c1 n256 hg hj
    have lp := lN_pos (show j < 1000 by omega)
    unfold vF_X11_back_71 vB_X11_back_71
    dsimp only
    refine ⟨fun z => absurd z (nI_nle_lt (by omega) hj), fun _ => ⟨nI_inI (by omega) (by decide), ?_⟩⟩
    intro g5 hg5
    rw [nI_cl (by omega)] at hg5
    have hb : bk (nI (j + 1), bfF ov gv j + tkL ov gv j, (if ixF vals ov c gv j + 1 < c then (if flF (bfF ov gv j + (vals (ixF vals ov c gv j + 1)).toInt64 * ov.toInt64 - 1) (lN (j + 1)) < hgF vals ov c gv j then flF (bfF ov gv j + (vals (ixF vals ov c gv j + 1)).toInt64 * ov.toInt64 - 1) (lN (j + 1)) else hgF vals ov c gv j) else hgF vals ov c gv j), (if ixF vals ov c gv j = 0 then lwF vals ov c gv j else mxF (lwF vals ov c gv j) (-(flF (-(bfF ov gv j + tkL ov gv j)) (lN (j + 1)))))) := hb
    generalize ixF vals ov c gv j = ix at x1 x2' x4 hb
    have etk : g5.toInt64 * ov.toInt64 = tkL ov gv j := by rw [hg5]; rfl
    have e1n : (nI j).toInt64 + 1 = lN (j + 1) := by rw [nI_l (by omega), lN_1]
    refine vfix_ex (fun y : Int32 => ∃ a : Nat, y = nI a ∧ a ≤ ix) (fun y => c - y.toNatClampNeg) ?_ _ ⟨0, rfl, by omega⟩
    rintro bk2 y ⟨a, rfl, hai⟩ hbk2
    unfold vF_X11_back_89 vB_X11_back_89
    refine ⟨nI_inI (by omega) (by decide), ?_⟩
    intro g7 hg7
    rw [nI_cl (by omega)] at hg7
    refine ⟨fun e => ?_, fun e => ?_⟩
    · have ea : a = ix := by
        rcases Nat.lt_or_ge a ix with y | y
        · have := st_mono hs y x1
          rw [← hg7, e, hg5, x2'] at this
          omega
        · omega
      subst ea
      have tl2 : ∀ high low : Int64, bk (nI (j + 1), bfF ov gv j + tkL ov gv j, high, low) → vJ_X11_back_209 ov (nI j) (bfF ov gv j) (fun z0 z1 z2 z3 => bk (z0, z1, z2, z3)) g5 low high := by
        intro high low hbb e11 he11 e12 he12 i13 hi13
        rw [hi13, nI_1, he12, he11, etk]
        exact hbb
      have tl : ∀ low : Int64, low = (if a = 0 then lwF vals ov c gv j else mxF (lwF vals ov c gv j) (-(flF (-(bfF ov gv j + tkL ov gv j)) (lN (j + 1))))) → vJ_X11_back_150 ov cn vals (nI j) (bfF ov gv j) (hgF vals ov c gv j) (fun z0 z1 z2 z3 => bk (z0, z1, z2, z3)) g5 (nI a) low := by
        intro low hlow
        rw [← hlow] at hb
        intro e9 he9
        obtain ⟨c', rfl⟩ : ∃ c', c = c' + 1 := ⟨c - 1, by omega⟩
        rw [hc, nI_s1] at he9
        subst he9
        refine ⟨fun z => ?_, fun z => ?_⟩
        · have z := (nI_le_iff (by omega) (by omega)).mp z
          rw [if_neg (by omega)] at hb
          exact tl2 _ _ hb
        · have z : a < c' := by
            rcases Nat.lt_or_ge a c' with y | y
            · exact y
            · exact absurd ((nI_le_iff (by omega) (by omega)).mpr y) z
          rw [if_pos (by omega)] at hb
          intro e14 he14
          rw [nI_1] at he14
          subst he14
          refine ⟨nI_inI (by omega) (by decide), ?_⟩
          intro g15 hg15 e16 he16 e17 he17 e18 he18 e19 he19
          rw [nI_cl (by omega)] at hg15
          rw [e1n] at he19
          have e18v : e18 = bfF ov gv j + (vals (a + 1)).toInt64 * ov.toInt64 - 1 := by rw [he18, he17, he16, hg15, Int64.add_comm]
          subst e18v he19
          refine s_X11_floor lp (x4 (by omega)) ?_
          intro r20 hr20
          rw [← fl_q hr20] at hb
          refine ⟨fun w => tl2 _ _ ?_, fun w => tl2 _ _ ?_⟩
          · rw [if_neg w] at hb; exact hb
          · rw [if_pos w] at hb; exact hb
      refine ⟨fun z => tl _ ?_, fun z => ?_⟩
      · rw [if_pos ((nI_le0 (by omega)).mp z)]
      · intro e22 he22 e23 he23 e24 he24 e25 he25
        rw [e1n] at he25
        have e24v : e24 = -(bfF ov gv j + tkL ov gv j) := by rw [he24, he23, he22, etk, Int64.add_comm]
        subst e24v he25
        refine s_X11_floor lp x3 ?_
        intro r26 hr26 e27 he27
        have mx := mx_ref (lwF vals ov c gv j) e27
        have z' : ¬ a = 0 := fun y => z ((nI_le0 (by omega)).mpr y)
        refine ⟨fun w => tl _ ?_, fun w => tl _ ?_⟩
        · rw [if_neg z', ← fl_q hr26, ← he27, ← mx, if_neg w]
        · rw [if_neg z', ← fl_q hr26, ← he27, ← mx, if_pos w]
    · have na : a < ix := by
        rcases Nat.lt_or_ge a ix with y | y
        · exact y
        · have : a = ix := by omega
          rw [this, ← x2', ← hg5] at hg7
          exact absurd hg7 e
      intro i29 hi29
      rw [hi29, nI_1]
      refine hbk2 _ ⟨a + 1, rfl, by omega⟩ ?_
      rw [nI_cl (by omega), nI_cl (by omega)]
      omega
  · intro bk
    unfold vF_X11_back_71 vB_X11_back_71
    exact ⟨fun _ => h, fun z => absurd (nI_rfl n (by omega)) z⟩
theorem op_back {s1_low s1_high s4_firstBeganWith : Int64} {s3_next s3_kept s4_ticks s5_kind s7_over s7_count s11_d s11_stepMany s11_kind s11_ticks s11_beganElsewhere s5_sums s8_sums s8_g s11_many s11_g s4_secondBefore s4_thirdBefore s4_thirdTwoBefore s11_dBefore s11_fBefore s11_fFirst x1 x2 : Int32} {a3_givens a7_values a11_steps a11_given a8_a a8_b a8_e a8_h a11_a a11_b a11_e a11_h a3_wishes a3_totals a11_wished : Nat → Int32} {T : Nat} {a4_sums a3_sums a11_sums a11_firstSum : Nat → Int64} (hQK : QK s5_kind s5_sums s8_sums s8_g a8_a a8_b a8_e a8_h s11_kind s11_many s11_g a11_a a11_b a11_e a11_h) (hQL : QL T s5_kind s5_sums s7_count a7_values s3_next s3_kept s4_ticks s4_firstBeganWith s4_secondBefore s4_thirdBefore s4_thirdTwoBefore a4_sums a3_wishes a3_givens a3_sums a3_totals s11_ticks s11_beganElsewhere s11_dBefore s11_fBefore s11_fFirst a11_sums a11_wished a11_given a11_firstSum) (hQS : QS s7_over s7_count a7_values s11_d s11_stepMany a11_steps) (hT : T + 10000 < 1073741824) : v_X10_back s1_low s1_high s3_next s3_kept s4_ticks s4_firstBeganWith s5_kind s7_over s7_count a3_givens a7_values x1 x2 (fun r s1_low' s1_high' => v_X11_back s11_d s11_stepMany s11_kind s11_ticks s11_beganElsewhere a11_steps a11_given x1 x2 (fun r' => r = r')) := by
  obtain ⟨n0, k1, -⟩ := hQK
  obtain ⟨c, s1, s2, s3, s4, s5, s6, s7, s8⟩ := hQS
  obtain ⟨t, l1, l2, l3, l4, l5, l6, l7, l8, l9, l10, l11, l12, l13, l14, l15, l16, l17, l18, l19, l20, l21⟩ := hQL
  have hkt := kt_le t
  subst k1 s5 s6 l8
  -- the reference refuses
  have no : ((x1 < 1 ∨ nI (ktF t) < x1) ∨ 256 < t ∨ ¬ s5_kind = 0 ∨ ¬ s11_beganElsewhere = 0 ∨ x2 < 0 ∨ (1 : Int32) < x2) → v_X11_back s7_over s11_stepMany s5_kind s11_ticks s11_beganElsewhere a7_values a3_givens x1 x2 (fun r' => (-2147483648 : Int32) = r') := by
    intro hbad
    refine ⟨fun _ => rfl, fun q1 => ⟨fun _ => rfl, fun q2 => ⟨fun _ => rfl, fun q3 => ⟨fun _ => rfl, fun q4 => ⟨fun _ => rfl, fun q5 => ⟨fun _ => rfl, fun q6 => ⟨fun _ => rfl, fun q7 => ⟨fun q8 => ?_, fun _ => rfl⟩⟩⟩⟩⟩⟩⟩⟩
    exfalso
    rw [l3] at q3 q4
    have q4 : ¬ 256 < t := fun z => q4 ((nI_lt_iff (a := 256) (by omega) (by omega)).mpr z)
    rcases hbad with (h | h) | h | h | h | h | h
    · exact q1 h
    · have e : ktF t = t := by unfold ktF; omega
      rw [e] at h
      exact q3 h
    · exact q4 h
    · exact h q5
    · exact h q6
    · exact q7 h
    · exact absurd q8 (Int32.not_le.mpr h)
  refine ⟨fun q1 => no (Or.inr (Or.inr (Or.inr (Or.inr (Or.inl q1))))), fun q1 => ⟨fun q2 => no (Or.inr (Or.inr (Or.inr (Or.inr (Or.inr q2))))), fun q2 => ?_⟩⟩
  refine ⟨fun q3 => ⟨fun z => absurd rfl z, fun _ => no (Or.inr (Or.inr (Or.inl q3)))⟩, fun q3 => ⟨fun q4 => ⟨fun z => absurd rfl z, fun _ => no (Or.inr (Or.inr (Or.inr (Or.inl ?_))))⟩, fun q4 => ⟨fun q5 => ⟨fun z => absurd rfl z, fun _ => no (Or.inr (Or.inl ?_))⟩, fun q5 => ?_⟩⟩⟩
  · rcases l19 with ⟨-, y⟩ | ⟨y, -⟩
    · exact absurd y q4
    · rw [y]; exact r1n
  · rw [l2, l5] at q5
    rcases Nat.lt_or_ge 256 t with y | y
    · exact y
    · have e : ktF t = t := by unfold ktF; omega
      exact absurd (by rw [e]) q5
  · have be0 : s11_beganElsewhere = 0 := by
      rcases l19 with ⟨y, -⟩ | ⟨-, y⟩
      · exact y
      · exact absurd q4 y
    have t256 : t ≤ 256 := by
      rw [l2, l5] at q5
      have := (nI_eq (by omega) (by omega)).mp q5
      omega
    have ek : ktF t = t := by unfold ktF; omega
    refine s_X3_holdsLast l5 (by omega) (fun n n1 hn hx => ⟨fun z => absurd z r1n, fun _ => ⟨fun _ => ?_, fun z => absurd z r1n⟩⟩) (fun h => ⟨fun _ => ⟨fun z => absurd rfl z, fun _ => no (Or.inl h)⟩, fun z => absurd rfl z⟩)
    subst hx
    have hg : ∀ j, j < n → ∃ i : Nat, i < c ∧ a3_givens j = a7_values i := by
      intro j hj
      obtain ⟨i, c', hc', c8', hi, he⟩ := l21 q3 j (by omega)
      have : c = c' := (nI_eq (by omega) (by omega)).mp (by rw [← s1, hc'])
      subst this
      exact ⟨i, hi, he⟩
    rw [ek] at l5
    refine s_X1_narrow s1 (by omega) s4 s8 s7 l4 l5 t256 n1 (by omega) hg ?_
    have ref : ∀ K : Int32 → Prop, ((¬ hgF a7_values s7_over c a3_givens n < lwF a7_values s7_over c a3_givens n → (¬ x2 = 0 → K (hgF a7_values s7_over c a3_givens n).toInt32) ∧ (x2 = 0 → K (lwF a7_values s7_over c a3_givens n).toInt32)) ∧ (hgF a7_values s7_over c a3_givens n < lwF a7_values s7_over c a3_givens n → K (-2147483648))) → v_X11_back s7_over s11_stepMany s5_kind s11_ticks s11_beganElsewhere a7_values a3_givens (nI n) x2 K := by
      intro K hK
      refine ⟨fun z => absurd ((nI_lt_iff (b := 1) (by omega) (by omega)).mp z) (by omega), fun _ => ⟨fun z => absurd ((nI_lt_iff (a := 256) (by omega) (by omega)).mp z) (by omega), fun _ => ⟨fun z => ?_, fun _ => ⟨fun z => ?_, fun _ => ⟨fun z => absurd q3 z, fun _ => ⟨fun z => absurd be0 z, fun _ => ⟨fun z => absurd z q1, fun _ => ⟨fun _ => ?_, fun z => absurd (Int32.not_lt.mp q2) z⟩⟩⟩⟩⟩⟩⟩⟩
      · rw [l3] at z
        have := (nI_lt_iff (by omega) (by omega)).mp z
        omega
      · rw [l3] at z
        have := (nI_lt_iff (a := 256) (by omega) (by omega)).mp z
        omega
      · exact s_back_71 s2 (by omega) s4 s8 s7 n1 (by omega) hg hK
    refine ⟨fun w => ⟨fun y => ref _ ⟨fun _ => ⟨fun _ => rfl, fun z => absurd z y⟩, fun z => absurd z w⟩, fun y => ref _ ⟨fun _ => ⟨fun z => absurd y z, fun _ => rfl⟩, fun z => absurd z w⟩⟩, fun w => ref _ ⟨fun z => absurd w z, fun _ => rfl⟩⟩
