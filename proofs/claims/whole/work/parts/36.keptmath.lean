/-! pure: the places of a box, told by one number -/
def spN (le mo : Nat → Int64) (k : Nat) : Nat := ((mo k).toInt - (le k).toInt + 1).toNat
def prN (le mo : Nat → Int64) : Nat → Nat
  | 0 => 1
  | k + 1 => prN le mo k * spN le mo k
def dgN (le mo : Nat → Int64) (i k : Nat) : Nat := i / prN le mo k % spN le mo k
def plc (le mo : Nat → Int64) (i : Nat) : Nat → Int64 := fun k => le k + lN (dgN le mo i k)
def boxQ (le mo : Nat → Int64) : Prop := ∀ k, nearP (le k) ∧ nearP (mo k) ∧ le k ≤ mo k
theorem near_i {v : Int64} (h : nearP v) : -1000000000000 ≤ v.toInt ∧ v.toInt ≤ 1000000000000 := by
  obtain ⟨h1, h2⟩ := h
  rw [Int64.lt_iff_toInt_lt] at h1 h2
  have a1 : (-1000000000000 : Int64).toInt = -1000000000000 := by decide
  have a2 : (1000000000000 : Int64).toInt = 1000000000000 := by decide
  omega
theorem sp_b {le mo : Nat → Int64} (h : boxQ le mo) (k : Nat) : 1 ≤ spN le mo k ∧ spN le mo k ≤ 2000000000001 ∧ (mo k).toInt = (le k).toInt + (spN le mo k : Int) - 1 := by
  obtain ⟨a, b, c⟩ := h k
  have a := near_i a
  have b := near_i b
  rw [Int64.le_iff_toInt_le] at c
  unfold spN
  omega
theorem sp_eq {le mo : Nat → Int64} (h : boxQ le mo) (k : Nat) : mo k - le k + 1 = lN (spN le mo k) := by
  obtain ⟨a, b, c⟩ := h k
  have a := near_i a
  have b := near_i b
  obtain ⟨s1, s2, s3⟩ := sp_b h k
  apply Int64.toInt_inj.mp
  have e1 : (mo k - le k).toInt = (mo k).toInt - (le k).toInt := i64_sub (by omega) (by omega)
  rw [i64_add (by rw [e1, t64_1]; omega) (by rw [e1, t64_1]; omega), e1, t64_1, pk_lT (by omega)]
  omega
theorem pr_pos {le mo : Nat → Int64} (h : boxQ le mo) : ∀ k, 1 ≤ prN le mo k := by
  intro k
  induction k with
  | zero => exact Nat.le_refl 1
  | succ k ih =>
    show 1 ≤ prN le mo k * spN le mo k
    have := Nat.mul_le_mul ih (sp_b h k).1
    omega
theorem pr_le {le mo : Nat → Int64} (h : boxQ le mo) (k : Nat) : ∀ d, prN le mo k ≤ prN le mo (k + d) := by
  intro d
  induction d with
  | zero => exact Nat.le_refl _
  | succ d ih =>
    have := Nat.mul_le_mul ih (sp_b h (k + d)).1
    rw [Nat.mul_one] at this
    exact this
theorem pr_mono {le mo : Nat → Int64} (h : boxQ le mo) {k n : Nat} (hk : k ≤ n) : prN le mo k ≤ prN le mo n := by
  have := pr_le h k (n - k)
  have e : k + (n - k) = n := by omega
  rw [e] at this
  exact this
theorem sp_le_pr {le mo : Nat → Int64} (h : boxQ le mo) {k n : Nat} (hk : k < n) : spN le mo k ≤ prN le mo n := by
  have h1 := pr_mono h (show k + 1 ≤ n by omega)
  have h2 : 1 * spN le mo k ≤ prN le mo k * spN le mo k := Nat.mul_le_mul_right _ (pr_pos h k)
  have h3 : prN le mo (k + 1) = prN le mo k * spN le mo k := rfl
  omega
theorem dm_max {a s : Nat} (hs : 1 ≤ s) (h : a % s + 1 = s) : (a + 1) % s = 0 ∧ (a + 1) / s = a / s + 1 := by
  have e := Nat.div_add_mod a s
  have e2 : a + 1 = s * (a / s) + s := by omega
  rw [e2, Nat.mul_add_mod, Nat.mul_add_div (by omega), Nat.mod_self, Nat.div_self (by omega)]
  have e3 : s * (a / s) + s = a + 1 := by omega
  exact ⟨rfl, rfl⟩
theorem dm_less {a s : Nat} (hs : 1 ≤ s) (h : a % s + 1 < s) : (a + 1) % s = a % s + 1 ∧ (a + 1) / s = a / s := by
  have e := Nat.div_add_mod a s
  have e2 : a + 1 = s * (a / s) + (a % s + 1) := by omega
  have q : (s * (a / s) + (a % s + 1)) % s = a % s + 1 := by rw [Nat.mul_add_mod]; exact Nat.mod_eq_of_lt h
  have r : (s * (a / s) + (a % s + 1)) / s = a / s := by rw [Nat.mul_add_div (by omega), Nat.div_eq_of_lt h, Nat.add_zero]
  rw [← e2] at q r
  exact ⟨q, r⟩
theorem div_up {le mo : Nat → Int64} {i k : Nat} (h : (i + 1) / prN le mo k = i / prN le mo k) : ∀ d, (i + 1) / prN le mo (k + d) = i / prN le mo (k + d) := by
  intro d
  induction d with
  | zero => exact h
  | succ d ih =>
    show (i + 1) / (prN le mo (k + d) * spN le mo (k + d)) = i / (prN le mo (k + d) * spN le mo (k + d))
    rw [← Nat.div_div_eq_div_mul, ← Nat.div_div_eq_div_mul, ih]
theorem plc_int {le mo : Nat → Int64} (h : boxQ le mo) (i k : Nat) : (plc le mo i k).toInt = (le k).toInt + (dgN le mo i k : Int) ∧ dgN le mo i k < spN le mo k := by
  obtain ⟨a, b, c⟩ := h k
  have a := near_i a
  have b := near_i b
  obtain ⟨s1, s2, s3⟩ := sp_b h k
  have d : dgN le mo i k < spN le mo k := Nat.mod_lt _ (by omega)
  refine ⟨?_, d⟩
  unfold plc
  rw [i64_add (by rw [pk_lT (by omega)]; omega) (by rw [pk_lT (by omega)]; omega), pk_lT (by omega)]
theorem plc_0 (le mo : Nat → Int64) (k : Nat) : plc le mo 0 k = le k := by
  unfold plc dgN
  rw [Nat.zero_div, Nat.zero_mod]
  show le k + 0 = le k
  exact Int64.add_zero _
theorem s_X0_toNextPlace {sm : Int32} {n i : Nat} {le mo pl : Nat → Int64} {K : (Nat → Int64) → Prop} (hn : sm = nI n) (n4 : n ≤ 4) (hB : boxQ le mo) (hag : agr n pl (plc le mo i)) (h : ∀ pl', agr n pl' (plc le mo (i + 1)) → K pl') : v_X0_toNextPlace le mo pl sm K := by
  subst hn
  refine vfix_ex (fun y : Int32 × (Nat → Int64) => ∃ k : Nat, y.1 = nI k ∧ k ≤ n ∧ (i + 1) / prN le mo k = i / prN le mo k + 1 ∧ (∀ j, j < k → y.2 j = plc le mo (i + 1) j) ∧ ∀ j, k ≤ j → j < n → y.2 j = plc le mo i j) (fun y => n - y.1.toNatClampNeg) ?_ _ ⟨0, rfl, by omega, ?_, fun j hj => by omega, fun j _ hj => hag j hj⟩
  · rintro bk ⟨y, p⟩ ⟨k, hy1, hkn, hca, hlo, hhi⟩ hbk
    dsimp only at hy1 hlo hhi
    subst hy1
    unfold vF_X0_toNextPlace_2 vB_X0_toNextPlace_2
    dsimp only
    refine ⟨fun z => ?_, fun z => ?_⟩
    · have z : n ≤ k := (nI_le_iff (by omega) (by omega)).mp z
      exact h p (fun j hj => hlo j (by omega))
    · have z : k < n := by
        rcases Nat.lt_or_ge k n with y | y
        · exact y
        · exact absurd ((nI_le_iff (by omega) (by omega)).mpr y) z
      obtain ⟨pi, pd⟩ := plc_int hB i k
      obtain ⟨s1, s2, s3⟩ := sp_b hB k
      refine ⟨nI_inI (by omega) (by decide), ?_⟩
      intro g3 hg3
      refine ⟨nI_inI (by omega) (by decide), ?_⟩
      intro g4 hg4
      rw [nI_cl (by omega)] at hg3 hg4
      rw [hhi k (by omega) z] at hg3
      subst hg3 hg4
      refine ⟨fun w => ⟨nI_inI (by omega) (by decide), ?_⟩, fun w => ⟨nI_inI (by omega) (by decide), ?_⟩⟩
      · intro g5 hg5
        refine ⟨nI_inI (by omega) (by decide), ?_⟩
        intro p6 hp6 i7 hi7
        rw [nI_cl (by omega)] at hg5 hp6
        rw [Int64.lt_iff_toInt_lt] at w
        have dm := dm_max (a := i / prN le mo k) s1 (show dgN le mo i k + 1 = _ by omega)
        rw [hi7, nI_1]
        refine hbk _ ⟨k + 1, rfl, by omega, ?_, fun j hj => ?_, fun j hj hjn => ?_⟩ ?_
        · show (i + 1) / (prN le mo k * spN le mo k) = i / (prN le mo k * spN le mo k) + 1
          rw [← Nat.div_div_eq_div_mul, ← Nat.div_div_eq_div_mul, hca]
          exact dm.2
        · dsimp only
          rw [hp6]
          unfold vp_updL
          by_cases ej : j = k
          · rw [if_pos ej, ej, hg5]
            unfold plc dgN
            rw [hca, dm.1]
            exact (Int64.add_zero _).symm
          · rw [if_neg ej]
            exact hlo j (by omega)
        · dsimp only
          rw [hp6]
          unfold vp_updL
          rw [if_neg (by omega)]
          exact hhi j (by omega) hjn
        · dsimp only
          rw [nI_cl (by omega), nI_cl (by omega)]
          omega
      · intro g8 hg8 e9 he9
        refine ⟨nI_inI (by omega) (by decide), ?_⟩
        intro p10 hp10
        rw [nI_cl (by omega)] at hg8 hp10
        rw [hhi k (by omega) z] at hg8
        rw [Int64.lt_iff_toInt_lt] at w
        have dm := dm_less (a := i / prN le mo k) s1 (show dgN le mo i k + 1 < _ by omega)
        refine h p10 (fun j hj => ?_)
        rw [hp10]
        unfold vp_updL
        by_cases ej : j = k
        · rw [if_pos ej, ej, he9, hg8]
          unfold plc dgN
          rw [hca, dm.1, Int64.add_assoc, lN_1]
        · rw [if_neg ej]
          rcases Nat.lt_or_ge j k with q | q
          · exact hlo j q
          · rw [hhi j (by omega) hj]
            have up : (i + 1) / prN le mo (k + 1) = i / prN le mo (k + 1) := by
              show (i + 1) / (prN le mo k * spN le mo k) = i / (prN le mo k * spN le mo k)
              rw [← Nat.div_div_eq_div_mul, ← Nat.div_div_eq_div_mul, hca]
              exact dm.2
            have := div_up up (j - (k + 1))
            have ee : k + 1 + (j - (k + 1)) = j := by omega
            rw [ee] at this
            unfold plc dgN
            rw [this]
  · show (i + 1) / 1 = i / 1 + 1
    rw [Nat.div_one, Nat.div_one]
theorem s_X0_countPlaces {sm : Int32} {n W : Nat} {le mo : Nat → Int64} {K : Int64 → Prop} (hn : sm = nI n) (n4 : n ≤ 4) (hB : boxQ le mo) (hW1 : 1 ≤ W) (hW : W ≤ 2000001) (hbig : 100000 < W * prN le mo n → ∀ r : Int64, (100000 : Int64) < r → K r) (hok : W * prN le mo n ≤ 100000 → K (lN (prN le mo n))) : v_X0_countPlaces le mo sm (lN W) K := by
  subst hn
  have wp : prN le mo n ≤ W * prN le mo n := Nat.le_mul_of_pos_left _ (by omega)
  refine vfix_ex (fun y : Int32 × Int64 => ∃ k : Nat, y.1 = nI k ∧ k ≤ n ∧ y.2 = lN (prN le mo k) ∧ prN le mo k ≤ 100000) (fun y => n - y.1.toNatClampNeg) ?_ _ ⟨0, rfl, by omega, rfl, by show 1 ≤ 100000; omega⟩
  rintro bk ⟨y, p⟩ ⟨k, hy1, hkn, hp, hpl⟩ hbk
  dsimp only at hy1 hp
  subst hy1 hp
  unfold vF_X0_countPlaces_6 vB_X0_countPlaces_6
  dsimp only
  refine ⟨fun z => ?_, fun z => ?_⟩
  · have z : n ≤ k := (nI_le_iff (by omega) (by omega)).mp z
    have ek : k = n := by omega
    subst ek
    intro e3 he3
    have cm : prN le mo k * W = W * prN le mo k := Nat.mul_comm _ _
    have b : prN le mo k * W ≤ 100000 * 2000001 := Nat.mul_le_mul hpl hW
    rw [lN_mul] at he3
    subst he3
    refine ⟨fun w => hok ?_, fun w => hbig ?_ _ (by decide)⟩
    · rcases Nat.lt_or_ge 100000 (W * prN le mo k) with q | q
      · exact absurd ((pk_lLT (a := 100000) (by omega) (by omega)).mpr (by omega)) w
      · exact q
    · have := (pk_lLT (a := 100000) (by omega) (by omega)).mp w
      omega
  · have z : k < n := by
      rcases Nat.lt_or_ge k n with y | y
      · exact y
      · exact absurd ((nI_le_iff (by omega) (by omega)).mpr y) z
    obtain ⟨s1, s2, s3⟩ := sp_b hB k
    refine ⟨nI_inI (by omega) (by decide), ?_⟩
    intro g4 hg4
    refine ⟨nI_inI (by omega) (by decide), ?_⟩
    intro g5 hg5 e6 he6 e7 he7
    rw [nI_cl (by omega)] at hg4 hg5
    have e : e7 = lN (spN le mo k) := by rw [he7, he6, hg4, hg5]; exact sp_eq hB k
    subst e
    refine ⟨fun w => ?_, fun w => ?_⟩
    · have w : spN le mo k ≤ 100000 := by
        rcases Nat.lt_or_ge 100000 (spN le mo k) with q | q
        · exact absurd ((pk_lLT (a := 100000) (by omega) (by omega)).mpr q) w
        · exact q
      intro e8 he8
      rw [lN_mul] at he8
      have b : prN le mo k * spN le mo k ≤ 100000 * 100000 := Nat.mul_le_mul hpl w
      have ep : prN le mo (k + 1) = prN le mo k * spN le mo k := rfl
      have mono := pr_mono hB (show k + 1 ≤ n by omega)
      subst he8
      refine ⟨fun q => ?_, fun q => hbig ?_ _ q⟩
      · intro i9 hi9
        rw [hi9, nI_1]
        refine hbk _ ⟨k + 1, rfl, by omega, rfl, ?_⟩ ?_
        · rcases Nat.lt_or_ge 100000 (prN le mo (k + 1)) with q2 | q2
          · exact absurd ((pk_lLT (a := 100000) (by omega) (by omega)).mpr (by omega)) q
          · exact q2
        · dsimp only
          rw [nI_cl (by omega), nI_cl (by omega)]
          omega
      · have := (pk_lLT (a := 100000) (by omega) (by omega)).mp q
        omega
    · have q := (pk_lLT (a := 100000) (by omega) (by omega)).mp w
      have := sp_le_pr hB z
      exact hbig (by omega) _ w
