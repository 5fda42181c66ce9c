/-! pure: the reference's kept -/
theorem s_kept_218 {n : Nat} {le mo now to : Nat → Int64} {md : Nat → Int32} {l5 : Int64} {r21 : Int32} {K : Int32 → (Nat → Int64) → (Nat → Int64) → (Nat → Int32) → Prop} {bk : Int64 → (Nat → Int64) → (Nat → Int64) → (Nat → Int32) → Prop} (n4 : n ≤ 4) (hr : r21 = 0 ∨ r21 = 1)
    (hy : r21 = 1 → (∀ j, j < n → ¬ to j < le j ∧ ¬ mo j < to j) → bk (l5 + 1) now to md) (hno : (r21 = 0 ∨ ¬ (∀ j, j < n → ¬ to j < le j ∧ ¬ mo j < to j)) → K 0 now to md) : ∃ nn, vfix (vF_X11_kept__218 (nI n) le mo K l5 bk now to md) nn ((0 : Int32), r21) := by
  have yes : r21 = 1 → (∀ j, j < n → ¬ to j < le j ∧ ¬ mo j < to j) → vJ_X11_kept__281 K l5 bk now to md 1 := by
    intro h1 h2
    refine ⟨fun _ => ?_, fun z => absurd z r1n⟩
    intro e26 he26
    rw [he26]
    exact hy h1 h2
  have no : (r21 = 0 ∨ ¬ (∀ j, j < n → ¬ to j < le j ∧ ¬ mo j < to j)) → vJ_X11_kept__281 K l5 bk now to md 0 := fun h => ⟨fun z => absurd rfl z, fun _ => hno h⟩
  refine vfix_ex (fun y : Int32 × Int32 => ∃ k : Nat, y.1 = nI k ∧ k ≤ n ∧ ((y.2 = 1 ∧ r21 = 1 ∧ ∀ j, j < k → ¬ to j < le j ∧ ¬ mo j < to j) ∨ (y.2 = 0 ∧ (r21 = 0 ∨ ¬ (∀ j, j < n → ¬ to j < le j ∧ ¬ mo j < to j))))) (fun y => n - y.1.toNatClampNeg) ?_ _ ⟨0, rfl, by omega, ?_⟩
  · rintro bk2 ⟨y, d⟩ ⟨k, hy1, hkn, hd⟩ hbk
    dsimp only at hy1 hd
    subst hy1
    unfold vF_X11_kept__218 vB_X11_kept__218
    dsimp only
    have mu : ∀ d' : Int32, k < n → n - (nI (k + 1), d').1.toNatClampNeg < n - (nI k, d).1.toNatClampNeg := by
      intro d' hkn
      dsimp only
      rw [nI_cl (by omega), nI_cl (by omega)]
      omega
    rcases hd with ⟨rfl, h0, hin⟩ | ⟨rfl, hx⟩
    · refine ⟨fun z => ?_, fun z => ⟨fun y => absurd y r1n, fun _ => ?_⟩⟩
      · have z : n ≤ k := (nI_le_iff (by omega) (by omega)).mp z
        exact yes h0 (fun j hj => hin j (by omega))
      · have z : k < n := by
          rcases Nat.lt_or_ge k n with y | y
          · exact y
          · exact absurd ((nI_le_iff (by omega) (by omega)).mpr y) z
        have out : ¬ (∀ j, j < n → ¬ to j < le j ∧ ¬ mo j < to j) → vJ_X11_kept__272 (nI k) (fun z0 z1 => bk2 (z0, z1)) := by
          intro hx i hi
          rw [hi, nI_1]
          exact hbk _ ⟨k + 1, rfl, by omega, Or.inr ⟨rfl, Or.inr hx⟩⟩ (mu _ z)
        refine ⟨nI_inI (by omega) (by decide), ?_⟩
        intro g27 hg27
        refine ⟨nI_inI (by omega) (by decide), ?_⟩
        intro g28 hg28
        rw [nI_cl (by omega)] at hg27 hg28
        subst hg27 hg28
        refine ⟨fun w => out (fun q => (q k z).1 w), fun w => ⟨nI_inI (by omega) (by decide), ?_⟩⟩
        intro g31 hg31
        refine ⟨nI_inI (by omega) (by decide), ?_⟩
        intro g32 hg32
        rw [nI_cl (by omega)] at hg31 hg32
        subst hg31 hg32
        refine ⟨fun w2 => out (fun q => (q k z).2 w2), fun w2 => ?_⟩
        intro i hi
        rw [hi, nI_1]
        refine hbk _ ⟨k + 1, rfl, by omega, Or.inl ⟨rfl, h0, fun j hj => ?_⟩⟩ (mu _ z)
        by_cases ej : j = k
        · rw [ej]; exact ⟨w, w2⟩
        · exact hin j (by omega)
    · exact ⟨fun _ => no hx, fun _ => ⟨fun _ => no hx, fun y => absurd rfl y⟩⟩
  · rcases hr with z | z
    · exact Or.inr ⟨z, Or.inl z⟩
    · exact Or.inl ⟨z, z, fun j hj => by omega⟩
theorem lN_n0 {a : Nat} (h1 : 1 ≤ a) (h : a < 2 ^ 63) : ¬ lN a = 0 := by
  intro z
  have : a = 0 := (pk_lEQ (b := 0) h (by omega)).mp z
  omega
theorem s_X11_kept_ {kd sm ov cn g x1 x2 : Int32} {le mo now to : Nat → Int64} {md vals aa b e hh : Nat → Int32} {n c W : Nat} {K : Int32 → (Nat → Int64) → (Nat → Int64) → (Nat → Int32) → Prop} (hc : cn = nI c) (h1 : 1 ≤ c) (h8 : c ≤ 8) (hn : sm = nI n) (hk : kindP kd n) (hB : boxQ le mo) (hx1 : wishP x1) (hx2w : wishP x2) (hle : x1 ≤ x2) (hW1 : 1 ≤ W) (hW : W ≤ 2000001) (hx2 : x2.toInt = x1.toInt + W - 1)
    (hfin : ∀ r now' to' md', ktR n (fun w p => toF kd n c ov vals g aa b e hh p w) le mo x1 W r → K r now' to' md') :
    v_X11_kept_ ov cn kd sm g vals aa b e hh le mo now to md x1 x2 K := by
  have n4 := hk.2.1
  have n1 := hk.1
  have a1 := wish_i hx1
  have hF : cgW n (fun w p => toF kd n c ov vals g aa b e hh p w) := fun w p q hpq => toF_congr hk hpq
  have eW : ∀ e1 : Int32, e1 = x2 - x1 → e1.toInt64 + 1 = lN W := by
    intro e1 he1
    have e1i : e1.toInt = W - 1 := by rw [he1, i32_sub (by omega) (by omega)]; omega
    apply Int64.toInt_inj.mp
    rw [i64_add (by rw [Int32.toInt_toInt64, t64_1]; omega) (by rw [Int32.toInt_toInt64, t64_1]; omega), Int32.toInt_toInt64, t64_1, pk_lT (by omega)]
    omega
  refine s_X11_isWish (fun _ => ⟨fun z => absurd z r1n, fun _ => ?_⟩) (fun z => absurd hx1 z)
  refine s_X11_isWish (fun _ => ⟨fun z => absurd z r1n, fun _ => ⟨fun _ => ?_, fun z => absurd hle z⟩⟩) (fun z => absurd hx2w z)
  intro e3 he3 e4 he4
  rw [eW e3 he3] at he4
  subst he4 hn
  have wp : ∀ k, k ≤ n → W * prN le mo k ≤ W * prN le mo n := fun k hk => Nat.mul_le_mul_left _ (pr_mono hB hk)
  refine vfix_ex (fun y : Int32 × Int64 => ∃ k : Nat, y.1 = nI k ∧ k ≤ n ∧ y.2 = lN (W * prN le mo k) ∧ (k = 0 ∨ W * prN le mo k ≤ 100000)) (fun y => n - y.1.toNatClampNeg) ?_ _ ⟨0, rfl, by omega, by show lN W = lN (W * 1); rw [Nat.mul_one], Or.inl rfl⟩
  rintro bk ⟨y, al⟩ ⟨k, hy1, hkn, hal, hbd⟩ hbk
  dsimp only at hy1 hal
  subst hy1 hal
  have b2 : W * prN le mo k ≤ 2000001 := by
    rcases hbd with z | z
    · subst z
      show W * 1 ≤ 2000001
      omega
    · omega
  unfold vF_X11_kept__31 vB_X11_kept__31
  dsimp only
  refine ⟨fun z => ?_, fun z => ?_⟩
  · have z : n ≤ k := (nI_le_iff (by omega) (by omega)).mp z
    have ek : k = n := by omega
    subst ek
    have hok : W * prN le mo k ≤ 100000 := by omega
    refine ⟨fun _ => ?_, fun q => ?_⟩
    · clear hbk z hbd
      refine vfix_ex (fun y : Int64 × (Nat → Int64) × (Nat → Int64) × (Nat → Int32) => ∃ p : Nat, y.1 = lN p ∧ p ≤ W * prN le mo k ∧ ∀ p', p' < p → kgP k (fun w p => toF kd k c ov vals g aa b e hh p w) le mo (plc le mo (p' / W)) (x1 + nI (p' % W))) (fun y => (((W * prN le mo k : Nat) : Int) - y.1.toInt).toNat) ?_ _ ⟨0, rfl, by omega, fun p' hp' => by omega⟩
      rintro bk ⟨y, now1, to1, md1⟩ ⟨p, hy1, hpt, hgd⟩ hbk
      dsimp only at hy1
      subst hy1
      unfold vF_X11_kept__107 vB_X11_kept__107
      dsimp only
      refine ⟨fun z => ?_, fun z => ?_⟩
      · have z : W * prN le mo k ≤ p := by
          rcases Nat.lt_or_ge p (W * prN le mo k) with w | w
          · exact absurd ((pk_lLT (by omega) (by omega)).mpr w) z
          · exact w
        refine hfin _ _ _ _ (Or.inr (Or.inl ⟨hok, fun i hi v hv => ?_, rfl⟩))
        have lt := pin (n := W) hi hv
        have := hgd (W * i + v) (by omega)
        rw [Nat.mul_add_div (by omega), Nat.div_eq_of_lt hv, Nat.add_zero, Nat.mul_add_mod, Nat.mod_eq_of_lt hv] at this
        exact this
      · have z := (pk_lLT (by omega) (by omega)).mp z
        intro e11 he11 e12 he12
        rw [eW e11 he11] at he12
        subst he12
        refine ⟨lN_n0 hW1 (by omega), ?_⟩
        intro e13 he13 e14 he14 e15 he15 e16 he16
        rw [eW e15 he15] at he16
        subst he16
        refine ⟨lN_n0 hW1 (by omega), ?_⟩
        intro e17 he17
        rw [pk_lRem (by omega) (by omega) (by omega)] at he13
        rw [pk_lDiv (by omega) (by omega) (by omega)] at he17
        rw [he13, lN_i] at he14
        subst he14 he17
        have pm : p % W < W := Nat.mod_lt _ (by omega)
        have pd : p / W < prN le mo k := Nat.div_lt_of_lt_mul z
        have pdl : p / W ≤ p := Nat.div_le_self _ _
        generalize hi : p / W = i at pd pdl
        generalize hv : p % W = v at pm
        refine vfix_ex (fun y : Int32 × Int64 × (Nat → Int64) => ∃ q : Nat, y.1 = nI q ∧ q ≤ k ∧ y.2.1 = lN (i / prN le mo q) ∧ ∀ j, j < q → y.2.2 j = plc le mo i j) (fun y => k - y.1.toNatClampNeg) ?_ _ ⟨0, rfl, by omega, by show lN i = lN (i / 1); rw [Nat.div_one], fun j hj => by omega⟩
        rintro bk2 ⟨y, rs, now2⟩ ⟨q, hy2, hqk, hrs, hnow⟩ hbk2
        dsimp only at hy2 hrs hnow
        subst hy2 hrs
        unfold vF_X11_kept__146 vB_X11_kept__146
        dsimp only
        refine ⟨fun w => ?_, fun w => ?_⟩
        · have w : k ≤ q := (nI_le_iff (by omega) (by omega)).mp w
          have ag : agr k now2 (plc le mo i) := fun j hj => hnow j (by omega)
          have bad : ¬ kgP k (fun w p => toF kd k c ov vals g aa b e hh p w) le mo (plc le mo i) (x1 + nI v) → ¬ kallP k (fun w p => toF kd k c ov vals g aa b e hh p w) le mo x1 W := fun hb ha => hb (ha i pd v pm)
          refine s_X11_next hc h1 h8 rfl hk (fun to3 md3 hto _ hnr => ?_) (fun to3 md3 hx => ?_)
          · refine s_kept_218 n4 (Or.inr rfl) (fun _ hin => ?_) (fun hx => hfin _ _ _ _ (Or.inr (Or.inr ⟨hok, bad (fun hg => ?_), rfl⟩)))
            · rw [lN_1]
              refine hbk _ ⟨p + 1, rfl, by omega, fun p' hp' => ?_⟩ ?_
              · by_cases ep : p' = p
                · rw [ep, hi, hv]
                  refine kg_congr hF ag ⟨hnr, fun j hj => ?_⟩
                  have := hin j hj
                  rw [hto j hj] at this
                  exact this
                · exact hgd p' (by omega)
              · dsimp only
                rw [pk_lT (by omega), pk_lT (by omega)]
                omega
            · rcases hx with y | y
              · exact absurd y r1n
              · refine y (fun j hj => ?_)
                have hg' := kg_congr hF (ag_sy ag) hg
                rw [hto j hj]
                exact hg'.2 j hj
          · refine s_kept_218 n4 (Or.inl rfl) (fun y => absurd y.symm r1n) (fun _ => hfin _ _ _ _ (Or.inr (Or.inr ⟨hok, bad (fun hg => ?_), rfl⟩)))
            obtain ⟨j, hj, hq⟩ := hx
            exact hq ((kg_congr hF (ag_sy ag) hg).1 j hj)
        · have w : q < k := by
            rcases Nat.lt_or_ge q k with y | y
            · exact y
            · exact absurd ((nI_le_iff (by omega) (by omega)).mpr y) w
          obtain ⟨s1, s2, s3⟩ := sp_b hB q
          have ipl : i / prN le mo q ≤ i := Nat.div_le_self _ _
          refine ⟨nI_inI (by omega) (by decide), ?_⟩
          intro g33 hg33
          refine ⟨nI_inI (by omega) (by decide), ?_⟩
          intro g34 hg34 e35 he35 e36 he36
          rw [nI_cl (by omega)] at hg33 hg34
          have es : e36 = lN (spN le mo q) := by rw [he36, he35, hg33, hg34]; exact sp_eq hB q
          subst es
          refine ⟨nI_inI (by omega) (by decide), ?_⟩
          intro g37 hg37
          refine ⟨lN_n0 s1 (by omega), ?_⟩
          intro e38 he38 e39 he39
          refine ⟨nI_inI (by omega) (by decide), ?_⟩
          intro now3 hnow3
          refine ⟨lN_n0 s1 (by omega), ?_⟩
          intro e41 he41 i42 hi42
          rw [nI_cl (by omega)] at hg37 hnow3
          rw [pk_lRem (by omega) (by omega) (by omega)] at he38
          rw [pk_lDiv (by omega) (by omega) (by omega)] at he41
          rw [hi42, nI_1]
          refine hbk2 _ ⟨q + 1, rfl, by omega, ?_, fun j hj => ?_⟩ ?_
          · dsimp only
            rw [he41, Nat.div_div_eq_div_mul]
            rfl
          · dsimp only
            rw [hnow3]
            unfold vp_updL
            by_cases ej : j = q
            · rw [if_pos ej, ej, he39, hg37, he38]
              rfl
            · rw [if_neg ej]
              exact hnow j (by omega)
          · dsimp only
            rw [nI_cl (by omega), nI_cl (by omega)]
            omega
    · have := (pk_lLT (a := 100000) (by omega) (by omega)).mp q
      omega
  · have z : k < n := by
      rcases Nat.lt_or_ge k n with y | y
      · exact y
      · exact absurd ((nI_le_iff (by omega) (by omega)).mpr y) z
    obtain ⟨s1, s2, s3⟩ := sp_b hB k
    have wpn : prN le mo n ≤ W * prN le mo n := Nat.le_mul_of_pos_left _ (by omega)
    refine ⟨nI_inI (by omega) (by decide), ?_⟩
    intro g43 hg43
    refine ⟨nI_inI (by omega) (by decide), ?_⟩
    intro g44 hg44 e45 he45 e46 he46
    rw [nI_cl (by omega)] at hg43 hg44
    have es : e46 = lN (spN le mo k) := by rw [he46, he45, hg43, hg44]; exact sp_eq hB k
    subst es
    refine ⟨fun w => hfin _ _ _ _ (Or.inl ⟨?_, rfl⟩), fun w => ?_⟩
    · have w := (pk_lLT (a := 100000) (by omega) (by omega)).mp w
      have := sp_le_pr hB z
      omega
    · have w : spN le mo k ≤ 100000 := by
        rcases Nat.lt_or_ge 100000 (spN le mo k) with q | q
        · exact absurd ((pk_lLT (a := 100000) (by omega) (by omega)).mpr q) w
        · exact q
      have b3 : W * prN le mo k * spN le mo k ≤ 2000001 * 100000 := Nat.mul_le_mul b2 w
      have ep : W * prN le mo k * spN le mo k = W * prN le mo (k + 1) := Nat.mul_assoc _ _ _
      have wk := wp (k + 1) (by omega)
      intro e47 he47
      rw [lN_mul, ep] at he47
      subst he47
      refine ⟨fun q => ?_, fun q => hfin _ _ _ _ (Or.inl ⟨?_, rfl⟩)⟩
      · intro e48 he48 i49 hi49
        rw [lN_mul, ep] at he48
        rw [hi49, nI_1, he48]
        refine hbk _ ⟨k + 1, rfl, by omega, rfl, Or.inr ?_⟩ ?_
        · rcases Nat.lt_or_ge 100000 (W * prN le mo (k + 1)) with q2 | q2
          · exact absurd ((pk_lLT (a := 100000) (by omega) (by omega)).mpr q2) q
          · exact q2
        · dsimp only
          rw [nI_cl (by omega), nI_cl (by omega)]
          omega
      · have := (pk_lLT (a := 100000) (by omega) (by omega)).mp q
        omega
theorem op_kept {s5_kind s5_sums s7_over s7_count s8_sums s8_g s11_d s11_stepMany s11_kind s11_many s11_g x1 x2 : Int32} {a0_least a0_most a0_place a0_at a5_coming a11_least a11_most a11_now a11_to : Nat → Int64} {a5_picked a7_values a8_a a8_b a8_e a8_h a11_steps a11_a a11_b a11_e a11_h a11_made : Nat → Int32} (hQB : QB a0_least a0_most a11_least a11_most) (hQK : QK s5_kind s5_sums s8_sums s8_g a8_a a8_b a8_e a8_h s11_kind s11_many s11_g a11_a a11_b a11_e a11_h) (hQS : QS s7_over s7_count a7_values s11_d s11_stepMany a11_steps) : v_X10_kept s5_kind s5_sums s7_over s7_count s8_sums s8_g a0_least a0_most a0_place a0_at a5_coming a5_picked a7_values a8_a a8_b a8_e a8_h x1 x2 (fun r a0_place' a0_at' a5_coming' a5_picked' => v_X11_kept_ s11_d s11_stepMany s11_kind s11_many s11_g a11_steps a11_a a11_b a11_e a11_h a11_least a11_most a11_now a11_to a11_made x1 x2 (fun r' a11_now' a11_to' a11_made' => r = r')) := by
  by_cases q1 : ¬ wishP x1
  · exact s_X10_isWish (fun z => absurd z q1) (fun _ => ⟨fun _ => s_X11_isWish (fun z => absurd z q1) (fun _ => ⟨fun _ => rfl, fun z => absurd rfl z⟩), fun z => absurd rfl z⟩)
  have q1 : wishP x1 := Classical.not_not.mp q1
  by_cases q2 : ¬ wishP x2
  · exact s_X10_isWish (fun _ => ⟨fun z => absurd z r1n, fun _ => s_X10_isWish (fun z => absurd z q2) (fun _ => ⟨fun _ => s_X11_isWish (fun _ => ⟨fun z => absurd z r1n, fun _ => s_X11_isWish (fun z => absurd z q2) (fun _ => ⟨fun _ => rfl, fun z => absurd rfl z⟩)⟩) (fun z => absurd q1 z), fun z => absurd rfl z⟩)⟩) (fun z => absurd q1 z)
  have q2 : wishP x2 := Classical.not_not.mp q2
  by_cases q3 : x1 ≤ x2
  · obtain ⟨n, k1, k2, k3, k4, k5, -, -, -, -, kt⟩ := hQK
    obtain ⟨c, s1, s2, s3, s4, s5, s6, s7, s8⟩ := hQS
    obtain ⟨b1, b2, b3⟩ := hQB
    subst k1 s5 s6 b1 b2
    have kt' : s5_kind = 2 → s8_g = s11_g ∧ a8_a = a11_a ∧ a8_b = a11_b ∧ a8_e = a11_e ∧ a8_h = a11_h := fun q => (kt q).2
    have eT := toF_tab (n := n) (c := c) (ov := s7_over) (vals := a7_values) kt'
    have w1 := wish_i q1
    have w2 := wish_i q2
    have q3' := q3
    rw [Int32.le_iff_toInt_le] at q3'
    refine s_X10_isWish (fun _ => ⟨fun z => absurd z r1n, fun _ => ?_⟩) (fun z => absurd q1 z)
    refine s_X10_isWish (fun _ => ⟨fun z => absurd z r1n, fun _ => ⟨fun _ => ?_, fun z => absurd q3 z⟩⟩) (fun z => absurd q2 z)
    refine s_X0_tellKept (W := (x2.toInt - x1.toInt + 1).toNat) s1 (by omega) s4 k2 k4 (fun q => (kt q).1) b3 q1 (by omega) (by omega) (by omega) (fun r pl' at' cm' pk' hr => ?_)
    refine s_X11_kept_ (W := (x2.toInt - x1.toInt + 1).toNat) s2 (by omega) s4 k3 k4 b3 q1 q2 q3 (by omega) (by omega) (by omega) (fun r' now' to' md' hr' => ?_)
    rw [← eT] at hr'
    exact kt_uniq hr hr'
  · exact s_X10_isWish (fun _ => ⟨fun z => absurd z r1n, fun _ => s_X10_isWish (fun _ => ⟨fun z => absurd z r1n, fun _ => ⟨fun z => absurd z q3, fun _ => s_X11_isWish (fun _ => ⟨fun z => absurd z r1n, fun _ => s_X11_isWish (fun _ => ⟨fun z => absurd z r1n, fun _ => ⟨fun z => absurd z q3, fun _ => rfl⟩⟩) (fun z => absurd q2 z)⟩) (fun z => absurd q1 z)⟩⟩) (fun z => absurd q2 z)⟩) (fun z => absurd q1 z)
