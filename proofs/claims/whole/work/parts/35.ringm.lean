/-! pure: the reference's ring -/
theorem pin {n i t k : Nat} (h : i < t) (hk : k < n) : n * i + k < n * t := by
  have := Nat.mul_le_mul_left n (show i + 1 ≤ t by omega)
  rw [Nat.mul_succ] at this
  omega
theorem s_next_ag {kd sm ov cn g w : Int32} {su now to : Nat → Int64} {md vals aa b e hh : Nat → Int32} {n c k : Nat} {K : Int32 → (Nat → Int64) → (Nat → Int32) → Prop} (hc : cn = nI c) (h1 : 1 ≤ c) (h8 : c ≤ 8) (hn : sm = nI n) (hk : kindP kd n) (hag : agr n now (phF n (fun p => toF kd n c ov vals g aa b e hh p w) su k))
    (hy : ∀ to' md', okk n (phF n (fun p => toF kd n c ov vals g aa b e hh p w) su) k → agr n to' (phF n (fun p => toF kd n c ov vals g aa b e hh p w) su (k + 1)) → K 1 to' md')
    (hno : ∀ to' md', ¬ okk n (phF n (fun p => toF kd n c ov vals g aa b e hh p w) su) k → K 0 to' md') : v_X11_next ov cn kd sm g vals aa b e hh now to md w K := by
  have hF : cgF n (fun p => toF kd n c ov vals g aa b e hh p w) := fun p q hpq => toF_congr hk hpq
  have ps := ph_succ hF hag
  refine s_X11_next hc h1 h8 hn hk (fun to2 md2 hto _ hnr => hy to2 md2 (fun j hj => ?_) (fun j hj => ?_)) (fun to2 md2 hx => hno to2 md2 (fun ho => ?_))
  · rw [← ps j hj]; exact hnr j hj
  · rw [hto j hj]; exact ps j hj
  · obtain ⟨i, hi, hq⟩ := hx
    have := ho i hi
    rw [← ps i hi] at this
    exact hq this
theorem s_ring_113 {n t u : Nat} {now path : Nat → Int64} {to : Nat → Int64} {md : Nat → Int32} {X : Nat → Nat → Int64} {K : Int32 → Int32 → (Nat → Int64) → (Nat → Int64) → (Nat → Int32) → (Nat → Int64) → Prop} {bk : Int32 → Prop} (n4 : n ≤ 4) (hu : u < t) (ht : t ≤ 4096) (hnow : agr n now (X t)) (hpath : ∀ k, k < n → path (n * u + k) = X u k)
    (hy : agr n (X u) (X t) → K (nI (t - u)) (nI u) now to md path) (hno : ¬ agr n (X u) (X t) → bk (nI (u + 1))) : ∃ nn, vfix (vF_X11_ring_113 (nI n) K (nI t) to md now path (nI u) bk) nn ((0 : Int32), (1 : Int32)) := by
  have yes : agr n (X u) (X t) → vJ_X11_ring_165 K (nI t) to md now path (nI u) bk 1 := by
    intro h
    refine ⟨fun _ => ?_, fun z => absurd z r1n⟩
    intro e20 he20
    rw [pk_sub (by omega)] at he20
    rw [he20]
    exact hy h
  have no : ¬ agr n (X u) (X t) → vJ_X11_ring_165 K (nI t) to md now path (nI u) bk 0 := by
    intro h
    refine ⟨fun z => absurd rfl z, fun _ => ?_⟩
    intro i hi
    rw [hi, nI_1]
    exact hno h
  refine vfix_ex (fun y : Int32 × Int32 => ∃ k : Nat, y.1 = nI k ∧ k ≤ n ∧ ((y.2 = 1 ∧ ∀ j, j < k → X u j = X t j) ∨ (y.2 = 0 ∧ ¬ agr n (X u) (X t)))) (fun y => n - y.1.toNatClampNeg) ?_ _ ⟨0, rfl, by omega, Or.inl ⟨rfl, fun j hj => by omega⟩⟩
  rintro bk2 ⟨y, d⟩ ⟨k, hy1, hkn, hd⟩ hbk
  dsimp only at hy1 hd
  subst hy1
  unfold vF_X11_ring_113 vB_X11_ring_113
  dsimp only
  have mu : ∀ d' : Int32, k < n → n - (nI (k + 1), d').1.toNatClampNeg < n - (nI k, d).1.toNatClampNeg := by
    intro d' hkn
    dsimp only
    rw [nI_cl (by omega), nI_cl (by omega)]
    omega
  rcases hd with ⟨rfl, hd⟩ | ⟨rfl, hd⟩
  · refine ⟨fun z => ?_, fun z => ⟨fun y => absurd y r1n, fun _ => ?_⟩⟩
    · have z : n ≤ k := (nI_le_iff (by omega) (by omega)).mp z
      exact yes (fun j hj => hd j (by omega))
    · have z : k < n := by
        rcases Nat.lt_or_ge k n with y | y
        · exact y
        · exact absurd ((nI_le_iff (by omega) (by omega)).mpr y) z
      have b1 := pin (n := n) hu z
      have b2 : n * t ≤ 4 * 4096 := Nat.mul_le_mul n4 ht
      intro e22 he22 e23 he23
      have e : e23 = nI (n * u + k) := by rw [he23, he22, pk_mul, nI_add]
      rw [e]
      refine ⟨nI_inI (by omega) (by decide), ?_⟩
      intro g24 hg24
      refine ⟨nI_inI (by omega) (by decide), ?_⟩
      intro g25 hg25
      rw [nI_cl (by omega)] at hg24 hg25
      rw [hpath k z] at hg24
      rw [hnow k z] at hg25
      subst hg24 hg25
      refine ⟨fun w => ?_, fun w => ?_⟩
      · intro i hi
        rw [hi, nI_1]
        exact hbk _ ⟨k + 1, rfl, by omega, Or.inr ⟨rfl, fun h => w (h k z)⟩⟩ (mu _ z)
      · intro i hi
        rw [hi, nI_1]
        refine hbk _ ⟨k + 1, rfl, by omega, Or.inl ⟨rfl, fun j hj => ?_⟩⟩ (mu _ z)
        by_cases ej : j = k
        · rw [ej]; exact w
        · exact hd j (by omega)
  · exact ⟨fun _ => no hd, fun _ => ⟨fun _ => no hd, fun y => absurd rfl y⟩⟩
theorem s_X11_ring {kd sm tl0 ov cn g w : Int32} {su now to path : Nat → Int64} {md vals aa b e hh : Nat → Int32} {n c : Nat} {K : Int32 → Int32 → (Nat → Int64) → (Nat → Int64) → (Nat → Int32) → (Nat → Int64) → Prop} (hc : cn = nI c) (h1 : 1 ≤ c) (h8 : c ≤ 8) (hn : sm = nI n) (hk : kindP kd n) (hw : wishP w)
    (hfin : ∀ r tl now' to' md' path', ringP n (phF n (fun p => toF kd n c ov vals g aa b e hh p w) su) tl0 r tl → K r tl now' to' md' path') :
    v_X11_ring ov cn kd sm g tl0 vals aa b e hh su now to md path w K := by
  have n4 := hk.2.1
  refine s_X11_isWish (fun _ => ⟨fun _ => ?_, fun z => absurd z r1n⟩) (fun z => absurd hw z)
  refine s_copyL hn n4 ?_
  have now0 : agr n (nwF n su now) (phF n (fun p => toF kd n c ov vals g aa b e hh p w) su 0) := fun j hj => nw_lt hj
  generalize hX : phF n (fun p => toF kd n c ov vals g aa b e hh p w) su = X at hfin now0
  generalize nwF n su now = now1 at now0
  refine vfix_ex (fun y : Int32 × (Nat → Int64) => ∃ k : Nat, y.1 = nI k ∧ k ≤ n ∧ ∀ j, j < k → y.2 j = X 0 j) (fun y => n - y.1.toNatClampNeg) ?_ _ ⟨0, rfl, by omega, fun j hj => by omega⟩
  rintro bk ⟨y, pa⟩ ⟨k, hy1, hkn, hpa⟩ hbk
  dsimp only at hy1 hpa
  subst hy1
  subst hn
  unfold vF_X11_ring_15 vB_X11_ring_15
  dsimp only
  refine ⟨fun z => ?_, fun z => ?_⟩
  · have z : n ≤ k := (nI_le_iff (by omega) (by omega)).mp z
    have ek : k = n := by omega
    subst ek
    clear hbk z
    refine vfix_ex (fun y : Int32 × (Nat → Int64) × (Nat → Int64) × (Nat → Int32) × (Nat → Int64) => ∃ t : Nat, y.1 = nI (t + 1) ∧ t ≤ 4096 ∧ (∀ s, s < t → okk k X s) ∧ nrP k X t ∧ agr k y.2.1 (X t) ∧ ∀ i, i ≤ t → ∀ j, j < k → y.2.2.2.2 (k * i + j) = X i j) (fun y => 4097 - y.1.toNatClampNeg) ?_ _ ⟨0, rfl, by omega, fun s hs => by omega, fun i j hij hj => by omega, now0, fun i hi j hj => ?_⟩
    · rintro bk ⟨y, now2, to2, md2, pa2⟩ ⟨t, hy1, ht, hok, hnr, hnow, hpa2⟩ hbk
      dsimp only at hy1 hnow hpa2
      subst hy1
      unfold vF_X11_ring_43 vB_X11_ring_43
      dsimp only
      refine ⟨fun z => ?_, fun z => ?_⟩
      · have z : 4096 < t + 1 := (nI_lt_iff (a := 4096) (by omega) (by omega)).mp z
        have et : t = 4096 := by omega
        subst et
        exact hfin _ _ _ _ _ _ (Or.inr (Or.inr ⟨hok, hnr, rfl, rfl⟩))
      · have z : t < 4096 := by
          rcases Nat.lt_or_ge t 4096 with y | y
          · exact y
          · exact absurd ((nI_lt_iff (a := 4096) (by omega) (by omega)).mpr (by omega)) z
        have hnow' := hnow
        rw [← hX] at hnow'
        refine s_next_ag hc h1 h8 rfl hk hnow' (fun to3 md3 ho hto => ⟨fun _ => ?_, fun y => absurd y r1n⟩) (fun to3 md3 ho => ⟨fun y => absurd rfl y, fun _ => hfin _ _ _ _ _ _ (Or.inr (Or.inl ⟨t, z, hok, by rw [← hX]; exact ho, hnr, rfl, rfl⟩))⟩)
        rw [hX] at ho hto
        refine s_X11_goOn rfl n4 ?_
        have hnow3 : agr k (nwF k to3 now2) (X (t + 1)) := fun j hj => by rw [nw_lt hj]; exact hto j hj
        generalize nwF k to3 now2 = now3 at hnow3
        have hok' : ∀ s, s < t + 1 → okk k X s := by
          intro s hs
          by_cases e : s = t
          · rw [e]; exact ho
          · exact hok s (by omega)
        have bt : k * (t + 1) ≤ 4 * 4096 := Nat.mul_le_mul n4 (by omega)
        refine vfix_ex (fun y : Int32 × (Nat → Int64) => ∃ q : Nat, y.1 = nI q ∧ q ≤ k ∧ (∀ i, i ≤ t → ∀ j, j < k → y.2 (k * i + j) = X i j) ∧ ∀ j, j < q → y.2 (k * (t + 1) + j) = X (t + 1) j) (fun y => k - y.1.toNatClampNeg) ?_ _ ⟨0, rfl, by omega, hpa2, fun j hj => by omega⟩
        rintro bk3 ⟨y, pa3⟩ ⟨q, hy1, hqk, hp3, hp3'⟩ hbk3
        dsimp only at hy1 hp3 hp3'
        subst hy1
        unfold vF_X11_ring_67 vB_X11_ring_67
        dsimp only
        refine ⟨fun y => ?_, fun y => ?_⟩
        · have y : k ≤ q := (nI_le_iff (by omega) (by omega)).mp y
          have eq : q = k := by omega
          subst eq
          clear hbk3 y
          have hp4 : ∀ i, i ≤ t + 1 → ∀ j, j < q → pa3 (q * i + j) = X i j := by
            intro i hi j hj
            by_cases e : i = t + 1
            · rw [e]; exact hp3' j hj
            · exact hp3 i (by omega) j hj
          refine vfix_ex (fun y : Int32 => ∃ u : Nat, y = nI u ∧ u ≤ t + 1 ∧ ∀ i, i < u → ¬ agr q (X i) (X (t + 1))) (fun y => t + 1 - y.toNatClampNeg) ?_ _ ⟨0, rfl, by omega, fun i hi => by omega⟩
          rintro bk4 y ⟨u, rfl, hu, hnu⟩ hbk4
          unfold vF_X11_ring_102 vB_X11_ring_102
          refine ⟨fun y => ?_, fun y => ?_⟩
          · have y : t + 1 ≤ u := (nI_le_iff (by omega) (by omega)).mp y
            intro i17 hi17
            rw [hi17, nI_1]
            refine hbk _ ⟨t + 1, rfl, by omega, hok', fun i j hij hj => ?_, hnow3, hp4⟩ ?_
            · by_cases e : j = t + 1
              · rw [e]; exact hnu i (by omega)
              · exact hnr i j hij (by omega)
            · dsimp only
              rw [nI_cl (by omega), nI_cl (by omega)]
              omega
          · have y : u < t + 1 := by
              rcases Nat.lt_or_ge u (t + 1) with w | w
              · exact w
              · exact absurd ((nI_le_iff (by omega) (by omega)).mpr w) y
            refine s_ring_113 n4 y (by omega) hnow3 (hp4 u (by omega)) (fun ha => ?_) (fun ha => ?_)
            · exact hfin _ _ _ _ _ _ (Or.inl ⟨t + 1, u, y, by omega, hok', by rw [Nat.add_sub_cancel]; exact hnr, ha, rfl, rfl⟩)
            · refine hbk4 _ ⟨u + 1, rfl, by omega, fun i hi => ?_⟩ ?_
              · by_cases e : i = u
                · rw [e]; exact ha
                · exact hnu i (by omega)
              · rw [nI_cl (by omega), nI_cl (by omega)]
                omega
        · have y : q < k := by
            rcases Nat.lt_or_ge q k with w | w
            · exact w
            · exact absurd ((nI_le_iff (by omega) (by omega)).mpr w) y
          intro e28 he28 e29 he29
          have e : e29 = nI (k * (t + 1) + q) := by rw [he29, he28, pk_mul, nI_add]
          rw [e]
          refine ⟨nI_inI (by omega) (by decide), ?_⟩
          intro g30 hg30
          refine ⟨nI_inI (by omega) (by decide), ?_⟩
          intro pa4 hpa4 i32 hi32
          rw [nI_cl (by omega)] at hg30 hpa4
          rw [hi32, nI_1]
          refine hbk3 _ ⟨q + 1, rfl, by omega, fun i hi j hj => ?_, fun j hj => ?_⟩ ?_
          · dsimp only
            have b := pin (n := k) (show i < t + 1 by omega) hj
            rw [hpa4]
            unfold vp_updL
            rw [if_neg (by omega)]
            exact hp3 i hi j hj
          · dsimp only
            rw [hpa4]
            unfold vp_updL
            by_cases ej : j = q
            · rw [if_pos (by rw [ej]), hg30, ej]
              exact hnow3 q y
            · rw [if_neg (by omega)]
              exact hp3' j (by omega)
          · dsimp only
            rw [nI_cl (by omega), nI_cl (by omega)]
            omega
    · have i0 : i = 0 := by omega
      subst i0
      dsimp only
      rw [Nat.mul_zero, Nat.zero_add]
      exact hpa j hj
  · have z : k < n := by
      rcases Nat.lt_or_ge k n with y | y
      · exact y
      · exact absurd ((nI_le_iff (by omega) (by omega)).mpr y) z
    refine ⟨nI_inI (by omega) (by decide), ?_⟩
    intro g33 hg33
    refine ⟨nI_inI (by omega) (by decide), ?_⟩
    intro p34 hp34 i35 hi35
    rw [nI_cl (by omega)] at hg33 hp34
    rw [hi35, nI_1]
    refine hbk _ ⟨k + 1, rfl, by omega, fun j hj => ?_⟩ ?_
    · dsimp only
      rw [hp34]
      unfold vp_updL
      by_cases ej : j = k
      · rw [if_pos ej, hg33, ej]
        exact now0 k z
      · rw [if_neg ej]
        exact hpa j (by omega)
    · dsimp only
      rw [nI_cl (by omega), nI_cl (by omega)]
      omega
theorem op_ring {s5_kind s5_sums s6_toldTail s7_over s7_count s8_sums s8_g s11_d s11_stepMany s11_kind s11_many s11_g s11_tailTold s3_next s3_kept s4_ticks s4_secondBefore s4_thirdBefore s4_thirdTwoBefore s11_ticks s11_beganElsewhere s11_dBefore s11_fBefore s11_fFirst x1 : Int32} {a4_sums a5_coming a6_at a6_mark a11_sums a11_now a11_to a11_path a3_sums a11_firstSum : Nat → Int64} {a5_picked a7_values a8_a a8_b a8_e a8_h a11_steps a11_a a11_b a11_e a11_h a11_made a3_wishes a3_givens a3_totals a11_wished a11_given : Nat → Int32} {T : Nat} {s4_firstBeganWith : Int64} (hQK : QK s5_kind s5_sums s8_sums s8_g a8_a a8_b a8_e a8_h s11_kind s11_many s11_g a11_a a11_b a11_e a11_h) (hQL : QL T s5_kind s5_sums s7_count a7_values s3_next s3_kept s4_ticks s4_firstBeganWith s4_secondBefore s4_thirdBefore s4_thirdTwoBefore a4_sums a3_wishes a3_givens a3_sums a3_totals s11_ticks s11_beganElsewhere s11_dBefore s11_fBefore s11_fFirst a11_sums a11_wished a11_given a11_firstSum) (hQO : QO s6_toldTail s11_tailTold) (hQS : QS s7_over s7_count a7_values s11_d s11_stepMany a11_steps) (hT : T + 10000 < 1073741824) : v_X10_ring s5_kind s5_sums s6_toldTail s7_over s7_count s8_sums s8_g a4_sums a5_coming a5_picked a6_at a6_mark a7_values a8_a a8_b a8_e a8_h x1 (fun r s6_toldTail' a5_coming' a5_picked' a6_at' a6_mark' => v_X11_ring s11_d s11_stepMany s11_kind s11_many s11_g s11_tailTold a11_steps a11_a a11_b a11_e a11_h a11_sums a11_now a11_to a11_made a11_path x1 (fun r' s11_tailTold' a11_now' a11_to' a11_made' a11_path' => r = r' ∧ QO s6_toldTail' s11_tailTold')) := by
  by_cases q3 : ¬ wishP x1
  · exact s_X10_isWish (fun z => absurd z q3) (fun _ => ⟨fun _ => s_X11_isWish (fun z => absurd z q3) (fun _ => ⟨fun z => absurd rfl z, fun _ => ⟨rfl, hQO⟩⟩), fun z => absurd rfl z⟩)
  have q3 : wishP x1 := Classical.not_not.mp q3
  obtain ⟨n, k1, k2, k3, k4, k5, -, -, -, -, kt⟩ := hQK
  obtain ⟨c, s1, s2, s3, s4, s5, s6, s7, s8⟩ := hQS
  obtain ⟨t, l1, l2, l3, l4, l5, l6, -⟩ := hQL
  have hQO : s6_toldTail = s11_tailTold := hQO
  subst k1 s5 s6 l6 hQO
  have kt' : s5_kind = 2 → s8_g = s11_g ∧ a8_a = a11_a ∧ a8_b = a11_b ∧ a8_e = a11_e ∧ a8_h = a11_h := fun q => (kt q).2
  have eT := toF_tab (n := n) (c := c) (ov := s7_over) (vals := a7_values) kt'
  refine s_X10_isWish (fun _ => ⟨fun z => absurd z r1n, fun _ => ?_⟩) (fun z => absurd q3 z)
  refine s_X6_findRing s1 (by omega) s4 k2 k4 (fun q => (kt q).1) (fun r tl cm' pk' at' mk' hr => ?_)
  refine s_X11_ring s2 (by omega) s4 k3 k4 q3 (fun r' tl' now' to' md' path' hr' => ?_)
  rw [← eT] at hr'
  obtain ⟨u1, u2⟩ := ring_uniq hr hr'
  exact ⟨u1, u2⟩
