/-! pure: the class's ring -/
theorem s_X6_isSame {sm : Int32} {n : Nat} {p q : Nat → Int64} {K : Int32 → Prop} (hn : sm = nI n) (n4 : n ≤ 4) (h1 : agr n p q → K 1) (h0 : ¬ agr n p q → K 0) : v_X6_isSame sm p q K := by
  subst hn
  refine vfix_ex (fun y : Int32 => ∃ k : Nat, y = nI k ∧ k ≤ n ∧ ∀ j, j < k → p j = q j) (fun y => n - y.toNatClampNeg) ?_ 0 ⟨0, rfl, by omega, fun j hj => by omega⟩
  rintro bk y ⟨k, rfl, hk, hin⟩ hbk
  unfold vF_X6_isSame_2 vB_X6_isSame_2
  refine ⟨fun z => ?_, fun z => ?_⟩
  · have z : n ≤ k := (nI_le_iff (by omega) (by omega)).mp z
    exact h1 (fun j hj => hin j (by omega))
  · have z : k < n := by
      rcases Nat.lt_or_ge k n with y | y
      · exact y
      · exact absurd ((nI_le_iff (by omega) (by omega)).mpr y) z
    refine ⟨nI_inI (by omega) (by decide), ?_⟩
    intro g2 hg2
    refine ⟨nI_inI (by omega) (by decide), ?_⟩
    intro g3 hg3
    rw [nI_cl (by omega)] at hg2 hg3
    subst hg2 hg3
    refine ⟨fun e => ?_, fun e => h0 (fun w => e (w k z))⟩
    intro i hi
    refine hbk i ⟨k + 1, by rw [hi, nI_1], by omega, fun j hj => ?_⟩ ?_
    · by_cases ej : j = k
      · rw [ej]; exact e
      · exact hin j (by omega)
    · rw [hi, nI_1, nI_cl (by omega), nI_cl (by omega)]
      omega
/-- one move of sums that stand where the path is -/
theorem s_adv {kd sm ov cn tsm g w : Int32} {su cm at_ : Nat → Int64} {pk vals aa b e hh : Nat → Int32} {n c k : Nat} {K : Int32 → (Nat → Int64) → (Nat → Int32) → (Nat → Int64) → Prop} (hc : cn = nI c) (h1 : 1 ≤ c) (h8 : c ≤ 8) (hn : sm = nI n) (hk : kindP kd n) (htn : kd = 2 → tsm = nI n) (hag : agr n at_ (phF n (fun p => toF kd n c ov vals g aa b e hh p w) su k))
    (hy : ∀ cm' pk' at', okk n (phF n (fun p => toF kd n c ov vals g aa b e hh p w) su) k → agr n at' (phF n (fun p => toF kd n c ov vals g aa b e hh p w) su (k + 1)) → K 1 cm' pk' at')
    (hno : ∀ cm' pk', ¬ okk n (phF n (fun p => toF kd n c ov vals g aa b e hh p w) su) k → K 0 cm' pk' at_) : v_X5_advance kd sm ov cn tsm g cm pk vals aa b e hh at_ w K := by
  have hF : cgF n (fun p => toF kd n c ov vals g aa b e hh p w) := fun p q hpq => toF_congr hk hpq
  have ps := ph_succ hF hag
  refine s_X5_advance hc h1 h8 hn hk htn (fun cm2 pk2 _ hnr => hy cm2 pk2 _ (fun j hj => ?_) (ph_nw hF hag)) (fun cm2 pk2 hx => hno cm2 pk2 (fun ho => ?_))
  · rw [← ps j hj]; exact hnr j hj
  · obtain ⟨i, hi, hq⟩ := hx
    have := ho i hi
    rw [← ps i hi] at this
    exact hq this
theorem s_X6_findBeat {kd sm ov cn tsm g w : Int32} {su cm at_ mk : Nat → Int64} {pk vals aa b e hh : Nat → Int32} {n c : Nat} {X : Nat → Nat → Int64} {K : Int32 → (Nat → Int64) → (Nat → Int32) → (Nat → Int64) → (Nat → Int64) → Prop} (hc : cn = nI c) (h1 : 1 ≤ c) (h8 : c ≤ 8) (hn : sm = nI n) (hk : kindP kd n) (htn : kd = 2 → tsm = nI n) (hX : X = phF n (fun p => toF kd n c ov vals g aa b e hh p w) su)
    (hB1 : ∀ q cm' pk' at' mk', q < 4096 → (∀ i, i < q → okk n X i) → ¬ okk n X q → K (-3) cm' pk' at' mk')
    (hB2 : ∀ q cm' pk' at' mk', 4096 ≤ q → (∀ i, i < q → okk n X i) → ¬ okk n X q → K (-2) cm' pk' at' mk')
    (hB3 : ∀ cm' pk' at' mk', (∀ i, i < 8191 → okk n X i) → (∀ i, 1 ≤ i → i ≤ 4096 → ¬ agr n (X 4095) (X (4095 + i))) → K (-2) cm' pk' at' mk')
    (hB4 : ∀ m l cm' pk' at' mk', 1 ≤ l → l ≤ 8192 → (∀ i, i < m + l → okk n X i) → agr n (X m) (X (m + l)) → (∀ d, 1 ≤ d → d < l → ¬ agr n (X m) (X (m + d))) → K (nI l) cm' pk' at' mk') :
    v_X6_findBeat kd sm ov cn tsm g su cm pk at_ mk vals aa b e hh w K := by
  have n4 := hk.2.1
  refine s_X6_copy (s_X6_copy ?_)
  refine vfix_ex (fun y : Int32 × Int32 × Int32 × (Nat → Int64) × (Nat → Int32) × (Nat → Int64) × (Nat → Int64) => ∃ m s ex : Nat, y.1 = nI (m + s + 1) ∧ y.2.1 = nI s ∧ y.2.2.1 = nI (2 ^ ex) ∧ m + 1 = 2 ^ ex ∧ s < 2 ^ ex ∧ ex ≤ 13 ∧ m + s ≤ 8191 ∧ (∀ i, i < m + s → okk n X i) ∧ (∀ i, 1 ≤ i → i ≤ s → ¬ agr n (X m) (X (m + i))) ∧ agr n y.2.2.2.2.2.1 (X (m + s)) ∧ agr n y.2.2.2.2.2.2 (X m) ∧ (ex ≤ 12 ∨ ∀ i, 1 ≤ i → i ≤ 4096 → ¬ agr n (X 4095) (X (4095 + i)))) (fun y => 8192 - y.1.toNatClampNeg) ?_ _ ⟨0, 0, 0, rfl, rfl, rfl, rfl, by decide, by omega, by omega, fun i hi => by omega, fun i h1 h2 => by omega, ?_, ?_, Or.inl (by omega)⟩
  · rintro bk ⟨y1, y2, y3, cm', pk', at', mk'⟩ ⟨m, s, ex, e1, e2, e3, hm, hs, he, hq, hok, hno, hat, hmk, hfact⟩ hbk
    dsimp only at e1 e2 e3 hat hmk
    subst e1 e2 e3
    have p12 : ex ≤ 12 → 2 ^ ex ≤ 4096 := fun z => Nat.pow_le_pow_right (n := 2) (by omega) z
    have p13 : 2 ^ ex ≤ 8192 := Nat.pow_le_pow_right (n := 2) (by omega) he
    unfold vF_X6_findBeat_32 vB_X6_findBeat_32
    dsimp only
    refine ⟨fun z => ?_, fun z => ?_⟩
    · have z : 8192 ≤ m + s + 1 := (nI_le_iff (a := 8192) (by omega) (by omega)).mp z
      have e : m + s = 8191 := by omega
      refine hB3 _ _ _ _ (fun i hi => hok i (by omega)) ?_
      rcases hfact with y | y
      · have := p12 y
        omega
      · exact y
    · have z : m + s + 1 < 8192 := by
        rcases Nat.lt_or_ge (m + s + 1) 8192 with y | y
        · exact y
        · exact absurd ((nI_le_iff (a := 8192) (by omega) (by omega)).mpr y) z
      have hat' := hat
      rw [hX] at hat'
      refine s_adv hc h1 h8 hn hk htn hat' (fun cm2 pk2 at2 ho hag => ⟨fun _ => ?_, fun y => absurd y r1n⟩) (fun cm2 pk2 ho => ⟨fun y => absurd rfl y, fun _ => ⟨fun y => ?_, fun y => ?_⟩⟩)
      · rw [← hX] at ho hag
        intro i14 hi14
        rw [nI_1] at hi14
        subst hi14
        have ok' : ∀ i, i < m + s + 1 → okk n X i := by
          intro i hi
          by_cases e : i = m + s
          · rw [e]; exact ho
          · exact hok i (by omega)
        have ea : m + (s + 1) = m + s + 1 := by omega
        refine s_X6_isSame hn n4 (fun hsame => ⟨fun y => absurd y r1n, fun _ => ?_⟩) (fun hsame => ⟨fun _ => ?_, fun y => absurd rfl y⟩)
        · refine hB4 m (s + 1) _ _ _ _ (by omega) (by omega) ?_ ?_ ?_
          · rw [ea]; exact ok'
          · rw [ea]
            exact ag_tr (ag_sy hmk) (ag_tr (ag_sy hsame) hag)
          · intro d h1 h2
            exact hno d h1 (by omega)
        · have hno' : ∀ i, 1 ≤ i → i ≤ s + 1 → ¬ agr n (X m) (X (m + i)) := by
            intro i h1 h2 ha
            by_cases e : i = s + 1
            · subst e
              rw [ea] at ha
              exact hsame (ag_tr hag (ag_tr (ag_sy ha) (ag_sy hmk)))
            · exact hno i h1 (by omega) ha
          refine ⟨fun y => ?_, fun y => ?_⟩
          · have y : ¬ s + 1 = 2 ^ ex := fun w => y (by rw [w])
            intro i19 hi19
            refine hbk _ ⟨m, s + 1, ex, ?_, rfl, rfl, hm, by omega, he, by omega, ?_, hno', ?_, hmk, hfact⟩ ?_
            · rw [hi19, nI_1, ea]
            · rw [ea]; exact ok'
            · rw [ea]; exact hag
            · dsimp only
              rw [hi19, nI_1, nI_cl (by omega), nI_cl (by omega)]
              omega
          · have y : s + 1 = 2 ^ ex := (nI_eq (by omega) (by omega)).mp y
            refine s_X6_copy ?_
            intro e21 he21 i19 hi19
            have pe : 2 ^ (ex + 1) = 2 ^ ex * 2 := Nat.pow_succ 2 ex
            have ex12 : ex ≤ 12 := by
              rcases Nat.lt_or_ge ex 13 with w | w
              · omega
              · have : ex = 13 := by omega
                subst this
                have : (2 : Nat) ^ 13 = 8192 := by decide
                omega
            have p12' := p12 ex12
            have hag4 : agr n (nwF 4 at2 mk') (X (m + s + 1)) := fun j hj => by rw [nw_lt (by omega)]; exact hag j hj
            refine hbk _ ⟨m + s + 1, 0, ex + 1, ?_, rfl, ?_, by rw [pe]; omega, by rw [pe]; omega, by omega, by omega, ok', fun i h1 h2 => by omega, hag, hag4, ?_⟩ ?_
            · rw [hi19, nI_1]
            · dsimp only
              rw [he21, pe, ← pk_mul]
              rfl
            · rcases Nat.lt_or_ge ex 12 with w | w
              · exact Or.inl (by omega)
              · have e12 : ex = 12 := by omega
                subst e12
                have e4096 : (2 : Nat) ^ 12 = 4096 := by decide
                rw [e4096] at hm y
                have m4 : m = 4095 := by omega
                subst m4
                exact Or.inr (fun i h1 h2 => hno' i h1 (by omega))
            · dsimp only
              rw [hi19, nI_1, nI_cl (by omega), nI_cl (by omega)]
              omega
      · rw [← hX] at ho
        have y : 4096 < m + s + 1 := (nI_lt_iff (a := 4096) (by omega) (by omega)).mp y
        exact hB2 (m + s) _ _ _ _ (by omega) hok ho
      · rw [← hX] at ho
        have y : ¬ 4096 < m + s + 1 := fun w => y ((nI_lt_iff (a := 4096) (by omega) (by omega)).mpr w)
        exact hB1 (m + s) _ _ _ _ (by omega) hok ho
  · dsimp only
    rw [hX]
    intro j hj
    rw [nw_lt (by omega)]
    rfl
  · dsimp only
    rw [hX]
    intro j hj
    rw [nw_lt (by omega), nw_lt (by omega)]
    rfl
theorem s_X6_findTail {kd sm ov cn tsm g w : Int32} {su cm at_ mk : Nat → Int64} {pk vals aa b e hh : Nat → Int32} {n c l : Nat} {X : Nat → Nat → Int64} {K : Int32 → (Nat → Int64) → (Nat → Int32) → (Nat → Int64) → (Nat → Int64) → Prop} (hc : cn = nI c) (h1 : 1 ≤ c) (h8 : c ≤ 8) (hn : sm = nI n) (hk : kindP kd n) (htn : kd = 2 → tsm = nI n) (hX : X = phF n (fun p => toF kd n c ov vals g aa b e hh p w) su) (hl1 : 1 ≤ l) (hl : l ≤ 8192) (hok : ∀ s, okk n X s)
    (hT1 : ∀ u cm' pk' at' mk', u + l ≤ 4096 → agr n (X u) (X (u + l)) → (∀ i, i < u → ¬ agr n (X i) (X (i + l))) → K (nI u) cm' pk' at' mk')
    (hT2 : ∀ cm' pk' at' mk', (∀ u, u + l ≤ 4096 → ¬ agr n (X u) (X (u + l))) → K (-1) cm' pk' at' mk') :
    v_X6_findTail kd sm ov cn tsm g su cm pk at_ mk vals aa b e hh w (nI l) K := by
  have n4 := hk.2.1
  refine s_X6_copy (s_X6_copy ?_)
  have mk0 : agr n (nwF 4 su mk) (X 0) := by
    rw [hX]
    intro j hj
    rw [nw_lt (by omega)]
    rfl
  refine vfix_ex (fun y : Int32 × (Nat → Int64) × (Nat → Int32) × (Nat → Int64) => ∃ k : Nat, y.1 = nI k ∧ k ≤ l ∧ agr n y.2.2.2 (X k)) (fun y => l - y.1.toNatClampNeg) ?_ _ ⟨0, rfl, by omega, ?_⟩
  · rintro bk ⟨y1, cm', pk', at'⟩ ⟨k, e1, hkl, hat⟩ hbk
    dsimp only at e1 hat
    subst e1
    unfold vF_X6_findTail_30 vB_X6_findTail_30
    dsimp only
    refine ⟨fun z => ?_, fun z => ?_⟩
    · have z : l ≤ k := (nI_le_iff (by omega) (by omega)).mp z
      have ek : k = l := by omega
      subst ek
      refine vfix_ex (fun y : Int32 × (Nat → Int64) × (Nat → Int32) × (Nat → Int64) × (Nat → Int64) => ∃ u : Nat, y.1 = nI u ∧ u + k ≤ 4096 + k ∧ u ≤ 4097 ∧ agr n y.2.2.2.1 (X (u + k)) ∧ agr n y.2.2.2.2 (X u) ∧ ∀ i, i < u → ¬ agr n (X i) (X (i + k))) (fun y => 4097 - y.1.toNatClampNeg) ?_ _ ⟨0, rfl, by omega, by omega, ?_, mk0, fun i hi => by omega⟩
      · rintro bk2 ⟨y1, cm2, pk2, at2, mk2⟩ ⟨u, e1, hu, hu2, ha2, hm2, hno⟩ hbk2
        dsimp only at e1 ha2 hm2
        subst e1
        unfold vF_X6_findTail_63 vB_X6_findTail_63
        dsimp only
        intro e12 he12
        rw [nI_add] at he12
        subst he12
        refine ⟨fun y => ?_, fun y => ?_⟩
        · have y : 4096 < u + k := (nI_lt_iff (a := 4096) (by omega) (by omega)).mp y
          exact hT2 _ _ _ _ (fun i hi => hno i (by omega))
        · have y : u + k ≤ 4096 := by
            rcases Nat.lt_or_ge 4096 (u + k) with w | w
            · exact absurd ((nI_lt_iff (a := 4096) (by omega) (by omega)).mpr w) y
            · exact w
          refine s_X6_isSame hn n4 (fun hs => ⟨fun w => absurd w r1n, fun _ => hT1 u _ _ _ _ y (ag_tr (ag_sy hm2) (ag_tr (ag_sy hs) ha2)) hno⟩) (fun hs => ⟨fun _ => ?_, fun w => absurd rfl w⟩)
          have ha2' := ha2
          rw [hX] at ha2'
          refine s_adv hc h1 h8 hn hk htn ha2' (fun cm3 pk3 at3 _ hag3 => ⟨fun w => absurd w r1n, fun _ => ?_⟩) (fun cm3 pk3 ho => absurd (by rw [← hX]; exact hok _) ho)
          have hm2' := hm2
          rw [hX] at hm2'
          refine s_adv hc h1 h8 hn hk htn hm2' (fun cm4 pk4 mk4 _ hag4 => ⟨fun _ => ?_, fun w => absurd w r1n⟩) (fun cm4 pk4 ho => absurd (by rw [← hX]; exact hok _) ho)
          rw [← hX] at hag3 hag4
          intro i22 hi22
          have ee : u + 1 + k = u + k + 1 := by omega
          refine hbk2 _ ⟨u + 1, ?_, by omega, by omega, ?_, hag4, fun i hi => ?_⟩ ?_
          · rw [hi22, nI_1]
          · dsimp only
            rw [ee]; exact hag3
          · by_cases ei : i = u
            · rw [ei]
              exact fun w => hs (ag_tr ha2 (ag_tr (ag_sy w) (ag_sy hm2)))
            · exact hno i (by omega)
          · dsimp only
            rw [hi22, nI_1, nI_cl (by omega), nI_cl (by omega)]
            omega
      · dsimp only
        rw [Nat.zero_add]
        exact hat
    · have z : k < l := by
        rcases Nat.lt_or_ge k l with y | y
        · exact y
        · exact absurd ((nI_le_iff (by omega) (by omega)).mpr y) z
      have hat' := hat
      rw [hX] at hat'
      refine s_adv hc h1 h8 hn hk htn hat' (fun cm2 pk2 at2 _ hag => ⟨fun _ => ?_, fun y => absurd y r1n⟩) (fun cm2 pk2 ho => absurd (by rw [← hX]; exact hok _) ho)
      rw [← hX] at hag
      intro i27 hi27
      refine hbk _ ⟨k + 1, ?_, by omega, hag⟩ ?_
      · rw [hi27, nI_1]
      · dsimp only
        rw [hi27, nI_1, nI_cl (by omega), nI_cl (by omega)]
        omega
  · dsimp only
    rw [hX]
    intro j hj
    rw [nw_lt (by omega)]
    rfl
theorem s_X6_findRing {kd sm tl0 ov cn tsm g w : Int32} {su cm at_ mk : Nat → Int64} {pk vals aa b e hh : Nat → Int32} {n c : Nat} {K : Int32 → Int32 → (Nat → Int64) → (Nat → Int32) → (Nat → Int64) → (Nat → Int64) → Prop} (hc : cn = nI c) (h1 : 1 ≤ c) (h8 : c ≤ 8) (hn : sm = nI n) (hk : kindP kd n) (htn : kd = 2 → tsm = nI n)
    (hfin : ∀ r tl cm' pk' at' mk', ringP n (phF n (fun p => toF kd n c ov vals g aa b e hh p w) su) tl0 r tl → K r tl cm' pk' at' mk') :
    v_X6_findRing kd sm tl0 ov cn tsm g su cm pk at_ mk vals aa b e hh w K := by
  have hF : cgF n (fun p => toF kd n c ov vals g aa b e hh p w) := fun p q hpq => toF_congr hk hpq
  have hP := ph_pth (su := su) hF
  generalize hX : phF n (fun p => toF kd n c ov vals g aa b e hh p w) su = X at hfin hP
  refine s_X6_findBeat hc h1 h8 hn hk htn hX.symm (fun q cm' pk' at' mk' hq ho hf => ?_) (fun q cm' pk' at' mk' hq ho hf => ?_) (fun cm' pk' at' mk' ho hf => ?_) (fun m l cm' pk' at' mk' l1 l2 ho ha hmin => ?_)
  · refine ⟨fun z => absurd z (by decide), fun _ => hfin _ _ _ _ _ _ (Or.inr (Or.inl ⟨q, hq, ho, hf, nr_fail hP ho hf, rfl, rfl⟩))⟩
  · refine ⟨fun z => absurd z (by decide), fun _ => hfin _ _ _ _ _ _ (Or.inr (Or.inr ⟨fun s hs => ho s (by omega), fun i j hij hj => nr_fail hP ho hf i j hij (by omega), rfl, rfl⟩))⟩
  · refine ⟨fun z => absurd z (by decide), fun _ => hfin _ _ _ _ _ _ (Or.inr (Or.inr ⟨fun s hs => ho s (by omega), fun i j hij hj hag => ?_, rfl, rfl⟩))⟩
    obtain ⟨l, rfl⟩ : ∃ l, j = i + l := ⟨j - i, by omega⟩
    exact hf l (by omega) (by omega) (pt_per hP hag 4095 (by omega))
  · have oka := ok_all hP l1 ha ho
    refine ⟨fun _ => ?_, fun z => absurd ((nI_le_iff (a := 0) (by omega) (by omega)).mpr (by omega)) z⟩
    refine s_X6_findTail hc h1 h8 hn hk htn hX.symm l1 l2 oka (fun u cm2 pk2 at2 mk2 hu hag hno => ⟨fun _ => hfin _ _ _ _ _ _ (Or.inl ⟨u + l, u, by omega, hu, fun s _ => oka s, fun i j hij hj hag2 => ?_, hag, ?_, rfl⟩), fun z => absurd ((nI_le_iff (a := 0) (by omega) (by omega)).mpr (by omega)) z⟩) (fun cm2 pk2 at2 mk2 hno => ⟨fun z => absurd z (by decide), fun _ => hfin _ _ _ _ _ _ (Or.inr (Or.inr ⟨fun s _ => oka s, fun i j hij hj hag2 => ?_, rfl, rfl⟩))⟩)
    · obtain ⟨b1, b2⟩ := pt_beat hP l1 ha hmin hij hag2
      rcases Nat.lt_or_ge i u with y | y
      · exact hno i y b2
      · omega
    · rw [Nat.add_sub_cancel_left]
    · obtain ⟨b1, b2⟩ := pt_beat hP l1 ha hmin hij hag2
      exact hno i (by omega) b2
