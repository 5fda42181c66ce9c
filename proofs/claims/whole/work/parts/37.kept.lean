/-! pure: is the box kept -/
def kgP (n : Nat) (F : Int32 → (Nat → Int64) → Nat → Int64) (le mo p : Nat → Int64) (w : Int32) : Prop := (∀ j, j < n → nearP (F w p j)) ∧ (∀ j, j < n → ¬ F w p j < le j ∧ ¬ mo j < F w p j)
def kallP (n : Nat) (F : Int32 → (Nat → Int64) → Nat → Int64) (le mo : Nat → Int64) (x1 : Int32) (W : Nat) : Prop := ∀ i, i < prN le mo n → ∀ v, v < W → kgP n F le mo (plc le mo i) (x1 + nI v)
def ktR (n : Nat) (F : Int32 → (Nat → Int64) → Nat → Int64) (le mo : Nat → Int64) (x1 : Int32) (W : Nat) (r : Int32) : Prop :=
  (100000 < W * prN le mo n ∧ r = -2) ∨ (W * prN le mo n ≤ 100000 ∧ kallP n F le mo x1 W ∧ r = 1) ∨ (W * prN le mo n ≤ 100000 ∧ ¬ kallP n F le mo x1 W ∧ r = 0)
theorem kt_uniq {n : Nat} {F : Int32 → (Nat → Int64) → Nat → Int64} {le mo : Nat → Int64} {x1 : Int32} {W : Nat} {r r' : Int32} (h : ktR n F le mo x1 W r) (h' : ktR n F le mo x1 W r') : r = r' := by
  rcases h with ⟨a, b⟩ | ⟨a, b, c⟩ | ⟨a, b, c⟩ <;> rcases h' with ⟨a', b'⟩ | ⟨a', b', c'⟩ | ⟨a', b', c'⟩
  · rw [b, b']
  · omega
  · omega
  · omega
  · rw [c, c']
  · exact absurd b b'
  · omega
  · exact absurd b' b
  · rw [c, c']
def cgW (n : Nat) (F : Int32 → (Nat → Int64) → Nat → Int64) : Prop := ∀ w, cgF n (F w)
theorem kg_congr {n : Nat} {F : Int32 → (Nat → Int64) → Nat → Int64} {le mo p q : Nat → Int64} {w : Int32} (hF : cgW n F) (h : agr n p q) (hg : kgP n F le mo p w) : kgP n F le mo q w := by
  have e := hF w p q h
  exact ⟨fun j hj => by rw [← e j hj]; exact hg.1 j hj, fun j hj => by rw [← e j hj]; exact hg.2 j hj⟩
theorem s_X0_isInside {sm : Int32} {n : Nat} {le mo at_ : Nat → Int64} {K : Int32 → Prop} (hn : sm = nI n) (n4 : n ≤ 4) (h1 : (∀ j, j < n → ¬ at_ j < le j ∧ ¬ mo j < at_ j) → K 1) (h0 : ¬ (∀ j, j < n → ¬ at_ j < le j ∧ ¬ mo j < at_ j) → K 0) : v_X0_isInside le mo at_ sm K := by
  subst hn
  refine vfix_ex (fun y : Int32 => ∃ k : Nat, y = nI k ∧ k ≤ n ∧ ∀ j, j < k → ¬ at_ j < le j ∧ ¬ mo j < at_ j) (fun y => n - y.toNatClampNeg) ?_ 0 ⟨0, rfl, by omega, fun j hj => by omega⟩
  rintro bk y ⟨k, rfl, hk, hin⟩ hbk
  unfold vF_X0_isInside_2 vB_X0_isInside_2
  refine ⟨fun z => ?_, fun z => ?_⟩
  · have z : n ≤ k := (nI_le_iff (by omega) (by omega)).mp z
    exact h1 (fun j hj => hin j (by omega))
  · have z : k < n := by
      rcases Nat.lt_or_ge k n with y | y
      · exact y
      · exact absurd ((nI_le_iff (by omega) (by omega)).mpr y) z
    refine ⟨nI_inI (by omega) (by decide), ?_⟩
    intro g2 hg2
    refine ⟨nI_inI (by omega) (by decide), ?_⟩
    intro g3 hg3
    rw [nI_cl (by omega)] at hg2 hg3
    subst hg2 hg3
    refine ⟨fun w => h0 (fun q => (q k z).1 w), fun w => ⟨nI_inI (by omega) (by decide), ?_⟩⟩
    intro g4 hg4
    refine ⟨nI_inI (by omega) (by decide), ?_⟩
    intro g5 hg5
    rw [nI_cl (by omega)] at hg4 hg5
    subst hg4 hg5
    refine ⟨fun w2 => ?_, fun w2 => h0 (fun q => (q k z).2 w2)⟩
    intro i hi
    refine hbk i ⟨k + 1, by rw [hi, nI_1], by omega, fun j hj => ?_⟩ ?_
    · by_cases ej : j = k
      · rw [ej]; exact ⟨w, w2⟩
      · exact hin j (by omega)
    · rw [hi, nI_1, nI_cl (by omega), nI_cl (by omega)]
      omega
theorem wish_i {w : Int32} (h : wishP w) : -1000000 ≤ w.toInt ∧ w.toInt ≤ 1000000 := by
  obtain ⟨h1, h2⟩ := h
  rw [Int32.lt_iff_toInt_lt] at h1 h2
  have a1 : (-1000000 : Int32).toInt = -1000000 := by decide
  have a2 : (1000000 : Int32).toInt = 1000000 := by decide
  omega
theorem wv_int {x1 : Int32} {v : Nat} (h1 : wishP x1) (hv : v ≤ 2000001) : (x1 + nI v).toInt = x1.toInt + v := by
  have a := wish_i h1
  rw [i32_add (by rw [nI_toInt (by omega)]; omega) (by rw [nI_toInt (by omega)]; omega), nI_toInt (by omega)]
theorem wv_1 (x1 : Int32) (v : Nat) : x1 + nI v + 1 = x1 + nI (v + 1) := by rw [Int32.add_assoc, nI_1]
theorem s_X0_staysFromPlace {kd sm ov cn tsm g x1 x2 : Int32} {le mo pl at_ cm : Nat → Int64} {pk vals aa b e hh : Nat → Int32} {n c W : Nat} {K : Int32 → (Nat → Int64) → (Nat → Int64) → (Nat → Int32) → Prop} (hc : cn = nI c) (h1 : 1 ≤ c) (h8 : c ≤ 8) (hn : sm = nI n) (hk : kindP kd n) (htn : kd = 2 → tsm = nI n) (hx1 : wishP x1) (hW : W ≤ 2000001) (hx2 : x2.toInt = x1.toInt + W - 1)
    (hy : ∀ at' cm' pk', (∀ v, v < W → kgP n (fun w p => toF kd n c ov vals g aa b e hh p w) le mo pl (x1 + nI v)) → K 1 at' cm' pk')
    (hno : ∀ at' cm' pk', ¬ (∀ v, v < W → kgP n (fun w p => toF kd n c ov vals g aa b e hh p w) le mo pl (x1 + nI v)) → K 0 at' cm' pk') :
    v_X0_staysFromPlace kd sm ov cn tsm g le mo pl at_ cm pk vals aa b e hh x1 x2 K := by
  have n4 := hk.2.1
  refine vfix_ex (fun y : Int32 × (Nat → Int64) × (Nat → Int64) × (Nat → Int32) => ∃ v : Nat, y.1 = x1 + nI v ∧ v ≤ W ∧ ∀ v', v' < v → kgP n (fun w p => toF kd n c ov vals g aa b e hh p w) le mo pl (x1 + nI v')) (fun y => (x2.toInt + 1 - y.1.toInt).toNat) ?_ _ ⟨0, (Int32.add_zero x1).symm, by omega, fun j hj => by omega⟩
  rintro bk ⟨y, at', cm', pk'⟩ ⟨v, hy1, hvW, hgd⟩ hbk
  dsimp only at hy1
  subst hy1
  have iv := wv_int hx1 (show v ≤ 2000001 by omega)
  unfold vF_X0_staysFromPlace_3 vB_X0_staysFromPlace_3
  dsimp only
  refine ⟨fun z => ?_, fun z => ?_⟩
  · rw [Int32.lt_iff_toInt_lt, iv] at z
    exact hy _ _ _ (fun v' hv' => hgd v' (by omega))
  · rw [Int32.lt_iff_toInt_lt, iv] at z
    have z : v < W := by omega
    have iv1 := wv_int hx1 (show v + 1 ≤ 2000001 by omega)
    refine vfix_ex (fun y : Int32 × (Nat → Int64) => ∃ k : Nat, y.1 = nI k ∧ k ≤ n ∧ ∀ j, j < k → y.2 j = pl j) (fun y => n - y.1.toNatClampNeg) ?_ _ ⟨0, rfl, by omega, fun j hj => by omega⟩
    rintro bk2 ⟨y, at2⟩ ⟨k, hy2, hkn, hat⟩ hbk2
    dsimp only at hy2 hat
    subst hy2
    unfold vF_X0_staysFromPlace_12 vB_X0_staysFromPlace_12
    dsimp only
    subst hn
    refine ⟨fun q => ?_, fun q => ?_⟩
    · have q : n ≤ k := (nI_le_iff (by omega) (by omega)).mp q
      have ag : agr n at2 pl := fun j hj => hat j (by omega)
      have tc := toF_congr (ov := ov) (g := g) (w := x1 + nI v) (c := c) (vals := vals) (aa := aa) (b := b) (e := e) (hh := hh) hk ag
      refine s_X5_advance hc h1 h8 rfl hk htn (fun cm3 pk3 _ hnr => ⟨fun w => absurd w r1n, fun _ => ?_⟩) (fun cm3 pk3 hx => ⟨fun _ => hno _ _ _ (fun hall => ?_), fun w => absurd rfl w⟩)
      · refine s_X0_isInside rfl n4 (fun hin => ⟨fun _ => ?_, fun w => absurd w r1n⟩) (fun hin => ⟨fun w => absurd rfl w, fun _ => hno _ _ _ (fun hall => hin (fun j hj => ?_))⟩)
        · intro i12 hi12
          rw [wv_1] at hi12
          subst hi12
          refine hbk _ ⟨v + 1, rfl, by omega, fun v' hv' => ?_⟩ ?_
          · by_cases ev : v' = v
            · rw [ev]
              refine ⟨fun j hj => ?_, fun j hj => ?_⟩
              · show nearP (toF kd n c ov vals g aa b e hh pl (x1 + nI v) j)
                rw [← tc j hj]; exact hnr j hj
              · have := hin j hj
                rw [nw_lt hj, tc j hj] at this
                exact this
            · exact hgd v' (by omega)
          · dsimp only
            rw [iv, iv1]
            omega
        · have := (hall v z).2 j hj
          rw [nw_lt hj, tc j hj]
          exact this
      · obtain ⟨j, hj, hq⟩ := hx
        rw [tc j hj] at hq
        exact hq ((hall v z).1 j hj)
    · have q : k < n := by
        rcases Nat.lt_or_ge k n with y | y
        · exact y
        · exact absurd ((nI_le_iff (by omega) (by omega)).mpr y) q
      refine ⟨nI_inI (by omega) (by decide), ?_⟩
      intro g13 hg13
      refine ⟨nI_inI (by omega) (by decide), ?_⟩
      intro at3 hat3 i15 hi15
      rw [nI_cl (by omega)] at hg13 hat3
      rw [hi15, nI_1]
      refine hbk2 _ ⟨k + 1, rfl, by omega, fun j hj => ?_⟩ ?_
      · dsimp only
        rw [hat3]
        unfold vp_updL
        by_cases ej : j = k
        · rw [if_pos ej, hg13, ej]
        · rw [if_neg ej]
          exact hat j (by omega)
      · dsimp only
        rw [nI_cl (by omega), nI_cl (by omega)]
        omega
theorem s_X0_tellKept {kd sm ov cn tsm g x1 x2 : Int32} {le mo pl at_ cm : Nat → Int64} {pk vals aa b e hh : Nat → Int32} {n c W : Nat} {K : Int32 → (Nat → Int64) → (Nat → Int64) → (Nat → Int64) → (Nat → Int32) → Prop} (hc : cn = nI c) (h1 : 1 ≤ c) (h8 : c ≤ 8) (hn : sm = nI n) (hk : kindP kd n) (htn : kd = 2 → tsm = nI n) (hB : boxQ le mo) (hx1 : wishP x1) (hW1 : 1 ≤ W) (hW : W ≤ 2000001) (hx2 : x2.toInt = x1.toInt + W - 1)
    (hfin : ∀ r pl' at' cm' pk', ktR n (fun w p => toF kd n c ov vals g aa b e hh p w) le mo x1 W r → K r pl' at' cm' pk') :
    v_X0_tellKept kd sm ov cn tsm g le mo pl at_ cm pk vals aa b e hh x1 x2 K := by
  have n4 := hk.2.1
  have a1 := wish_i hx1
  have hF : cgW n (fun w p => toF kd n c ov vals g aa b e hh p w) := fun w p q hpq => toF_congr hk hpq
  intro e1 he1 e2 he2
  have e1i : e1.toInt = W - 1 := by rw [he1, i32_sub (by omega) (by omega)]; omega
  have e2n : e2 = lN W := by
    apply Int64.toInt_inj.mp
    rw [he2, i64_add (by rw [Int32.toInt_toInt64, t64_1]; omega) (by rw [Int32.toInt_toInt64, t64_1]; omega), Int32.toInt_toInt64, t64_1, pk_lT (by omega)]
    omega
  rw [e2n]
  refine s_X0_countPlaces hn n4 hB hW1 hW (fun hbig r hr => ⟨fun z => absurd hr z, fun _ => hfin _ _ _ _ _ (Or.inl ⟨hbig, rfl⟩)⟩) (fun hok => ?_)
  have wp : prN le mo n ≤ W * prN le mo n := Nat.le_mul_of_pos_left _ (by omega)
  refine ⟨fun _ => ?_, fun z => ?_⟩
  · refine vfix_ex (fun y : Int32 × (Nat → Int64) => ∃ k : Nat, y.1 = nI k ∧ k ≤ n ∧ ∀ j, j < k → y.2 j = le j) (fun y => n - y.1.toNatClampNeg) ?_ _ ⟨0, rfl, by omega, fun j hj => by omega⟩
    rintro bk2 ⟨y, pl2⟩ ⟨k, hy2, hkn, hat⟩ hbk2
    dsimp only at hy2 hat
    subst hy2
    unfold vF_X0_tellKept_31 vB_X0_tellKept_31
    dsimp only
    subst hn
    refine ⟨fun q => ?_, fun q => ?_⟩
    · have q : n ≤ k := (nI_le_iff (by omega) (by omega)).mp q
      refine vfix_ex (fun y : Int32 × (Nat → Int64) × (Nat → Int64) × (Nat → Int64) × (Nat → Int32) => ∃ i : Nat, y.1 = nI i ∧ i ≤ prN le mo n ∧ agr n y.2.1 (plc le mo i) ∧ ∀ i', i' < i → ∀ v, v < W → kgP n (fun w p => toF kd n c ov vals g aa b e hh p w) le mo (plc le mo i') (x1 + nI v)) (fun y => prN le mo n - y.1.toNatClampNeg) ?_ _ ⟨0, rfl, by omega, fun j hj => ?_, fun i' hi' => by omega⟩
      · rintro bk3 ⟨y, pl3, at3, cm3, pk3⟩ ⟨i, hy3, hin, hag, hgd⟩ hbk3
        dsimp only at hy3 hag
        subst hy3
        unfold vF_X0_tellKept_63 vB_X0_tellKept_63
        dsimp only
        rw [nI_l (by omega)]
        refine ⟨fun z => ?_, fun z => ?_⟩
        · have z : prN le mo n ≤ i := by
            rcases Nat.lt_or_ge i (prN le mo n) with w | w
            · exact absurd ((pk_lLT (by omega) (by omega)).mpr w) z
            · exact w
          exact hfin _ _ _ _ _ (Or.inr (Or.inl ⟨hok, fun i' hi' => hgd i' (by omega), rfl⟩))
        · have z := (pk_lLT (by omega) (by omega)).mp z
          refine s_X0_staysFromPlace hc h1 h8 rfl hk htn hx1 hW hx2 (fun at4 cm4 pk4 hall => ⟨fun _ => ?_, fun w => absurd w r1n⟩) (fun at4 cm4 pk4 hall => ⟨fun w => absurd rfl w, fun _ => hfin _ _ _ _ _ (Or.inr (Or.inr ⟨hok, fun hk' => hall (fun v hv => ?_), rfl⟩))⟩)
          · refine s_X0_toNextPlace rfl n4 hB hag (fun pl5 hag5 => ?_)
            intro i16 hi16
            rw [nI_1] at hi16
            subst hi16
            refine hbk3 _ ⟨i + 1, rfl, by omega, hag5, fun i' hi' v hv => ?_⟩ ?_
            · by_cases ei : i' = i
              · rw [ei]
                exact kg_congr hF hag (hall v hv)
              · exact hgd i' (by omega) v hv
            · dsimp only
              rw [nI_cl (by omega), nI_cl (by omega)]
              omega
          · exact kg_congr hF (ag_sy hag) (hk' i z v hv)
      · dsimp only
        rw [plc_0]
        exact hat j (by omega)
    · have q : k < n := by
        rcases Nat.lt_or_ge k n with y | y
        · exact y
        · exact absurd ((nI_le_iff (by omega) (by omega)).mpr y) q
      refine ⟨nI_inI (by omega) (by decide), ?_⟩
      intro g13 hg13
      refine ⟨nI_inI (by omega) (by decide), ?_⟩
      intro at3 hat3 i15 hi15
      rw [nI_cl (by omega)] at hg13 hat3
      rw [hi15, nI_1]
      refine hbk2 _ ⟨k + 1, rfl, by omega, fun j hj => ?_⟩ ?_
      · dsimp only
        rw [hat3]
        unfold vp_updL
        by_cases ej : j = k
        · rw [if_pos ej, hg13, ej]
        · rw [if_neg ej]
          exact hat j (by omega)
      · dsimp only
        rw [nI_cl (by omega), nI_cl (by omega)]
        omega
  · have := (pk_lLT (a := 100000) (by omega) (by omega)).mp z
    omega
