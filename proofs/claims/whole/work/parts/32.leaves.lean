/-! pure: the path of the sums under a wish that stays -/
def phF (n : Nat) (F : (Nat → Int64) → Nat → Int64) (su : Nat → Int64) : Nat → Nat → Int64
  | 0 => su
  | k + 1 => nwF n (F (phF n F su k)) (phF n F su k)
def agr (n : Nat) (p q : Nat → Int64) : Prop := ∀ j, j < n → p j = q j
def cgF (n : Nat) (F : (Nat → Int64) → Nat → Int64) : Prop := ∀ p q, agr n p q → agr n (F p) (F q)
theorem nw_lt {n : Nat} {f p : Nat → Int64} {j : Nat} (h : j < n) : nwF n f p j = f j := by unfold nwF; rw [if_pos h]
theorem nw_ge {n : Nat} {f p : Nat → Int64} {j : Nat} (h : n ≤ j) : nwF n f p j = p j := by unfold nwF; rw [if_neg (by omega)]
theorem ph_succ {n : Nat} {F : (Nat → Int64) → Nat → Int64} {su at_ : Nat → Int64} {k : Nat} (hF : cgF n F) (h : agr n at_ (phF n F su k)) : agr n (F at_) (phF n F su (k + 1)) := by
  intro j hj
  show _ = nwF n (F (phF n F su k)) (phF n F su k) j
  rw [nw_lt hj]
  exact hF _ _ h j hj
theorem ph_nw {n : Nat} {F : (Nat → Int64) → Nat → Int64} {su at_ q : Nat → Int64} {k : Nat} (hF : cgF n F) (h : agr n at_ (phF n F su k)) : agr n (nwF n (F at_) q) (phF n F su (k + 1)) := by
  intro j hj
  rw [nw_lt hj]
  exact ph_succ hF h j hj
/-- the first place up to m where P fails, or m -/
def fsP (P : Nat → Prop) (m k : Nat) : Prop := k ≤ m ∧ (∀ i, i < k → P i) ∧ (k = m ∨ ¬ P k)
theorem fs_uniq {P : Nat → Prop} {m k k' : Nat} (h : fsP P m k) (h' : fsP P m k') : k = k' := by
  obtain ⟨a1, a2, a3⟩ := h
  obtain ⟨b1, b2, b3⟩ := h'
  rcases Nat.lt_trichotomy k k' with z | z | z
  · rcases a3 with y | y
    · omega
    · exact absurd (b2 k z) y
  · exact z
  · rcases b3 with y | y
    · omega
    · exact absurd (a2 k' z) y
def inP (b v : Int64) : Prop := ¬ b < v ∧ ¬ v < -b
theorem s_X6_copy {f p : Nat → Int64} {K : (Nat → Int64) → Prop} (h : K (nwF 4 f p)) : v_X6_copy f p K := by
  rw [← setL_fun p f f 4 (fun _ _ => rfl)] at h
  refine vloop (fun k => (nI k, setL p f k)) 4 ?_ ?_
  · intro bk k hk hb
    unfold vF_X6_copy_2 vB_X6_copy_2
    refine ⟨fun q => absurd q (nI_nle_lt (b := 4) (by omega) hk), fun _ => ⟨nI_inI (by omega) (by decide), ?_⟩⟩
    intro g3 hg3
    refine ⟨nI_inI (by omega) (by decide), ?_⟩
    intro p4 hp4 i5 hi5
    rw [nI_cl (by omega)] at hg3 hp4
    subst hp4 hg3 hi5
    dsimp only
    rw [nI_1]
    exact hb
  · intro bk
    unfold vF_X6_copy_2 vB_X6_copy_2
    exact ⟨fun _ => h, fun q => absurd (nI_rfl 4 (by omega)) q⟩
theorem s_X6_isBeyond {sm : Int32} {n : Nat} {at_ : Nat → Int64} {x : Int64} {K : Int32 → Prop} (hn : sm = nI n) (n4 : n ≤ 4) (h1 : ¬ (∀ j, j < n → inP x (at_ j)) → K 1) (h0 : (∀ j, j < n → inP x (at_ j)) → K 0) : v_X6_isBeyond sm at_ x K := by
  subst hn
  refine vfix_ex (fun y : Int32 => ∃ k : Nat, y = nI k ∧ k ≤ n ∧ ∀ j, j < k → inP x (at_ j)) (fun y => n - y.toNatClampNeg) ?_ 0 ⟨0, rfl, by omega, fun j hj => by omega⟩
  rintro bk y ⟨k, rfl, hk, hin⟩ hbk
  unfold vF_X6_isBeyond_2 vB_X6_isBeyond_2
  refine ⟨fun q => ?_, fun q => ?_⟩
  · have q : n ≤ k := (nI_le_iff (by omega) (by omega)).mp q
    exact h0 (fun j hj => hin j (by omega))
  · have q : k < n := by
      rcases Nat.lt_or_ge k n with z | z
      · exact z
      · exact absurd ((nI_le_iff (by omega) (by omega)).mpr z) q
    refine ⟨nI_inI (by omega) (by decide), ?_⟩
    intro g2 hg2
    rw [nI_cl (by omega)] at hg2
    subst hg2
    refine ⟨fun z => h1 (fun w => (w k q).1 z), fun z => ⟨nI_inI (by omega) (by decide), ?_⟩⟩
    intro g3 hg3 e4 he4
    rw [nI_cl (by omega)] at hg3
    subst hg3 he4
    refine ⟨fun z2 => ?_, fun z2 => h1 (fun w => (w k q).2 z2)⟩
    intro i5 hi5
    refine hbk i5 ⟨k + 1, by rw [hi5, nI_1], by omega, fun j hj => ?_⟩ ?_
    · by_cases e : j = k
      · rw [e]; exact ⟨z, z2⟩
      · exact hin j (by omega)
    · rw [hi5, nI_1, nI_cl (by omega), nI_cl (by omega)]
      omega
def stayP (n : Nat) (F : (Nat → Int64) → Nat → Int64) (su : Nat → Int64) (x : Int64) (k : Nat) : Prop := (∀ j, j < n → nearP (phF n F su (k + 1) j)) ∧ (∀ j, j < n → inP x (phF n F su (k + 1) j))
def rsF (k : Nat) : Int32 := if k = 4096 then -2 else nI (k + 1)
theorem s_X6_ticksUntilBeyond {kd sm ov cn tsm g w : Int32} {x : Int64} {su cm at_ : Nat → Int64} {pk vals aa b e hh : Nat → Int32} {n c : Nat} {K : Int32 → (Nat → Int64) → (Nat → Int32) → (Nat → Int64) → Prop} (hc : cn = nI c) (h1 : 1 ≤ c) (h8 : c ≤ 8) (hn : sm = nI n) (hk : kindP kd n) (htn : kd = 2 → tsm = nI n)
    (hfin : ∀ (k : Nat) (cm' : Nat → Int64) (pk' : Nat → Int32) (at' : Nat → Int64), fsP (stayP n (fun p => toF kd n c ov vals g aa b e hh p w) su x) 4096 k → K (rsF k) cm' pk' at') : v_X6_ticksUntilBeyond kd sm ov cn tsm g su cm pk at_ vals aa b e hh w x K := by
  have n4 := hk.2.1
  have hF : cgF n (fun p => toF kd n c ov vals g aa b e hh p w) := fun p q hpq => toF_congr hk hpq
  refine s_X6_copy ?_
  refine vfix_ex (fun y : Int32 × (Nat → Int64) × (Nat → Int32) × (Nat → Int64) => ∃ k : Nat, y.1 = nI (k + 1) ∧ k ≤ 4096 ∧ (∀ i, i < k → stayP n (fun p => toF kd n c ov vals g aa b e hh p w) su x i) ∧ agr n y.2.2.2 (phF n (fun p => toF kd n c ov vals g aa b e hh p w) su k)) (fun y => 4097 - y.1.toNatClampNeg) ?_ _ ⟨0, rfl, by omega, fun i hi => by omega, fun j hj => by dsimp only; rw [nw_lt (by omega)]; rfl⟩
  rintro bk ⟨y, cm', pk', at'⟩ ⟨k, hy, hkm, hok, hag⟩ hbk
  dsimp only at hy hag
  subst hy
  unfold vF_X6_ticksUntilBeyond_17 vB_X6_ticksUntilBeyond_17
  dsimp only
  refine ⟨fun z => ?_, fun z => ?_⟩
  · have z : 4096 < k + 1 := (nI_lt_iff (a := 4096) (by omega) (by omega)).mp z
    have : k = 4096 := by omega
    have hf := hfin k cm' pk' at' ⟨hkm, hok, Or.inl this⟩
    unfold rsF at hf
    rw [if_pos this] at hf
    exact hf
  · have z : k < 4096 := by
      rcases Nat.lt_or_ge k 4096 with y | y
      · exact y
      · exact absurd ((nI_lt_iff (a := 4096) (by omega) (by omega)).mpr (by omega)) z
    have out : ∀ cm2 pk2 at2, ¬ stayP n (fun p => toF kd n c ov vals g aa b e hh p w) su x k → K (nI (k + 1)) cm2 pk2 at2 := by
      intro cm2 pk2 at2 hx
      have hf := hfin k cm2 pk2 at2 ⟨hkm, hok, Or.inr hx⟩
      unfold rsF at hf
      rw [if_neg (by omega)] at hf
      exact hf
    have ps := ph_succ hF hag
    refine s_X5_advance hc h1 h8 hn hk htn (fun cm2 pk2 _ hnr => ⟨fun y => absurd y r1n, fun _ => ?_⟩) (fun cm2 pk2 hx => ⟨fun _ => out _ _ _ (fun hs => ?_), fun y => absurd rfl y⟩)
    · have ag := ph_nw (q := at') hF hag
      refine s_X6_isBeyond hn n4 (fun hx => ⟨fun y => absurd y r1n, fun _ => out _ _ _ (fun hs => hx (fun j hj => ?_))⟩) (fun hx => ⟨fun _ => ?_, fun y => absurd rfl y⟩)
      · rw [ag j hj]
        exact hs.2 j hj
      · intro i11 hi11
        refine hbk _ ⟨k + 1, by rw [hi11, nI_1], by omega, fun i hi => ?_, ag⟩ ?_
        · by_cases e : i = k
          · subst e
            refine ⟨fun j hj => ?_, fun j hj => ?_⟩
            · rw [← ps j hj]; exact hnr j hj
            · rw [← ag j hj]; exact hx j hj
          · exact hok i (by omega)
        · dsimp only
          rw [hi11, nI_1, nI_cl (by omega), nI_cl (by omega)]
          omega
    · obtain ⟨i, hi, hq⟩ := hx
      have := hs.1 i hi
      rw [← ps i hi] at this
      exact hq this
theorem s_leaves_43 {sm l4 t10 : Int32} {n : Nat} {now to : Nat → Int64} {md : Nat → Int32} {x : Int64} {K : Int32 → (Nat → Int64) → (Nat → Int64) → (Nat → Int32) → Prop} {bk : Int32 → (Nat → Int64) → (Nat → Int64) → (Nat → Int32) → Prop} (hn : sm = nI n) (n4 : n ≤ 4) (ht : t10 = 0 ∨ t10 = 1)
    (hy : t10 = 0 → (∀ j, j < n → inP x (to j)) → bk (l4 + 1) (nwF n to now) to md) (hno : (t10 = 1 ∨ ¬ (∀ j, j < n → inP x (to j))) → K l4 now to md) : vJ_X11_leaves_43 sm x K l4 now bk to md t10 := by
  subst hn
  refine vfix_ex (fun y : Int32 × Int32 => ∃ k : Nat, y.1 = nI k ∧ k ≤ n ∧ ((y.2 = 0 ∧ t10 = 0 ∧ ∀ j, j < k → inP x (to j)) ∨ (y.2 = 1 ∧ (t10 = 1 ∨ ¬ (∀ j, j < n → inP x (to j)))))) (fun y => n - y.1.toNatClampNeg) ?_ ((0 : Int32), t10) ⟨0, rfl, by omega, ?_⟩
  · rintro bk2 ⟨y, d⟩ ⟨k, hy1, hkn, hd⟩ hbk
    dsimp only at hy1 hd
    subst hy1
    unfold vF_X11_leaves_48 vB_X11_leaves_48
    dsimp only
    have mu : ∀ d' : Int32, k < n → n - (nI (k + 1), d').1.toNatClampNeg < n - (nI k, d).1.toNatClampNeg := by
      intro d' hkn
      dsimp only
      rw [nI_cl (by omega), nI_cl (by omega)]
      omega
    have out : k < n → (t10 = 1 ∨ ¬ (∀ j, j < n → inP x (to j))) → vJ_X11_leaves_87 (nI k) (fun z0 z1 => bk2 (z0, z1)) := by
      intro hk hx i hi
      rw [hi, nI_1]
      exact hbk _ ⟨k + 1, rfl, by omega, Or.inr ⟨rfl, hx⟩⟩ (mu _ hk)
    refine ⟨fun z => ?_, fun z => ?_⟩
    · have z : n ≤ k := (nI_le_iff (by omega) (by omega)).mp z
      rcases hd with ⟨rfl, h0, hin⟩ | ⟨rfl, hx⟩
      · refine ⟨fun _ => ?_, fun y => absurd rfl y⟩
        refine s_X11_goOn rfl n4 ?_
        intro i14 hi14
        rw [hi14]
        exact hy h0 (fun j hj => hin j (by omega))
      · exact ⟨fun y => absurd y r1n, fun _ => hno hx⟩
    · have z : k < n := by
        rcases Nat.lt_or_ge k n with y | y
        · exact y
        · exact absurd ((nI_le_iff (by omega) (by omega)).mpr y) z
      rcases hd with ⟨rfl, h0, hin⟩ | ⟨rfl, hx⟩
      · refine ⟨fun y => absurd rfl y, fun _ => ⟨nI_inI (by omega) (by decide), ?_⟩⟩
        intro g17 hg17
        rw [nI_cl (by omega)] at hg17
        subst hg17
        refine ⟨fun y => out z (Or.inr (fun w => (w k z).1 y)), fun y1 => ⟨nI_inI (by omega) (by decide), ?_⟩⟩
        intro g18 hg18 e19 he19
        rw [nI_cl (by omega)] at hg18
        subst hg18 he19
        refine ⟨fun y2 => ?_, fun y2 => out z (Or.inr (fun w => (w k z).2 y2))⟩
        intro i hi
        rw [hi, nI_1]
        refine hbk _ ⟨k + 1, rfl, by omega, Or.inl ⟨rfl, h0, fun j hj => ?_⟩⟩ (mu _ z)
        by_cases e : j = k
        · rw [e]; exact ⟨y1, y2⟩
        · exact hin j (by omega)
      · exact ⟨fun _ => out z hx, fun y => absurd y r1n⟩
  · rcases ht with z | z
    · exact Or.inl ⟨z, z, fun j hj => by omega⟩
    · exact Or.inr ⟨z, Or.inl z⟩
theorem s_X11_leaves {kd sm ov cn g w : Int32} {x : Int64} {su now to : Nat → Int64} {md vals aa b e hh : Nat → Int32} {n c : Nat} {K : Int32 → (Nat → Int64) → (Nat → Int64) → (Nat → Int32) → Prop} (hc : cn = nI c) (h1 : 1 ≤ c) (h8 : c ≤ 8) (hn : sm = nI n) (hk : kindP kd n) (hw : wishP w) (hx0 : ¬ x < 0)
    (hfin : ∀ (k : Nat) (now' to' : Nat → Int64) (md' : Nat → Int32), fsP (stayP n (fun p => toF kd n c ov vals g aa b e hh p w) su x) 4096 k → K (rsF k) now' to' md') : v_X11_leaves ov cn kd sm g vals aa b e hh su now to md w x K := by
  have n4 := hk.2.1
  have hF : cgF n (fun p => toF kd n c ov vals g aa b e hh p w) := fun p q hpq => toF_congr hk hpq
  refine s_X11_isWish (fun _ => ⟨fun z => absurd z r1n, fun _ => ⟨fun _ => ?_, fun z => absurd z hx0⟩⟩) (fun z => absurd hw z)
  refine s_copyL hn n4 ?_
  refine vfix_ex (fun y : Int32 × (Nat → Int64) × (Nat → Int64) × (Nat → Int32) => ∃ k : Nat, y.1 = nI (k + 1) ∧ k ≤ 4096 ∧ (∀ i, i < k → stayP n (fun p => toF kd n c ov vals g aa b e hh p w) su x i) ∧ agr n y.2.1 (phF n (fun p => toF kd n c ov vals g aa b e hh p w) su k)) (fun y => 4097 - y.1.toNatClampNeg) ?_ _ ⟨0, rfl, by omega, fun i hi => by omega, fun j hj => by dsimp only; rw [nw_lt hj]; rfl⟩
  rintro bk ⟨y, now', to', md'⟩ ⟨k, hy, hkm, hok, hag⟩ hbk
  dsimp only at hy hag
  subst hy
  unfold vF_X11_leaves_22 vB_X11_leaves_22
  dsimp only
  refine ⟨fun z => ?_, fun z => ?_⟩
  · have z : 4096 < k + 1 := (nI_lt_iff (a := 4096) (by omega) (by omega)).mp z
    have : k = 4096 := by omega
    have hf := hfin k now' to' md' ⟨hkm, hok, Or.inl this⟩
    unfold rsF at hf
    rw [if_pos this] at hf
    exact hf
  · have z : k < 4096 := by
      rcases Nat.lt_or_ge k 4096 with y | y
      · exact y
      · exact absurd ((nI_lt_iff (a := 4096) (by omega) (by omega)).mpr (by omega)) z
    have out : ∀ now2 to2 md2, ¬ stayP n (fun p => toF kd n c ov vals g aa b e hh p w) su x k → K (nI (k + 1)) now2 to2 md2 := by
      intro cm2 pk2 at2 hx
      have hf := hfin k cm2 pk2 at2 ⟨hkm, hok, Or.inr hx⟩
      unfold rsF at hf
      rw [if_neg (by omega)] at hf
      exact hf
    have ps := ph_succ hF hag
    refine s_X11_next hc h1 h8 hn hk (fun to2 md2 hto _ hnr => ⟨fun _ => ?_, fun y => absurd y r1n⟩) (fun to2 md2 hx => ⟨fun y => absurd rfl y, fun _ => ?_⟩)
    · have eq : ∀ j, j < n → to2 j = phF n (fun p => toF kd n c ov vals g aa b e hh p w) su (k + 1) j := fun j hj => by rw [hto j hj]; exact ps j hj
      refine s_leaves_43 hn n4 (Or.inl rfl) (fun _ hin => ?_) (fun hx => out _ _ _ (fun hs => ?_))
      · rw [nI_1]
        refine hbk _ ⟨k + 1, rfl, by omega, fun i hi => ?_, fun j hj => ?_⟩ ?_
        · by_cases e : i = k
          · subst e
            refine ⟨fun j hj => ?_, fun j hj => ?_⟩
            · rw [← ps j hj]; exact hnr j hj
            · rw [← eq j hj]; exact hin j hj
          · exact hok i (by omega)
        · dsimp only
          rw [nw_lt hj]
          exact eq j hj
        · dsimp only
          rw [nI_cl (by omega), nI_cl (by omega)]
          omega
      · rcases hx with y | y
        · exact absurd y.symm r1n
        · exact y (fun j hj => by rw [eq j hj]; exact hs.2 j hj)
    · refine s_leaves_43 hn n4 (Or.inr rfl) (fun y => absurd y r1n) (fun _ => out _ _ _ (fun hs => ?_))
      obtain ⟨i, hi, hq⟩ := hx
      have := hs.1 i hi
      rw [← ps i hi] at this
      exact hq this
theorem op_leaves {s5_kind s5_sums s7_over s7_count s8_sums s8_g s11_d s11_stepMany s11_kind s11_many s11_g s3_next s3_kept s4_ticks s4_secondBefore s4_thirdBefore s4_thirdTwoBefore s11_ticks s11_beganElsewhere s11_dBefore s11_fBefore s11_fFirst x1 : Int32} {a4_sums a5_coming a6_at a11_sums a11_now a11_to a3_sums a11_firstSum : Nat → Int64} {a5_picked a7_values a8_a a8_b a8_e a8_h a11_steps a11_a a11_b a11_e a11_h a11_made a3_wishes a3_givens a3_totals a11_wished a11_given : Nat → Int32} {T : Nat} {s4_firstBeganWith x2 : Int64} (hQK : QK s5_kind s5_sums s8_sums s8_g a8_a a8_b a8_e a8_h s11_kind s11_many s11_g a11_a a11_b a11_e a11_h) (hQL : QL T s5_kind s5_sums s7_count a7_values s3_next s3_kept s4_ticks s4_firstBeganWith s4_secondBefore s4_thirdBefore s4_thirdTwoBefore a4_sums a3_wishes a3_givens a3_sums a3_totals s11_ticks s11_beganElsewhere s11_dBefore s11_fBefore s11_fFirst a11_sums a11_wished a11_given a11_firstSum) (hQS : QS s7_over s7_count a7_values s11_d s11_stepMany a11_steps) (hT : T + 10000 < 1073741824) : v_X10_leaves s5_kind s5_sums s7_over s7_count s8_sums s8_g a4_sums a5_coming a5_picked a6_at a7_values a8_a a8_b a8_e a8_h x1 x2 (fun r a5_coming' a5_picked' a6_at' => v_X11_leaves s11_d s11_stepMany s11_kind s11_many s11_g a11_steps a11_a a11_b a11_e a11_h a11_sums a11_now a11_to a11_made x1 x2 (fun r' a11_now' a11_to' a11_made' => r = r')) := by
  by_cases q3 : ¬ wishP x1
  · exact s_X10_isWish (fun z => absurd z q3) (fun _ => ⟨fun _ => s_X11_isWish (fun z => absurd z q3) (fun _ => ⟨fun _ => rfl, fun z => absurd rfl z⟩), fun z => absurd rfl z⟩)
  have q3 : wishP x1 := Classical.not_not.mp q3
  by_cases q4 : x2 < 0
  · exact s_X10_isWish (fun _ => ⟨fun z => absurd z r1n, fun _ => ⟨fun _ => s_X11_isWish (fun _ => ⟨fun z => absurd z r1n, fun _ => ⟨fun z => absurd q4 z, fun _ => rfl⟩⟩) (fun z => absurd q3 z), fun z => absurd q4 z⟩⟩) (fun z => absurd q3 z)
  obtain ⟨n, k1, k2, k3, k4, k5, -, -, -, -, kt⟩ := hQK
  obtain ⟨c, s1, s2, s3, s4, s5, s6, s7, s8⟩ := hQS
  obtain ⟨t, l1, l2, l3, l4, l5, l6, -⟩ := hQL
  subst k1 s5 s6 l6
  have kt' : s5_kind = 2 → s8_g = s11_g ∧ a8_a = a11_a ∧ a8_b = a11_b ∧ a8_e = a11_e ∧ a8_h = a11_h := fun q => (kt q).2
  have eT := toF_tab (n := n) (c := c) (ov := s7_over) (vals := a7_values) kt'
  refine s_X10_isWish (fun _ => ⟨fun z => absurd z r1n, fun _ => ⟨fun z => absurd z q4, fun _ => ?_⟩⟩) (fun z => absurd q3 z)
  refine s_X6_ticksUntilBeyond s1 (by omega) s4 k2 k4 (fun q => (kt q).1) (fun k cm' pk' at' hf => ?_)
  refine s_X11_leaves s2 (by omega) s4 k3 k4 q3 q4 (fun k' now' to' md' hf' => ?_)
  rw [← eT] at hf'
  rw [fs_uniq hf hf']
