/-! pure: loops that go on by a known state -/
theorem vloop_n {V : Type} {B : (V → Prop) → V → Prop} (st : Nat → V) (n : Nat) (h : ∀ (bk : V → Prop) (k : Nat), k < n → bk (st (k + 1)) → B bk (st k)) (hx : ∀ bk : V → Prop, B bk (st n)) : ∀ (j k : Nat), k + j = n → vfix B (j + 1) (st k) := by
  intro j
  induction j with
  | zero => intro k hk; have : k = n := by omega
            subst this; exact hx _
  | succ j ih => intro k hk; exact h _ k (by omega) (ih (k + 1) (by omega))
theorem vloop {V : Type} {B : (V → Prop) → V → Prop} (st : Nat → V) (n : Nat) (h : ∀ (bk : V → Prop) (k : Nat), k < n → bk (st (k + 1)) → B bk (st k)) (hx : ∀ bk : V → Prop, B bk (st n)) : ∃ m, vfix B m (st 0) := ⟨n + 1, vloop_n st n h hx n 0 (by omega)⟩
theorem nI_nle_lt {a b : Nat} (hb : b < 2147483648) (h : a < b) : ¬ nI b ≤ nI a := fun q => absurd ((nI_le_iff hb (by omega)).mp q) (by omega)
theorem nI_rfl (a : Nat) (h : a < 2147483648) : nI a ≤ nI a := (nI_le_iff h h).mpr (Nat.le_refl a)
def accF (t : Nat → Int64) (a0 : Int64) : Nat → Int64
  | 0 => a0
  | j + 1 => accF t a0 j + t j
theorem s_X8_measure {sm g w : Int32} {hh : Nat → Int32} {p : Nat → Int64} {K : Int64 → Prop} {n : Nat} (hn : sm = nI n) (h4 : n ≤ 4) (h : K (accF (fun j => (hh j).toInt64 * p j) (g.toInt64 * w.toInt64) n)) : v_X8_measure sm g hh p w K := by
  subst hn
  intro e1 he1
  subst he1
  refine vloop (fun k => (nI k, accF (fun j => (hh j).toInt64 * p j) (g.toInt64 * w.toInt64) k)) n ?_ ?_
  · intro bk k hk hb
    unfold vF_X8_measure_12 vB_X8_measure_12
    refine ⟨fun q => absurd q (nI_nle_lt (by omega) hk), fun _ => ⟨nI_inI (by omega) (by decide), ?_⟩⟩
    intro g4 hg4
    refine ⟨nI_inI (by omega) (by decide), ?_⟩
    intro g5 hg5 e6 he6 e7 he7 i8 hi8
    subst hg4 hg5 he6 he7 hi8
    dsimp only
    rw [nI_1, nI_cl (by omega)]
    exact hb
  · intro bk
    unfold vF_X8_measure_12 vB_X8_measure_12
    exact ⟨fun _ => h, fun q => absurd (nI_rfl n (by omega)) q⟩
theorem s_X8_next {sm w : Int32} {aa b e : Nat → Int32} {p : Nat → Int64} {i n : Nat} {tk : Int64} {K : Int64 → Prop} (hn : sm = nI n) (h4 : n ≤ 4) (hi : i < 4) (h : K (accF (fun j => (aa (i * 4 + j)).toInt64 * p j) ((b i).toInt64 * w.toInt64 + (e i).toInt64 * tk) n)) : v_X8_next sm aa b e p (nI i) w tk K := by
  subst hn
  refine ⟨nI_inI hi (by decide), ?_⟩
  intro g1 hg1 e2 he2
  refine ⟨nI_inI hi (by decide), ?_⟩
  intro g3 hg3 e4 he4 e5 he5
  subst hg1 he2 hg3 he4 he5
  rw [nI_cl (by omega)]
  refine vloop (fun k => (nI k, accF (fun j => (aa (i * 4 + j)).toInt64 * p j) ((b i).toInt64 * w.toInt64 + (e i).toInt64 * tk) k)) n ?_ ?_
  · intro bk k hk hb
    unfold vF_X8_next_26 vB_X8_next_26
    refine ⟨fun q => absurd q (nI_nle_lt (by omega) hk), fun _ => ?_⟩
    intro e8 he8 e9 he9
    have e9n : e9 = nI (i * 4 + k) := by rw [he9, he8, ← nI_add, ← pk_mul]; rfl
    rw [e9n]
    refine ⟨nI_inI (by omega) (by decide), ?_⟩
    intro g10 hg10
    refine ⟨nI_inI (by omega) (by decide), ?_⟩
    intro g11 hg11 e12 he12 e13 he13 i14 hi14
    subst hg10 hg11 he12 he13 hi14
    dsimp only
    rw [nI_1, nI_cl (by omega), nI_cl (by omega)]
    exact hb
  · intro bk
    unfold vF_X8_next_26 vB_X8_next_26
    exact ⟨fun _ => h, fun q => absurd (nI_rfl n (by omega)) q⟩
/-! pure: the three ways to reckon -/
/-- what coming holds behind k of a row's steps; row k: the wish that goes on behind k of them -/
def rowF (vals : Nat → Int32) (ov : Int32) (c : Nat) (p : Nat → Int64) (w : Int64) : Nat → Int64
  | 0 => w
  | k + 1 => (p k + rowF vals ov c p w k) - fiF vals ov c (p k + rowF vals ov c p w k)
def setL (cm : Nat → Int64) (f : Nat → Int64) : Nat → Nat → Int64
  | 0 => cm
  | k + 1 => vp_updL (setL cm f k) k (f k)
def setI (pk : Nat → Int32) (f : Nat → Int32) : Nat → Nat → Int32
  | 0 => pk
  | k + 1 => upd (setI pk f k) k (f k)
theorem setL_lt (cm f : Nat → Int64) : ∀ (k j : Nat), j < k → setL cm f k j = f j := by
  intro k
  induction k with
  | zero => intro j h; omega
  | succ k ih =>
    intro j h
    show vp_updL (setL cm f k) k (f k) j = f j
    unfold vp_updL
    by_cases e : j = k
    · rw [if_pos e, e]
    · rw [if_neg e]; exact ih j (by omega)
theorem setL_ge (cm f : Nat → Int64) : ∀ (k j : Nat), k ≤ j → setL cm f k j = cm j := by
  intro k
  induction k with
  | zero => intro j h; rfl
  | succ k ih =>
    intro j h
    show vp_updL (setL cm f k) k (f k) j = cm j
    unfold vp_updL
    rw [if_neg (by omega)]; exact ih j (by omega)
theorem setI_lt (pk f : Nat → Int32) : ∀ (k j : Nat), j < k → setI pk f k j = f j := by
  intro k
  induction k with
  | zero => intro j h; omega
  | succ k ih =>
    intro j h
    show upd (setI pk f k) k (f k) j = f j
    unfold upd
    by_cases e : j = k
    · rw [if_pos e, e]
    · rw [if_neg e]; exact ih j (by omega)
theorem setI_ge (pk f : Nat → Int32) : ∀ (k j : Nat), k ≤ j → setI pk f k j = pk j := by
  intro k
  induction k with
  | zero => intro j h; rfl
  | succ k ih =>
    intro j h
    show upd (setI pk f k) k (f k) j = pk j
    unfold upd
    rw [if_neg (by omega)]; exact ih j (by omega)
theorem s_X5_reckonRow {sm ov cn w : Int32} {cm : Nat → Int64} {pk vals : Nat → Int32} {p : Nat → Int64} {n c : Nat} {K : (Nat → Int64) → (Nat → Int32) → Prop} (hc : cn = nI c) (h1 : 1 ≤ c) (h8 : c ≤ 8) (hn : sm = nI n) (h3 : n ≤ 3)
    (h : K (setL cm (fun k => rowF vals ov c p w.toInt64 (k + 1)) n) (setI pk (fun k => stF vals ov c (p k + rowF vals ov c p w.toInt64 k)) n)) : v_X5_reckonRow sm ov cn cm pk vals p w K := by
  subst hn
  refine vloop (fun k => (nI k, rowF vals ov c p w.toInt64 k, setL cm (fun k => rowF vals ov c p w.toInt64 (k + 1)) k, setI pk (fun k => stF vals ov c (p k + rowF vals ov c p w.toInt64 k)) k)) n ?_ ?_
  · intro bk k hk hb
    unfold vF_X5_reckonRow_6 vB_X5_reckonRow_6
    refine ⟨fun q => absurd q (nI_nle_lt (by omega) hk), fun _ => ⟨fun q => absurd q (nI_nle_lt (b := 3) (by omega) (by omega)), fun _ => ?_⟩⟩
    refine ⟨nI_inI (by omega) (by decide), ?_⟩
    intro g5 hg5 e6 he6
    rw [nI_cl (by omega)] at hg5
    subst hg5 he6
    refine s_X5_takeStep hc h1 h8 (by omega) ?_
    refine ⟨nI_inI (by omega) (by decide), ?_⟩
    intro cm9 hcm9 i10 hi10
    rw [nI_cl (by omega)] at hcm9
    subst hcm9 hi10
    dsimp only
    rw [nI_1]
    exact hb
  · intro bk
    unfold vF_X5_reckonRow_6 vB_X5_reckonRow_6
    exact ⟨fun _ => h, fun q => absurd (nI_rfl n (by omega)) q⟩
theorem s_X5_reckonTwo {ov cn w : Int32} {cm : Nat → Int64} {pk vals : Nat → Int32} {p : Nat → Int64} {c : Nat} {K : (Nat → Int64) → (Nat → Int32) → Prop} (hc : cn = nI c) (h1 : 1 ≤ c) (h8 : c ≤ 8)
    (h : K (vp_updL (vp_updL cm 0 (w.toInt64 + 2 * p 0 - p 1 - fiF vals ov c (w.toInt64 + 2 * p 0 - p 1))) 1 (p 0)) (upd pk 0 (stF vals ov c (w.toInt64 + 2 * p 0 - p 1)))) : v_X5_reckonTwo ov cn cm pk vals p w K := by
  refine ⟨nI_inI (a := 0) (by omega) (by decide), ?_⟩
  intro g1 hg1 e2 he2 e3 he3
  refine ⟨nI_inI (a := 1) (by omega) (by decide), ?_⟩
  intro g4 hg4 e5 he5
  subst he5 he3 he2 hg1 hg4
  refine s_X5_takeStep (k := 0) hc h1 h8 (by omega) ?_
  refine ⟨nI_inI (a := 0) (by omega) (by decide), ?_⟩
  intro cm8 hcm8
  refine ⟨nI_inI (a := 0) (by omega) (by decide), ?_⟩
  intro g9 hg9
  refine ⟨nI_inI (a := 1) (by omega) (by decide), ?_⟩
  intro cm10 hcm10
  subst hcm10 hcm8 hg9
  exact h
theorem s_X5_reckonTables {sm ov cn tsm g w : Int32} {cm : Nat → Int64} {pk vals aa b e hh : Nat → Int32} {p : Nat → Int64} {n c : Nat} {K : (Nat → Int64) → (Nat → Int32) → Prop} (hc : cn = nI c) (h1 : 1 ≤ c) (h8 : c ≤ 8) (hn : sm = nI n) (h4 : n ≤ 4) (htn : tsm = nI n)
    (h : ∀ v tk : Int64, v = accF (fun j => (hh j).toInt64 * p j) (g.toInt64 * w.toInt64) n → tk = v - (v - fiF vals ov c v) → K (setL cm (fun i => accF (fun j => (aa (i * 4 + j)).toInt64 * p j) ((b i).toInt64 * w.toInt64 + (e i).toInt64 * tk) n) n) (upd pk 0 (stF vals ov c v))) : v_X5_reckonTables sm ov cn tsm g cm pk vals aa b e hh p w K := by
  subst hn
  refine s_X8_measure htn h4 ?_
  refine s_X5_takeStep (k := 0) hc h1 h8 (by omega) ?_
  intro e4 he4
  have hK := h _ e4 rfl he4
  refine vloop (fun k => (nI k, setL cm (fun i => accF (fun j => (aa (i * 4 + j)).toInt64 * p j) ((b i).toInt64 * w.toInt64 + (e i).toInt64 * e4) n) k)) n ?_ ?_
  · intro bk k hk hb
    unfold vF_X5_reckonTables_23 vB_X5_reckonTables_23
    refine ⟨fun q => absurd q (nI_nle_lt (by omega) hk), fun _ => ?_⟩
    refine s_X8_next htn h4 (by omega) ?_
    refine ⟨nI_inI (by omega) (by decide), ?_⟩
    intro cm8 hcm8 i9 hi9
    rw [nI_cl (by omega)] at hcm8
    subst hcm8 hi9
    dsimp only
    rw [nI_1]
    exact hb
  · intro bk
    unfold vF_X5_reckonTables_23 vB_X5_reckonTables_23
    exact ⟨fun _ => hK, fun q => absurd (nI_rfl n (by omega)) q⟩
/-! pure: settle -/
theorem s_X5_settle {sm : Int32} {cm p : Nat → Int64} {n : Nat} {K : Int32 → (Nat → Int64) → Prop} (hn : sm = nI n) (h4 : n ≤ 4) (hy : (∀ k, k < n → nearP (cm k)) → K 1 (setL p cm n)) (hno : (∃ k, k < n ∧ ¬ nearP (cm k)) → K 0 p) : v_X5_settle sm cm p K := by
  subst hn
  refine vfix_ex (fun x : Int32 => ∃ k : Nat, x = nI k ∧ k ≤ n ∧ ∀ j, j < k → nearP (cm j)) (fun x => n - x.toNatClampNeg) ?_ 0 ⟨0, rfl, by omega, fun j hj => by omega⟩
  rintro bk x ⟨k, rfl, hk, hnear⟩ hbk
  unfold vF_X5_settle_2 vB_X5_settle_2
  refine ⟨fun q => ?_, fun q => ?_⟩
  · have q : n ≤ k := (nI_le_iff (by omega) (by omega)).mp q
    have : k = n := by omega
    subst this
    refine vloop (fun j => (nI j, setL p cm j)) k ?_ ?_
    · intro bk2 j hj hb
      unfold vF_X5_settle_32 vB_X5_settle_32
      refine ⟨fun q => absurd q (nI_nle_lt (by omega) hj), fun _ => ⟨nI_inI (by omega) (by decide), ?_⟩⟩
      intro g4 hg4
      refine ⟨nI_inI (by omega) (by decide), ?_⟩
      intro p5 hp5 i6 hi6
      rw [nI_cl (by omega)] at hg4 hp5
      subst hp5 hg4 hi6
      dsimp only
      rw [nI_1]
      exact hb
    · intro bk2
      unfold vF_X5_settle_32 vB_X5_settle_32
      exact ⟨fun _ => hy hnear, fun q => absurd (nI_rfl k (by omega)) q⟩
  · have q : k < n := by
      rcases Nat.lt_or_ge k n with z | z
      · exact z
      · exact absurd ((nI_le_iff (by omega) (by omega)).mpr z) q
    refine ⟨nI_inI (by omega) (by decide), ?_⟩
    intro g7 hg7
    rw [nI_cl (by omega)] at hg7
    subst hg7
    refine s_X10_isSum (fun hq => ⟨fun _ => ?_, fun z => absurd z (by decide)⟩) (fun hq => ⟨fun z => absurd rfl z, fun _ => hno ⟨k, q, hq⟩⟩)
    intro i9 hi9
    refine hbk i9 ⟨k + 1, by rw [hi9, nI_1], by omega, fun j hj => ?_⟩ ?_
    · by_cases e : j = k
      · rw [e]; exact hq
      · exact hnear j (by omega)
    · rw [hi9, nI_1, nI_cl (by omega), nI_cl (by omega)]
      omega
