/-! pure: one tick of the sums, the same for both -/
theorem i64_ss (v x : Int64) : v - (v - x) = x := by
  apply Int64.toBitVec_inj.mp
  rw [Int64.toBitVec_sub, Int64.toBitVec_sub]
  bv_omega
def v2F (p : Nat → Int64) (w : Int32) : Int64 := w.toInt64 + 2 * p 0 - p 1
def vtF (g : Int32) (hh : Nat → Int32) (p : Nat → Int64) (w : Int32) (n : Nat) : Int64 := accF (fun j => (hh j).toInt64 * p j) (g.toInt64 * w.toInt64) n
/-- the next sums -/
def toF (kd : Int32) (n c : Nat) (ov : Int32) (vals : Nat → Int32) (g : Int32) (aa b e hh : Nat → Int32) (p : Nat → Int64) (w : Int32) : Nat → Int64 :=
  if kd = 1 then (fun k => if k = 0 then v2F p w - fiF vals ov c (v2F p w) else p 0)
  else if kd = 2 then (fun i => accF (fun j => (aa (i * 4 + j)).toInt64 * p j) ((b i).toInt64 * w.toInt64 + (e i).toInt64 * fiF vals ov c (vtF g hh p w n)) n)
  else (fun k => rowF vals ov c p w.toInt64 (k + 1))
/-- the steps made -/
def mdF (kd : Int32) (n c : Nat) (ov : Int32) (vals : Nat → Int32) (g : Int32) (hh : Nat → Int32) (p : Nat → Int64) (w : Int32) : Nat → Int32 :=
  if kd = 1 then (fun _ => stF vals ov c (v2F p w))
  else if kd = 2 then (fun _ => stF vals ov c (vtF g hh p w n))
  else (fun k => stF vals ov c (p k + rowF vals ov c p w.toInt64 k))
/-- how many steps are made -/
def nmF (kd : Int32) (n : Nat) : Nat := if kd = 1 then 1 else if kd = 2 then 1 else n
/-- what goes with a kind -/
def kindP (kd : Int32) (n : Nat) : Prop := 1 ≤ n ∧ n ≤ 4 ∧ (kd = 1 → n = 2) ∧ (¬ kd = 1 → ¬ kd = 2 → n ≤ 3) ∧ (¬ kd = 1 → ¬ kd = 2 → ¬ kd = 3 → n = 1)
def nwF (n : Nat) (f p : Nat → Int64) : Nat → Int64 := fun j => if j < n then f j else p j
theorem setL_fun (p cm f : Nat → Int64) (n : Nat) (h : ∀ k, k < n → cm k = f k) : setL p cm n = nwF n f p := by
  funext j
  unfold nwF
  by_cases hj : j < n
  · rw [setL_lt _ _ _ _ hj, if_pos hj, h j hj]
  · rw [setL_ge _ _ _ _ (by omega), if_neg hj]
theorem s_X5_advance {kd sm ov cn tsm g w : Int32} {cm : Nat → Int64} {pk vals aa b e hh : Nat → Int32} {p : Nat → Int64} {n c : Nat} {K : Int32 → (Nat → Int64) → (Nat → Int32) → (Nat → Int64) → Prop} (hc : cn = nI c) (h1 : 1 ≤ c) (h8 : c ≤ 8) (hn : sm = nI n) (hk : kindP kd n) (htn : kd = 2 → tsm = nI n)
    (hy : ∀ cm' pk', (∀ k, k < nmF kd n → pk' k = mdF kd n c ov vals g hh p w k) → (∀ k, k < n → nearP (toF kd n c ov vals g aa b e hh p w k)) → K 1 cm' pk' (nwF n (toF kd n c ov vals g aa b e hh p w) p))
    (hno : ∀ cm' pk', (∃ k, k < n ∧ ¬ nearP (toF kd n c ov vals g aa b e hh p w k)) → K 0 cm' pk' p) : v_X5_advance kd sm ov cn tsm g cm pk vals aa b e hh p w K := by
  obtain ⟨k1, k4, kk1, kk3, kkn⟩ := hk
  have fin : ∀ cm' pk', (∀ k, k < n → cm' k = toF kd n c ov vals g aa b e hh p w k) → (∀ k, k < nmF kd n → pk' k = mdF kd n c ov vals g hh p w k) → v_X5_settle sm cm' p (fun r q => K r cm' pk' q) := by
    intro cm' pk' h1 h2
    refine s_X5_settle hn k4 (fun hnr => ?_) (fun hnr => ?_)
    · rw [setL_fun p cm' _ n h1]
      exact hy cm' pk' h2 (fun k hk => by rw [← h1 k hk]; exact hnr k hk)
    · obtain ⟨k, hk, hq⟩ := hnr
      exact hno cm' pk' ⟨k, hk, by rw [← h1 k hk]; exact hq⟩
  refine ⟨fun e1 => ?_, fun e2 => ?_, fun e1 e2 => ?_⟩
  · have hn2 := kk1 e1
    subst hn2
    refine s_X5_reckonTwo hc h1 h8 (fin _ _ (fun k hk => ?_) (fun k hk => ?_))
    · unfold toF
      rw [if_pos e1]
      match k, hk with
      | 0, _ => rfl
      | 1, _ => rfl
    · unfold mdF
      rw [if_pos e1]
      unfold nmF at hk
      rw [if_pos e1] at hk
      have : k = 0 := by omega
      subst this
      rfl
  · have e1 : ¬ kd = 1 := by rw [e2]; decide
    refine s_X5_reckonTables hc h1 h8 hn k4 (htn e2) ?_
    intro v tk hv htk
    refine fin _ _ (fun k hk => ?_) (fun k hk => ?_)
    · rw [setL_lt _ _ _ _ hk]
      unfold toF
      rw [if_neg e1, if_pos e2, htk, i64_ss, hv]
      rfl
    · unfold nmF at hk
      rw [if_neg e1, if_pos e2] at hk
      have : k = 0 := by omega
      subst this
      unfold mdF
      rw [if_neg e1, if_pos e2, hv]
      rfl
  · refine s_X5_reckonRow hc h1 h8 hn (kk3 e1 e2) (fin _ _ (fun k hk => ?_) (fun k hk => ?_))
    · rw [setL_lt _ _ _ _ hk]
      unfold toF
      rw [if_neg e1, if_neg e2]
    · unfold nmF at hk
      rw [if_neg e1, if_neg e2] at hk
      rw [setI_lt _ _ _ _ hk]
      unfold mdF
      rw [if_neg e1, if_neg e2]
/-! pure: the reference's own -/
theorem s_X11_isNear {v : Int64} {K : Int32 → Prop} (h1 : nearP v → K 1) (h0 : ¬ nearP v → K 0) : v_X11_isNear v K :=
  ⟨fun h => h0 (fun q => q.2 h), fun h => ⟨fun h2 => h0 (fun q => q.1 h2), fun h2 => h1 ⟨h2, h⟩⟩⟩
theorem s_X11_isWish {w : Int32} {K : Int32 → Prop} (h1 : wishP w → K 1) (h0 : ¬ wishP w → K 0) : v_X11_isWish w K := by
  unfold v_X11_isWish
  refine ⟨fun h => h0 (fun q => q.1 h), fun h => ⟨fun h2 => h0 (fun q => q.2 h2), fun h2 => h1 ⟨h, h2⟩⟩⟩
theorem s_X11_stepFor {ov cn : Int32} {vals : Nat → Int32} {v : Int64} {K : Int32 → Prop} {c : Nat} (hc : cn = nI c) (h1 : 1 ≤ c) (h8 : c ≤ 8) (h : K (stF vals ov c v)) : v_X11_stepFor ov cn vals v K := by
  subst hc
  refine ⟨nI_inI (a := 0) (by omega) (by decide), ?_⟩
  intro g1 hg1
  subst hg1
  refine vloop (fun k => (nI (k + 1), vals (plF vals ov v k))) (c - 1) ?_ ?_
  · intro bk k hk hb
    unfold vF_X11_stepFor_10 vB_X11_stepFor_10
    refine ⟨fun q => absurd q (nI_nle_lt (by omega) (by omega)), fun _ => ⟨nI_inI (by omega) (by decide), ?_⟩⟩
    intro g4 hg4 e5 he5
    rw [nI_cl (by omega)] at hg4
    have hb : bk (nI (k + 1 + 1), vals (if v < (vals (k + 1)).toInt64 * ov.toInt64 then plF vals ov v k else k + 1)) := hb
    rw [he5, hg4]
    refine ⟨fun hlt => ?_, fun hlt => ?_⟩
    · unfold vJ_X11_stepFor_46
      intro i7 hi7
      rw [if_pos hlt] at hb
      rw [hi7, nI_1]
      exact hb
    · refine ⟨nI_inI (by omega) (by decide), ?_⟩
      intro g8 hg8
      rw [nI_cl (by omega)] at hg8
      unfold vJ_X11_stepFor_46
      intro i7 hi7
      rw [if_neg hlt] at hb
      rw [hi7, nI_1, hg8]
      exact hb
  · intro bk
    unfold vF_X11_stepFor_10 vB_X11_stepFor_10
    have e : c - 1 + 1 = c := by omega
    refine ⟨fun _ => h, fun q => absurd ?_ q⟩
    show nI c ≤ nI (c - 1 + 1)
    rw [e]
    exact nI_rfl c (by omega)
theorem s_copyL {sm : Int32} {n : Nat} {f p : Nat → Int64} {K : (Nat → Int64) → Prop} (hn : sm = nI n) (h4 : n ≤ 4) (h : K (nwF n f p)) : v_X11_fromHere sm f p K := by
  subst hn
  rw [← setL_fun p f f n (fun _ _ => rfl)] at h
  refine vloop (fun k => (nI k, setL p f k)) n ?_ ?_
  · intro bk k hk hb
    unfold vF_X11_fromHere_2 vB_X11_fromHere_2
    refine ⟨fun q => absurd q (nI_nle_lt (by omega) hk), fun _ => ⟨nI_inI (by omega) (by decide), ?_⟩⟩
    intro g3 hg3
    refine ⟨nI_inI (by omega) (by decide), ?_⟩
    intro p4 hp4 i5 hi5
    rw [nI_cl (by omega)] at hg3 hp4
    subst hp4 hg3 hi5
    dsimp only
    rw [nI_1]
    exact hb
  · intro bk
    unfold vF_X11_fromHere_2 vB_X11_fromHere_2
    exact ⟨fun _ => h, fun q => absurd (nI_rfl n (by omega)) q⟩
theorem s_X11_goOn {sm : Int32} {n : Nat} {f p : Nat → Int64} {K : (Nat → Int64) → Prop} (hn : sm = nI n) (h4 : n ≤ 4) (h : K (nwF n f p)) : v_X11_goOn sm p f K := by
  subst hn
  rw [← setL_fun p f f n (fun _ _ => rfl)] at h
  refine vloop (fun k => (nI k, setL p f k)) n ?_ ?_
  · intro bk k hk hb
    unfold vF_X11_goOn_2 vB_X11_goOn_2
    refine ⟨fun q => absurd q (nI_nle_lt (by omega) hk), fun _ => ⟨nI_inI (by omega) (by decide), ?_⟩⟩
    intro g3 hg3
    refine ⟨nI_inI (by omega) (by decide), ?_⟩
    intro p4 hp4 i5 hi5
    rw [nI_cl (by omega)] at hg3 hp4
    subst hp4 hg3 hi5
    dsimp only
    rw [nI_1]
    exact hb
  · intro bk
    unfold vF_X11_goOn_2 vB_X11_goOn_2
    exact ⟨fun _ => h, fun q => absurd (nI_rfl n (by omega)) q⟩
/-- the check at the end of next -/
theorem s_next_end {sm : Int32} {n : Nat} {to : Nat → Int64} {md : Nat → Int32} {K : Int32 → (Nat → Int64) → (Nat → Int32) → Prop} (hn : sm = nI n) (h4 : n ≤ 4) (hy : (∀ k, k < n → nearP (to k)) → K 1 to md) (hno : (∃ k, k < n ∧ ¬ nearP (to k)) → K 0 to md) : vJ_X11_next_390 sm K to md := by
  subst hn
  unfold vJ_X11_next_390
  refine vfix_ex (fun x : Int32 × Int32 => ∃ k : Nat, x.1 = nI k ∧ k ≤ n ∧ ((x.2 = 1 ∧ ∀ j, j < k → nearP (to j)) ∨ (x.2 = 0 ∧ ∃ j, j < k ∧ ¬ nearP (to j)))) (fun x => n - x.1.toNatClampNeg) ?_ ((0 : Int32), (1 : Int32)) ⟨0, rfl, by omega, Or.inl ⟨rfl, fun j hj => by omega⟩⟩
  rintro bk ⟨x, d⟩ ⟨k, hx, hk, hd⟩ hbk
  dsimp only at hx hd
  subst hx
  unfold vF_X11_next_396 vB_X11_next_396
  dsimp only
  refine ⟨fun q => ?_, fun q => ?_⟩
  · have q : n ≤ k := (nI_le_iff (by omega) (by omega)).mp q
    have : k = n := by omega
    subst this
    rcases hd with ⟨rfl, hd⟩ | ⟨rfl, hd⟩
    · exact ⟨Or.inr rfl, hy hd⟩
    · exact ⟨Or.inl rfl, hno hd⟩
  · have q : k < n := by
      rcases Nat.lt_or_ge k n with z | z
      · exact z
      · exact absurd ((nI_le_iff (by omega) (by omega)).mpr z) q
    have mu : ∀ d' : Int32, n - (nI (k + 1), d').1.toNatClampNeg < n - (nI k, d).1.toNatClampNeg := by
      intro d'
      dsimp only
      rw [nI_cl (by omega), nI_cl (by omega)]
      omega
    have out : (∃ j, j < k + 1 ∧ ¬ nearP (to j)) → vJ_X11_next_427 (nI k) (fun z0 z1 => bk (z0, z1)) := by
      intro hh
      unfold vJ_X11_next_427 vJ_X11_next_428
      intro i6 hi6
      rw [hi6, nI_1]
      exact hbk _ ⟨k + 1, rfl, by omega, Or.inr ⟨rfl, hh⟩⟩ (mu _)
    refine ⟨fun h0 => ?_, fun h0 => ?_⟩
    · rcases hd with ⟨hd1, hd⟩ | ⟨-, j, hj, hq⟩
      · rw [hd1] at h0; exact absurd h0 (by decide)
      · exact out ⟨j, by omega, hq⟩
    · rcases hd with ⟨rfl, hd⟩ | ⟨hd0, -⟩
      · refine ⟨nI_inI (by omega) (by decide), ?_⟩
        intro g7 hg7
        rw [nI_cl (by omega)] at hg7
        subst hg7
        refine s_X11_isNear (fun hq => ⟨fun z => absurd z (by decide), fun _ => ?_⟩) (fun hq => ⟨fun _ => out ⟨k, by omega, hq⟩, fun z => absurd rfl z⟩)
        unfold vJ_X11_next_428
        intro i6 hi6
        rw [hi6, nI_1]
        refine hbk _ ⟨k + 1, rfl, by omega, Or.inl ⟨rfl, fun j hj => ?_⟩⟩ (mu _)
        by_cases e : j = k
        · rw [e]; exact hq
        · exact hd j (by omega)
      · exact absurd hd0 h0
