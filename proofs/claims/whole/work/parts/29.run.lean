/-! pure: ticks in a row. t, su, sb, tb, tt, h, on, ot, wi, gv, hs -/
abbrev TS : Type := Nat × (Nat → Int64) × Int32 × Int32 × Int32 × Nat × (Nat → Int32) × (Nat → Int32) × (Nat → Int32) × (Nat → Int32) × (Nat → Int64)
def tkF (kd : Int32) (n c : Nat) (ov : Int32) (vals : Nat → Int32) (g : Int32) (aa b e hh : Nat → Int32) (p : Nat) (rl w : Int32) : TS → TS
  | (t, su, sb, tb, tt, h, on, ot, wi, gv, hs) =>
    (t + 1, nwF n (toF kd n c ov vals g aa b e hh su w) su, sbF kd (mdF kd n c ov vals g hh su w) sb, tbF kd n (mdF kd n c ov vals g hh su w) tb, ttF kd n tb tt,
      hdF rl h p (mnF p (gvF kd n (mdF kd n c ov vals g hh su w) sb tb tt)), onF rl h p ot on (mnF p (gvF kd n (mdF kd n c ov vals g hh su w) sb tb tt)), otF p ot (onF rl h p ot on (mnF p (gvF kd n (mdF kd n c ov vals g hh su w) sb tb tt))),
      upd wi (t % 256) w, upd gv (t % 256) (gvF kd n (mdF kd n c ov vals g hh su w) sb tb tt), vp_updL hs (t % 256) (toF kd n c ov vals g aa b e hh su w 0))
def okP (kd : Int32) (n c : Nat) (ov : Int32) (vals : Nat → Int32) (g : Int32) (aa b e hh : Nat → Int32) (w : Int32) : TS → Prop
  | (_, su, _) => ∀ k, k < n → nearP (toF kd n c ov vals g aa b e hh su w k)
def stI (kd : Int32) (n c : Nat) (vals : Nat → Int32) (p : Nat) (fb : Int64) : TS → Prop
  | (t, su, sb, tb, tt, h, on, _, _, gv, _) => (h = 0 ∨ h < p) ∧ bfP sb ∧ bfP tb ∧ bfP tt ∧ (¬ n = 3 → tb = 0 ∧ tt = 0) ∧ (∀ k, gvP (gv k)) ∧ (∀ k, on k = 0 ∨ on k = 1) ∧ (kd = 0 → ∀ k, k < ktF t → ∃ j : Nat, j < c ∧ gv k = vals j) ∧ (t = 0 → su 0 = fb)
theorem i32_add {a b : Int32} (h : -2147483648 ≤ a.toInt + b.toInt) (h2 : a.toInt + b.toInt < 2147483648) : (a + b).toInt = a.toInt + b.toInt := by
  rw [Int32.toInt_add]
  exact Int.bmod_eq_of_le (by omega) (by omega)
theorem i32_sub {a b : Int32} (h : -2147483648 ≤ a.toInt - b.toInt) (h2 : a.toInt - b.toInt < 2147483648) : (a - b).toInt = a.toInt - b.toInt := by
  rw [Int32.toInt_sub]
  exact Int.bmod_eq_of_le (by omega) (by omega)
theorem i32_dbl {a : Int32} (h : -1000000 ≤ a.toInt) (h2 : a.toInt ≤ 1000000) : (2 * a).toInt = 2 * a.toInt := by
  rw [Int32.toInt_mul, t32_2]
  exact Int.bmod_eq_of_le (by omega) (by omega)
theorem st_bf {vals : Nat → Int32} {ov : Int32} {c : Nat} (v : Int64) (h1 : 1 ≤ c) (hs : stpP vals c) : bfP (stF vals ov c v) := by
  have := plF_le vals ov v (c - 1)
  exact hs.1 _ (by omega)
theorem st_ix {vals : Nat → Int32} {ov : Int32} {c : Nat} (v : Int64) (h1 : 1 ≤ c) : ∃ j : Nat, j < c ∧ stF vals ov c v = vals j := by
  have := plF_le vals ov v (c - 1)
  exact ⟨_, by omega, rfl⟩
theorem md_st {kd ov g w : Int32} {n c : Nat} {vals hh : Nat → Int32} {su : Nat → Int64} (k : Nat) : ∃ v : Int64, mdF kd n c ov vals g hh su w k = stF vals ov c v := by
  unfold mdF
  split
  · exact ⟨_, rfl⟩
  · split
    · exact ⟨_, rfl⟩
    · exact ⟨_, rfl⟩
theorem gv_bf {kd : Int32} {n : Nat} {md : Nat → Int32} {sb tb tt : Int32} (hm : ∀ k, bfP (md k)) (h1 : bfP sb) (h2 : bfP tb) (h3 : bfP tt) : gvP (gvF kd n md sb tb tt) := by
  obtain ⟨a0, b0⟩ := hm 0
  obtain ⟨a1, b1⟩ := hm 1
  obtain ⟨a2, b2⟩ := hm 2
  obtain ⟨c1, d1⟩ := h1
  obtain ⟨c2, d2⟩ := h2
  obtain ⟨c3, d3⟩ := h3
  have e1 : (md 0 + md 1).toInt = (md 0).toInt + (md 1).toInt := i32_add (by omega) (by omega)
  have e2 : (md 0 + md 1 - sb).toInt = (md 0).toInt + (md 1).toInt - sb.toInt := by rw [i32_sub (by omega) (by omega), e1]
  have e3 : (2 * tb).toInt = 2 * tb.toInt := i32_dbl (by omega) (by omega)
  have e4 : (md 2 - 2 * tb).toInt = (md 2).toInt - 2 * tb.toInt := by rw [i32_sub (by omega) (by omega), e3]
  have e5 : (md 2 - 2 * tb + tt).toInt = (md 2).toInt - 2 * tb.toInt + tt.toInt := by rw [i32_add (by omega) (by omega), e4]
  have e6 : (md 0 + md 1 - sb + (md 2 - 2 * tb + tt)).toInt = (md 0).toInt + (md 1).toInt - sb.toInt + ((md 2).toInt - 2 * tb.toInt + tt.toInt) := by rw [i32_add (by omega) (by omega), e2, e5]
  unfold gvF gvP
  split
  · split
    · rw [e6]; omega
    · rw [e2]; omega
  · omega
theorem on_01 {rl : Int32} {h p : Nat} {ot on : Nat → Int32} (ho : ∀ k, on k = 0 ∨ on k = 1) : ∀ j k, onF rl h p ot on j k = 0 ∨ onF rl h p ot on j k = 1 := by
  intro j
  induction j with
  | zero => exact zI_01 ho p
  | succ j ih =>
    intro k
    show upd (onF rl h p ot on j) (pckF rl h p ot (onF rl h p ot on j) j) 1 k = 0 ∨ upd (onF rl h p ot on j) (pckF rl h p ot (onF rl h p ot on j) j) 1 k = 1
    by_cases e : k = pckF rl h p ot (onF rl h p ot on j) j
    · rw [e, upd_self]; exact Or.inr rfl
    · rw [upd_else _ _ _ _ e]; exact ih k
theorem hd_ok {rl : Int32} {h p m : Nat} (hh : h = 0 ∨ h < p) (hm : m ≤ p) : hdF rl h p m = 0 ∨ hdF rl h p m < p := by
  unfold hdF
  split
  · unfold hjF
    split
    · omega
    · omega
  · exact hh
theorem stI_step {kd ov g rl w : Int32} {n c p : Nat} {vals aa b e hh : Nat → Int32} {fb : Int64} (h1 : 1 ≤ c) (hs : stpP vals c) (σ : TS) (h : stI kd n c vals p fb σ) : stI kd n c vals p fb (tkF kd n c ov vals g aa b e hh p rl w σ) := by
  obtain ⟨t, su, sb, tb, tt, h, on, ot, wi, gv, hs'⟩ := σ
  obtain ⟨i1, i2, i3, i4, i5, i6, i7, i8, -⟩ := h
  have hm : ∀ k, bfP (mdF kd n c ov vals g hh su w k) := by
    intro k
    obtain ⟨v, hv⟩ := md_st (kd := kd) (ov := ov) (g := g) (w := w) (n := n) (c := c) (vals := vals) (hh := hh) (su := su) k
    rw [hv]
    exact st_bf v h1 hs
  have hg := gv_bf (kd := kd) (n := n) hm i2 i3 i4
  refine ⟨hd_ok i1 (mn_le _ _), ?_, ?_, ?_, ?_, ?_, fun k => on_01 i7 _ k, ?_, fun z => absurd z (by omega)⟩
  · unfold sbF
    split
    · exact hm 1
    · exact i2
  · unfold tbF
    split
    · split
      · exact hm 2
      · exact i3
    · exact i3
  · unfold ttF
    split
    · split
      · exact i3
      · exact i4
    · exact i4
  · intro hn
    unfold tbF ttF
    rw [if_neg hn, if_neg hn]
    obtain ⟨z1, z2⟩ := i5 hn
    refine ⟨?_, ?_⟩
    · split <;> exact z1
    · split <;> exact z2
  · intro k
    by_cases q : k = t % 256
    · rw [q, upd_self]; exact hg
    · rw [upd_else _ _ _ _ q]; exact i6 k
  · intro k0 k hk
    by_cases q : k = t % 256
    · rw [q, upd_self]
      unfold gvF
      rw [if_neg (by rw [k0]; decide)]
      obtain ⟨v, hv⟩ := md_st (kd := kd) (ov := ov) (g := g) (w := w) (n := n) (c := c) (vals := vals) (hh := hh) (su := su) 0
      rw [hv]
      exact st_ix v h1
    · rw [upd_else _ _ _ _ q]
      refine i8 k0 k ?_
      unfold ktF at hk ⊢
      omega
def itF (f : TS → TS) (σ : TS) : Nat → TS
  | 0 => σ
  | k + 1 => f (itF f σ k)
theorem it_t {kd ov g rl w : Int32} {n c p : Nat} {vals aa b e hh : Nat → Int32} (σ : TS) : ∀ k, (itF (tkF kd n c ov vals g aa b e hh p rl w) σ k).1 = σ.1 + k := by
  intro k
  induction k with
  | zero => rfl
  | succ k ih =>
    show (tkF kd n c ov vals g aa b e hh p rl w (itF (tkF kd n c ov vals g aa b e hh p rl w) σ k)).1 = σ.1 + (k + 1)
    rcases hq : itF (tkF kd n c ov vals g aa b e hh p rl w) σ k with ⟨t, su, sb, tb, tt, h, on, ot, wi, gv, hs'⟩
    rw [hq] at ih
    show t + 1 = σ.1 + (k + 1)
    have ih : t = σ.1 + k := ih
    omega
theorem it_I {kd ov g rl w : Int32} {n c p : Nat} {vals aa b e hh : Nat → Int32} {fb : Int64} (h1 : 1 ≤ c) (hs : stpP vals c) (σ : TS) (h : stI kd n c vals p fb σ) : ∀ k, stI kd n c vals p fb (itF (tkF kd n c ov vals g aa b e hh p rl w) σ k) := by
  intro k
  induction k with
  | zero => exact h
  | succ k ih => exact stI_step h1 hs _ ih
theorem gv_nr {g : Int32} (h : gvP g) : ¬ g = -2147483648 := by
  intro z
  rw [z] at h
  exact absurd h.1 (by decide)
/-- where a run of m ends: behind k ticks -/
def enP (kd : Int32) (n c : Nat) (ov : Int32) (vals : Nat → Int32) (g : Int32) (aa b e hh : Nat → Int32) (p : Nat) (rl w : Int32) (σ : TS) (m k : Nat) : Prop :=
  k ≤ m ∧ (∀ j, j < k → okP kd n c ov vals g aa b e hh w (itF (tkF kd n c ov vals g aa b e hh p rl w) σ j)) ∧ (k = m ∨ ¬ okP kd n c ov vals g aa b e hh w (itF (tkF kd n c ov vals g aa b e hh p rl w) σ k))
theorem en_uniq {kd ov g rl w : Int32} {n c p : Nat} {vals aa b e hh : Nat → Int32} {σ : TS} {m k k' : Nat} (h : enP kd n c ov vals g aa b e hh p rl w σ m k) (h' : enP kd n c ov vals g aa b e hh p rl w σ m k') : k = k' := by
  obtain ⟨a1, a2, a3⟩ := h
  obtain ⟨b1, b2, b3⟩ := h'
  rcases Nat.lt_trichotomy k k' with z | z | z
  · rcases a3 with y | y
    · omega
    · exact absurd (b2 k z) y
  · exact z
  · rcases b3 with y | y
    · omega
    · exact absurd (a2 k' z) y
theorem s_X10_run {kd sm ov cn tsm g pa rl hd sb tb tt w x1 nx kp tk : Int32} {su hs cm : Nat → Int64} {pk vals aa b e hh on ot wi gv : Nat → Int32} {n c p h t m : Nat} {fb : Int64} {K : Int32 → Int32 → Int32 → Int32 → Int32 → Int32 → Int32 → Int32 → (Nat → Int32) → (Nat → Int32) → (Nat → Int64) → (Nat → Int64) → (Nat → Int64) → (Nat → Int32) → (Nat → Int32) → (Nat → Int32) → Prop}
    (hc : cn = nI c) (h1 : 1 ≤ c) (h8 : c ≤ 8) (hst : stpP vals c) (hn : sm = nI n) (hk : kindP kd n) (hk3 : kd = 3 → 2 ≤ n) (htn : kd = 2 → tsm = nI n) (hp : pa = nI p) (p16 : p ≤ 16) (hhd : hd = nI h) (hnx : nx = nI (t % 256)) (hkp : kp = nI (ktF t)) (htk : tk = nI t) (hx1 : x1 = nI m) (hm : m ≤ 10000) (hw : wishP w) (hI : stI kd n c vals p fb (t, su, sb, tb, tt, h, on, ot, wi, gv, hs))
    (hfin : ∀ (k t' h' : Nat) (su' hs' cm' : Nat → Int64) (sb' tb' tt' : Int32) (on' ot' wi' gv' pk' : Nat → Int32), enP kd n c ov vals g aa b e hh p rl w (t, su, sb, tb, tt, h, on, ot, wi, gv, hs) m k → itF (tkF kd n c ov vals g aa b e hh p rl w) (t, su, sb, tb, tt, h, on, ot, wi, gv, hs) k = (t', su', sb', tb', tt', h', on', ot', wi', gv', hs') → K (nI k) (nI (t' % 256)) (nI (ktF t')) (nI t') sb' tb' tt' (nI h') wi' gv' hs' su' cm' pk' on' ot') :
    v_X10_run nx kp tk sb tb tt kd sm ov cn tsm g pa rl hd wi gv hs su cm pk vals aa b e hh on ot x1 w K := by
  have hmi : (nI m).toInt = m := nI_toInt (by omega)
  have t4 : (10000 : Int32).toInt = 10000 := by decide
  refine ⟨fun q => absurd q (by rw [hx1]; exact nI_pos (by omega)), fun _ => ⟨fun q => ?_, fun _ => s_X10_isWish (fun _ => ⟨fun _ => ?_, fun z => absurd z r1n⟩) (fun z => absurd hw z)⟩⟩
  · rw [hx1, Int32.lt_iff_toInt_lt, hmi, t4] at q
    omega
  generalize hσ : ((t, su, sb, tb, tt, h, on, ot, wi, gv, hs) : TS) = σ at hI hfin
  refine vfix_ex (fun x : Int32 × Int32 × Int32 × Int32 × Int32 × Int32 × Int32 × Int32 × (Nat → Int32) × (Nat → Int32) × (Nat → Int64) × (Nat → Int64) × (Nat → Int64) × (Nat → Int32) × (Nat → Int32) × (Nat → Int32) => ∃ (k t' h' : Nat) (su' hs' cm' : Nat → Int64) (sb' tb' tt' : Int32) (on' ot' wi' gv' pk' : Nat → Int32), k ≤ m ∧ (∀ j, j < k → okP kd n c ov vals g aa b e hh w (itF (tkF kd n c ov vals g aa b e hh p rl w) σ j)) ∧ itF (tkF kd n c ov vals g aa b e hh p rl w) σ k = (t', su', sb', tb', tt', h', on', ot', wi', gv', hs') ∧ x = (nI k, nI (t' % 256), nI (ktF t'), nI t', sb', tb', tt', nI h', wi', gv', hs', su', cm', pk', on', ot')) (fun x => m - x.1.toNatClampNeg) ?_ _ ⟨0, t, h, su, hs, cm, sb, tb, tt, on, ot, wi, gv, pk, by omega, fun j hj => by omega, hσ.symm, by rw [hnx, hkp, htk, hhd]; rfl⟩
  rintro bk x ⟨k, t', h', su', hs', cm', sb', tb', tt', on', ot', wi', gv', pk', hkm, hok, hit, rfl⟩ hbk
  have iI := it_I (ov := ov) (g := g) (rl := rl) (w := w) (aa := aa) (b := b) (e := e) (hh := hh) h1 hst σ hI k
  rw [hit] at iI
  unfold vF_X10_run_22 vB_X10_run_22
  dsimp only
  rw [hx1]
  refine ⟨fun z => ?_, fun z => ?_⟩
  · have z : m ≤ k := (nI_le_iff (by omega) (by omega)).mp z
    have : k = m := by omega
    subst this
    exact hfin k _ _ _ _ _ _ _ _ _ _ _ _ _ ⟨by omega, hok, Or.inl rfl⟩ hit
  · have z : k < m := by
      rcases Nat.lt_or_ge k m with y | y
      · exact y
      · exact absurd ((nI_le_iff (by omega) (by omega)).mpr y) z
    refine s_X4_turn hc h1 h8 hn hk hk3 htn hp p16 rfl iI.1 rfl rfl rfl (fun cm2 pk2 md gg hmd hgg hnr => ⟨fun _ => ?_, fun y => ?_⟩) (fun cm2 pk2 hx => ⟨fun y => absurd rfl y, fun _ => ?_⟩)
    · intro i34 hi34
      rw [hi34, nI_1]
      subst hmd hgg
      refine hbk _ ⟨k + 1, _, _, _, _, cm2, _, _, _, _, _, _, _, pk2, by omega, fun j hj => ?_, ?_, rfl⟩ ?_
      · by_cases ej : j = k
        · subst ej
          rw [hit]
          exact hnr
        · exact hok j (by omega)
      · show tkF kd n c ov vals g aa b e hh p rl w (itF (tkF kd n c ov vals g aa b e hh p rl w) σ k) = _
        rw [hit]
        rfl
      · dsimp only
        rw [nI_cl (by omega), nI_cl (by omega)]
        omega
    · exfalso
      have hm' : ∀ k, bfP (md k) := by
        intro k
        obtain ⟨v, hv⟩ := md_st (kd := kd) (ov := ov) (g := g) (w := w) (n := n) (c := c) (vals := vals) (hh := hh) (su := su') k
        rw [hmd, hv]
        exact st_bf v h1 hst
      have hg := gv_bf (kd := kd) (n := n) hm' iI.2.1 iI.2.2.1 iI.2.2.2.1
      rw [← hgg] at hg
      exact gv_nr hg y
    · refine hfin k _ _ _ _ _ _ _ _ _ _ _ _ _ ⟨by omega, hok, Or.inr ?_⟩ hit
      rw [hit]
      obtain ⟨i, hi, hq⟩ := hx
      exact fun y => hq (y i hi)
theorem s_X11_run {kd sm ov cn g pa rl hd sb tb tt w x1 tk : Int32} {su hs now to : Nat → Int64} {md0 vals aa b e hh on ot wi gv : Nat → Int32} {n c p h t m : Nat} {fb : Int64} {K : Int32 → Int32 → Int32 → Int32 → Int32 → Int32 → (Nat → Int64) → (Nat → Int32) → (Nat → Int32) → (Nat → Int32) → (Nat → Int32) → (Nat → Int64) → (Nat → Int64) → (Nat → Int64) → (Nat → Int32) → Prop}
    (hc : cn = nI c) (h1 : 1 ≤ c) (h8 : c ≤ 8) (hst : stpP vals c) (hn : sm = nI n) (hk : kindP kd n) (hk3 : kd = 3 → 2 ≤ n) (hp : pa = nI p) (p16 : p ≤ 16) (hp4 : kd = 4 → 2 ≤ p) (hpn : ¬ kd = 4 → p = 0) (hrl : rl = 0 ∨ rl = 1) (hhd : hd = nI h) (htk : tk = nI t) (ht : t + 10000 < 1073741824) (hx1 : x1 = nI m) (hm : m ≤ 10000) (hw : wishP w) (hI : stI kd n c vals p fb (t, su, sb, tb, tt, h, on, ot, wi, gv, hs))
    (hfin : ∀ (k t' h' : Nat) (su' hs' now' to' : Nat → Int64) (sb' tb' tt' : Int32) (on' ot' wi' gv' md' : Nat → Int32), enP kd n c ov vals g aa b e hh p rl w (t, su, sb, tb, tt, h, on, ot, wi, gv, hs) m k → itF (tkF kd n c ov vals g aa b e hh p rl w) (t, su, sb, tb, tt, h, on, ot, wi, gv, hs) k = (t', su', sb', tb', tt', h', on', ot', wi', gv', hs') → K (nI k) (nI t') (nI h') sb' tb' tt' su' on' ot' gv' wi' hs' now' to' md') :
    v_X11_run ov cn kd sm pa rl tk hd g sb tb tt vals aa b e hh su on ot gv wi hs now to md0 x1 w K := by
  have hmi : (nI m).toInt = m := nI_toInt (by omega)
  have t4 : (10000 : Int32).toInt = 10000 := by decide
  refine ⟨fun q => absurd q (by rw [hx1]; exact nI_pos (by omega)), fun _ => ⟨fun q => ?_, fun _ => s_X11_isWish (fun _ => ⟨fun _ => ?_, fun z => absurd z r1n⟩) (fun z => absurd hw z)⟩⟩
  · rw [hx1, Int32.lt_iff_toInt_lt, hmi, t4] at q
    omega
  generalize hσ : ((t, su, sb, tb, tt, h, on, ot, wi, gv, hs) : TS) = σ at hI hfin
  have hσt : σ.1 = t := by rw [← hσ]
  refine vfix_ex (fun x : Int32 × Int32 × Int32 × Int32 × Int32 × Int32 × (Nat → Int64) × (Nat → Int32) × (Nat → Int32) × (Nat → Int32) × (Nat → Int32) × (Nat → Int64) × (Nat → Int64) × (Nat → Int64) × (Nat → Int32) => ∃ (k t' h' : Nat) (su' hs' now' to' : Nat → Int64) (sb' tb' tt' : Int32) (on' ot' wi' gv' md' : Nat → Int32), k ≤ m ∧ (∀ j, j < k → okP kd n c ov vals g aa b e hh w (itF (tkF kd n c ov vals g aa b e hh p rl w) σ j)) ∧ itF (tkF kd n c ov vals g aa b e hh p rl w) σ k = (t', su', sb', tb', tt', h', on', ot', wi', gv', hs') ∧ x = (nI k, nI t', nI h', sb', tb', tt', su', on', ot', gv', wi', hs', now', to', md')) (fun x => m - x.1.toNatClampNeg) ?_ _ ⟨0, t, h, su, hs, now, to, sb, tb, tt, on, ot, wi, gv, md0, by omega, fun j hj => by omega, hσ.symm, by rw [htk, hhd]; rfl⟩
  rintro bk x ⟨k, t', h', su', hs', now', to', sb', tb', tt', on', ot', wi', gv', md', hkm, hok, hit, rfl⟩ hbk
  have iI := it_I (ov := ov) (g := g) (rl := rl) (w := w) (aa := aa) (b := b) (e := e) (hh := hh) h1 hst σ hI k
  have iT := it_t (kd := kd) (ov := ov) (g := g) (rl := rl) (w := w) (n := n) (c := c) (p := p) (vals := vals) (aa := aa) (b := b) (e := e) (hh := hh) σ k
  rw [hit] at iI iT
  rw [hσt] at iT
  have iT : t' = t + k := iT
  unfold vF_X11_run_22 vB_X11_run_22
  dsimp only
  rw [hx1]
  refine ⟨fun z => ?_, fun z => ?_⟩
  · have z : m ≤ k := (nI_le_iff (by omega) (by omega)).mp z
    have : k = m := by omega
    subst this
    exact hfin k _ _ _ _ _ _ _ _ _ _ _ _ _ _ ⟨by omega, hok, Or.inl rfl⟩ hit
  · have z : k < m := by
      rcases Nat.lt_or_ge k m with y | y
      · exact y
      · exact absurd ((nI_le_iff (by omega) (by omega)).mpr y) z
    refine s_X11_done hc h1 h8 hn hk hk3 hp p16 hp4 hpn hrl rfl iI.1 rfl (by omega) iI.2.2.2.2.1 (fun now2 to2 md2 md gg hmd hgg hnr => ⟨fun y => absurd y r1n, fun _ => ?_⟩) (fun now2 to2 md2 hx => ⟨fun _ => ?_, fun y => absurd rfl y⟩)
    · intro i34 hi34
      rw [hi34, nI_1]
      subst hmd hgg
      refine hbk _ ⟨k + 1, _, _, _, _, now2, to2, _, _, _, _, _, _, _, md2, by omega, fun j hj => ?_, ?_, rfl⟩ ?_
      · by_cases ej : j = k
        · subst ej
          rw [hit]
          exact hnr
        · exact hok j (by omega)
      · show tkF kd n c ov vals g aa b e hh p rl w (itF (tkF kd n c ov vals g aa b e hh p rl w) σ k) = _
        rw [hit]
        rfl
      · dsimp only
        rw [nI_cl (by omega), nI_cl (by omega)]
        omega
    · refine hfin k _ _ _ _ _ _ _ _ _ _ _ _ _ _ ⟨by omega, hok, Or.inr ?_⟩ hit
      rw [hit]
      obtain ⟨i, hi, hq⟩ := hx
      exact fun y => hq (y i hi)
