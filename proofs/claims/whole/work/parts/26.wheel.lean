/-! pure: the wheel turns -/
def hjF (h j p : Nat) : Nat := if h + j < p then h + j else h + j - p
theorem rd_lt {h j p : Nat} (hh : h < p) (hj : j < p) : hjF h j p < p := by
  unfold hjF
  split
  · omega
  · omega
theorem rd_mod {h j p : Nat} (hh : h < p) (hj : j ≤ p) : (h + j) % p = hjF h j p := by
  unfold hjF
  split
  · exact Nat.mod_eq_of_lt (by omega)
  · rw [Nat.mod_eq_sub_mod (by omega)]
    exact Nat.mod_eq_of_lt (by omega)
theorem rd_ne {h i j p : Nat} (hh : h < p) (hij : i < j) (hj : j < p) : hjF h j p ≠ hjF h i p := by
  unfold hjF
  split
  · split
    · omega
    · omega
  · split
    · omega
    · omega
def bF (on ot : Nat → Int32) : Nat → Option Nat
  | 0 => none
  | k + 1 => if on k = 0 then (match bF on ot k with
    | none => some k
    | some b => if ot k < ot b then some k else some b) else bF on ot k
theorem bF_on {on ot : Nat → Int32} {k : Nat} (h : ¬ on k = 0) : bF on ot (k + 1) = bF on ot k := by
  show (if on k = 0 then _ else bF on ot k) = _
  rw [if_neg h]
theorem bF_n {on ot : Nat → Int32} {k : Nat} (h : on k = 0) (hb : bF on ot k = none) : bF on ot (k + 1) = some k := by
  show (if on k = 0 then (match bF on ot k with
    | none => some k
    | some b => if ot k < ot b then some k else some b) else bF on ot k) = _
  rw [if_pos h, hb]
theorem bF_s {on ot : Nat → Int32} {k b : Nat} (h : on k = 0) (hb : bF on ot k = some b) : bF on ot (k + 1) = if ot k < ot b then some k else some b := by
  show (if on k = 0 then (match bF on ot k with
    | none => some k
    | some b => if ot k < ot b then some k else some b) else bF on ot k) = _
  rw [if_pos h, hb]
theorem bF_some {on ot : Nat → Int32} : ∀ (k b : Nat), bF on ot k = some b → b < k ∧ on b = 0 := by
  intro k
  induction k with
  | zero => intro b h; exact absurd h (by intro z; cases z)
  | succ k ih =>
    intro b h
    by_cases e : on k = 0
    · cases hb : bF on ot k with
      | none =>
        rw [bF_n e hb] at h
        have : k = b := Option.some.inj h
        subst this
        exact ⟨by omega, e⟩
      | some b' =>
        rw [bF_s e hb] at h
        by_cases l : ot k < ot b'
        · rw [if_pos l] at h
          have : k = b := Option.some.inj h
          subst this
          exact ⟨by omega, e⟩
        · rw [if_neg l] at h
          have : b' = b := Option.some.inj h
          subst this
          have := ih b' hb
          exact ⟨by omega, this.2⟩
    · rw [bF_on e] at h
      have := ih b h
      exact ⟨by omega, this.2⟩
theorem bF_none {on ot : Nat → Int32} : ∀ (k : Nat), bF on ot k = none → ∀ j, j < k → ¬ on j = 0 := by
  intro k
  induction k with
  | zero => intro _ j hj; omega
  | succ k ih =>
    intro h j hj
    by_cases e : on k = 0
    · cases hb : bF on ot k with
      | none => rw [bF_n e hb] at h; cases h
      | some b' =>
        rw [bF_s e hb] at h
        by_cases l : ot k < ot b'
        · rw [if_pos l] at h; cases h
        · rw [if_neg l] at h; cases h
    · rw [bF_on e] at h
      by_cases ej : j = k
      · rw [ej]; exact e
      · exact ih h j (by omega)
theorem bF_congr {on ot ts : Nat → Int32} : ∀ (k : Nat), (∀ j, j < k → on j = 0 → ot j = ts j) → bF on ot k = bF on ts k := by
  intro k
  induction k with
  | zero => intro _; rfl
  | succ k ih =>
    intro h
    have ih := ih (fun j hj => h j (by omega))
    by_cases e : on k = 0
    · cases hb : bF on ot k with
      | none => rw [bF_n e hb, bF_n e (ih ▸ hb)]
      | some b =>
        have hs := bF_some k b hb
        rw [bF_s e hb, bF_s e (ih ▸ hb), h k (by omega) e, h b (by omega) hs.2]
    · rw [bF_on e, bF_on e, ih]
def cnt (f : Nat → Int32) : Nat → Nat
  | 0 => 0
  | k + 1 => cnt f k + (if f k = 0 then 0 else 1)
theorem cnt_zero {f : Nat → Int32} : ∀ k, (∀ j, j < k → f j = 0) → cnt f k = 0 := by
  intro k
  induction k with
  | zero => intro _; rfl
  | succ k ih =>
    intro h
    show cnt f k + (if f k = 0 then 0 else 1) = 0
    rw [ih (fun j hj => h j (by omega)), if_pos (h k (by omega))]
theorem cnt_full {f : Nat → Int32} : ∀ k, (∀ j, j < k → ¬ f j = 0) → cnt f k = k := by
  intro k
  induction k with
  | zero => intro _; rfl
  | succ k ih =>
    intro h
    show cnt f k + (if f k = 0 then 0 else 1) = k + 1
    rw [ih (fun j hj => h j (by omega)), if_neg (h k (by omega))]
theorem upd_self (f : Nat → Int32) (i : Nat) (x : Int32) : upd f i x i = x := by unfold upd; rw [if_pos rfl]
theorem upd_else (f : Nat → Int32) (i j : Nat) (x : Int32) (h : ¬ j = i) : upd f i x j = f j := by unfold upd; rw [if_neg h]
theorem cnt_upd {f : Nat → Int32} {i : Nat} (h : f i = 0) : ∀ k, cnt (upd f i 1) k = cnt f k + (if i < k then 1 else 0) := by
  intro k
  induction k with
  | zero => rfl
  | succ k ih =>
    show cnt (upd f i 1) k + (if upd f i 1 k = 0 then 0 else 1) = cnt f k + (if f k = 0 then 0 else 1) + _
    rw [ih]
    by_cases e : k = i
    · subst e
      rw [upd_self, h, if_neg r1n, if_pos rfl, if_neg (by omega), if_pos (by omega)]
    · rw [upd_else _ _ _ _ e]
      by_cases l : i < k
      · rw [if_pos l, if_pos (show i < k + 1 by omega)]; omega
      · rw [if_neg l, if_neg (show ¬ i < k + 1 by omega)]; omega
/-- which part goes on next, of p, h the hand -/
def pckF (rl : Int32) (h p : Nat) (ot on : Nat → Int32) (j : Nat) : Nat := if rl = 0 then hjF h j p else (bF on ot p).getD 0
def onF (rl : Int32) (h p : Nat) (ot on : Nat → Int32) : Nat → Nat → Int32
  | 0 => zI on p
  | j + 1 => upd (onF rl h p ot on j) (pckF rl h p ot (onF rl h p ot on j) j) 1
def otF (p : Nat) (ot on : Nat → Int32) : Nat → Int32 := fun k => if k < p then ot k + on k else ot k
def hdF (rl : Int32) (h p j : Nat) : Nat := if rl = 0 then hjF h j p else h
theorem on_hand {rl : Int32} {h p : Nat} {ot on : Nat → Int32} (h0 : rl = 0) (hh : h < p) : ∀ j, j ≤ p → ∀ k, k < p → (∀ i, i < j → k ≠ hjF h i p) → onF rl h p ot on j k = 0 := by
  intro j
  induction j with
  | zero => intro _ k hk _; exact zI_lt _ _ _ hk
  | succ j ih =>
    intro hj k hk hne
    show upd (onF rl h p ot on j) (pckF rl h p ot (onF rl h p ot on j) j) 1 k = 0
    have e : pckF rl h p ot (onF rl h p ot on j) j = hjF h j p := by unfold pckF; rw [if_pos h0]
    rw [e, upd_else _ _ _ _ (hne j (by omega))]
    exact ih (by omega) k hk (fun i hi => hne i (by omega))
/-- what goes on was off -/
theorem pck_off {rl : Int32} {h p : Nat} {ot on : Nat → Int32} (hh : h = 0 ∨ h < p) : ∀ j, j < p → (pckF rl h p ot (onF rl h p ot on j) j < p ∧ onF rl h p ot on j (pckF rl h p ot (onF rl h p ot on j) j) = 0) ∧ (¬ rl = 0 → cnt (onF rl h p ot on j) p = j) := by
  intro j
  induction j with
  | zero =>
    intro hj
    have hc : cnt (onF rl h p ot on 0) p = 0 := cnt_zero p (fun k hk => zI_lt _ _ _ hk)
    refine ⟨?_, fun _ => hc⟩
    have l : pckF rl h p ot (onF rl h p ot on 0) 0 < p := by
      unfold pckF
      split
      · exact rd_lt (by omega) hj
      · cases hb : bF (onF rl h p ot on 0) ot p with
        | none => exact hj
        | some b => exact (bF_some p b hb).1
    exact ⟨l, zI_lt _ _ _ l⟩
  | succ j ih =>
    intro hj
    obtain ⟨⟨i1, i2⟩, i3⟩ := ih (by omega)
    have hc : ¬ rl = 0 → cnt (onF rl h p ot on (j + 1)) p = j + 1 := by
      intro hr
      show cnt (upd (onF rl h p ot on j) (pckF rl h p ot (onF rl h p ot on j) j) 1) p = j + 1
      rw [cnt_upd i2 p, if_pos i1, i3 hr]
    refine ⟨?_, hc⟩
    by_cases hr : rl = 0
    · have e : pckF rl h p ot (onF rl h p ot on (j + 1)) (j + 1) = hjF h (j + 1) p := by unfold pckF; rw [if_pos hr]
      rw [e]
      exact ⟨rd_lt (by omega) hj, on_hand hr (by omega) (j + 1) (by omega) _ (rd_lt (by omega) hj) (fun i hi => rd_ne (by omega) hi hj)⟩
    · have e : pckF rl h p ot (onF rl h p ot on (j + 1)) (j + 1) = (bF (onF rl h p ot on (j + 1)) ot p).getD 0 := by unfold pckF; rw [if_neg hr]
      rw [e]
      cases hb : bF (onF rl h p ot on (j + 1)) ot p with
      | none =>
        have := cnt_full p (bF_none p hb)
        rw [hc hr] at this
        omega
      | some b => exact bF_some p b hb
theorem ot_step {rl : Int32} {h p : Nat} {ot on : Nat → Int32} (hh : h = 0 ∨ h < p) (j : Nat) (hj : j < p) : upd (otF p ot (onF rl h p ot on j)) (pckF rl h p ot (onF rl h p ot on j) j) (otF p ot (onF rl h p ot on j) (pckF rl h p ot (onF rl h p ot on j) j) + 1) = otF p ot (onF rl h p ot on (j + 1)) := by
  obtain ⟨⟨i1, i2⟩, -⟩ := pck_off (rl := rl) (ot := ot) (on := on) hh j hj
  show _ = otF p ot (upd (onF rl h p ot on j) (pckF rl h p ot (onF rl h p ot on j) j) 1)
  generalize pckF rl h p ot (onF rl h p ot on j) j = q at i1 i2
  funext k
  by_cases e : k = q
  · subst e
    rw [upd_self]
    unfold otF
    rw [if_pos i1, if_pos i1, upd_self, i2, Int32.add_zero]
  · rw [upd_else _ _ _ _ e]
    unfold otF
    by_cases l : k < p
    · rw [if_pos l, if_pos l, upd_else _ _ _ _ e]
    · rw [if_neg l, if_neg l]
theorem ot_zero (p : Nat) (ot on : Nat → Int32) : otF p ot (zI on p) = ot := by
  funext k
  unfold otF
  by_cases l : k < p
  · rw [if_pos l, zI_lt _ _ _ l, Int32.add_zero]
  · rw [if_neg l]
def mnF (p : Nat) (g : Int32) : Nat := if g.toInt < 0 then 0 else if (p : Int) < g.toInt then p else g.toInt.toNat
theorem mn_le (p : Nat) (g : Int32) : mnF p g ≤ p := by
  unfold mnF
  split
  · omega
  · split
    · omega
    · omega
theorem s_X9_leastOftenOn {pa : Int32} {on ts : Nat → Int32} {p : Nat} {K : Int32 → Prop} (hp : pa = nI p) (p1 : 1 ≤ p) (p16 : p ≤ 16) (h : K (nI ((bF on ts p).getD 0))) : v_X9_leastOftenOn pa on ts K := by
  subst hp
  have b1 : nI ((bF on ts 1).getD 0) = 0 := by
    by_cases e : on 0 = 0
    · rw [bF_n e rfl]; rfl
    · rw [bF_on e]; rfl
  have lt : ∀ q, 1 ≤ q → (bF on ts q).getD 0 < q := by
    intro q hq
    cases hb : bF on ts q with
    | none => exact hq
    | some b => exact (bF_some q b hb).1
  have go := vloop (B := vF_X9_leastOftenOn_4 (nI p) on ts K) (fun k => (nI (k + 1), nI ((bF on ts (k + 1)).getD 0))) (p - 1) ?_ ?_
  · rw [b1] at go
    exact go
  · intro bk k hk hb
    have lq := lt (k + 1) (by omega)
    unfold vF_X9_leastOftenOn_4 vB_X9_leastOftenOn_4
    refine ⟨fun z => absurd z (nI_nle_lt (by omega) (by omega)), fun _ => ⟨nI_inI (by omega) (by decide), ?_⟩⟩
    intro g3 hg3
    rw [nI_cl (by omega)] at hg3
    subst hg3
    refine ⟨fun e => ?_, fun e => ⟨nI_inI (by omega) (by decide), ?_⟩⟩
    · intro i5 hi5
      rw [hi5, nI_1]
      dsimp only at hb ⊢
      rw [bF_on e] at hb
      exact hb
    · intro g6 hg6
      rw [nI_cl (by omega)] at hg6
      have tk : bF on ts (k + 1 + 1) = some (k + 1) → vJ_X9_leastOftenOn_45 (nI (k + 1)) (fun z0 z1 => bk (z0, z1)) := by
        intro hh i5 hi5
        rw [hi5, nI_1]
        rw [hh] at hb
        exact hb
      refine ⟨fun e6 => tk ?_, fun e6 => ⟨nI_inI (by omega) (by decide), ?_⟩⟩
      · cases hbb : bF on ts (k + 1) with
        | none => exact bF_n e hbb
        | some b =>
          rw [hbb] at hg6
          exact absurd (hg6.trans (bF_some _ b hbb).2) e6
      · intro g7 hg7
        refine ⟨nI_inI (by omega) (by decide), ?_⟩
        intro g8 hg8
        rw [nI_cl (by omega)] at hg7 hg8
        subst hg7 hg8
        cases hbb : bF on ts (k + 1) with
        | none =>
          rw [hbb] at hg6
          have := bF_none _ hbb 0 (by omega)
          exact absurd (hg6.symm.trans e6) this
        | some b =>
          have st := bF_s e hbb
          dsimp only at hb ⊢
          refine ⟨fun l => ?_, fun l => tk ?_⟩
          · intro i5 hi5
            rw [hi5, nI_1]
            have l : ts b ≤ ts (k + 1) := l
            rw [st, if_neg (Int32.not_lt.mpr l)] at hb
            exact hb
          · have l : ¬ ts b ≤ ts (k + 1) := l
            rw [st, if_pos (Int32.not_le.mp l)]
  · intro bk
    have e : p - 1 + 1 = p := by omega
    unfold vF_X9_leastOftenOn_4 vB_X9_leastOftenOn_4
    dsimp only
    rw [e]
    exact ⟨fun _ => h, fun z => absurd (nI_rfl p (by omega)) z⟩
theorem s_X9_switchOn {on ts : Nat → Int32} {k : Nat} {K : (Nat → Int32) → (Nat → Int32) → Prop} (hk : k < 16) (h : K (upd on k 1) (upd ts k (ts k + 1))) : v_X9_switchOn on ts (nI k) K := by
  refine ⟨nI_inI hk (by decide), ?_⟩
  intro f1 h1
  refine ⟨nI_inI hk (by decide), ?_⟩
  intro g2 h2 e3 h3
  refine ⟨nI_inI hk (by decide), ?_⟩
  intro f4 h4
  rw [nI_cl (by omega)] at h1 h2 h4
  subst h4 h3 h2 h1
  exact h
theorem hd_step {h j p : Nat} (hh : h < p) (hj : j < p) : hjF h (j + 1) p = if p ≤ hjF h j p + 1 then 0 else hjF h j p + 1 := by
  unfold hjF
  by_cases a : h + j < p
  · rw [if_pos a]
    by_cases b : p ≤ h + j + 1
    · rw [if_pos b, if_neg (by omega)]; omega
    · rw [if_neg b, if_pos (by omega)]; omega
  · rw [if_neg a, if_neg (by omega)]
    by_cases b : p ≤ h + j - p + 1
    · omega
    · rw [if_neg b]; omega
theorem s_X9_turn {pa rl hd g : Int32} {on ot : Nat → Int32} {p h : Nat} {K : Int32 → (Nat → Int32) → (Nat → Int32) → Prop} (hp : pa = nI p) (p16 : p ≤ 16) (hhd : hd = nI h) (hh : h = 0 ∨ h < p)
    (hK : K (nI (hdF rl h p (mnF p g))) (onF rl h p ot on (mnF p g)) (otF p ot (onF rl h p ot on (mnF p g)))) : v_X9_turn pa rl hd on ot g K := by
  subst hp hhd
  have m0 := mn_le p g
  have hm : ∀ e1 e2 : Int32, e1 = (if nI p < g then nI p else g) → e2 = (if (0 : Int32) < e1 then e1 else 0) → e2 = nI (mnF p g) := by
    intro e1 e2 h1 h2
    subst h1 h2
    apply Int32.toInt_inj.mp
    rw [nI_toInt (by omega)]
    have tp : (nI p).toInt = p := nI_toInt (by omega)
    unfold mnF
    by_cases a : nI p < g
    · rw [if_pos a]
      rw [Int32.lt_iff_toInt_lt, tp] at a
      by_cases b : (0 : Int32) < nI p
      · rw [if_pos b, tp, if_neg (by omega), if_pos a]
      · rw [if_neg b, if_neg (by omega), if_pos a]
        rw [Int32.lt_iff_toInt_lt, tp, t32_0] at b
        rw [t32_0]
        omega
    · rw [if_neg a]
      rw [Int32.lt_iff_toInt_lt, tp] at a
      by_cases b : (0 : Int32) < g
      · rw [if_pos b]
        rw [Int32.lt_iff_toInt_lt, t32_0] at b
        rw [if_neg (by omega), if_neg (by omega)]
        omega
      · rw [if_neg b]
        rw [Int32.lt_iff_toInt_lt, t32_0] at b
        rw [t32_0]
        by_cases c : g.toInt < 0
        · rw [if_pos c]; rfl
        · rw [if_neg c, if_neg (by omega)]; omega
  intro e1 he1 e2 he2
  have he := hm e1 e2 he1 he2
  subst he
  generalize mnF p g = m at hK m0
  clear hm he1 he2
  refine vloop (fun k => (nI k, zI on k)) p ?_ ?_
  · intro bk k hk hb
    unfold vF_X9_turn_15 vB_X9_turn_15
    refine ⟨fun q => absurd q (nI_nle_lt (by omega) hk), fun _ => ⟨nI_inI (by omega) (by decide), ?_⟩⟩
    intro g4 hg4 i6 hi6
    rw [nI_cl (by omega)] at hg4
    subst hg4 hi6
    dsimp only
    rw [nI_1]
    exact hb
  · intro bk
    unfold vF_X9_turn_15 vB_X9_turn_15
    refine ⟨fun _ => ?_, fun q => absurd (nI_rfl p (by omega)) q⟩
    have go := vloop (B := vF_X9_turn_38 (nI p) rl K (nI m)) (fun j => (nI j, nI (hdF rl h p j), onF rl h p ot on j, otF p ot (onF rl h p ot on j))) m ?_ ?_
    · have z1 : hdF rl h p 0 = h := by
        unfold hdF
        split
        · unfold hjF
          split
          · omega
          · omega
        · rfl
      have z2 : otF p ot (onF rl h p ot on 0) = ot := ot_zero p ot on
      rw [z1, z2] at go
      exact go
    · intro bk j hj hb
      obtain ⟨⟨i1, i2⟩, -⟩ := pck_off (rl := rl) (ot := ot) (on := on) hh j (by omega)
      have st := ot_step (rl := rl) (ot := ot) (on := on) hh j (by omega)
      have sw : ∀ hd' : Int32, hd' = nI (hdF rl h p (j + 1)) → vJ_X9_turn_62 (nI j) (onF rl h p ot on j) (otF p ot (onF rl h p ot on j)) (fun z0 z1 z2 z3 => bk (z0, z1, z2, z3)) (nI (pckF rl h p ot (onF rl h p ot on j) j)) hd' := by
        intro hd' hhd'
        refine s_X9_switchOn (by omega) ?_
        intro i13 hi13
        rw [hi13, nI_1, hhd', st]
        exact hb
      unfold vF_X9_turn_38 vB_X9_turn_38
      refine ⟨fun q => absurd q (nI_nle_lt (by omega) hj), fun _ => ⟨fun hr => ?_, fun hr => ?_⟩⟩
      · refine s_X9_leastOftenOn rfl (by omega) p16 ?_
        have e : (bF (onF rl h p ot on j) (otF p ot (onF rl h p ot on j)) p).getD 0 = pckF rl h p ot (onF rl h p ot on j) j := by
          unfold pckF
          rw [if_neg hr]
          rw [bF_congr (ts := otF p ot (onF rl h p ot on j)) (ot := ot) p]
          intro k hk h0
          unfold otF
          rw [if_pos hk, h0, Int32.add_zero]
        rw [e]
        refine sw _ ?_
        unfold hdF
        rw [if_neg hr, if_neg hr]
      · have hhp : h < p := by omega
        have e1 : pckF rl h p ot (onF rl h p ot on j) j = hjF h j p := by unfold pckF; rw [if_pos hr]
        have e2 : hdF rl h p j = hjF h j p := by unfold hdF; rw [if_pos hr]
        have e3 : hdF rl h p (j + 1) = hjF h (j + 1) p := by unfold hdF; rw [if_pos hr]
        have rl' := rd_lt hhp (show j < p by omega)
        have hs := hd_step hhp (show j < p by omega)
        dsimp only
        rw [e1] at sw
        rw [e2]
        rw [e3, hs] at sw
        intro e1 he1
        rw [nI_1] at he1
        subst he1
        refine ⟨fun q => ?_, fun q => ?_⟩
        · have q : p ≤ hjF h j p + 1 := (nI_le_iff (by omega) (by omega)).mp q
          rw [if_pos q] at sw
          exact sw 0 rfl
        · have q : ¬ p ≤ hjF h j p + 1 := fun z => q ((nI_le_iff (by omega) (by omega)).mpr z)
          rw [if_neg q] at sw
          intro e2 he2
          rw [nI_1] at he2
          exact sw e2 he2
    · intro bk
      unfold vF_X9_turn_38 vB_X9_turn_38
      exact ⟨fun _ => hK, fun q => absurd (nI_rfl m (by omega)) q⟩
