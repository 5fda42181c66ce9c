/-! pure: numbers -/
theorem nI_le_iff {a b : Nat} (ha : a < 2147483648) (hb : b < 2147483648) : nI a ≤ nI b ↔ a ≤ b := nI_leI ha hb
theorem nI_lt_iff {a b : Nat} (ha : a < 2147483648) (hb : b < 2147483648) : nI a < nI b ↔ a < b := nI_ltI ha hb
theorem nI_inI {a b : Nat} (h : a < b) (hb : b < 2147483648) : vp_in (nI a) b := vp_in_nI h hb
theorem nI_cl {a : Nat} (h : a < 2147483648) : (nI a).toNatClampNeg = a := nI_clamp h
theorem nI_m1 (k : Nat) : nI (k + 1) + (-1) = nI k := pk_m1 k
theorem nI_s1 (k : Nat) : nI (k + 1) - 1 = nI k := nI_pred k
/-! pure: the place of the step for a number -/
def plF (vals : Nat → Int32) (ov : Int32) (v : Int64) : Nat → Nat
  | 0 => 0
  | k + 1 => if v < (vals (k + 1)).toInt64 * ov.toInt64 then plF vals ov v k else k + 1
theorem plF_le (vals : Nat → Int32) (ov : Int32) (v : Int64) : ∀ k, plF vals ov v k ≤ k := by
  intro k
  induction k with
  | zero => exact Nat.le_refl 0
  | succ k ih =>
    unfold plF
    split
    · omega
    · omega
theorem s_X7_placeFor {ov cn : Int32} {vals : Nat → Int32} {v : Int64} {K : Int32 → Prop} {c : Nat} (hc : cn = nI c) (h1 : 1 ≤ c) (h8 : c ≤ 8) (h : K (nI (plF vals ov v (c - 1)))) : v_X7_placeFor ov cn vals v K := by
  unfold v_X7_placeFor
  intro e1 he1
  refine vfix_ex (fun x : Int32 => ∃ k : Nat, x = nI k ∧ k ≤ 7 ∧ K (nI (plF vals ov v k))) (fun x => x.toNatClampNeg) ?_ e1 ⟨c - 1, ?_, by omega, h⟩
  · rintro bk x ⟨k, rfl, hk, hK⟩ hbk
    unfold vF_X7_placeFor_7 vB_X7_placeFor_7
    refine ⟨fun h0 => ?_, fun h0 => ?_⟩
    · have h0 : k ≤ 0 := (nI_le_iff (by omega) (by omega)).mp (show nI k ≤ nI 0 from h0)
      have : k = 0 := by omega
      subst this
      exact hK
    · obtain ⟨j, rfl⟩ : ∃ j, k = j + 1 := by
        cases k with
        | zero => exact absurd ((nI_le_iff (by omega) (by omega)).mpr (Nat.le_refl 0) : nI 0 ≤ nI 0) h0
        | succ j => exact ⟨j, rfl⟩
      refine ⟨nI_inI (by omega) (by decide), ?_⟩
      intro g hg e4 he4
      rw [nI_cl (by omega)] at hg
      unfold plF at hK
      refine ⟨fun hlt => ?_, fun hlt => ?_⟩
      · intro i hi
        rw [he4, hg] at hlt
        rw [if_pos hlt] at hK
        refine hbk i ⟨j, by rw [hi, nI_m1], by omega, hK⟩ ?_
        rw [hi, nI_m1, nI_cl (by omega), nI_cl (by omega)]
        omega
      · rw [he4, hg] at hlt
        rw [if_neg hlt] at hK
        exact hK
  · rw [he1, hc]
    obtain ⟨j, rfl⟩ : ∃ j, c = j + 1 := ⟨c - 1, by omega⟩
    exact nI_s1 j
theorem s_X7_fineAt {ov : Int32} {vals : Nat → Int32} {k : Nat} {K : Int64 → Prop} (hk : k < 8) (h : K ((vals k).toInt64 * ov.toInt64)) : v_X7_fineAt ov vals (nI k) K := by
  refine ⟨nI_inI hk (by decide), ?_⟩
  intro g hg e he
  rw [nI_cl (by omega)] at hg
  rw [he, hg]
  exact h
/-- the step for a number, and what it takes -/
def stF (vals : Nat → Int32) (ov : Int32) (c : Nat) (v : Int64) : Int32 := vals (plF vals ov v (c - 1))
def fiF (vals : Nat → Int32) (ov : Int32) (c : Nat) (v : Int64) : Int64 := (stF vals ov c v).toInt64 * ov.toInt64
theorem s_X5_takeStep {ov cn : Int32} {pk vals : Nat → Int32} {k : Nat} {v : Int64} {K : Int64 → (Nat → Int32) → Prop} {c : Nat} (hc : cn = nI c) (h1 : 1 ≤ c) (h8 : c ≤ 8) (hk : k < 3) (h : K (v - fiF vals ov c v) (upd pk k (stF vals ov c v))) : v_X5_takeStep ov cn pk vals (nI k) v K := by
  have hp := plF_le vals ov v (c - 1)
  refine s_X7_placeFor hc h1 h8 ⟨nI_inI (by omega) (by decide), ?_⟩
  intro g hg
  rw [nI_cl (by omega)] at hg
  refine ⟨nI_inI hk (by decide), ?_⟩
  intro pk3 hpk
  rw [nI_cl (by omega)] at hpk
  refine s_X7_fineAt (by omega) ?_
  intro e he
  rw [he, hpk, hg]
  exact h
/-! pure: the bounds -/
def nearP (v : Int64) : Prop := ¬ v < (-1000000000000 : Int64) ∧ ¬ (1000000000000 : Int64) < v
theorem s_X10_isSum {v : Int64} {K : Int32 → Prop} (h1 : nearP v → K 1) (h0 : ¬ nearP v → K 0) : v_X10_isSum v K :=
  ⟨fun h => h0 (fun q => q.1 h), fun h => ⟨fun h2 => h0 (fun q => q.2 h2), fun h2 => h1 ⟨h, h2⟩⟩⟩
def wishP (w : Int32) : Prop := ¬ w < (-1000000 : Int32) ∧ ¬ (1000000 : Int32) < w
theorem s_X10_isWithin {v m : Int32} {K : Int32 → Prop} (h1 : (¬ v < -m ∧ ¬ m < v) → K 1) (h0 : ¬ (¬ v < -m ∧ ¬ m < v) → K 0) : v_X10_isWithin v m K := by
  intro e he
  subst he
  exact ⟨fun h => h0 (fun q => q.1 h), fun h => ⟨fun h2 => h0 (fun q => q.2 h2), fun h2 => h1 ⟨h, h2⟩⟩⟩
theorem s_X10_isWish {w : Int32} {K : Int32 → Prop} (h1 : wishP w → K 1) (h0 : ¬ wishP w → K 0) : v_X10_isWish w K :=
  s_X10_isWithin (m := 1000000) (fun h => h1 h) (fun h => h0 h)
