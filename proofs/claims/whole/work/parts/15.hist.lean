/-! pure: the ticks that are kept. t ticks were; a place is told by how many came behind it -/
def hxF (t k : Nat) : Nat := (t - 1 - k) % 256
theorem hx_lt (t k : Nat) : hxF t k < 256 := Nat.mod_lt _ (by decide)
theorem c_ix {t k : Nat} (hk : k < t) (ht : t < 1073741824) : (nI (t % 256) - 1 - nI k) &&& 255 = nI (hxF t k) := by
  rw [pk_and _ 8 (by decide)]
  have e1 : (nI (t % 256) - 1 - nI k).toBitVec.toNat % 2 ^ 8 = hxF t k := by
    rw [Int32.toBitVec_sub, Int32.toBitVec_sub, BitVec.toNat_sub, BitVec.toNat_sub, pk_tn (by omega), pk_tn (by omega)]
    have e2 : (1 : Int32).toBitVec.toNat = 1 := by decide
    rw [e2]
    unfold hxF
    omega
  rw [e1]
theorem m_ix {t k : Nat} (hk : k < t) (ht : t < 1073741824) : (nI t - 1 - nI k) - (nI t - 1 - nI k) / 256 * 256 = nI (hxF t k) := by
  obtain ⟨u, rfl⟩ : ∃ u, t = u + 1 := ⟨t - 1, by omega⟩
  rw [nI_s1, pk_sub (by omega)]
  have h := pk_rem (a := u - k) (d := 256) (by omega) (by omega) (by omega)
  have e : u - k = u + 1 - 1 - k := by omega
  unfold hxF
  rw [← e]
  exact h
def ktF (t : Nat) : Nat := min t 256
theorem kt_le (t : Nat) : ktF t ≤ 256 ∧ ktF t ≤ t := ⟨Nat.min_le_right t 256, Nat.min_le_left t 256⟩
theorem s_X3_givenAt {nx : Int32} {gv : Nat → Int32} {t k : Nat} {K : Int32 → Prop} (hn : nx = nI (t % 256)) (hk : k < t) (ht : t < 1073741824) (h : K (gv (hxF t k))) : v_X3_givenAt nx gv (nI k) K := by
  intro e1 he1 e2 he2 e3 he3
  have e : e3 = nI (hxF t k) := by rw [he3, he2, he1, hn]; exact c_ix hk ht
  have hl := hx_lt t k
  rw [e]
  refine ⟨nI_inI hl (by decide), ?_⟩
  intro g hg
  rw [hg, nI_cl (by omega)]
  exact h
theorem s_X3_wishAt {nx : Int32} {gv : Nat → Int32} {t k : Nat} {K : Int32 → Prop} (hn : nx = nI (t % 256)) (hk : k < t) (ht : t < 1073741824) (h : K (gv (hxF t k))) : v_X3_wishAt nx gv (nI k) K := by
  intro e1 he1 e2 he2 e3 he3
  have e : e3 = nI (hxF t k) := by rw [he3, he2, he1, hn]; exact c_ix hk ht
  have hl := hx_lt t k
  rw [e]
  refine ⟨nI_inI hl (by decide), ?_⟩
  intro g hg
  rw [hg, nI_cl (by omega)]
  exact h
theorem s_X3_sumAt {nx : Int32} {gv : Nat → Int64} {t k : Nat} {K : Int64 → Prop} (hn : nx = nI (t % 256)) (hk : k < t) (ht : t < 1073741824) (h : K (gv (hxF t k))) : v_X3_sumAt nx gv (nI k) K := by
  intro e1 he1 e2 he2 e3 he3
  have e : e3 = nI (hxF t k) := by rw [he3, he2, he1, hn]; exact c_ix hk ht
  have hl := hx_lt t k
  rw [e]
  refine ⟨nI_inI hl (by decide), ?_⟩
  intro g hg
  rw [hg, nI_cl (by omega)]
  exact h
theorem s_X11_latest {tk : Int32} {t k : Nat} {K : Int32 → Prop} (hn : tk = nI t) (hk : k < t) (ht : t < 1073741824) (h : K (nI (hxF t k))) : v_X11_latest tk (nI k) K := by
  intro e1 he1 e2 he2 e3 he3
  have e : e3 = nI (hxF t k) := by rw [he3, he2, he1, hn]; exact m_ix hk ht
  rw [e]
  exact h
theorem s_X11_kept {tk : Int32} {t : Nat} {K : Int32 → Prop} (hn : tk = nI t) (ht : t < 1073741824) (h : K (nI (ktF t))) : v_X11_kept tk K := by
  subst hn
  refine ⟨fun q => ?_, fun q => ?_⟩
  · have q : 256 ≤ t := (nI_le_iff (a := 256) (by omega) (by omega)).mp q
    have e : ktF t = 256 := Nat.min_eq_right q
    rw [e] at h
    exact h
  · have q : t < 256 := by
      rcases Nat.lt_or_ge t 256 with z | z
      · exact z
      · exact absurd ((nI_le_iff (a := 256) (by omega) (by omega)).mpr z) q
    have e : ktF t = t := Nat.min_eq_left (by omega)
    rw [e] at h
    exact h
theorem s_X3_holds {kp x : Int32} {n : Nat} {K : Int32 → Prop} (hn : kp = nI n) (hl : n < 1073741824) (h1 : ∀ k : Nat, k < n → x = nI k → K 1) (h0 : (x < 0 ∨ nI n ≤ x) → K 0) : v_X3_holds kp x K := by
  subst hn
  refine ⟨fun q => h0 (Or.inl q), fun q => ⟨fun q2 => h0 (Or.inr q2), fun q2 => ?_⟩⟩
  rcases pk_ix x (n := n) (by omega) with z | z | ⟨j, hj, hx⟩
  · exact absurd z q
  · exact absurd z q2
  · exact h1 j hj hx
/-- of the last n: n is 1 .. kept -/
theorem s_X3_holdsLast {kp x : Int32} {n : Nat} {K : Int32 → Prop} (hn : kp = nI n) (hl : n < 1073741824) (h1 : ∀ k : Nat, 1 ≤ k → k ≤ n → x = nI k → K 1) (h0 : (x < 1 ∨ nI n < x) → K 0) : v_X3_holdsLast kp x K := by
  subst hn
  refine ⟨fun q => h0 (Or.inl q), fun q => ⟨fun q2 => h0 (Or.inr q2), fun q2 => ?_⟩⟩
  rcases pk_ix x (n := n + 1) (by omega) with z | z | ⟨j, hj, hx⟩
  · refine absurd ?_ q
    rw [Int32.lt_iff_toInt_lt] at z ⊢
    have a1 : (0 : Int32).toInt = 0 := by decide
    have a2 : (1 : Int32).toInt = 1 := by decide
    omega
  · refine absurd ?_ q2
    rw [Int32.le_iff_toInt_le, nI_toInt (by omega)] at z
    rw [Int32.lt_iff_toInt_lt, nI_toInt (by omega)]
    omega
  · subst hx
    refine h1 j ?_ (by omega) rfl
    rcases Nat.lt_or_ge 0 j with z | z
    · exact z
    · have : j = 0 := by omega
      subst this
      exact absurd (by decide) q
theorem o_was {nx kp tk x1 x2 : Int32} {wi gv : Nat → Int32} {t : Nat} (hnx : nx = nI (t % 256)) (hkp : kp = nI (ktF t)) (htk : tk = nI t) (ht : t < 1073741824) : v_X10_was nx kp wi gv x1 x2 (fun r => v_X11_was tk gv wi x1 x2 (fun r' => r = r')) := by
  have hk := kt_le t
  have bad : (x1 < 0 ∨ nI (ktF t) ≤ x1) → v_X11_was tk gv wi x1 x2 (fun r' => (-2147483648 : Int32) = r') := by
    intro h
    refine ⟨fun _ => rfl, fun q => s_X11_kept htk ht ⟨fun _ => rfl, fun q2 => ?_⟩⟩
    rcases h with h | h
    · exact absurd h q
    · exact absurd h q2
  refine s_X3_holds hkp (by omega) (fun k hkk hx => ?_) (fun h => ⟨fun q => absurd rfl q, fun _ => bad h⟩)
  subst hx
  have good : ∀ K : Int32 → Prop, ((x2 < 0 → K (-2147483648)) ∧ (¬ x2 < 0 → ((x2 ≤ 1 → ((¬ x2 = 0 → K (wi (hxF t k))) ∧ (x2 = 0 → K (gv (hxF t k))))) ∧ (¬ x2 ≤ 1 → K (-2147483648))))) → v_X11_was tk gv wi (nI k) x2 K := by
    intro K hh
    have hl := hx_lt t k
    refine ⟨fun q => absurd q (nI_pos (by omega)), fun _ => s_X11_kept htk ht ⟨fun q => absurd q (nI_nle_lt (by omega) hkk), fun _ => ?_⟩⟩
    refine ⟨hh.1, fun q => ⟨fun q1 => ⟨fun q0 => ?_, fun q0 => ?_⟩, (hh.2 q).2⟩⟩
    · refine s_X11_latest htk (by omega) ht ⟨nI_inI hl (by decide), ?_⟩
      intro g hg
      rw [hg, nI_cl (by omega)]
      exact ((hh.2 q).1 q1).1 q0
    · refine s_X11_latest htk (by omega) ht ⟨nI_inI hl (by decide), ?_⟩
      intro g hg
      rw [hg, nI_cl (by omega)]
      exact ((hh.2 q).1 q1).2 q0
  refine ⟨fun _ => ⟨fun e0 => ?_, fun e1 => ?_, fun e0 e1 => ?_⟩, fun q => absurd q (by decide)⟩
  · refine s_X3_givenAt hnx (by omega) ht (good _ ?_)
    subst e0
    exact ⟨fun q => absurd q (by decide), fun _ => ⟨fun _ => ⟨fun q => absurd rfl q, fun _ => rfl⟩, fun q => absurd (by decide) q⟩⟩
  · refine s_X3_wishAt hnx (by omega) ht (good _ ?_)
    subst e1
    exact ⟨fun q => absurd q (by decide), fun _ => ⟨fun _ => ⟨fun _ => rfl, fun q => absurd q (by decide)⟩, fun q => absurd (by decide) q⟩⟩
  · refine good _ ⟨fun _ => rfl, fun q => ⟨fun q1 => ?_, fun _ => rfl⟩⟩
    exfalso
    rw [Int32.lt_iff_toInt_lt] at q
    rw [Int32.le_iff_toInt_le] at q1
    have a0 : (0 : Int32).toInt = 0 := by decide
    have a1 : (1 : Int32).toInt = 1 := by decide
    have n0 : x2.toInt ≠ (0 : Int32).toInt := fun z => e0 (Int32.toInt_inj.mp z)
    have n1 : x2.toInt ≠ (1 : Int32).toInt := fun z => e1 (Int32.toInt_inj.mp z)
    omega
theorem o_behind {nx kp tk x1 : Int32} {su : Nat → Int64} {t : Nat} (hnx : nx = nI (t % 256)) (hkp : kp = nI (ktF t)) (htk : tk = nI t) (ht : t < 1073741824) : v_X10_behind nx kp su x1 (fun r => v_X11_behind tk su x1 (fun r' => r = r')) := by
  have hk := kt_le t
  refine s_X3_holds hkp (by omega) (fun k hkk hx => ?_) (fun h => ⟨fun _ => ?_, fun q => absurd rfl q⟩)
  · subst hx
    refine ⟨fun q => absurd q (by decide), fun _ => ?_⟩
    refine s_X3_sumAt hnx (by omega) ht ?_
    have hl := hx_lt t k
    refine ⟨fun q => absurd q (nI_pos (by omega)), fun _ => s_X11_kept htk ht ⟨fun _ => ?_, fun q => absurd ((nI_lt_iff (by omega) (by omega)).mpr hkk) q⟩⟩
    refine s_X11_latest htk (by omega) ht ⟨nI_inI hl (by decide), ?_⟩
    intro g hg
    rw [hg, nI_cl (by omega)]
  · refine ⟨fun _ => rfl, fun q => s_X11_kept htk ht ⟨fun q2 => ?_, fun _ => rfl⟩⟩
    exfalso
    rcases h with h | h
    · exact q h
    · rw [Int32.le_iff_toInt_le] at h
      rw [Int32.lt_iff_toInt_lt] at q2
      omega
