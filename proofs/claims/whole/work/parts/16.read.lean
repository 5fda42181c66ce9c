def misF (t : Nat) (ov : Int32) (wi gv : Nat → Int32) : Nat → Int64 := accF (fun k => (gv (hxF t k)).toInt64 * ov.toInt64 - (wi (hxF t k)).toInt64) 0
theorem s_X3_missedIn {nx ov : Int32} {wi gv : Nat → Int32} {t n : Nat} {K : Int64 → Prop} (hnx : nx = nI (t % 256)) (ht : t < 1073741824) (hn : n ≤ t) (h : K (misF t ov wi gv n)) : v_X3_missedIn nx wi gv (nI n) ov K := by
  refine vloop (fun k => (nI k, misF t ov wi gv k)) n ?_ ?_
  · intro bk k hk hb
    unfold vF_X3_missedIn_5 vB_X3_missedIn_5
    refine ⟨fun q => absurd q (nI_nle_lt (by omega) hk), fun _ => ?_⟩
    refine s_X3_givenAt hnx (by omega) ht ?_
    intro e4 he4
    refine s_X3_wishAt hnx (by omega) ht ?_
    intro e6 he6 e7 he7 i8 hi8
    subst he7 he6 he4 hi8
    dsimp only
    rw [nI_1]
    exact hb
  · intro bk
    unfold vF_X3_missedIn_5 vB_X3_missedIn_5
    exact ⟨fun _ => h, fun q => absurd (nI_rfl n (by omega)) q⟩
theorem o_missed {nx kp tk ov x1 : Int32} {wi gv : Nat → Int32} {t : Nat} (hnx : nx = nI (t % 256)) (hkp : kp = nI (ktF t)) (htk : tk = nI t) (ht : t < 1073741824) : v_X10_missed nx kp ov wi gv x1 (fun r => v_X11_missed ov tk gv wi x1 (fun r' => r = r')) := by
  have hk := kt_le t
  refine s_X3_holdsLast hkp (by omega) (fun n h1 hn hx => ?_) (fun h => ⟨fun _ => ?_, fun q => absurd rfl q⟩)
  · subst hx
    refine ⟨fun q => absurd q (by decide), fun _ => ?_⟩
    refine s_X3_missedIn hnx ht (by omega) ?_
    refine ⟨fun q => absurd ((nI_lt_iff (b := 1) (by omega) (by omega)).mp q) (by omega), fun _ => s_X11_kept htk ht ⟨fun _ => ?_, fun q => absurd ((nI_le_iff (by omega) (by omega)).mpr hn) q⟩⟩
    refine vloop (fun k => (nI k, misF t ov wi gv k)) n ?_ ?_
    · intro bk k hkk hb
      unfold vF_X11_missed_20 vB_X11_missed_20
      have hl := hx_lt t k
      refine ⟨fun q => absurd q (nI_nle_lt (by omega) hkk), fun _ => ?_⟩
      refine s_X11_latest htk (by omega) ht ⟨nI_inI hl (by decide), ?_⟩
      intro g5 hg5 e6 he6
      refine s_X11_latest htk (by omega) ht ⟨nI_inI hl (by decide), ?_⟩
      intro g8 hg8 e9 he9 e10 he10 i11 hi11
      rw [nI_cl (by omega)] at hg5 hg8
      subst he10 he9 he6 hg5 hg8 hi11
      dsimp only
      rw [nI_1]
      exact hb
    · intro bk
      unfold vF_X11_missed_20 vB_X11_missed_20
      exact ⟨fun _ => rfl, fun q => absurd (nI_rfl n (by omega)) q⟩
  · refine ⟨fun _ => rfl, fun q => s_X11_kept htk ht ⟨fun q2 => ?_, fun _ => rfl⟩⟩
    exfalso
    rcases h with h | h
    · exact q h
    · rw [Int32.lt_iff_toInt_lt] at h
      rw [Int32.le_iff_toInt_le] at q2
      omega
def rdF (t : Nat) (wt gv : Nat → Int32) : Nat → Int64 := accF (fun k => (wt k).toInt64 * (gv (hxF t k)).toInt64) 0
theorem o_read {cn nx kp tk wm : Int32} {wt gv : Nat → Int32} {t wc : Nat} (hcn : cn = nI wc) (hwm : wm = nI wc) (hwc : wc ≤ 64) (hnx : nx = nI (t % 256)) (hkp : kp = nI (ktF t)) (htk : tk = nI t) (ht : t < 1073741824) : v_X10_read cn nx kp wt gv (fun r => v_X11_read tk wm gv wt (fun r' => r = r')) := by
  have hk := kt_le t
  subst hcn hwm
  have key : ∀ n, n = min wc (ktF t) → n ≤ wc ∧ n ≤ ktF t ∧ (n = wc ∨ n = ktF t) := by intro n hn; omega
  obtain ⟨k1, k2, k3⟩ := key _ rfl
  generalize min wc (ktF t) = n at k1 k2 k3
  unfold v_X10_read v_X2_readFrom
  refine vloop (fun k => (nI k, rdF t wt gv k)) n ?_ ?_
  · intro bk k hkk hb
    unfold vF_X2_readFrom_5 vB_X2_readFrom_5
    refine ⟨fun q => absurd q (nI_nle_lt (by omega) (by omega)), fun _ => ?_⟩
    refine s_X3_holds hkp (by omega) (fun j hj hx => ?_) (fun h => ?_)
    · refine ⟨fun q => absurd q (by decide), fun _ => ⟨nI_inI (by omega) (by decide), ?_⟩⟩
      intro g4 hg4
      refine s_X3_givenAt hnx (by omega) ht ?_
      intro e6 he6 e7 he7 i8 hi8
      rw [nI_cl (by omega)] at hg4
      subst he7 he6 hg4 hi8
      dsimp only
      rw [nI_1]
      exact hb
    · exfalso
      rcases h with h | h
      · exact absurd h (nI_pos (by omega))
      · exact absurd h (nI_nle_lt (by omega) (by omega))
  · intro bk
    have fin : v_X11_read tk (nI wc) gv wt (fun r' => rdF t wt gv n = r') := by
      refine vloop (fun k => (nI k, rdF t wt gv k)) n ?_ ?_
      · intro bk k hkk hb
        unfold vF_X11_read_4 vB_X11_read_4
        have hl := hx_lt t k
        refine ⟨fun q => absurd q (nI_nle_lt (by omega) (by omega)), fun _ => s_X11_kept htk ht ⟨fun q => absurd q (nI_nle_lt (by omega) (by omega)), fun _ => ⟨nI_inI (by omega) (by decide), ?_⟩⟩⟩
        intro g4 hg4
        refine s_X11_latest htk (by omega) ht ⟨nI_inI hl (by decide), ?_⟩
        intro g6 hg6 e7 he7 e8 he8 i9 hi9
        rw [nI_cl (by omega)] at hg4 hg6
        subst he8 he7 hg4 hg6 hi9
        dsimp only
        rw [nI_1]
        exact hb
      · intro bk
        unfold vF_X11_read_4 vB_X11_read_4
        refine ⟨fun _ => rfl, fun q => s_X11_kept htk ht ⟨fun _ => rfl, fun q2 => ?_⟩⟩
        exfalso
        rcases k3 with z | z
        · rw [z] at q; exact q (nI_rfl wc (by omega))
        · rw [z] at q2; exact q2 (nI_rfl _ (by omega))
    unfold vF_X2_readFrom_5 vB_X2_readFrom_5
    refine ⟨fun _ => fin, fun q => ?_⟩
    refine s_X3_holds hkp (by omega) (fun j hj hx => ?_) (fun h => ⟨fun _ => fin, fun q => absurd rfl q⟩)
    exfalso
    have e : n = j := (nI_eq (by omega) (by omega)).mp hx
    rcases k3 with z | z
    · rw [z] at q; exact q (nI_rfl wc (by omega))
    · omega
