/-! pure: the reference's wheel -/
def opI : Option Nat → Int32
  | none => -1
  | some b => nI b
theorem opI_neg : opI none < 0 := by decide
theorem s_turn_77 {rl : Int32} {on ot : Nat → Int32} {p j h : Nat} {bk : Int32 → (Nat → Int32) → Prop} {t15 : Int32} (p1 : 1 ≤ p) (p16 : p ≤ 16) (hr : (rl = 0 ∧ t15 = nI (hjF h j p)) ∨ (rl = 1 ∧ t15 = -1)) (hq : pckF rl h p ot on j < p) (hoff : on (pckF rl h p ot on j) = 0)
    (hgo : bk (nI (j + 1)) (upd on (pckF rl h p ot on j) 1)) : vJ_X11_turn_77 (nI p) rl ot (nI j) on bk t15 := by
  have fin : ∀ q : Nat, q = pckF rl h p ot on j → vJ_X11_turn_141 (nI j) on bk (nI q) := by
    intro q hqq
    subst hqq
    refine ⟨nI_inI (by omega) (by decide), ?_⟩
    intro f hf i hi
    rw [nI_cl (by omega)] at hf
    rw [hf, hi, nI_1]
    exact hgo
  rcases hr with ⟨hr, ht⟩ | ⟨hr, ht⟩
  · subst ht
    refine ⟨1, ?_⟩
    show vF_X11_turn_82 (nI p) rl ot (nI j) on bk _ ((0 : Int32), nI (hjF h j p))
    unfold vF_X11_turn_82 vB_X11_turn_82
    dsimp only
    have e : hjF h j p = pckF rl h p ot on j := by unfold pckF; rw [if_pos hr]
    refine ⟨fun z => fin _ e, fun z => ⟨fun _ => fin _ e, fun z => ?_⟩⟩
    rw [hr] at z
    exact absurd z (by decide)
  · subst ht
    have hr0 : ¬ rl = 0 := by rw [hr]; decide
    have e : pckF rl h p ot on j = (bF on ot p).getD 0 := by unfold pckF; rw [if_neg hr0]
    refine vloop (B := vF_X11_turn_82 (nI p) rl ot (nI j) on bk) (fun k => (nI k, opI (bF on ot k))) p ?_ ?_
    · intro bk2 k hk hb
      unfold vF_X11_turn_82 vB_X11_turn_82
      dsimp only
      refine ⟨fun z => absurd z (nI_nle_lt (by omega) hk), fun _ => ⟨fun z => absurd hr z, fun _ => ⟨nI_inI (by omega) (by decide), ?_⟩⟩⟩
      intro g20 hg20
      rw [nI_cl (by omega)] at hg20
      subst hg20
      refine ⟨fun e => ?_, fun e => ?_⟩
      · intro i hi
        rw [hi, nI_1]
        rw [bF_on e] at hb
        exact hb
      · have tk : bF on ot (k + 1) = some k → vJ_X11_turn_131 (nI k) (fun z0 z1 => bk2 (z0, z1)) := by
          intro hh i hi
          rw [hi, nI_1]
          rw [hh] at hb
          exact hb
        cases hbb : bF on ot k with
        | none =>
          refine ⟨fun _ => tk (bF_n e hbb), fun z => absurd opI_neg z⟩
        | some b =>
          have hs := bF_some k b hbb
          have st := bF_s e hbb
          refine ⟨fun z => absurd z (nI_pos (by omega)), fun _ => ⟨nI_inI (by omega) (by decide), ?_⟩⟩
          intro g23 hg23
          refine ⟨nI_inI (by omega) (by decide), ?_⟩
          intro g24 hg24
          have hg24 : g24 = ot (nI b).toNatClampNeg := hg24
          rw [nI_cl (by omega)] at hg23 hg24
          subst hg23 hg24
          refine ⟨fun l => ?_, fun l => tk ?_⟩
          · intro i hi
            rw [hi, nI_1]
            rw [st, if_neg (Int32.not_lt.mpr l)] at hb
            exact hb
          · rw [st, if_pos (Int32.not_le.mp l)]
    · intro bk2
      unfold vF_X11_turn_82 vB_X11_turn_82
      dsimp only
      refine ⟨fun _ => ?_, fun z => absurd (nI_rfl p (by omega)) z⟩
      cases hbb : bF on ot p with
      | none =>
        exfalso
        rw [e] at hq hoff
        exact bF_none p hbb _ hq hoff
      | some b =>
        refine fin b ?_
        rw [e, hbb]
        rfl
theorem s_X11_turn {pa rl hd g : Int32} {on ot : Nat → Int32} {p h : Nat} {K : Int32 → (Nat → Int32) → (Nat → Int32) → Prop} (hp : pa = nI p) (p1 : 2 ≤ p) (p16 : p ≤ 16) (hhd : hd = nI h) (hh : h = 0 ∨ h < p) (hrl : rl = 0 ∨ rl = 1)
    (hK : K (nI (hdF rl h p (mnF p g))) (onF rl h p ot on (mnF p g)) (otF p ot (onF rl h p ot on (mnF p g)))) : v_X11_turn pa rl hd on ot g K := by
  subst hp hhd
  have hhp : h < p := by omega
  have key : ∀ m : Nat, m ≤ p → K (nI (hdF rl h p m)) (onF rl h p ot on m) (otF p ot (onF rl h p ot on m)) → vJ_X11_turn_24 (nI p) rl (nI h) on ot K (nI m) := by
    intro m mp hK
    refine vloop (fun k => (nI k, zI on k)) p ?_ ?_
    · intro bk k hk hb
      unfold vF_X11_turn_27 vB_X11_turn_27
      refine ⟨fun q => absurd q (nI_nle_lt (by omega) hk), fun _ => ⟨nI_inI (by omega) (by decide), ?_⟩⟩
      intro g4 hg4 i6 hi6
      rw [nI_cl (by omega)] at hg4
      subst hg4 hi6
      dsimp only
      rw [nI_1]
      exact hb
    · intro bk
      unfold vF_X11_turn_27 vB_X11_turn_27
      refine ⟨fun _ => ?_, fun q => absurd (nI_rfl p (by omega)) q⟩
      refine vloop (B := vF_X11_turn_50 (nI p) rl (nI h) ot K (nI m)) (fun j => (nI j, onF rl h p ot on j)) m ?_ ?_
      · intro bk j hj hb
        obtain ⟨⟨i1, i2⟩, -⟩ := pck_off (rl := rl) (ot := ot) (on := on) hh j (by omega)
        unfold vF_X11_turn_50 vB_X11_turn_50
        refine ⟨fun q => absurd q (nI_nle_lt (by omega) hj), fun _ => ⟨fun hr => ?_, fun hr => ?_⟩⟩
        · refine s_turn_77 (h := h) (by omega) p16 (Or.inr ⟨?_, rfl⟩) i1 i2 hb
          rcases hrl with z | z
          · exact absurd z hr
          · exact z
        · intro e25 he25
          dsimp only at he25
          rw [nI_add] at he25
          subst he25
          refine ⟨fun z => ?_, ?_⟩
          · have := (nI_eq0 (by omega)).mp z
            omega
          intro e26 he26
          rw [pk_rem (by omega) (by omega) (by omega), rd_mod hhp (by omega)] at he26
          exact s_turn_77 (h := h) (by omega) p16 (Or.inl ⟨hr, he26⟩) i1 i2 hb
      · intro bk
        unfold vF_X11_turn_50 vB_X11_turn_50
        refine ⟨fun _ => ?_, fun q => absurd (nI_rfl m (by omega)) q⟩
        have go := vloop (B := vF_X11_turn_157 (nI p) rl (nI h) K (nI m) (onF rl h p ot on m)) (fun k => (nI k, otF k ot (onF rl h p ot on m))) p ?_ ?_
        · have z : otF 0 ot (onF rl h p ot on m) = ot := by funext k; unfold otF; rw [if_neg (by omega)]
          rw [z] at go
          exact go
        · intro bk k hk hb
          unfold vF_X11_turn_157 vB_X11_turn_157
          refine ⟨fun q => absurd q (nI_nle_lt (by omega) hk), fun _ => ⟨nI_inI (by omega) (by decide), ?_⟩⟩
          intro g10 hg10
          refine ⟨nI_inI (by omega) (by decide), ?_⟩
          intro g11 hg11 e12 he12
          refine ⟨nI_inI (by omega) (by decide), ?_⟩
          intro f13 hf13 i14 hi14
          rw [nI_cl (by omega)] at hg10 hg11 hf13
          dsimp only at hg10 hf13
          have z : f13 = otF (k + 1) ot (onF rl h p ot on m) := by
            rw [hf13, he12, hg10, hg11]
            funext i
            by_cases e : i = k
            · subst e
              rw [upd_self]
              unfold otF
              rw [if_neg (by omega), if_pos (by omega)]
            · rw [upd_else _ _ _ _ e]
              unfold otF
              by_cases l : i < k
              · rw [if_pos l, if_pos (by omega)]
              · rw [if_neg l, if_neg (by omega)]
          rw [z, hi14, nI_1]
          exact hb
        · intro bk
          unfold vF_X11_turn_157 vB_X11_turn_157
          refine ⟨fun _ => ⟨fun hr => ?_, fun hr => ?_⟩, fun q => absurd (nI_rfl p (by omega)) q⟩
          · unfold hdF at hK
            rw [if_neg hr] at hK
            exact hK
          · intro e8 he8
            rw [nI_add] at he8
            subst he8
            refine ⟨fun z => ?_, ?_⟩
            · have := (nI_eq0 (by omega)).mp z
              omega
            intro e9 he9
            rw [pk_rem (by omega) (by omega) (by omega), rd_mod hhp (by omega)] at he9
            unfold hdF at hK
            rw [if_pos hr] at hK
            rw [he9]
            exact hK
  have tp : (nI p).toInt = p := nI_toInt (by omega)
  unfold mnF at hK
  refine ⟨fun q => ⟨fun q2 => ?_, fun q2 => ?_⟩, fun q => ?_⟩
  · rw [Int32.le_iff_toInt_le, t32_0] at q
    rw [Int32.le_iff_toInt_le, tp] at q2
    rw [if_neg (by omega), if_neg (by omega)] at hK
    have := key g.toInt.toNat (by omega) hK
    rw [← nI_tn q] at this
    exact this
  · rw [Int32.le_iff_toInt_le, t32_0] at q
    rw [Int32.le_iff_toInt_le, tp] at q2
    rw [if_neg (by omega), if_pos (by omega)] at hK
    exact key p (by omega) hK
  · rw [Int32.le_iff_toInt_le, t32_0] at q
    rw [if_pos (by omega)] at hK
    exact key 0 (by omega) hK
