/-! pure: a number of the tables is told -/
def putC (n : Nat) (x1 x2 : Int32) (PA PB PC PD PE PN : Prop) : Prop :=
  (ixP n x1 → (ixP n x2 → PA) ∧ (¬ ixP n x2 → (x2 = 4 → PB) ∧ (¬ x2 = 4 → (x2 = 5 → PC) ∧ (¬ x2 = 5 → PN)))) ∧ (¬ ixP n x1 → (x1 = 4 → (ixP n x2 → PD) ∧ (¬ ixP n x2 → (x2 = 4 → PE) ∧ (¬ x2 = 4 → PN))) ∧ (¬ x1 = 4 → PN))
theorem ixP_yes {n : Nat} {x : Int32} (hn : n < 2147483648) (h1 : ¬ x < 0) (h2 : ¬ nI n ≤ x) : ixP n x := by
  rcases pk_ix x (n := n) (by omega) with z | z | ⟨j, hj, hx⟩
  · exact absurd z h1
  · exact absurd z h2
  · exact ⟨j, hj, hx⟩
theorem ixP_4 {n : Nat} (h4 : n ≤ 4) : ¬ ixP n 4 := by
  rintro ⟨k, hk, hx⟩
  have : 4 = k := (nI_eq (a := 4) (by omega) (by omega)).mp hx
  omega
theorem r0 : (0 : Int32) = 0 := rfl
theorem s_X8_put {ts g x1 x2 x3 : Int32} {aa b e hh : Nat → Int32} {n : Nat} {K : Int32 → Int32 → (Nat → Int32) → (Nat → Int32) → (Nat → Int32) → (Nat → Int32) → Prop} (hn : ts = nI n) (h4 : n ≤ 4)
    (h : putC n x1 x2 (K 1 g (upd aa (x1 * 4 + x2).toNatClampNeg x3) b e hh) (K 1 g aa (upd b x1.toNatClampNeg x3) e hh) (K 1 g aa b (upd e x1.toNatClampNeg x3) hh) (K 1 g aa b e (upd hh x2.toNatClampNeg x3)) (K 1 x3 aa b e hh) (K 0 g aa b e hh)) : v_X8_put ts g aa b e hh x1 x2 x3 K := by
  subst hn
  obtain ⟨hr, hnr⟩ := h
  have in1 : ixP n x1 → vp_in x1 4 := fun ix => ixP_in ix h4 (by omega)
  have in2 : ixP n x2 → vp_in x2 4 := fun ix => ixP_in ix h4 (by omega)
  have in12 : ixP n x1 → ixP n x2 → vp_in (x1 * 4 + x2) 16 := by
    rintro ⟨i, hi, rfl⟩ ⟨j, hj, rfl⟩
    have e : nI i * 4 + nI j = nI (i * 4 + j) := by rw [← nI_add, ← pk_mul]; rfl
    rw [e]
    exact nI_inI (by omega) (by decide)
  have n4 : ixP n x1 → ¬ x1 = 4 := fun ix q => ixP_4 h4 (q ▸ ix)
  -- row and column known
  have key : ∀ t1 t2 : Int32, (t1 = 1 ∧ ixP n x1 ∨ t1 = 0 ∧ ¬ ixP n x1) → (t2 = 1 ∧ ixP n x2 ∨ t2 = 0 ∧ ¬ ixP n x2) → vJ_X8_put_36 g aa b e hh x1 x2 x3 K t1 t2 := by
    intro t1 t2 c1 c2
    rcases c1 with ⟨rfl, c1⟩ | ⟨rfl, c1⟩
    · obtain ⟨ha, hb⟩ := hr c1
      have j62 : ¬ ixP n x2 → vJ_X8_put_62 g aa b e hh x1 x2 x3 K 1 t2 := by
        intro c2
        obtain ⟨hb1, hb2⟩ := hb c2
        refine ⟨fun z => absurd z r1n, fun _ => ⟨fun q => ⟨fun z => absurd z r1n, fun _ => ⟨fun q5 => ?_, fun q5 => ⟨in1 c1, ?_⟩⟩⟩, fun q => ⟨in1 c1, ?_⟩⟩⟩
        · have hN := (hb2 q).2 q5
          have n4 := n4 c1
          exact ⟨fun _ => ⟨fun _ => hN, fun z => absurd z n4⟩, fun z => absurd z n4⟩
        · intro f hf
          rw [hf]
          exact (hb2 q).1 q5
        · intro f hf
          rw [hf]
          exact hb1 q
      rcases c2 with ⟨rfl, c2⟩ | ⟨rfl, c2⟩
      · refine ⟨fun z => absurd z r1n, fun _ => ⟨fun z => absurd z r1n, fun _ => ?_⟩⟩
        intro e6 he6 e7 he7
        have : e7 = x1 * 4 + x2 := by rw [he7, he6]
        rw [this]
        refine ⟨in12 c1 c2, ?_⟩
        intro f hf
        rw [hf]
        exact ha c2
      · exact ⟨fun z => absurd z r1n, fun _ => ⟨fun _ => j62 c2, fun z => absurd rfl z⟩⟩
    · obtain ⟨ha, hN⟩ := hnr c1
      have j102 : vJ_X8_put_102 g aa b e hh x1 x2 x3 K t2 := by
        refine ⟨fun q => ⟨fun _ => hN q, fun z => absurd z q⟩, fun q => ⟨fun z => ?_, fun z => ?_⟩⟩
        · rcases c2 with ⟨rfl, c2⟩ | ⟨rfl, c2⟩
          · exact absurd z r1n
          · obtain ⟨h1, h2⟩ := (ha q).2 c2
            exact ⟨fun y => absurd q y, fun _ => ⟨h2, h1⟩⟩
        · rcases c2 with ⟨rfl, c2⟩ | ⟨rfl, c2⟩
          · refine ⟨in2 c2, ?_⟩
            intro f hf
            rw [hf]
            exact (ha q).1 c2
          · exact absurd rfl z
      exact ⟨fun _ => ⟨fun _ => ⟨fun _ => j102, fun z => absurd rfl z⟩, fun z => absurd rfl z⟩, fun z => absurd rfl z⟩
  have j17 : ∀ t1 : Int32, (t1 = 1 ∧ ixP n x1 ∨ t1 = 0 ∧ ¬ ixP n x1) → vJ_X8_put_17 (nI n) g aa b e hh x1 x2 x3 K t1 := by
    intro t1 c1
    refine ⟨fun q => key t1 0 c1 (Or.inr ⟨rfl, ixP_no (by omega) (Or.inl q)⟩), fun q => ⟨fun q2 => key t1 0 c1 (Or.inr ⟨rfl, ixP_no (by omega) (Or.inr q2)⟩), fun q2 => key t1 1 c1 (Or.inl ⟨rfl, ixP_yes (by omega) q q2⟩)⟩⟩
  exact ⟨fun q => j17 0 (Or.inr ⟨rfl, ixP_no (by omega) (Or.inl q)⟩), fun q => ⟨fun q2 => j17 0 (Or.inr ⟨rfl, ixP_no (by omega) (Or.inr q2)⟩), fun q2 => j17 1 (Or.inl ⟨rfl, ixP_yes (by omega) q q2⟩)⟩⟩
def tenP (v : Int32) : Prop := ¬ v < (-10 : Int32) ∧ ¬ (10 : Int32) < v
theorem s_X11_table {s11_kind s11_many s11_ticks s11_hand s11_g s11_beganElsewhere s11_dBefore s11_fBefore s11_fFirst x1 x2 x3 : Int32} {aa b e hh a11_on a11_often : Nat → Int32} {a11_sums : Nat → Int64} {n : Nat} {K : Int32 → Int32 → Int32 → Int32 → Int32 → Int32 → Int32 → Int32 → (Nat → Int32) → (Nat → Int32) → (Nat → Int32) → (Nat → Int32) → (Nat → Int64) → (Nat → Int32) → (Nat → Int32) → Prop} (hn : s11_many = nI n) (h4 : n ≤ 4) (hk : s11_kind = 2) (ht : tenP x3)
    (h : putC n x1 x2 (K 1 0 0 s11_g 0 0 0 0 (upd aa (x1 * 4 + x2).toNatClampNeg x3) b e hh (zL a11_sums 4) (zI a11_on 16) (zI a11_often 16)) (K 1 0 0 s11_g 0 0 0 0 aa (upd b x1.toNatClampNeg x3) e hh (zL a11_sums 4) (zI a11_on 16) (zI a11_often 16)) (K 1 0 0 s11_g 0 0 0 0 aa b (upd e x1.toNatClampNeg x3) hh (zL a11_sums 4) (zI a11_on 16) (zI a11_often 16)) (K 1 0 0 s11_g 0 0 0 0 aa b e (upd hh x2.toNatClampNeg x3) (zL a11_sums 4) (zI a11_on 16) (zI a11_often 16)) (K 1 0 0 x3 0 0 0 0 aa b e hh (zL a11_sums 4) (zI a11_on 16) (zI a11_often 16)) (K 0 s11_ticks s11_hand s11_g s11_beganElsewhere s11_dBefore s11_fBefore s11_fFirst aa b e hh a11_sums a11_on a11_often)) :
    v_X11_table s11_kind s11_many s11_ticks s11_hand s11_g s11_beganElsewhere s11_dBefore s11_fBefore s11_fFirst aa b e hh a11_sums a11_on a11_often x1 x2 x3 K := by
  subst hn
  obtain ⟨hr, hnr⟩ := h
  have in1 : ixP n x1 → vp_in x1 4 := fun ix => ixP_in ix h4 (by omega)
  have in2 : ixP n x2 → vp_in x2 4 := fun ix => ixP_in ix h4 (by omega)
  have e12 : ixP n x1 → ixP n x2 → 4 * x1 + x2 = x1 * 4 + x2 := by
    rintro ⟨i, hi, rfl⟩ ⟨j, hj, rfl⟩
    rw [Int32.mul_comm]
  have in12 : ixP n x1 → ixP n x2 → vp_in (x1 * 4 + x2) 16 := by
    rintro ⟨i, hi, rfl⟩ ⟨j, hj, rfl⟩
    have e : nI i * 4 + nI j = nI (i * 4 + j) := by rw [← nI_add, ← pk_mul]; rfl
    rw [e]
    exact nI_inI (by omega) (by decide)
  have n4 : ixP n x1 → ¬ x1 = 4 := fun ix q => ixP_4 h4 (q ▸ ix)
  have key : ∀ t1 t2 : Int32, (t1 = 1 ∧ ixP n x1 ∨ t1 = 0 ∧ ¬ ixP n x1) → (t2 = 1 ∧ ixP n x2 ∨ t2 = 0 ∧ ¬ ixP n x2) → vJ_X11_table_58 s11_ticks s11_hand s11_g s11_beganElsewhere s11_dBefore s11_fBefore s11_fFirst aa b e hh a11_sums a11_on a11_often x1 x2 x3 K t1 t2 := by
    intro t1 t2 c1 c2
    rcases c1 with ⟨rfl, c1⟩ | ⟨rfl, c1⟩
    · obtain ⟨ha, hb⟩ := hr c1
      have j62 : ¬ ixP n x2 → vJ_X11_table_84 s11_ticks s11_hand s11_g s11_beganElsewhere s11_dBefore s11_fBefore s11_fFirst aa b e hh a11_sums a11_on a11_often x1 x2 x3 K 1 t2 := by
        intro c2
        obtain ⟨hb1, hb2⟩ := hb c2
        refine ⟨fun z => absurd z r1n, fun _ => ⟨fun q => ⟨fun z => absurd z r1n, fun _ => ⟨fun q5 => ?_, fun q5 => ⟨in1 c1, ?_⟩⟩⟩, fun q => ⟨in1 c1, ?_⟩⟩⟩
        · have hN := (hb2 q).2 q5
          have n4 := n4 c1
          exact ⟨fun _ => ⟨fun _ => hN, fun z => absurd z n4⟩, fun z => absurd z n4⟩
        · intro f hf
          rw [hf]
          exact s_X11_anew ((hb2 q).1 q5)
        · intro f hf
          rw [hf]
          exact s_X11_anew (hb1 q)
      rcases c2 with ⟨rfl, c2⟩ | ⟨rfl, c2⟩
      · refine ⟨fun z => absurd z r1n, fun _ => ⟨fun z => absurd z r1n, fun _ => ?_⟩⟩
        intro e6 he6 e7 he7
        have : e7 = x1 * 4 + x2 := by rw [he7, he6]; exact e12 c1 c2
        rw [this]
        refine ⟨in12 c1 c2, ?_⟩
        intro f hf
        rw [hf]
        exact s_X11_anew (ha c2)
      · exact ⟨fun z => absurd z r1n, fun _ => ⟨fun _ => j62 c2, fun z => absurd rfl z⟩⟩
    · obtain ⟨ha, hN⟩ := hnr c1
      have j102 : vJ_X11_table_124 s11_ticks s11_hand s11_g s11_beganElsewhere s11_dBefore s11_fBefore s11_fFirst aa b e hh a11_sums a11_on a11_often x1 x2 x3 K t2 := by
        refine ⟨fun q => ⟨fun _ => hN q, fun z => absurd z q⟩, fun q => ⟨fun z => ?_, fun z => ?_⟩⟩
        · rcases c2 with ⟨rfl, c2⟩ | ⟨rfl, c2⟩
          · exact absurd z r1n
          · obtain ⟨h1, h2⟩ := (ha q).2 c2
            exact ⟨fun y => absurd q y, fun _ => ⟨h2, fun y => s_X11_anew (h1 y)⟩⟩
        · rcases c2 with ⟨rfl, c2⟩ | ⟨rfl, c2⟩
          · refine ⟨in2 c2, ?_⟩
            intro f hf
            rw [hf]
            exact s_X11_anew ((ha q).1 c2)
          · exact absurd rfl z
      exact ⟨fun _ => ⟨fun _ => ⟨fun _ => j102, fun z => absurd rfl z⟩, fun z => absurd rfl z⟩, fun z => absurd rfl z⟩
  have j17 : ∀ t1 : Int32, (t1 = 1 ∧ ixP n x1 ∨ t1 = 0 ∧ ¬ ixP n x1) → vJ_X11_table_39 (nI n) s11_ticks s11_hand s11_g s11_beganElsewhere s11_dBefore s11_fBefore s11_fFirst aa b e hh a11_sums a11_on a11_often x1 x2 x3 K t1 := by
    intro t1 c1
    refine ⟨fun q => key t1 0 c1 (Or.inr ⟨rfl, ixP_no (by omega) (Or.inl q)⟩), fun q => ⟨fun q2 => key t1 0 c1 (Or.inr ⟨rfl, ixP_no (by omega) (Or.inr q2)⟩), fun q2 => key t1 1 c1 (Or.inl ⟨rfl, ixP_yes (by omega) q q2⟩)⟩⟩
  exact ⟨fun q => absurd hk q, fun _ => ⟨fun q => absurd q ht.1, fun _ => ⟨fun _ => ⟨fun q => j17 0 (Or.inr ⟨rfl, ixP_no (by omega) (Or.inl q)⟩), fun q => ⟨fun q2 => j17 0 (Or.inr ⟨rfl, ixP_no (by omega) (Or.inr q2)⟩), fun q2 => j17 1 (Or.inl ⟨rfl, ixP_yes (by omega) q q2⟩)⟩⟩, fun q => absurd (Int32.not_lt.mp ht.2) q⟩⟩⟩
theorem op_table {s3_next s3_kept s4_ticks s4_secondBefore s4_thirdBefore s4_thirdTwoBefore s5_kind s8_sums s8_g s9_hand s11_kind s11_many s11_ticks s11_hand s11_g s11_beganElsewhere s11_dBefore s11_fBefore s11_fFirst s5_sums s7_count s9_parts s9_rule s11_partMany s11_rule x1 x2 x3 : Int32} {s4_firstBeganWith : Int64} {a4_sums a11_sums a3_sums a11_firstSum : Nat → Int64} {a8_a a8_b a8_e a8_h a9_isOn a9_timesOn a11_a a11_b a11_e a11_h a11_on a11_often a7_values a3_wishes a3_givens a3_totals a11_wished a11_given : Nat → Int32} {T : Nat} (hQK : QK s5_kind s5_sums s8_sums s8_g a8_a a8_b a8_e a8_h s11_kind s11_many s11_g a11_a a11_b a11_e a11_h) (hQL : QL T s5_kind s5_sums s7_count a7_values s3_next s3_kept s4_ticks s4_firstBeganWith s4_secondBefore s4_thirdBefore s4_thirdTwoBefore a4_sums a3_wishes a3_givens a3_sums a3_totals s11_ticks s11_beganElsewhere s11_dBefore s11_fBefore s11_fFirst a11_sums a11_wished a11_given a11_firstSum) (hQW : QW s5_kind s9_parts s9_rule s9_hand a9_isOn a9_timesOn s11_partMany s11_rule s11_hand a11_on a11_often) (hT : T + 10000 < 1073741824) : v_X10_table s3_next s3_kept s4_ticks s4_firstBeganWith s4_secondBefore s4_thirdBefore s4_thirdTwoBefore s5_kind s8_sums s8_g s9_hand a4_sums a8_a a8_b a8_e a8_h a9_isOn a9_timesOn x1 x2 x3 (fun r s3_next' s3_kept' s4_ticks' s4_firstBeganWith' s4_secondBefore' s4_thirdBefore' s4_thirdTwoBefore' s8_g' s9_hand' a4_sums' a8_a' a8_b' a8_e' a8_h' a9_isOn' a9_timesOn' => v_X11_table s11_kind s11_many s11_ticks s11_hand s11_g s11_beganElsewhere s11_dBefore s11_fBefore s11_fFirst a11_a a11_b a11_e a11_h a11_sums a11_on a11_often x1 x2 x3 (fun r' s11_ticks' s11_hand' s11_g' s11_beganElsewhere' s11_dBefore' s11_fBefore' s11_fFirst' a11_a' a11_b' a11_e' a11_h' a11_sums' a11_on' a11_often' => r = r' ∧ QK s5_kind s5_sums s8_sums s8_g' a8_a' a8_b' a8_e' a8_h' s11_kind s11_many s11_g' a11_a' a11_b' a11_e' a11_h' ∧ QW s5_kind s9_parts s9_rule s9_hand' a9_isOn' a9_timesOn' s11_partMany s11_rule s11_hand' a11_on' a11_often' ∧ QL T s5_kind s5_sums s7_count a7_values s3_next' s3_kept' s4_ticks' s4_firstBeganWith' s4_secondBefore' s4_thirdBefore' s4_thirdTwoBefore' a4_sums' a3_wishes a3_givens a3_sums a3_totals s11_ticks' s11_beganElsewhere' s11_dBefore' s11_fBefore' s11_fFirst' a11_sums' a11_wished a11_given a11_firstSum)) := by
  have same := hQK
  obtain ⟨n, k1, k2, k3, k4, k5, ka, kb, ke, kh, kt⟩ := hQK
  subst k1
  refine ⟨fun q => ⟨fun _ => ⟨rfl, same, hQW, hQL⟩, fun z => absurd z q⟩, fun hk => ?_⟩
  obtain ⟨hts, hg, ea, eb, ee, eh⟩ := kt hk
  subst hg ea eb ee eh
  have h4 := k4.2.1
  have kq : ∀ (g : Int32) (aa b e hh : Nat → Int32), QK s5_kind s5_sums s8_sums g aa b e hh s5_kind s11_many g aa b e hh := fun g aa b e hh => ⟨n, rfl, k2, k3, k4, k5, fun _ _ => rfl, fun _ _ => rfl, fun _ _ => rfl, fun _ _ => rfl, fun _ => ⟨hts, rfl, rfl, rfl, rfl, rfl⟩⟩
  refine s_X10_isWithin (fun hw => ⟨fun _ => ?_, fun z => absurd z r1n⟩) (fun hw => ⟨fun z => absurd rfl z, fun _ => ⟨fun z => absurd hk z, fun _ => ⟨fun _ => ⟨rfl, same, hQW, hQL⟩, fun y => ⟨fun y2 => ?_, fun _ => ⟨rfl, same, hQW, hQL⟩⟩⟩⟩⟩)
  · have no : ∀ K : Prop, K → True := fun _ _ => trivial
    refine s_X8_put hts h4 ⟨fun r => ⟨fun c => ?_, fun c => ⟨fun q4 => ?_, fun q4 => ⟨fun q5 => ?_, fun q5 => ?_⟩⟩⟩, fun r => ⟨fun q => ⟨fun c => ?_, fun c => ⟨fun q4 => ?_, fun q4 => ?_⟩⟩, fun q => ?_⟩⟩
    · refine ⟨fun _ => s_X4_beginAnew (s_X11_table k3 h4 hk hw ⟨fun _ => ⟨fun _ => ⟨rfl, kq _ _ _ _ _, QW_anew hQW, QL_anew hQL⟩, fun z => absurd c z⟩, fun z => absurd r z⟩), fun z => absurd z r1n⟩
    · refine ⟨fun _ => s_X4_beginAnew (s_X11_table k3 h4 hk hw ⟨fun _ => ⟨fun z => absurd z c, fun _ => ⟨fun _ => ⟨rfl, kq _ _ _ _ _, QW_anew hQW, QL_anew hQL⟩, fun z => absurd q4 z⟩⟩, fun z => absurd r z⟩), fun z => absurd z r1n⟩
    · refine ⟨fun _ => s_X4_beginAnew (s_X11_table k3 h4 hk hw ⟨fun _ => ⟨fun z => absurd z c, fun _ => ⟨fun z => absurd z q4, fun _ => ⟨fun _ => ⟨rfl, kq _ _ _ _ _, QW_anew hQW, QL_anew hQL⟩, fun z => absurd q5 z⟩⟩⟩, fun z => absurd r z⟩), fun z => absurd z r1n⟩
    · refine ⟨fun z => absurd rfl z, fun _ => s_X11_table k3 h4 hk hw ⟨fun _ => ⟨fun z => absurd z c, fun _ => ⟨fun z => absurd z q4, fun _ => ⟨fun z => absurd z q5, fun _ => ⟨rfl, same, hQW, hQL⟩⟩⟩⟩, fun z => absurd r z⟩⟩
    · refine ⟨fun _ => s_X4_beginAnew (s_X11_table k3 h4 hk hw ⟨fun z => absurd z r, fun _ => ⟨fun _ => ⟨fun _ => ⟨rfl, kq _ _ _ _ _, QW_anew hQW, QL_anew hQL⟩, fun z => absurd c z⟩, fun z => absurd q z⟩⟩), fun z => absurd z r1n⟩
    · refine ⟨fun _ => s_X4_beginAnew (s_X11_table k3 h4 hk hw ⟨fun z => absurd z r, fun _ => ⟨fun _ => ⟨fun z => absurd z c, fun _ => ⟨fun _ => ⟨rfl, kq _ _ _ _ _, QW_anew hQW, QL_anew hQL⟩, fun z => absurd q4 z⟩⟩, fun z => absurd q z⟩⟩), fun z => absurd z r1n⟩
    · refine ⟨fun z => absurd rfl z, fun _ => s_X11_table k3 h4 hk hw ⟨fun z => absurd z r, fun _ => ⟨fun _ => ⟨fun z => absurd z c, fun _ => ⟨fun z => absurd z q4, fun _ => ⟨rfl, same, hQW, hQL⟩⟩⟩, fun z => absurd q z⟩⟩⟩
    · refine ⟨fun z => absurd rfl z, fun _ => s_X11_table k3 h4 hk hw ⟨fun z => absurd z r, fun _ => ⟨fun z => absurd z q, fun _ => ⟨rfl, same, hQW, hQL⟩⟩⟩⟩
  · exfalso
    exact hw ⟨y, fun z => absurd y2 (Int32.not_le.mpr z)⟩
