/-! pure: how many rows a range of wishes gives -/
theorem s_X1_roomAbove {ov cn : Int32} {vals : Nat → Int32} {x1 : Int64} {n c : Nat} {K : Int64 → Prop} (hc : cn = nI c) (c2 : 2 ≤ c) (c8 : c ≤ 8) (hs : stpP vals c) (ho : ovP ov) (n64 : n ≤ 64) (hw1 : -1100000 ≤ x1.toInt) (hw2 : x1.toInt ≤ 1100000) (h : ∀ r : Int64, r.toInt = rmI vals ov c x1.toInt n → K r) : v_X1_roomAbove ov cn vals x1 (nI n) K := by
  have sb := sI_b hs ho (show 1 ≤ c by omega) hw1 hw2
  have t2000 : (2000 : Int64).toInt = 2000 := by decide
  refine vfix_ex (fun y : Int32 × Int64 × Int64 => ∃ k : Nat, y.1 = nI (k + 1) ∧ k ≤ n ∧ y.2.1.toInt = sI vals ov c x1.toInt k ∧ y.2.2.toInt = rmI vals ov c x1.toInt k) (fun y => n + 1 - y.1.toNatClampNeg) ?_ _ ⟨0, rfl, by omega, t64_0, t2000⟩
  rintro bk ⟨y, s, rm⟩ ⟨k, hy1, hkn, hsm, hrm⟩ hbk
  dsimp only at hy1 hsm hrm
  subst hy1
  unfold vF_X1_roomAbove_11 vB_X1_roomAbove_11
  dsimp only
  refine ⟨fun z => ?_, fun z => ?_⟩
  · have z := (nI_lt_iff (by omega) (by omega)).mp z
    have : k = n := by omega
    subst this
    exact h rm hrm
  · have z : k < n := by
      rcases Nat.lt_or_ge k n with y | y
      · exact y
      · exact absurd ((nI_lt_iff (by omega) (by omega)).mpr (by omega)) z
    have b0 := sb k
    intro e4 he4
    have e4i : e4.toInt = sI vals ov c x1.toInt k + x1.toInt := by rw [he4, i64_add (by omega) (by omega), hsm]
    refine s_X7_placeFor hc (by omega) c8 ?_
    have ep : plF vals ov e4 (c - 1) = pI vals ov c x1.toInt k := by rw [pl_FI hs ho e4 (c - 1) (by omega), e4i]; rfl
    rw [ep]
    have plt := pI_lt (ov := ov) (vals := vals) (show 1 ≤ c by omega) x1.toInt k
    have rst : rmI vals ov c x1.toInt (k + 1) = if pI vals ov c x1.toInt k + 1 < c then (if qI vals ov c x1.toInt k < rmI vals ov c x1.toInt k then qI vals ov c x1.toInt k else rmI vals ov c x1.toInt k) else rmI vals ov c x1.toInt k := rfl
    have est : sI vals ov c x1.toInt (k + 1) = sI vals ov c x1.toInt k + x1.toInt - fI vals ov (pI vals ov c x1.toInt k) := rfl
    have qe : qI vals ov c x1.toInt k = (fI vals ov (pI vals ov c x1.toInt k + 1) - 1 - (sI vals ov c x1.toInt k + x1.toInt)) / ((k : Int) + 1) := rfl
    have fb := fI_b hs ho plt
    have fe := (fi_int ho (hs.1 _ plt)).1
    generalize pI vals ov c x1.toInt k = p at plt rst est qe fb fe
    have tl : ∀ rm' : Int64, rm'.toInt = rmI vals ov c x1.toInt (k + 1) → vJ_X1_roomAbove_77 ov vals (nI (k + 1)) (fun z0 z1 z2 => bk (z0, z1, z2)) e4 (nI p) rm' := by
      intro rm' hrm'
      refine s_X7_fineAt (by omega) ?_
      intro e9 he9 i10 hi10
      have fe' : ((vals p).toInt64 * ov.toInt64).toInt = fI vals ov p := fe
      have e9i : e9.toInt = sI vals ov c x1.toInt (k + 1) := by rw [he9, i64_sub (by rw [fe']; omega) (by rw [fe']; omega), fe', e4i, est]
      rw [hi10, nI_1]
      refine hbk _ ⟨k + 1, rfl, by omega, e9i, hrm'⟩ ?_
      dsimp only
      rw [nI_cl (by omega), nI_cl (by omega)]
      omega
    intro e6 he6
    rw [nI_1] at he6
    subst he6
    have cc : cn ≤ nI (p + 1) ↔ c ≤ p + 1 := by rw [hc]; exact nI_le_iff (by omega) (by omega)
    refine ⟨fun w => tl rm ?_, fun w => ?_⟩
    · have w := cc.mp w
      rw [rst, if_neg (by omega)]
      exact hrm
    · have w : p + 1 < c := by
        rcases Nat.lt_or_ge (p + 1) c with y | y
        · exact y
        · exact absurd (cc.mpr y) w
      have fb2 := fI_b hs ho w
      have fe2 : ((vals (p + 1)).toInt64 * ov.toInt64).toInt = fI vals ov (p + 1) := (fi_int ho (hs.1 _ w)).1
      intro e11 he11
      rw [nI_1] at he11
      subst he11
      refine s_X7_fineAt (by omega) ?_
      intro e13 he13 e14 he14
      have e13i : e13.toInt = fI vals ov (p + 1) - 1 := by rw [he13, i64_sub (by rw [fe2, t64_1]; omega) (by rw [fe2, t64_1]; omega), fe2, t64_1]
      have e14i : e14.toInt = fI vals ov (p + 1) - 1 - (sI vals ov c x1.toInt k + x1.toInt) := by rw [he14, i64_sub (by omega) (by omega), e13i, e4i]
      have lp := lN_pos (show k < 1000 by omega)
      rw [nI_l (by omega)]
      refine s_floorDiv lp (by omega) ?_
      intro r15 hr15 e16 he16
      refine tl e16 ?_
      have r15i : r15.toInt = qI vals ov c x1.toInt k := by
        rw [hr15, e14i, pk_lT (by omega), qe]
        rfl
      rw [rst, if_pos w, he16]
      by_cases cq : r15 < rm
      · have cq' := cq
        rw [Int64.lt_iff_toInt_lt, r15i, hrm] at cq'
        rw [if_pos cq, if_pos cq', r15i]
      · have cq' := cq
        rw [Int64.lt_iff_toInt_lt, r15i, hrm] at cq'
        rw [if_neg cq, if_neg cq', hrm]
theorem s_X1_countRows {ov cn x2 x3 : Int32} {vals : Nat → Int32} {n c M : Nat} {K : Int32 → Prop} (hc : cn = nI c) (c2 : 2 ≤ c) (c8 : c ≤ 8) (hs : stpP vals c) (ho : ovP ov) (n64 : n ≤ 64) (hx2 : wishP x2) (M1 : 1 ≤ M) (hM : M ≤ 2001) (hx3 : x3.toInt = x2.toInt + M - 1) (h : K (nI (cC vals ov c n x2.toInt M))) : v_X1_countRows ov cn vals (nI n) x2 x3 K := by
  have wb := wish_i hx2
  have cl := cC_le (vals := vals) (ov := ov) (c := c) (n := n) (w0 := x2.toInt)
  refine vfix_ex (fun y : Int32 × Int64 × Int32 => ∃ i d : Nat, y.1 = nI d ∧ y.2.2 = nI d ∧ d ≤ 2001 ∧ i ≤ 4002 ∧ y.2.1.toInt = x2.toInt + i ∧ ((i < M ∧ d = cC vals ov c n x2.toInt i ∧ chP vals ov c n x2.toInt i) ∨ (M ≤ i ∧ d = cC vals ov c n x2.toInt M))) (fun y => (x3.toInt + 1 - y.2.1.toInt).toNat) ?_ _ ⟨0, 0, rfl, rfl, by omega, by omega, by dsimp only; rw [Int32.toInt_toInt64]; omega, Or.inl ⟨by omega, rfl, Or.inl rfl⟩⟩
  rintro bk ⟨y, wi, rw'⟩ ⟨i, d, hy1, hy2, d1, i1, hwi, hor⟩ hbk
  dsimp only at hy1 hy2 hwi
  subst hy1 hy2
  unfold vF_X1_countRows_10 vB_X1_countRows_10
  dsimp only
  refine ⟨fun z => ?_, fun z => ⟨fun w => ?_, fun w => ?_⟩⟩
  · have z := (nI_lt_iff (a := 2000) (by omega) (by omega)).mp z
    rcases hor with ⟨a, b, e⟩ | ⟨a, b⟩
    · have := cl i
      omega
    · rw [b]; exact h
  · rw [Int64.lt_iff_toInt_lt, Int32.toInt_toInt64, hwi] at w
    rcases hor with ⟨a, b, e⟩ | ⟨a, b⟩
    · omega
    · rw [b]; exact h
  · rw [Int64.lt_iff_toInt_lt, Int32.toInt_toInt64, hwi] at w
    rcases hor with ⟨a, b, e⟩ | ⟨a, b⟩
    · intro i4 hi4
      rw [nI_1] at hi4
      refine s_X1_roomAbove hc c2 c8 hs ho n64 (by omega) (by omega) ?_
      intro r hr e6 he6 e7 he7 i8 hi8
      rw [hwi] at hr
      have rb := rm_b (vals := vals) (ov := ov) (c := c) (w := x2.toInt + (i : Int)) n
      obtain ⟨R, hR⟩ : ∃ R : Nat, (R : Int) = rmI vals ov c (x2.toInt + (i : Int)) n := ⟨(rmI vals ov c (x2.toInt + (i : Int)) n).toNat, by omega⟩
      obtain ⟨j1, j2⟩ := room_jump hs ho (show 1 ≤ c by omega) hR e
      have e6i : e6.toInt = 1 + (R : Int) := by rw [he6, i64_add (by rw [t64_1]; omega) (by rw [t64_1]; omega), t64_1, hr, hR]
      have e7i : e7.toInt = x2.toInt + ((i + 1 + R : Nat) : Int) := by rw [he7, i64_add (by omega) (by omega), hwi, e6i]; omega
      have ci := cl i
      rw [hi8, nI_1, hi4]
      refine hbk _ ⟨i + 1 + R, d + 1, rfl, rfl, by omega, by omega, e7i, ?_⟩ ?_
      · rcases Nat.lt_or_ge (i + 1 + R) M with y | y
        · exact Or.inl ⟨y, by rw [j1 R (Nat.le_refl R), b], j2 (by omega)⟩
        · refine Or.inr ⟨y, ?_⟩
          have := j1 (M - (i + 1)) (by omega)
          have em : i + 1 + (M - (i + 1)) = M := by omega
          rw [em] at this
          rw [this, b]
      · dsimp only
        rw [e7i, hwi]
        omega
    · omega
theorem s_add_sub (s w f : Int64) : s + (w - f) = s + w - f := by
  apply Int64.toBitVec_inj.mp
  simp only [Int64.toBitVec_add, Int64.toBitVec_sub]
  bv_omega
theorem s_range_67 {ov cn w l4 t7 : Int32} {vals row : Nat → Int32} {n c : Nat} {bk : Int32 → Int32 → (Nat → Int32) → Prop} (hc : cn = nI c) (c2 : 2 ≤ c) (c8 : c ≤ 8) (hs : stpP vals c) (ho : ovP ov) (n1 : 1 ≤ n) (n64 : n ≤ 64) (hw1 : -1100000 ≤ w.toInt) (hw2 : w.toInt ≤ 1100000) (ht : t7 = 0 ∨ (t7 = 1 ∧ ∀ k, k < n → row k = vals (pI vals ov c (w.toInt - 1) k)))
    (hy : t7 = 1 → (∀ k, k < n → pI vals ov c (w.toInt - 1) k = pI vals ov c w.toInt k) → ∀ row', (∀ k, k < n → row' k = vals (pI vals ov c w.toInt k)) → bk (w + 1) l4 row')
    (hno : (t7 = 0 ∨ ¬ ∀ k, k < n → pI vals ov c (w.toInt - 1) k = pI vals ov c w.toInt k) → ∀ row', (∀ k, k < n → row' k = vals (pI vals ov c w.toInt k)) → bk (w + 1) (l4 + 1) row') : vJ_X11_range_67 ov cn vals (nI n) w l4 row bk t7 := by
  have sb := sI_b hs ho (show 1 ≤ c by omega) hw1 hw2
  have inj : ∀ a b : Nat, a < c → b < c → vals a = vals b → a = b := by
    intro a b ha hb e
    rcases Nat.lt_trichotomy a b with z | z | z
    · have := st_mono hs z hb
      rw [e] at this
      omega
    · exact z
    · have := st_mono hs z ha
      rw [e] at this
      omega
  refine vfix_ex (fun y : Int32 × Int32 × Int64 × (Nat → Int32) => ∃ k : Nat, y.1 = nI k ∧ k ≤ n ∧ y.2.2.1.toInt = sI vals ov c w.toInt k ∧ (∀ j, j < k → y.2.2.2 j = vals (pI vals ov c w.toInt j)) ∧ (t7 = 1 → ∀ j, k ≤ j → j < n → y.2.2.2 j = vals (pI vals ov c (w.toInt - 1) j)) ∧ ((y.2.1 = 1 ∧ t7 = 1 ∧ ∀ j, j < k → pI vals ov c (w.toInt - 1) j = pI vals ov c w.toInt j) ∨ (y.2.1 = 0 ∧ (t7 = 0 ∨ ¬ ∀ k, k < n → pI vals ov c (w.toInt - 1) k = pI vals ov c w.toInt k)))) (fun y => n - y.1.toNatClampNeg) ?_ _ ⟨0, rfl, by omega, t64_0, fun j hj => by omega, fun h1 j _ hj => ?_, ?_⟩
  · rintro bk2 ⟨y, sa, s, ro⟩ ⟨k, hy1, hkn, hsm, hlo, hhi, hd⟩ hbk
    dsimp only at hy1 hsm hlo hhi hd
    subst hy1
    unfold vF_X11_range_72 vB_X11_range_72
    dsimp only
    refine ⟨fun z => ?_, fun z => ?_⟩
    · have z : n ≤ k := (nI_le_iff (by omega) (by omega)).mp z
      have hrow : ∀ j, j < n → ro j = vals (pI vals ov c w.toInt j) := fun j hj => hlo j (by omega)
      rcases hd with ⟨rfl, h1, hall⟩ | ⟨rfl, hx⟩
      · refine ⟨fun y => absurd y r1n, fun _ => ?_⟩
        intro e13 he13 i14 hi14
        rw [hi14, he13, Int32.add_zero]
        exact hy h1 (fun j hj => hall j (by omega)) ro hrow
      · refine ⟨fun _ => ?_, fun y => absurd rfl y⟩
        intro e13 he13 i14 hi14
        rw [hi14, he13]
        exact hno hx ro hrow
    · have z : k < n := by
        rcases Nat.lt_or_ge k n with y | y
        · exact y
        · exact absurd ((nI_le_iff (by omega) (by omega)).mpr y) z
      have b0 := sb k
      intro e15 he15
      have e15i : e15.toInt = sI vals ov c w.toInt k + w.toInt := by rw [he15, i64_add (by rw [Int32.toInt_toInt64]; omega) (by rw [Int32.toInt_toInt64]; omega), hsm, Int32.toInt_toInt64]
      refine s_X11_stepFor hc (by omega) c8 ?_
      have ep : stF vals ov c e15 = vals (pI vals ov c w.toInt k) := by
        unfold stF
        rw [pl_FI hs ho e15 (c - 1) (by omega), e15i]
        rfl
      rw [ep]
      have plt := pI_lt (ov := ov) (vals := vals) (show 1 ≤ c by omega) w.toInt k
      have fb := fI_b hs ho plt
      have fe : ((vals (pI vals ov c w.toInt k)).toInt64 * ov.toInt64).toInt = fI vals ov (pI vals ov c w.toInt k) := (fi_int ho (hs.1 _ plt)).1
      have est : sI vals ov c w.toInt (k + 1) = sI vals ov c w.toInt k + w.toInt - fI vals ov (pI vals ov c w.toInt k) := rfl
      intro e17 he17 e18 he18 e19 he19
      have e19v : e19 = e15 - e17 := by rw [he19, he18, s_add_sub, ← he15]
      have e19i : e19.toInt = sI vals ov c w.toInt (k + 1) := by rw [e19v, he17, i64_sub (by rw [fe]; omega) (by rw [fe]; omega), fe, e15i, est]
      have nx : ∀ t20 : Int32, ((t20 = 1 ∧ t7 = 1 ∧ ∀ j, j < k + 1 → pI vals ov c (w.toInt - 1) j = pI vals ov c w.toInt j) ∨ (t20 = 0 ∧ (t7 = 0 ∨ ¬ ∀ k, k < n → pI vals ov c (w.toInt - 1) k = pI vals ov c w.toInt k))) → vJ_X11_range_130 (nI k) ro (fun z0 z1 z2 z3 => bk2 (z0, z1, z2, z3)) (vals (pI vals ov c w.toInt k)) e19 t20 := by
        intro t20 ht20
        refine ⟨nI_inI (by omega) (by decide), ?_⟩
        intro ro2 hro2 i22 hi22
        rw [nI_cl (by omega)] at hro2
        rw [hi22, nI_1]
        refine hbk _ ⟨k + 1, rfl, by omega, e19i, fun j hj => ?_, fun h1 j hj hjn => ?_, ht20⟩ ?_
        · dsimp only
          rw [hro2]
          by_cases ej : j = k
          · rw [ej, upd_self]
          · rw [upd_else _ _ _ _ ej]
            exact hlo j (by omega)
        · dsimp only
          rw [hro2, upd_else _ _ _ _ (by omega)]
          exact hhi h1 j (by omega) hjn
        · dsimp only
          rw [nI_cl (by omega), nI_cl (by omega)]
          omega
      rcases hd with ⟨rfl, h1, hall⟩ | ⟨rfl, hx⟩
      · refine ⟨fun y => absurd y r1n, fun _ => ⟨nI_inI (by omega) (by decide), ?_⟩⟩
        intro g23 hg23
        rw [nI_cl (by omega), hhi h1 k (by omega) z] at hg23
        subst hg23
        have plt' := pI_lt (ov := ov) (vals := vals) (show 1 ≤ c by omega) (w.toInt - 1) k
        refine ⟨fun q => nx 0 (Or.inr ⟨rfl, Or.inr (fun h => q (by rw [h k z]))⟩), fun q => nx 1 (Or.inl ⟨rfl, h1, fun j hj => ?_⟩)⟩
        by_cases ej : j = k
        · rw [ej]
          exact inj _ _ plt' plt q
        · exact hall j (by omega)
      · exact ⟨fun _ => nx 0 (Or.inr ⟨rfl, hx⟩), fun y => absurd rfl y⟩
  · rcases ht with q | ⟨-, q⟩
    · rw [q] at h1
      exact absurd h1.symm r1n
    · exact q j hj
  · rcases ht with q | ⟨q, -⟩
    · exact Or.inr ⟨q, Or.inl q⟩
    · exact Or.inl ⟨q, q, fun j hj => by omega⟩
theorem s_range_47 {ov cn x2 x3 : Int32} {vals row : Nat → Int32} {n c M : Nat} {K : Int32 → (Nat → Int32) → Prop} (hc : cn = nI c) (c2 : 2 ≤ c) (c8 : c ≤ 8) (hs : stpP vals c) (ho : ovP ov) (n1 : 1 ≤ n) (n64 : n ≤ 64) (hx2 : wishP x2) (M1 : 1 ≤ M) (hM : M ≤ 2001) (hx3 : x3.toInt = x2.toInt + M - 1) (h : ∀ row', K (nI (cC vals ov c n x2.toInt M)) row') : ∃ nn, vfix (vF_X11_range_47 ov cn vals (nI n) x2 x3 K) nn (x2, (0 : Int32), row) := by
  have wb := wish_i hx2
  refine vfix_ex (fun y : Int32 × Int32 × (Nat → Int32) => ∃ i : Nat, y.1 = x2 + nI i ∧ i ≤ M ∧ y.2.1 = nI (cC vals ov c n x2.toInt i) ∧ (0 < i → ∀ k, k < n → y.2.2 k = vals (pI vals ov c (x2.toInt + (i : Int) - 1) k))) (fun y => (x3.toInt + 1 - y.1.toInt).toNat) ?_ _ ⟨0, (Int32.add_zero x2).symm, by omega, rfl, fun q => by omega⟩
  rintro bk ⟨y, ct, ro⟩ ⟨i, hy1, hiM, hct, hro⟩ hbk
  dsimp only at hy1 hct hro
  subst hy1 hct
  have iv := wv_int hx2 (show i ≤ 2000001 by omega)
  have cl := cC_le (vals := vals) (ov := ov) (c := c) (n := n) (w0 := x2.toInt) i
  unfold vF_X11_range_47 vB_X11_range_47
  dsimp only
  refine ⟨fun z => ?_, fun z => ?_⟩
  · rw [Int32.lt_iff_toInt_lt, iv] at z
    have : i = M := by omega
    subst this
    exact h ro
  · rw [Int32.lt_iff_toInt_lt, iv] at z
    have z : i < M := by omega
    have iv1 := wv_int hx2 (show i + 1 ≤ 2000001 by omega)
    have go : ∀ (d : Nat) (l4 : Int32) (row' : Nat → Int32), l4 = nI (cC vals ov c n x2.toInt (i + 1)) → (∀ k, k < n → row' k = vals (pI vals ov c (x2.toInt + (i : Int)) k)) → bk (x2 + nI i + 1, l4, row') := by
      intro d l4 row' hl4 hrow'
      rw [wv_1]
      refine hbk _ ⟨i + 1, rfl, by omega, hl4, fun _ k hk => ?_⟩ ?_
      · dsimp only
        rw [hrow' k hk]
        have e : x2.toInt + ((i + 1 : Nat) : Int) - 1 = x2.toInt + (i : Int) := by omega
        rw [e]
      · dsimp only
        rw [iv, iv1]
        omega
    have cs : cC vals ov c n x2.toInt (i + 1) = cC vals ov c n x2.toInt i + (if chP vals ov c n x2.toInt i then 1 else 0) := rfl
    have j67 : ∀ t7 : Int32, (t7 = 0 ∧ i = 0 ∨ t7 = 1 ∧ 0 < i) → vJ_X11_range_67 ov cn vals (nI n) (x2 + nI i) (nI (cC vals ov c n x2.toInt i)) ro (fun z0 z1 z2 => bk (z0, z1, z2)) t7 := by
      intro t7 ht7
      refine s_range_67 hc c2 c8 hs ho n1 n64 (by omega) (by omega) ?_ (fun h1 hall row' hrow' => ?_) (fun hx row' hrow' => ?_)
      · rcases ht7 with ⟨q, -⟩ | ⟨q, q2⟩
        · exact Or.inl q
        · refine Or.inr ⟨q, fun k hk => ?_⟩
          rw [iv]
          exact hro q2 k hk
      · rw [iv] at hall hrow'
        refine go 0 _ _ ?_ hrow'
        rcases ht7 with ⟨q, -⟩ | ⟨q, q2⟩
        · rw [q] at h1
          exact absurd h1.symm r1n
        · rw [cs, if_neg (fun y => by
            rcases y with y | y
            · omega
            · exact y hall)]
          rfl
      · rw [iv] at hx hrow'
        refine go 0 _ _ ?_ hrow'
        have ch : chP vals ov c n x2.toInt i := by
          rcases ht7 with ⟨q, q2⟩ | ⟨q, q2⟩
          · exact Or.inl q2
          · rcases hx with y | y
            · rw [q] at y
              exact absurd y r1n
            · exact Or.inr y
        rw [cs, if_pos ch]
        exact nI_1 _
    refine ⟨fun q => j67 0 (Or.inl ⟨rfl, ?_⟩), fun q => j67 1 (Or.inr ⟨rfl, ?_⟩)⟩
    · rw [Int32.le_iff_toInt_le, iv] at q
      omega
    · rw [Int32.le_iff_toInt_le, iv] at q
      omega
theorem op_range {s7_over s7_count s11_d s11_stepMany x1 x2 x3 : Int32} {a7_values a11_steps a11_rowNow : Nat → Int32} (hQS : QS s7_over s7_count a7_values s11_d s11_stepMany a11_steps) : v_X10_range s7_over s7_count a7_values x1 x2 x3 (fun r => v_X11_range s11_d s11_stepMany a11_steps a11_rowNow x1 x2 x3 (fun r' a11_rowNow' => r = r')) := by
  obtain ⟨c, s1, s2, s3, s4, s5, s6, s7, s8⟩ := hQS
  subst s5 s6
  refine ⟨fun q1 => ⟨fun _ => rfl, fun z => absurd q1 z⟩, fun q1 => ⟨fun q2 => ⟨fun z => absurd z q1, fun _ => ⟨fun _ => rfl, fun z => absurd q2 z⟩⟩, fun q2 => ?_⟩⟩
  refine s_X10_isWish (fun w2 => ⟨fun z => absurd z r1n, fun _ => ?_⟩) (fun w2 => ⟨fun _ => ⟨fun z => absurd z q1, fun _ => ⟨fun z => absurd z q2, fun _ => s_X11_isWish (fun z => absurd z w2) (fun _ => ⟨fun _ => rfl, fun z => absurd rfl z⟩)⟩⟩, fun z => absurd rfl z⟩)
  refine s_X10_isWish (fun w3 => ⟨fun _ => ?_, fun z => absurd z r1n⟩) (fun w3 => ⟨fun z => absurd rfl z, fun _ => ⟨fun z => absurd z q1, fun _ => ⟨fun z => absurd z q2, fun _ => s_X11_isWish (fun _ => ⟨fun z => absurd z r1n, fun _ => s_X11_isWish (fun z => absurd z w3) (fun _ => ⟨fun _ => rfl, fun z => absurd rfl z⟩)⟩) (fun z => absurd w2 z)⟩⟩⟩)
  have rf : ∀ K : Int32 → (Nat → Int32) → Prop, ((x3 < x2 → K (-1) a11_rowNow) ∧ (¬ x3 < x2 → (∀ e3 : Int32, e3 = x3 - x2 → ((e3 ≤ (2000 : Int32) → (∃ nn, vfix (vF_X11_range_47 s7_over s11_stepMany a7_values x1 x2 x3 K) nn (x2, (0 : Int32), a11_rowNow))) ∧ (¬ e3 ≤ (2000 : Int32) → K (-1) a11_rowNow))))) → v_X11_range s7_over s11_stepMany a7_values a11_rowNow x1 x2 x3 K := by
    intro K hK
    refine ⟨fun z => absurd z q1, fun _ => ⟨fun z => absurd z q2, fun _ => ?_⟩⟩
    refine s_X11_isWish (fun _ => ⟨fun z => absurd z r1n, fun _ => ?_⟩) (fun z => absurd w2 z)
    exact s_X11_isWish (fun _ => ⟨fun z => absurd z r1n, fun _ => hK⟩) (fun z => absurd w3 z)
  refine ⟨fun q3 => rf _ ⟨fun _ => rfl, fun z => absurd q3 z⟩, fun q3 => ?_⟩
  intro e3 he3
  refine ⟨fun q4 => ?_, fun q4 => rf _ ⟨fun z => absurd z q3, fun _ e3' he3' => ⟨fun z => absurd (by rw [he3, ← he3']; exact z) q4, fun _ => rfl⟩⟩⟩
  have a2 := wish_i w2
  have a3 := wish_i w3
  have t2000 : (2000 : Int32).toInt = 2000 := by decide
  have t64 : (64 : Int32).toInt = 64 := by decide
  have q3' := q3
  have q4' := q4
  rw [Int32.lt_iff_toInt_lt] at q3'
  rw [he3, Int32.le_iff_toInt_le, i32_sub (by omega) (by omega), t2000] at q4'
  have q1' := q1
  have q2' := q2
  rw [Int32.lt_iff_toInt_lt, t32_1] at q1'
  rw [Int32.lt_iff_toInt_lt, t64] at q2'
  have hx1 : x1 = nI x1.toInt.toNat := nI_tn (by omega)
  generalize hn : x1.toInt.toNat = n at hx1
  have n1 : 1 ≤ n := by omega
  have n64 : n ≤ 64 := by omega
  subst hx1
  refine s_X1_countRows (M := (x3.toInt - x2.toInt + 1).toNat) s1 s3 s4 s8 s7 n64 w2 (by omega) (by omega) (by omega) ?_
  refine rf _ ⟨fun z => absurd z q3, fun _ e3' he3' => ⟨fun _ => ?_, fun z => absurd (by rw [he3', ← he3]; exact q4) z⟩⟩
  exact s_range_47 (M := (x3.toInt - x2.toInt + 1).toNat) s2 s3 s4 s8 s7 n1 n64 w2 (by omega) (by omega) (by omega) (fun row' => rfl)
