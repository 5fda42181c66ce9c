/-! pure: even stretches -/
def psI (f : Nat → Int) : Nat → Int
  | 0 => 0
  | k + 1 => psI f k + f k
theorem ps_b {f : Nat → Int} (h : ∀ k, -700 ≤ f k ∧ f k ≤ 700) : ∀ k : Nat, -(700 * (k : Int)) ≤ psI f k ∧ psI f k ≤ 700 * (k : Int) := by
  intro k
  induction k with
  | zero =>
    show -(700 * ((0 : Nat) : Int)) ≤ 0 ∧ (0 : Int) ≤ 700 * ((0 : Nat) : Int)
    omega
  | succ k ih =>
    have := h k
    show -(700 * ((k + 1 : Nat) : Int)) ≤ psI f k + f k ∧ psI f k + f k ≤ 700 * ((k + 1 : Nat) : Int)
    omega
def evP (P : Nat → Int) (n l : Nat) : Prop := ∀ a b, l ≤ a → a ≤ n → l ≤ b → b ≤ n → (P a - P (a - l)) - (P b - P (b - l)) ≤ 1
def evA (P : Nat → Int) (n : Nat) : Prop := ∀ l, 1 ≤ l → l < n → evP P n l
theorem s_X3_isEvenBy {tot : Nat → Int32} {P : Nat → Int} {n l : Nat} {K : Int32 → Prop} (n256 : n ≤ 256) (l1 : 1 ≤ l) (ln : l < n) (hP0 : P 0 = 0) (hb : ∀ k, k ≤ n → -200000 ≤ P k ∧ P k ≤ 200000) (htot : ∀ j, j ≤ n → (tot j).toInt = P j) (h1 : evP P n l → K 1) (h0 : ¬ evP P n l → K 0) : v_X3_isEvenBy tot (nI l) (nI n) K := by
  refine ⟨nI_inI (by omega) (by decide), ?_⟩
  intro g1 hg1 e2 he2
  rw [nI_cl (by omega)] at hg1
  rw [nI_1] at he2
  subst he2
  have g1i : g1.toInt = P l - P (l - l) := by rw [hg1, htot l (by omega), Nat.sub_self, hP0]; omega
  refine vfix_ex (fun y : Int32 × Int32 × Int32 => ∃ e : Nat, y.1 = nI e ∧ l < e ∧ e ≤ n + 1 ∧ (∀ a, l ≤ a → a < e → y.2.2.toInt ≤ P a - P (a - l) ∧ P a - P (a - l) ≤ y.2.1.toInt) ∧ (∃ a, l ≤ a ∧ a < e ∧ y.2.2.toInt = P a - P (a - l)) ∧ (∃ a, l ≤ a ∧ a < e ∧ y.2.1.toInt = P a - P (a - l))) (fun y => n + 1 - y.1.toNatClampNeg) ?_ _ ⟨l + 1, rfl, by omega, by omega, fun a h1 h2 => ?_, ⟨l, by omega, by omega, g1i⟩, ⟨l, by omega, by omega, g1i⟩⟩
  · rintro bk ⟨y, mo, le⟩ ⟨e, hy1, he1, he2, hbd, ⟨a1, a1l, a1e, ha1⟩, ⟨a2, a2l, a2e, ha2⟩⟩ hbk
    dsimp only at hy1 hbd ha1 ha2
    subst hy1
    have bl : -400000 ≤ le.toInt ∧ le.toInt ≤ 400000 := by
      have q1 := hb a1 (by omega)
      have q2 := hb (a1 - l) (by omega)
      omega
    have bm : -400000 ≤ mo.toInt ∧ mo.toInt ≤ 400000 := by
      have q1 := hb a2 (by omega)
      have q2 := hb (a2 - l) (by omega)
      omega
    unfold vF_X3_isEvenBy_15 vB_X3_isEvenBy_15
    dsimp only
    refine ⟨fun z => ?_, fun z => ?_⟩
    · have z : n < e := (nI_lt_iff (by omega) (by omega)).mp z
      intro e6 he6
      have e6i : e6.toInt = mo.toInt - le.toInt := by rw [he6]; exact i32_sub (by omega) (by omega)
      refine ⟨fun w => h0 (fun hev => ?_), fun w => h1 (fun a b al an bl bn => ?_)⟩
      · rw [Int32.lt_iff_toInt_lt, t32_1, e6i] at w
        have := hev a2 a1 a2l (by omega) a1l (by omega)
        omega
      · rw [Int32.lt_iff_toInt_lt, t32_1, e6i] at w
        have q1 := hbd a al (by omega)
        have q2 := hbd b bl (by omega)
        omega
    · have z : e ≤ n := by
        rcases Nat.lt_or_ge n e with y | y
        · exact absurd ((nI_lt_iff (by omega) (by omega)).mpr y) z
        · exact y
      refine ⟨nI_inI (by omega) (by decide), ?_⟩
      intro g7 hg7 e8 he8
      rw [pk_sub (by omega)] at he8
      subst he8
      refine ⟨nI_inI (by omega) (by decide), ?_⟩
      intro g9 hg9 e10 he10 e11 he11 e12 he12 i13 hi13
      rw [nI_cl (by omega)] at hg7 hg9
      have q1 := hb e z
      have q2 := hb (e - l) (by omega)
      have e10i : e10.toInt = P e - P (e - l) := by
        have t1 := htot e z
        have t2 := htot (e - l) (by omega)
        rw [← hg7] at t1
        rw [← hg9] at t2
        rw [he10, i32_sub (by omega) (by omega), t1, t2]
      rw [hi13, nI_1]
      have e11i : e11.toInt = if e10.toInt < le.toInt then e10.toInt else le.toInt := by
        rw [he11]
        by_cases c : e10 < le
        · rw [if_pos c, if_pos (Int32.lt_iff_toInt_lt.mp c)]
        · rw [if_neg c, if_neg (fun y => c (Int32.lt_iff_toInt_lt.mpr y))]
      have e12i : e12.toInt = if mo.toInt < e10.toInt then e10.toInt else mo.toInt := by
        rw [he12]
        by_cases c : mo < e10
        · rw [if_pos c, if_pos (Int32.lt_iff_toInt_lt.mp c)]
        · rw [if_neg c, if_neg (fun y => c (Int32.lt_iff_toInt_lt.mpr y))]
      have lt11 : e11.toInt ≤ e10.toInt ∧ e11.toInt ≤ le.toInt ∧ (e11.toInt = e10.toInt ∨ e11.toInt = le.toInt) := by
        rw [e11i]
        split
        · omega
        · omega
      have lt12 : e10.toInt ≤ e12.toInt ∧ mo.toInt ≤ e12.toInt ∧ (e12.toInt = e10.toInt ∨ e12.toInt = mo.toInt) := by
        rw [e12i]
        split
        · omega
        · omega
      obtain ⟨u1, u2, u3⟩ := lt11
      obtain ⟨v1, v2, v3⟩ := lt12
      refine hbk _ ⟨e + 1, rfl, by omega, by omega, fun a h1 h2 => ?_, ?_, ?_⟩ ?_
      · dsimp only
        by_cases ea : a = e
        · rw [ea]; omega
        · have := hbd a h1 (by omega)
          omega
      · dsimp only
        rcases u3 with y | y
        · exact ⟨e, by omega, by omega, by omega⟩
        · exact ⟨a1, a1l, by omega, by omega⟩
      · dsimp only
        rcases v3 with y | y
        · exact ⟨e, by omega, by omega, by omega⟩
        · exact ⟨a2, a2l, by omega, by omega⟩
      · dsimp only
        rw [nI_cl (by omega), nI_cl (by omega)]
        omega
  · dsimp only
    have : a = l := by omega
    subst this
    omega
theorem s_X3_isEven {nx : Int32} {gv tot : Nat → Int32} {t n : Nat} {K : Int32 → (Nat → Int32) → Prop} (hnx : nx = nI (t % 256)) (ht : t < 1073741824) (n1 : 1 ≤ n) (nt : n ≤ t) (n256 : n ≤ 256) (h00 : tot 0 = 0) (hg : ∀ k, gvP (gv k))
    (h1 : ∀ tot', tot' 0 = 0 → evA (psI (fun k => (gv (hxF t k)).toInt)) n → K 1 tot') (h0 : ∀ tot', tot' 0 = 0 → ¬ evA (psI (fun k => (gv (hxF t k)).toInt)) n → K 0 tot') : v_X3_isEven nx gv tot (nI n) K := by
  have pb := ps_b (f := fun k => (gv (hxF t k)).toInt) (fun k => hg _)
  refine vfix_ex (fun y : Int32 × (Nat → Int32) => ∃ k : Nat, y.1 = nI k ∧ k ≤ n ∧ y.2 0 = 0 ∧ ∀ j, j ≤ k → (y.2 j).toInt = psI (fun k => (gv (hxF t k)).toInt) j) (fun y => n - y.1.toNatClampNeg) ?_ _ ⟨0, rfl, by omega, h00, fun j hj => ?_⟩
  · rintro bk ⟨y, to⟩ ⟨k, hy1, hkn, hz, htot⟩ hbk
    dsimp only at hy1 hz htot
    subst hy1
    have fin : n ≤ k → vJ_X3_isEven_40 (nI n) K to := by
      intro hnk
      refine vfix_ex (fun y : Int32 => ∃ l : Nat, y = nI l ∧ 1 ≤ l ∧ l ≤ n ∧ ∀ l', 1 ≤ l' → l' < l → evP (psI (fun k => (gv (hxF t k)).toInt)) n l') (fun y => n - y.toNatClampNeg) ?_ _ ⟨1, rfl, by omega, n1, fun l' h1 h2 => by omega⟩
      rintro bk2 y ⟨l, rfl, l1, lln, hev⟩ hbk2
      unfold vF_X3_isEven_42 vB_X3_isEven_42
      refine ⟨fun z => ?_, fun z => ?_⟩
      · have z : n ≤ l := (nI_le_iff (by omega) (by omega)).mp z
        exact h1 to hz (fun l' a b => hev l' a (by omega))
      · have z : l < n := by
          rcases Nat.lt_or_ge l n with y | y
          · exact y
          · exact absurd ((nI_le_iff (by omega) (by omega)).mpr y) z
        refine s_X3_isEvenBy (P := psI (fun k => (gv (hxF t k)).toInt)) n256 l1 z rfl (fun k hk => ?_) (fun j hj => htot j (by omega)) (fun he => ⟨fun _ => ?_, fun w => absurd w r1n⟩) (fun he => ⟨fun w => absurd rfl w, fun _ => h0 to hz (fun hA => he (hA l l1 z))⟩)
        · have := pb k
          omega
        · intro i5 hi5
          rw [hi5, nI_1]
          refine hbk2 _ ⟨l + 1, rfl, by omega, by omega, fun l' a b => ?_⟩ ?_
          · by_cases e : l' = l
            · rw [e]; exact he
            · exact hev l' a (by omega)
          · rw [nI_cl (by omega), nI_cl (by omega)]
            omega
    unfold vF_X3_isEven_2 vB_X3_isEven_2
    dsimp only
    refine ⟨fun z => fin ((nI_le_iff (by omega) (by omega)).mp z), fun z => ⟨fun w => ?_, fun w => ?_⟩⟩
    · have w : 256 ≤ k := (nI_le_iff (a := 256) (by omega) (by omega)).mp w
      exact fin (by omega)
    · have z : k < n := by
        rcases Nat.lt_or_ge k n with y | y
        · exact y
        · exact absurd ((nI_le_iff (by omega) (by omega)).mpr y) z
      intro e6 he6
      rw [nI_1] at he6
      subst he6
      refine ⟨nI_inI (by omega) (by decide), ?_⟩
      intro g7 hg7
      rw [nI_cl (by omega)] at hg7
      refine s_X3_givenAt hnx (by omega) ht ?_
      intro e9 he9
      refine ⟨nI_inI (by omega) (by decide), ?_⟩
      intro to10 hto10 i11 hi11
      rw [nI_cl (by omega)] at hto10
      have b1 := pb k
      have b2 := hg (hxF t k)
      unfold gvP at b2
      have g7i := htot k (by omega)
      rw [← hg7] at g7i
      have e9i : e9.toInt = psI (fun k => (gv (hxF t k)).toInt) (k + 1) := by
        rw [he9, i32_add (by omega) (by omega), g7i]
        rfl
      rw [hi11, nI_1]
      refine hbk _ ⟨k + 1, rfl, by omega, ?_, fun j hj => ?_⟩ ?_
      · dsimp only
        rw [hto10, upd_else _ _ _ _ (by omega)]
        exact hz
      · dsimp only
        rw [hto10]
        by_cases ej : j = k + 1
        · rw [ej, upd_self]
          exact e9i
        · rw [upd_else _ _ _ _ ej]
          exact htot j (by omega)
      · dsimp only
        rw [nI_cl (by omega), nI_cl (by omega)]
        omega
  · have : j = 0 := by omega
    subst this
    dsimp only
    rw [h00]
    rfl
theorem ps_seg (f : Nat → Int) (a : Nat) : ∀ k, psI (fun j => f (a + j)) k = psI f (a + k) - psI f a := by
  intro k
  induction k with
  | zero => show (0 : Int) = psI f a - psI f a; omega
  | succ k ih =>
    show psI (fun j => f (a + j)) k + f (a + k) = psI f (a + k) + f (a + k) - psI f a
    rw [ih]
    omega
theorem s_X11_even {tk x1 : Int32} {gv : Nat → Int32} {t n : Nat} {K : Int32 → Prop} (htk : tk = nI t) (ht : t < 1073741824) (hx : x1 = nI n) (n1 : 1 ≤ n) (nk : n ≤ ktF t) (hg : ∀ k, gvP (gv k))
    (h1 : evA (psI (fun k => (gv (hxF t k)).toInt)) n → K 1) (h0 : ¬ evA (psI (fun k => (gv (hxF t k)).toInt)) n → K 0) : v_X11_even tk gv x1 K := by
  have hkt := kt_le t
  have pb := ps_b (f := fun k => (gv (hxF t k)).toInt) (fun k => hg _)
  generalize hP : psI (fun k => (gv (hxF t k)).toInt) = P at h1 h0 pb
  subst hx
  have fp : (1000000000000 : Int64).toInt = 1000000000000 := by decide
  have fm : (-1000000000000 : Int64).toInt = -1000000000000 := by decide
  refine ⟨fun q => absurd ((nI_lt_iff (b := 1) (by omega) (by omega)).mp q) (by omega), fun _ => s_X11_kept htk ht ⟨fun _ => ?_, fun q => absurd ((nI_le_iff (by omega) (by omega)).mpr nk) q⟩⟩
  refine vfix_ex (fun y : Int32 => ∃ l : Nat, y = nI l ∧ 1 ≤ l ∧ l ≤ n ∧ ∀ l', 1 ≤ l' → l' < l → evP P n l') (fun y => n - y.toNatClampNeg) ?_ _ ⟨1, rfl, by omega, n1, fun l' h1 h2 => by omega⟩
  rintro bk2 y ⟨l, rfl, l1, lln, hev⟩ hbk2
  unfold vF_X11_even_17 vB_X11_even_17
  refine ⟨fun z => ?_, fun z => ?_⟩
  · have z : n ≤ l := (nI_le_iff (by omega) (by omega)).mp z
    exact h1 (fun l' a b => hev l' a (by omega))
  · have z : l < n := by
      rcases Nat.lt_or_ge l n with y | y
      · exact y
      · exact absurd ((nI_le_iff (by omega) (by omega)).mpr y) z
    refine vfix_ex (fun y : Int32 × Int64 × Int64 => ∃ F : Nat, y.1 = nI F ∧ F + l ≤ n + 1 ∧ (F = 0 → y.2.2.toInt = 1000000000000 ∧ y.2.1.toInt = -1000000000000) ∧ (∀ f, f < F → y.2.2.toInt ≤ P (f + l) - P f ∧ P (f + l) - P f ≤ y.2.1.toInt) ∧ (0 < F → (∃ f, f < F ∧ y.2.2.toInt = P (f + l) - P f) ∧ (∃ f, f < F ∧ y.2.1.toInt = P (f + l) - P f))) (fun y => n + 1 - y.1.toNatClampNeg) ?_ _ ⟨0, rfl, by omega, fun _ => ⟨fp, fm⟩, fun f hf => by omega, fun q => by omega⟩
    rintro bk3 ⟨y, hi, lo⟩ ⟨F, hy1, hFl, hz0, hbd, hex⟩ hbk3
    dsimp only at hy1 hz0 hbd hex
    subst hy1
    unfold vF_X11_even_34 vB_X11_even_34
    dsimp only
    intro e6 he6
    rw [nI_add] at he6
    subst he6
    refine ⟨fun w => ?_, fun w => ?_⟩
    · have w : n < F + l := (nI_lt_iff (by omega) (by omega)).mp w
      have F0 : 0 < F := by omega
      obtain ⟨⟨f1, f1l, hf1⟩, ⟨f2, f2l, hf2⟩⟩ := hex F0
      have q1 := pb f1
      have q2 := pb (f1 + l)
      have q3 := pb f2
      have q4 := pb (f2 + l)
      intro e7 he7
      have e7i : e7.toInt = hi.toInt - lo.toInt := by rw [he7]; exact i64_sub (by omega) (by omega)
      refine ⟨fun u => ?_, fun u => h0 (fun hA => ?_)⟩
      · rw [Int64.lt_iff_toInt_lt, t64_1, e7i] at u
        intro i8 hi8
        rw [hi8, nI_1]
        refine hbk2 _ ⟨l + 1, rfl, by omega, by omega, fun l' a b => ?_⟩ ?_
        · by_cases e : l' = l
          · rw [e]
            intro a b al an bl bn
            have r1 := hbd (a - l) (by omega)
            have r2 := hbd (b - l) (by omega)
            have ea : a - l + l = a := by omega
            have eb : b - l + l = b := by omega
            rw [ea] at r1
            rw [eb] at r2
            omega
          · exact hev l' a (by omega)
        · rw [nI_cl (by omega), nI_cl (by omega)]
          omega
      · rw [Int64.lt_iff_toInt_lt, t64_1, e7i] at u
        have := hA l l1 z (f2 + l) (f1 + l) (by omega) (by omega) (by omega) (by omega)
        rw [Nat.add_sub_cancel, Nat.add_sub_cancel] at this
        omega
    · have w : F + l ≤ n := by
        rcases Nat.lt_or_ge n (F + l) with y | y
        · exact absurd ((nI_lt_iff (by omega) (by omega)).mpr y) w
        · exact y
      have sg : ∀ k, psI (fun j => (gv (hxF t (F + j))).toInt) k = P (F + k) - P F := by
        intro k
        rw [← hP]
        exact ps_seg (fun k => (gv (hxF t k)).toInt) F k
      refine vfix_ex (fun y : Int32 × Int64 => ∃ k : Nat, y.1 = nI k ∧ k ≤ l ∧ y.2.toInt = P (F + k) - P F) (fun y => l - y.1.toNatClampNeg) ?_ _ ⟨0, rfl, by omega, by dsimp only; rw [t64_0, Nat.add_zero]; omega⟩
      rintro bk4 ⟨y, v⟩ ⟨k, hy2, hkl, hv⟩ hbk4
      dsimp only at hy2 hv
      subst hy2
      have p1 := pb (F + k)
      have p2 := pb F
      unfold vF_X11_even_48 vB_X11_even_48
      dsimp only
      refine ⟨fun u => ?_, fun u => ?_⟩
      · have u : l ≤ k := (nI_le_iff (by omega) (by omega)).mp u
        have ek : k = l := by omega
        subst ek
        have go : ∀ t11 t12 : Int64, (t11.toInt ≤ v.toInt ∧ (0 < F → t11.toInt ≤ lo.toInt) ∧ (t11 = v ∨ (t11 = lo ∧ 0 < F))) → (v.toInt ≤ t12.toInt ∧ (0 < F → hi.toInt ≤ t12.toInt) ∧ (t12 = v ∨ (t12 = hi ∧ 0 < F))) → vJ_X11_even_109 (nI F) (fun z0 z1 z2 => bk3 (z0, z1, z2)) t11 t12 := by
          intro t11 t12 c1 c2
          obtain ⟨c11, c12, c13⟩ := c1
          obtain ⟨c21, c22, c23⟩ := c2
          intro i13 hi13
          rw [hi13, nI_1]
          refine hbk3 _ ⟨F + 1, rfl, by omega, fun q => by omega, fun f hf => ?_, fun _ => ⟨?_, ?_⟩⟩ ?_
          · dsimp only
            by_cases ef : f = F
            · rw [ef]; omega
            · have := hbd f (by omega)
              have d1 := c12 (by omega)
              have d2 := c22 (by omega)
              omega
          · dsimp only
            rcases c13 with y | ⟨y, y2⟩
            · exact ⟨F, by omega, by rw [y]; exact hv⟩
            · obtain ⟨f1, f1l, hf1⟩ := (hex y2).1
              exact ⟨f1, by omega, by rw [y]; exact hf1⟩
          · dsimp only
            rcases c23 with y | ⟨y, y2⟩
            · exact ⟨F, by omega, by rw [y]; exact hv⟩
            · obtain ⟨f1, f1l, hf1⟩ := (hex y2).2
              exact ⟨f1, by omega, by rw [y]; exact hf1⟩
          · dsimp only
            rw [nI_cl (by omega), nI_cl (by omega)]
            omega
        have go2 : ∀ t11 : Int64, (t11.toInt ≤ v.toInt ∧ (0 < F → t11.toInt ≤ lo.toInt) ∧ (t11 = v ∨ (t11 = lo ∧ 0 < F))) → vJ_X11_even_93 (nI F) hi (fun z0 z1 z2 => bk3 (z0, z1, z2)) v t11 := by
          intro t11 c1
          refine ⟨fun s => go _ _ c1 ?_, fun s => go _ _ c1 ?_⟩
          · rw [Int64.lt_iff_toInt_lt] at s
            have F0 : 0 < F := by
              rcases Nat.eq_zero_or_pos F with y | y
              · have := (hz0 y).2
                omega
              · exact y
            exact ⟨by omega, fun _ => by omega, Or.inr ⟨rfl, F0⟩⟩
          · rw [Int64.lt_iff_toInt_lt] at s
            exact ⟨by omega, fun _ => by omega, Or.inl rfl⟩
        refine ⟨fun s => go2 _ ?_, fun s => go2 _ ?_⟩
        · rw [Int64.lt_iff_toInt_lt] at s
          have F0 : 0 < F := by
            rcases Nat.eq_zero_or_pos F with y | y
            · have := (hz0 y).1
              omega
            · exact y
          exact ⟨by omega, fun _ => by omega, Or.inr ⟨rfl, F0⟩⟩
        · rw [Int64.lt_iff_toInt_lt] at s
          exact ⟨by omega, fun _ => by omega, Or.inl rfl⟩
      · have u : k < l := by
          rcases Nat.lt_or_ge k l with y | y
          · exact y
          · exact absurd ((nI_le_iff (by omega) (by omega)).mpr y) u
        have hl := hx_lt t (F + k)
        intro e14 he14
        rw [nI_add] at he14
        subst he14
        refine s_X11_latest htk (by omega) ht ⟨nI_inI hl (by decide), ?_⟩
        intro g16 hg16 e17 he17 i18 hi18
        rw [nI_cl (by omega)] at hg16
        have b2 := hg (hxF t (F + k))
        rw [← hg16] at b2
        unfold gvP at b2
        have e17i : e17.toInt = P (F + (k + 1)) - P F := by
          rw [he17, i64_add (by rw [Int32.toInt_toInt64]; omega) (by rw [Int32.toInt_toInt64]; omega), Int32.toInt_toInt64, hv, ← hP, hg16]
          show _ = psI (fun k => (gv (hxF t k)).toInt) (F + k) + (gv (hxF t (F + k))).toInt - psI (fun k => (gv (hxF t k)).toInt) F
          omega
        rw [hi18, nI_1]
        refine hbk4 _ ⟨k + 1, rfl, by omega, e17i⟩ ?_
        dsimp only
        rw [nI_cl (by omega), nI_cl (by omega)]
        omega
theorem op_even {s3_next s3_kept s11_ticks s5_kind s5_sums s7_count s4_ticks s4_secondBefore s4_thirdBefore s4_thirdTwoBefore s11_beganElsewhere s11_dBefore s11_fBefore s11_fFirst x1 : Int32} {a3_givens a3_totals a11_given a7_values a3_wishes a11_wished : Nat → Int32} {T : Nat} {s4_firstBeganWith : Int64} {a4_sums a3_sums a11_sums a11_firstSum : Nat → Int64} (hQL : QL T s5_kind s5_sums s7_count a7_values s3_next s3_kept s4_ticks s4_firstBeganWith s4_secondBefore s4_thirdBefore s4_thirdTwoBefore a4_sums a3_wishes a3_givens a3_sums a3_totals s11_ticks s11_beganElsewhere s11_dBefore s11_fBefore s11_fFirst a11_sums a11_wished a11_given a11_firstSum) (hT : T + 10000 < 1073741824) : v_X10_even s3_next s3_kept a3_givens a3_totals x1 (fun r a3_totals' => v_X11_even s11_ticks a11_given x1 (fun r' => r = r' ∧ QL T s5_kind s5_sums s7_count a7_values s3_next s3_kept s4_ticks s4_firstBeganWith s4_secondBefore s4_thirdBefore s4_thirdTwoBefore a4_sums a3_wishes a3_givens a3_sums a3_totals' s11_ticks s11_beganElsewhere s11_dBefore s11_fBefore s11_fFirst a11_sums a11_wished a11_given a11_firstSum)) := by
  have hQL' := hQL
  obtain ⟨t, l1, l2, l3, l4, l5, l6, l7, l8, l9, l10, l11, l12, l13, l14, l15, l16, l17, l18, l19, l20, l21⟩ := hQL
  have hkt := kt_le t
  subst l8
  have re : ∀ tot' : Nat → Int32, tot' 0 = 0 → QL T s5_kind s5_sums s7_count a7_values s3_next s3_kept s4_ticks s4_firstBeganWith s4_secondBefore s4_thirdBefore s4_thirdTwoBefore a4_sums a3_wishes a3_givens a3_sums tot' s11_ticks s11_beganElsewhere s11_dBefore s11_fBefore s11_fFirst a11_sums a11_wished a3_givens a11_firstSum := fun tot' h => ⟨t, l1, l2, l3, l4, l5, l6, l7, rfl, l9, h, l11, l12, l13, l14, l15, l16, l17, l18, l19, l20, l21⟩
  refine s_X3_holdsLast l5 (by omega) (fun n h1 hn hx => ⟨fun _ => ?_, fun z => absurd z r1n⟩) (fun h => ⟨fun z => absurd rfl z, fun _ => ?_⟩)
  · have hx' := hx
    subst hx
    refine s_X3_isEven l4 (by omega) h1 (by omega) (by omega) l10 l18 (fun tot' hz hA => ⟨fun z => absurd z r1n, fun _ => ?_⟩) (fun tot' hz hA => ⟨fun _ => ?_, fun z => absurd rfl z⟩)
    · exact s_X11_even l3 (by omega) rfl h1 hn l18 (fun _ => ⟨rfl, re tot' hz⟩) (fun b => absurd hA b)
    · exact s_X11_even l3 (by omega) rfl h1 hn l18 (fun b => absurd b hA) (fun _ => ⟨rfl, re tot' hz⟩)
  · refine ⟨fun _ => ⟨rfl, hQL'⟩, fun q => s_X11_kept l3 (by omega) ⟨fun q2 => ?_, fun _ => ⟨rfl, hQL'⟩⟩⟩
    exfalso
    rcases h with h | h
    · exact q h
    · rw [Int32.lt_iff_toInt_lt] at h
      rw [Int32.le_iff_toInt_le] at q2
      omega
