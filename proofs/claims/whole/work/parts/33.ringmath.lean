/-! pure: rings of a path -/
theorem ag_rf (n : Nat) (p : Nat → Int64) : agr n p p := fun _ _ => rfl
theorem ag_sy {n : Nat} {p q : Nat → Int64} (h : agr n p q) : agr n q p := fun j hj => (h j hj).symm
theorem ag_tr {n : Nat} {p q r : Nat → Int64} (h : agr n p q) (h2 : agr n q r) : agr n p r := fun j hj => (h j hj).trans (h2 j hj)
def okk (n : Nat) (X : Nat → Nat → Int64) (k : Nat) : Prop := ∀ j, j < n → nearP (X (k + 1) j)
/-- a path that goes on alike from alike places -/
def pthP (n : Nat) (X : Nat → Nat → Int64) : Prop := ∀ i j, agr n (X i) (X j) → agr n (X (i + 1)) (X (j + 1))
theorem ph_pth {n : Nat} {F : (Nat → Int64) → Nat → Int64} {su : Nat → Int64} (hF : cgF n F) : pthP n (phF n F su) := by
  intro i j h
  refine ag_tr (ag_sy (ph_succ (k := i) (su := su) hF (ag_rf n _))) (ph_succ hF h)
theorem pt_shift {n : Nat} {X : Nat → Nat → Int64} (hX : pthP n X) {i j : Nat} (h : agr n (X i) (X j)) : ∀ d, agr n (X (i + d)) (X (j + d)) := by
  intro d
  induction d with
  | zero => exact h
  | succ d ih => exact hX _ _ ih
theorem pt_per {n : Nat} {X : Nat → Nat → Int64} (hX : pthP n X) {m l : Nat} (h : agr n (X m) (X (m + l))) : ∀ a, m ≤ a → agr n (X a) (X (a + l)) := by
  intro a ha
  have := pt_shift hX h (a - m)
  have e1 : m + (a - m) = a := by omega
  have e2 : m + l + (a - m) = a + l := by omega
  rw [e1, e2] at this
  exact this
theorem pt_mul {n : Nat} {X : Nat → Nat → Int64} (hX : pthP n X) {m l : Nat} (h : agr n (X m) (X (m + l))) : ∀ k a, m ≤ a → agr n (X a) (X (a + k * l)) := by
  intro k
  induction k with
  | zero => intro a _; rw [Nat.zero_mul]; exact ag_rf n _
  | succ k ih =>
    intro a ha
    have h1 := ih a ha
    have h2 := pt_per hX h (a + k * l) (by omega)
    have e : a + (k + 1) * l = a + k * l + l := by rw [Nat.succ_mul]; omega
    rw [e]
    exact ag_tr h1 h2
/-- the beat that was found at a mark is the beat of every repeat -/
theorem pt_beat {n : Nat} {X : Nat → Nat → Int64} (hX : pthP n X) {m l i j : Nat} (hl : 1 ≤ l) (h : agr n (X m) (X (m + l))) (hmin : ∀ d, 1 ≤ d → d < l → ¬ agr n (X m) (X (m + d))) (hij : i < j) (ha : agr n (X i) (X j)) : l ≤ j - i ∧ agr n (X i) (X (i + l)) := by
  obtain ⟨l', rfl⟩ : ∃ l', j = i + l' := ⟨j - i, by omega⟩
  have hl' : 1 ≤ l' := by omega
  have e0 : i + l' - i = l' := by omega
  rw [e0]
  constructor
  · -- X (m + l') is X m
    have b1 : agr n (X m) (X (m + i * l)) := pt_mul hX h i m (by omega)
    have il : i ≤ i * l := Nat.le_mul_of_pos_right i (by omega)
    have b2 : agr n (X (m + i * l)) (X (m + i * l + l')) := pt_per hX ha (m + i * l) (by omega)
    have b3 : agr n (X (m + l')) (X (m + l' + i * l)) := pt_mul hX h i (m + l') (by omega)
    have e1 : m + l' + i * l = m + i * l + l' := by omega
    rw [e1] at b3
    have b4 : agr n (X m) (X (m + l')) := ag_tr b1 (ag_tr b2 (ag_sy b3))
    rcases Nat.lt_or_ge l' l with z | z
    · exact absurd b4 (hmin l' hl' z)
    · exact z
  · have ml : m ≤ m * l' := Nat.le_mul_of_pos_right m (by omega)
    have c1 : agr n (X i) (X (i + m * l')) := pt_mul hX ha m i (by omega)
    have c2 : agr n (X (i + l)) (X (i + l + m * l')) := pt_mul hX ha m (i + l) (by omega)
    have c3 : agr n (X (i + m * l')) (X (i + m * l' + l)) := pt_per hX h (i + m * l') (by omega)
    have e2 : i + l + m * l' = i + m * l' + l := by omega
    rw [e2] at c2
    exact ag_tr c1 (ag_tr c3 (ag_sy c2))
theorem ok_ag {n : Nat} {X : Nat → Nat → Int64} (hX : pthP n X) {i j : Nat} (h : agr n (X i) (X j)) (ho : okk n X i) : okk n X j := by
  intro k hk
  rw [← hX i j h k hk]
  exact ho k hk
theorem ok_all {n : Nat} {X : Nat → Nat → Int64} (hX : pthP n X) {m l : Nat} (hl : 1 ≤ l) (h : agr n (X m) (X (m + l))) (ho : ∀ i, i < m + l → okk n X i) : ∀ s, okk n X s := by
  intro s
  induction s using Nat.strongRecOn with
  | _ s ih =>
    rcases Nat.lt_or_ge s (m + l) with z | z
    · exact ho s z
    · have := pt_per hX h (s - l) (by omega)
      have e : s - l + l = s := by omega
      rw [e] at this
      exact ok_ag hX this (ih (s - l) (by omega))
def nrP (n : Nat) (X : Nat → Nat → Int64) (m : Nat) : Prop := ∀ i j, i < j → j ≤ m → ¬ agr n (X i) (X j)
theorem nr_fail {n : Nat} {X : Nat → Nat → Int64} (hX : pthP n X) {q : Nat} (ho : ∀ i, i < q → okk n X i) (hq : ¬ okk n X q) : nrP n X q := by
  intro i j hij hj ha
  obtain ⟨l, rfl⟩ : ∃ l, j = i + l := ⟨j - i, by omega⟩
  have := pt_per hX ha (q - l) (by omega)
  have e : q - l + l = q := by omega
  rw [e] at this
  exact hq (ok_ag hX this (ho (q - l) (by omega)))
/-- what a ring tells -/
def ringP (n : Nat) (X : Nat → Nat → Int64) (tl0 r tl : Int32) : Prop :=
  (∃ t u : Nat, u < t ∧ t ≤ 4096 ∧ (∀ s, s < t → okk n X s) ∧ nrP n X (t - 1) ∧ agr n (X u) (X t) ∧ r = nI (t - u) ∧ tl = nI u)
  ∨ (∃ t : Nat, t < 4096 ∧ (∀ s, s < t → okk n X s) ∧ ¬ okk n X t ∧ nrP n X t ∧ r = -3 ∧ tl = tl0)
  ∨ ((∀ s, s < 4096 → okk n X s) ∧ nrP n X 4096 ∧ r = -2 ∧ tl = tl0)
theorem ring_uniq {n : Nat} {X : Nat → Nat → Int64} {tl0 r tl r' tl' : Int32} (h : ringP n X tl0 r tl) (h' : ringP n X tl0 r' tl') : r = r' ∧ tl = tl' := by
  have AA : ∀ t u t' u' : Nat, u < t → nrP n X (t - 1) → agr n (X u) (X t) → u' < t' → nrP n X (t' - 1) → agr n (X u') (X t') → t = t' ∧ u = u' := by
    intro t u t' u' h1 h2 h3 h1' h2' h3'
    have et : t = t' := by
      rcases Nat.lt_trichotomy t t' with z | z | z
      · exact absurd h3 (h2' u t h1 (by omega))
      · exact z
      · exact absurd h3' (h2 u' t' h1' (by omega))
    subst et
    refine ⟨rfl, ?_⟩
    rcases Nat.lt_trichotomy u u' with z | z | z
    · exact absurd (ag_tr h3 (ag_sy h3')) (h2 u u' z (by omega))
    · exact z
    · exact absurd (ag_tr h3' (ag_sy h3)) (h2 u' u z (by omega))
  rcases h with ⟨t, u, a1, a2, a3, a4, a5, a6, a7⟩ | ⟨t, a1, a2, a3, a4, a5, a6⟩ | ⟨a1, a2, a3, a4⟩ <;> rcases h' with ⟨t', u', b1, b2, b3, b4, b5, b6, b7⟩ | ⟨t', b1, b2, b3, b4, b5, b6⟩ | ⟨b1, b2, b3, b4⟩
  · obtain ⟨rfl, rfl⟩ := AA t u t' u' a1 a4 a5 b1 b4 b5
    exact ⟨by rw [a6, b6], by rw [a7, b7]⟩
  · exfalso
    rcases Nat.lt_or_ge t' t with z | z
    · exact b3 (a3 t' z)
    · exact b4 u t a1 z a5
  · exact absurd a5 (b2 u t a1 a2)
  · exfalso
    rcases Nat.lt_or_ge t t' with z | z
    · exact a3 (b3 t z)
    · exact a4 u' t' b1 z b5
  · exact ⟨by rw [a5, b5], by rw [a6, b6]⟩
  · exact absurd (b1 t a1) a3
  · exact absurd b5 (a2 u' t' b1 b2)
  · exact absurd (a1 t' b1) b3
  · exact ⟨by rw [a3, b3], by rw [a4, b4]⟩
