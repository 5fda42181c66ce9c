/-! pure: rows of steps under a wish that stays, as integers -/
def fI (vals : Nat → Int32) (ov : Int32) (j : Nat) : Int := (vals j).toInt * ov.toInt
def plI (vals : Nat → Int32) (ov : Int32) (v : Int) : Nat → Nat
  | 0 => 0
  | k + 1 => if v < fI vals ov (k + 1) then plI vals ov v k else k + 1
theorem plI_le (vals : Nat → Int32) (ov : Int32) (v : Int) : ∀ k, plI vals ov v k ≤ k := by
  intro k
  induction k with
  | zero => exact Nat.le_refl 0
  | succ k ih =>
    unfold plI
    split
    · omega
    · omega
theorem pl_FI {vals : Nat → Int32} {ov : Int32} {c : Nat} (hs : stpP vals c) (ho : ovP ov) (v : Int64) : ∀ k, k < c → plF vals ov v k = plI vals ov v.toInt k := by
  intro k
  induction k with
  | zero => intro _; rfl
  | succ k ih =>
    intro hk
    have e := fi_int ho (hs.1 (k + 1) hk)
    show (if v < (vals (k + 1)).toInt64 * ov.toInt64 then plF vals ov v k else k + 1) = (if v.toInt < fI vals ov (k + 1) then plI vals ov v.toInt k else k + 1)
    rw [ih (by omega)]
    by_cases q : v < (vals (k + 1)).toInt64 * ov.toInt64
    · have q' := q
      rw [Int64.lt_iff_toInt_lt, e.1] at q'
      rw [if_pos q, if_pos (show v.toInt < fI vals ov (k + 1) from q')]
    · have q' := q
      rw [Int64.lt_iff_toInt_lt, e.1] at q'
      rw [if_neg q, if_neg (show ¬ v.toInt < fI vals ov (k + 1) from q')]
theorem fI_mono {vals : Nat → Int32} {ov : Int32} {c i k : Nat} (hs : stpP vals c) (ho : ovP ov) (h : i < k) (hk : k < c) : fI vals ov i < fI vals ov k := fi_mono (st_mono hs h hk) ho.1
theorem fI_b {vals : Nat → Int32} {ov : Int32} {c i : Nat} (hs : stpP vals c) (ho : ovP ov) (h : i < c) : -1000000 ≤ fI vals ov i ∧ fI vals ov i ≤ 1000000 := (fi_int ho (hs.1 i h)).2
theorem pl_lo (vals : Nat → Int32) (ov : Int32) (v : Int) : ∀ k, 0 < plI vals ov v k → fI vals ov (plI vals ov v k) ≤ v := by
  intro k
  induction k with
  | zero => intro h; exact absurd h (Nat.lt_irrefl 0)
  | succ k ih =>
    unfold plI
    split
    · exact ih
    · intro _; omega
theorem pl_hi {vals : Nat → Int32} {ov : Int32} (v : Int) : ∀ k, plI vals ov v k + 1 ≤ k → v < fI vals ov (plI vals ov v k + 1) := by
  intro k
  induction k with
  | zero => intro h; omega
  | succ k ih =>
    unfold plI
    by_cases q : v < fI vals ov (k + 1)
    · rw [if_pos q]
      intro h
      rcases Nat.lt_or_ge (plI vals ov v k) k with z | z
      · exact ih (by omega)
      · have e : plI vals ov v k = k := by have := plI_le vals ov v k; omega
        rw [e]; exact q
    · rw [if_neg q]
      intro h
      omega
theorem pl_uni {vals : Nat → Int32} {ov : Int32} {c p : Nat} {v : Int} (hs : stpP vals c) (ho : ovP ov) (h1 : 0 < p → fI vals ov p ≤ v) (h2 : p + 1 < c → v < fI vals ov (p + 1)) : ∀ k, p ≤ k → k < c → plI vals ov v k = p := by
  intro k
  induction k with
  | zero => intro h _; show 0 = p; omega
  | succ k ih =>
    intro hp hk
    unfold plI
    by_cases e : p = k + 1
    · have := h1 (by omega)
      rw [← e, if_neg (by omega)]
    · have b := h2 (by omega)
      have m : fI vals ov (p + 1) ≤ fI vals ov (k + 1) := by
        rcases Nat.lt_or_ge p k with y | y
        · have := fI_mono hs ho (show p + 1 < k + 1 by omega) hk
          omega
        · have : p = k := by omega
          rw [this]
          exact Int.le_refl _
      rw [if_pos (by omega)]
      exact ih (by omega) (by omega)
/-- the sums of a row -/
def sI (vals : Nat → Int32) (ov : Int32) (c : Nat) (w : Int) : Nat → Int
  | 0 => 0
  | k + 1 => sI vals ov c w k + w - fI vals ov (plI vals ov (sI vals ov c w k + w) (c - 1))
def pI (vals : Nat → Int32) (ov : Int32) (c : Nat) (w : Int) (k : Nat) : Nat := plI vals ov (sI vals ov c w k + w) (c - 1)
theorem pI_lt {vals : Nat → Int32} {ov : Int32} {c : Nat} (c1 : 1 ≤ c) (w : Int) (k : Nat) : pI vals ov c w k < c := by
  have := plI_le vals ov (sI vals ov c w k + w) (c - 1)
  unfold pI
  omega
theorem sI_b {vals : Nat → Int32} {ov : Int32} {c : Nat} (hs : stpP vals c) (ho : ovP ov) (c1 : 1 ≤ c) {w : Int} (h1 : -1100000 ≤ w) (h2 : w ≤ 1100000) : ∀ k : Nat, -(2200000 * (k : Int)) ≤ sI vals ov c w k ∧ sI vals ov c w k ≤ 2200000 * (k : Int) := by
  intro k
  induction k with
  | zero =>
    show -(2200000 * ((0 : Nat) : Int)) ≤ 0 ∧ (0 : Int) ≤ 2200000 * ((0 : Nat) : Int)
    omega
  | succ k ih =>
    have b := fI_b hs ho (pI_lt (ov := ov) (vals := vals) c1 w k)
    have e : sI vals ov c w (k + 1) = sI vals ov c w k + w - fI vals ov (pI vals ov c w k) := rfl
    omega
theorem row_lin {vals : Nat → Int32} {ov : Int32} {c : Nat} {w r : Int} : ∀ k : Nat, (∀ j, j < k → pI vals ov c (w + r) j = pI vals ov c w j) → sI vals ov c (w + r) k = sI vals ov c w k + (k : Int) * r := by
  intro k
  induction k with
  | zero =>
    intro _
    show (0 : Int) = 0 + ((0 : Nat) : Int) * r
    rw [Int.ofNat_zero, Int.zero_mul]
    omega
  | succ k ih =>
    intro h
    have i := ih (fun j hj => h j (by omega))
    have e1 : sI vals ov c (w + r) (k + 1) = sI vals ov c (w + r) k + (w + r) - fI vals ov (pI vals ov c (w + r) k) := rfl
    have e2 : sI vals ov c w (k + 1) = sI vals ov c w k + w - fI vals ov (pI vals ov c w k) := rfl
    have e3 : ((k + 1 : Nat) : Int) * r = (k : Int) * r + r := by rw [Int.natCast_succ, Int.add_mul, Int.one_mul]
    rw [e1, e2, e3, h k (by omega), i]
    omega
/-- how much more a wish may be -/
def qI (vals : Nat → Int32) (ov : Int32) (c : Nat) (w : Int) (k : Nat) : Int := (fI vals ov (pI vals ov c w k + 1) - 1 - (sI vals ov c w k + w)) / ((k : Int) + 1)
def rmI (vals : Nat → Int32) (ov : Int32) (c : Nat) (w : Int) : Nat → Int
  | 0 => 2000
  | k + 1 => if pI vals ov c w k + 1 < c then (if qI vals ov c w k < rmI vals ov c w k then qI vals ov c w k else rmI vals ov c w k) else rmI vals ov c w k
theorem rm_step {vals : Nat → Int32} {ov : Int32} {c : Nat} {w : Int} (k : Nat) : rmI vals ov c w (k + 1) ≤ rmI vals ov c w k ∧ (pI vals ov c w k + 1 < c → rmI vals ov c w (k + 1) ≤ qI vals ov c w k) ∧ (rmI vals ov c w (k + 1) = rmI vals ov c w k ∨ (pI vals ov c w k + 1 < c ∧ rmI vals ov c w (k + 1) = qI vals ov c w k)) := by
  show (if pI vals ov c w k + 1 < c then (if qI vals ov c w k < rmI vals ov c w k then qI vals ov c w k else rmI vals ov c w k) else rmI vals ov c w k) ≤ _ ∧ (_ → (if pI vals ov c w k + 1 < c then (if qI vals ov c w k < rmI vals ov c w k then qI vals ov c w k else rmI vals ov c w k) else rmI vals ov c w k) ≤ _) ∧ ((if pI vals ov c w k + 1 < c then (if qI vals ov c w k < rmI vals ov c w k then qI vals ov c w k else rmI vals ov c w k) else rmI vals ov c w k) = _ ∨ (_ ∧ (if pI vals ov c w k + 1 < c then (if qI vals ov c w k < rmI vals ov c w k then qI vals ov c w k else rmI vals ov c w k) else rmI vals ov c w k) = _))
  by_cases h : pI vals ov c w k + 1 < c
  · rw [if_pos h]
    by_cases h2 : qI vals ov c w k < rmI vals ov c w k
    · rw [if_pos h2]
      exact ⟨by omega, fun _ => by omega, Or.inr ⟨h, rfl⟩⟩
    · rw [if_neg h2]
      exact ⟨by omega, fun _ => by omega, Or.inl rfl⟩
  · rw [if_neg h]
    exact ⟨by omega, fun z => absurd z h, Or.inl rfl⟩
theorem rm_anti {vals : Nat → Int32} {ov : Int32} {c : Nat} {w : Int} (k : Nat) : ∀ d, rmI vals ov c w (k + d) ≤ rmI vals ov c w k := by
  intro d
  induction d with
  | zero => exact Int.le_refl _
  | succ d ih =>
    have := (rm_step (vals := vals) (ov := ov) (c := c) (w := w) (k + d)).1
    have e : k + (d + 1) = k + d + 1 := by omega
    rw [e]
    omega
theorem rm_q {vals : Nat → Int32} {ov : Int32} {c n k : Nat} {w : Int} (hk : k < n) (hp : pI vals ov c w k + 1 < c) : rmI vals ov c w n ≤ qI vals ov c w k := by
  have h1 := (rm_step (vals := vals) (ov := ov) (c := c) (w := w) k).2.1 hp
  have h2 := rm_anti (vals := vals) (ov := ov) (c := c) (w := w) (k + 1) (n - (k + 1))
  have e : k + 1 + (n - (k + 1)) = n := by omega
  rw [e] at h2
  omega
theorem q_pos {vals : Nat → Int32} {ov : Int32} {c k : Nat} {w : Int} (hp : pI vals ov c w k + 1 < c) : 0 ≤ qI vals ov c w k := by
  have := pl_hi (vals := vals) (ov := ov) (sI vals ov c w k + w) (c - 1) (show pI vals ov c w k + 1 ≤ c - 1 by omega)
  unfold qI
  refine Int.ediv_nonneg ?_ (by omega)
  have e : fI vals ov (pI vals ov c w k + 1) = fI vals ov (plI vals ov (sI vals ov c w k + w) (c - 1) + 1) := rfl
  omega
theorem rm_b {vals : Nat → Int32} {ov : Int32} {c : Nat} {w : Int} : ∀ k, 0 ≤ rmI vals ov c w k ∧ rmI vals ov c w k ≤ 2000 := by
  intro k
  induction k with
  | zero => show (0 : Int) ≤ 2000 ∧ (2000 : Int) ≤ 2000; omega
  | succ k ih =>
    obtain ⟨s1, s2, s3⟩ := rm_step (vals := vals) (ov := ov) (c := c) (w := w) k
    rcases s3 with z | ⟨z1, z2⟩
    · omega
    · have := q_pos z1
      omega
theorem rm_why {vals : Nat → Int32} {ov : Int32} {c : Nat} {w : Int} : ∀ n, rmI vals ov c w n < 2000 → ∃ k, k < n ∧ pI vals ov c w k + 1 < c ∧ rmI vals ov c w n = qI vals ov c w k := by
  intro n
  induction n with
  | zero => intro h; exact absurd h (by show ¬ (2000 : Int) < 2000; omega)
  | succ n ih =>
    intro h
    rcases (rm_step (vals := vals) (ov := ov) (c := c) (w := w) n).2.2 with z | ⟨z1, z2⟩
    · rw [z] at h
      obtain ⟨k, a, b, d⟩ := ih h
      exact ⟨k, by omega, b, by rw [z]; exact d⟩
    · exact ⟨n, by omega, z1, z2⟩
theorem row_same {vals : Nat → Int32} {ov : Int32} {c n : Nat} {w r : Int} (hs : stpP vals c) (ho : ovP ov) (c1 : 1 ≤ c) (h0 : 0 ≤ r) (hr : r ≤ rmI vals ov c w n) : ∀ k, k ≤ n → ∀ j, j < k → pI vals ov c (w + r) j = pI vals ov c w j := by
  intro k
  induction k with
  | zero => intro _ j hj; omega
  | succ k ih =>
    intro hk j hj
    have ih := ih (by omega)
    by_cases e : j = k
    · subst e
      have lin := row_lin j ih
      have kr : 0 ≤ (j : Int) * r := Int.mul_nonneg (by omega) h0
      have ev : sI vals ov c (w + r) j + (w + r) = (sI vals ov c w j + w) + ((j : Int) * r + r) := by rw [lin]; omega
      unfold pI
      rw [ev]
      have pl := plI_le vals ov (sI vals ov c w j + w) (c - 1)
      refine pl_uni hs ho (fun hp => ?_) (fun hp => ?_) (c - 1) pl (by omega)
      · have := pl_lo vals ov (sI vals ov c w j + w) (c - 1) hp
        omega
      · have q := rm_q (vals := vals) (ov := ov) (w := w) (show j < n by omega) hp
        have q2 : r ≤ qI vals ov c w j := by omega
        unfold qI at q2
        rw [Int.le_ediv_iff_mul_le (by omega), Int.mul_add, Int.mul_one, Int.mul_comm] at q2
        have e2 : fI vals ov (pI vals ov c w j + 1) = fI vals ov (plI vals ov (sI vals ov c w j + w) (c - 1) + 1) := rfl
        omega
    · exact ih j (by omega)
theorem row_diff {vals : Nat → Int32} {ov : Int32} {c n : Nat} {w : Int} (c1 : 1 ≤ c) (hr : rmI vals ov c w n < 2000) : ¬ ∀ k, k < n → pI vals ov c (w + (rmI vals ov c w n + 1)) k = pI vals ov c w k := by
  intro hall
  obtain ⟨k, hk, hp, he⟩ := rm_why n hr
  have lin := row_lin (vals := vals) (ov := ov) (c := c) (w := w) (r := rmI vals ov c w n + 1) k (fun j hj => hall j (by omega))
  have hk2 := hall k hk
  generalize rmI vals ov c w n = R at he lin hk2
  have hi := pl_hi (vals := vals) (ov := ov) (sI vals ov c (w + (R + 1)) k + (w + (R + 1))) (c - 1) (by
    show pI vals ov c (w + (R + 1)) k + 1 ≤ c - 1
    rw [hk2]; omega)
  have e2 : plI vals ov (sI vals ov c (w + (R + 1)) k + (w + (R + 1))) (c - 1) = pI vals ov c w k := hk2
  rw [e2, lin] at hi
  have nq : ¬ (R + 1 ≤ qI vals ov c w k) := by omega
  unfold qI at nq
  rw [Int.le_ediv_iff_mul_le (by omega), Int.mul_add, Int.mul_one, Int.mul_comm] at nq
  omega
abbrev chP (vals : Nat → Int32) (ov : Int32) (c n : Nat) (w0 : Int) (i : Nat) : Prop := i = 0 ∨ ¬ ∀ k, k < n → pI vals ov c (w0 + (i : Int) - 1) k = pI vals ov c (w0 + (i : Int)) k
def cC (vals : Nat → Int32) (ov : Int32) (c n : Nat) (w0 : Int) : Nat → Nat
  | 0 => 0
  | i + 1 => cC vals ov c n w0 i + (if chP vals ov c n w0 i then 1 else 0)
theorem cC_le {vals : Nat → Int32} {ov : Int32} {c n : Nat} {w0 : Int} : ∀ i, cC vals ov c n w0 i ≤ i := by
  intro i
  induction i with
  | zero => exact Nat.le_refl 0
  | succ i ih =>
    show cC vals ov c n w0 i + (if chP vals ov c n w0 i then 1 else 0) ≤ i + 1
    split
    · omega
    · omega
theorem cC_flat {vals : Nat → Int32} {ov : Int32} {c n : Nat} {w0 : Int} {i : Nat} : ∀ d, (∀ j, i ≤ j → j < i + d → ¬ chP vals ov c n w0 j) → cC vals ov c n w0 (i + d) = cC vals ov c n w0 i := by
  intro d
  induction d with
  | zero => intro _; rfl
  | succ d ih =>
    intro h
    show cC vals ov c n w0 (i + d) + (if chP vals ov c n w0 (i + d) then 1 else 0) = _
    rw [if_neg (h (i + d) (by omega) (by omega)), ih (fun j h1 h2 => h j h1 (by omega))]
    rfl
/-- from the least wish of a row, room more wishes give the same row, and the next one another -/
theorem room_jump {vals : Nat → Int32} {ov : Int32} {c n i R : Nat} {w0 : Int} (hs : stpP vals c) (ho : ovP ov) (c1 : 1 ≤ c) (hR : (R : Int) = rmI vals ov c (w0 + i) n) (hch : chP vals ov c n w0 i) : (∀ d, d ≤ R → cC vals ov c n w0 (i + 1 + d) = cC vals ov c n w0 i + 1) ∧ (R < 2000 → chP vals ov c n w0 (i + 1 + R)) := by
  have same : ∀ d : Nat, d ≤ R → ∀ k, k < n → pI vals ov c (w0 + (i : Int) + (d : Int)) k = pI vals ov c (w0 + (i : Int)) k := fun d hd k hk => row_same hs ho c1 (by omega) (by omega) n (Nat.le_refl n) k hk
  constructor
  · intro d hd
    have f := cC_flat (vals := vals) (ov := ov) (c := c) (n := n) (w0 := w0) (i := i + 1) d (fun j h1 h2 hc => ?_)
    · rw [f]
      show cC vals ov c n w0 i + (if chP vals ov c n w0 i then 1 else 0) = _
      rw [if_pos hch]
    · rcases hc with z | z
      · omega
      · apply z
        intro k hk
        have a := same (j - i) (by omega) k hk
        have b := same (j - i - 1) (by omega) k hk
        have e1 : w0 + (i : Int) + ((j - i : Nat) : Int) = w0 + (j : Int) := by omega
        have e2 : w0 + (i : Int) + ((j - i - 1 : Nat) : Int) = w0 + (j : Int) - 1 := by omega
        rw [e1] at a
        rw [e2] at b
        rw [a, b]
  · intro hlt
    refine Or.inr (fun hall => ?_)
    refine row_diff (vals := vals) (ov := ov) (c := c) (n := n) (w := w0 + (i : Int)) c1 (by omega) (fun k hk => ?_)
    have a := hall k hk
    have b := same R (Nat.le_refl R) k hk
    have e1 : w0 + ((i + 1 + R : Nat) : Int) - 1 = w0 + (i : Int) + (R : Int) := by omega
    have e2 : w0 + ((i + 1 + R : Nat) : Int) = w0 + (i : Int) + (rmI vals ov c (w0 + (i : Int)) n + 1) := by omega
    rw [e1, e2] at a
    rw [← a, b]
