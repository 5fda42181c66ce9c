/-! pure: one tick -/
def gvF (kd : Int32) (n : Nat) (md : Nat → Int32) (sb tb tt : Int32) : Int32 := if kd = 3 then (if n = 3 then md 0 + md 1 - sb + (md 2 - 2 * tb + tt) else md 0 + md 1 - sb) else md 0
def sbF (kd : Int32) (md : Nat → Int32) (sb : Int32) : Int32 := if kd = 3 then md 1 else sb
def tbF (kd : Int32) (n : Nat) (md : Nat → Int32) (tb : Int32) : Int32 := if kd = 3 then (if n = 3 then md 2 else tb) else tb
def ttF (kd : Int32) (n : Nat) (tb tt : Int32) : Int32 := if kd = 3 then (if n = 3 then tb else tt) else tt
theorem accF_congr {f g : Nat → Int64} (a : Int64) : ∀ n, (∀ j, j < n → f j = g j) → accF f a n = accF g a n := by
  intro n
  induction n with
  | zero => intro _; rfl
  | succ n ih =>
    intro h
    show accF f a n + f n = accF g a n + g n
    rw [ih (fun j hj => h j (by omega)), h n (by omega)]
theorem rowF_congr {vals : Nat → Int32} {ov : Int32} {c : Nat} {p q : Nat → Int64} (w : Int64) : ∀ n, (∀ j, j < n → p j = q j) → rowF vals ov c p w n = rowF vals ov c q w n := by
  intro n
  induction n with
  | zero => intro _; rfl
  | succ n ih =>
    intro h
    show (p n + rowF vals ov c p w n) - fiF vals ov c (p n + rowF vals ov c p w n) = (q n + rowF vals ov c q w n) - fiF vals ov c (q n + rowF vals ov c q w n)
    rw [ih (fun j hj => h j (by omega)), h n (by omega)]
theorem v2_congr {p q : Nat → Int64} (w : Int32) (h : ∀ j, j < 2 → p j = q j) : v2F p w = v2F q w := by
  unfold v2F
  rw [h 0 (by omega), h 1 (by omega)]
theorem vt_congr {g : Int32} {hh : Nat → Int32} {p q : Nat → Int64} (w : Int32) (n : Nat) (h : ∀ j, j < n → p j = q j) : vtF g hh p w n = vtF g hh q w n := by
  unfold vtF
  exact accF_congr _ n (fun j hj => by rw [h j hj])
theorem toF_congr {kd ov g w : Int32} {n c : Nat} {vals aa b e hh : Nat → Int32} {p q : Nat → Int64} (hk : kindP kd n) (h : ∀ j, j < n → p j = q j) : ∀ k, k < n → toF kd n c ov vals g aa b e hh p w k = toF kd n c ov vals g aa b e hh q w k := by
  intro k hkn
  unfold toF
  by_cases e1 : kd = 1
  · have n2 := hk.2.2.1 e1
    subst n2
    rw [if_pos e1, if_pos e1]
    rw [v2_congr w h, h 0 (by omega)]
  · rw [if_neg e1, if_neg e1]
    by_cases e2 : kd = 2
    · rw [if_pos e2, if_pos e2]
      rw [vt_congr w n h]
      exact accF_congr _ n (fun j hj => by rw [h j hj])
    · rw [if_neg e2, if_neg e2]
      exact rowF_congr _ (k + 1) (fun j hj => h j (by omega))
theorem mdF_congr {kd ov g w : Int32} {n c : Nat} {vals hh : Nat → Int32} {p q : Nat → Int64} (hk : kindP kd n) (h : ∀ j, j < n → p j = q j) : ∀ k, k < nmF kd n → mdF kd n c ov vals g hh p w k = mdF kd n c ov vals g hh q w k := by
  intro k hkn
  unfold mdF
  unfold nmF at hkn
  by_cases e1 : kd = 1
  · have n2 := hk.2.2.1 e1
    subst n2
    rw [if_pos e1, if_pos e1]
    rw [v2_congr w h]
  · rw [if_neg e1, if_neg e1]
    rw [if_neg e1] at hkn
    by_cases e2 : kd = 2
    · rw [if_pos e2, if_pos e2]
      rw [vt_congr w n h]
    · rw [if_neg e2] at hkn
      rw [if_neg e2, if_neg e2]
      rw [rowF_congr _ k (fun j hj => h j (by omega)), h k hkn]
theorem toF_tab {kd ov g g' : Int32} {n c : Nat} {vals aa b e hh aa' b' e' hh' : Nat → Int32} (h : kd = 2 → g = g' ∧ aa = aa' ∧ b = b' ∧ e = e' ∧ hh = hh') : toF kd n c ov vals g aa b e hh = toF kd n c ov vals g' aa' b' e' hh' := by
  funext p w
  unfold toF
  by_cases e1 : kd = 1
  · rw [if_pos e1, if_pos e1]
  · rw [if_neg e1, if_neg e1]
    by_cases e2 : kd = 2
    · obtain ⟨rfl, rfl, rfl, rfl, rfl⟩ := h e2
      rfl
    · rw [if_neg e2, if_neg e2]
theorem mdF_tab {kd ov g g' : Int32} {n c : Nat} {vals hh hh' : Nat → Int32} (h : kd = 2 → g = g' ∧ hh = hh') : mdF kd n c ov vals g hh = mdF kd n c ov vals g' hh' := by
  funext p w
  unfold mdF
  by_cases e1 : kd = 1
  · rw [if_pos e1, if_pos e1]
  · rw [if_neg e1, if_neg e1]
    by_cases e2 : kd = 2
    · obtain ⟨rfl, rfl⟩ := h e2
      rfl
    · rw [if_neg e2, if_neg e2]
theorem kt_succ (t : Nat) : ktF (t + 1) = if 256 < ktF t + 1 then 256 else ktF t + 1 := by
  unfold ktF
  split
  · omega
  · omega
theorem nx_succ (t : Nat) : (nI (t % 256) + 1) &&& 255 = nI ((t + 1) % 256) := by
  rw [nI_1, pk_and _ 8 (by decide), pk_tn (by omega)]
  congr 1
  omega
theorem s_X3_note {nx kp w g : Int32} {s : Int64} {wi gv : Nat → Int32} {hs : Nat → Int64} {t : Nat} {K : Int32 → Int32 → (Nat → Int32) → (Nat → Int32) → (Nat → Int64) → Prop} (hnx : nx = nI (t % 256)) (hkp : kp = nI (ktF t)) (h : K (nI ((t + 1) % 256)) (nI (ktF (t + 1))) (upd wi (t % 256) w) (upd gv (t % 256) g) (vp_updL hs (t % 256) s)) : v_X3_note nx kp wi gv hs w g s K := by
  have hl : t % 256 < 256 := Nat.mod_lt _ (by decide)
  have hk := kt_le t
  subst hnx hkp
  refine ⟨nI_inI hl (by decide), ?_⟩
  intro f1 h1
  refine ⟨nI_inI hl (by decide), ?_⟩
  intro f2 h2
  refine ⟨nI_inI hl (by decide), ?_⟩
  intro f3 h3 e4 h4 e5 h5 e6 h6 e7 h7
  rw [nI_cl (by omega)] at h1 h2 h3
  have a5 : e5 = nI ((t + 1) % 256) := by rw [h5, h4]; exact nx_succ t
  have a7 : e7 = nI (ktF (t + 1)) := by
    rw [h7, h6, nI_1, kt_succ]
    by_cases q : 256 < ktF t + 1
    · have q' : (256 : Int32) < nI (ktF t + 1) := (nI_lt_iff (a := 256) (by omega) (by omega)).mpr q
      rw [if_pos q, if_pos q']
      rfl
    · have q' : ¬ (256 : Int32) < nI (ktF t + 1) := fun z => q ((nI_lt_iff (a := 256) (by omega) (by omega)).mp z)
      rw [if_neg q, if_neg q']
  rw [a5, a7, h1, h2, h3]
  exact h
theorem nm_1 {kd : Int32} {n : Nat} (h : 1 ≤ n) : 0 < nmF kd n := by
  unfold nmF
  split
  · omega
  · split
    · omega
    · omega
theorem nm_3 {kd : Int32} {n : Nat} (h : kd = 3) : nmF kd n = n := by
  unfold nmF
  rw [if_neg (by rw [h]; decide), if_neg (by rw [h]; decide)]
theorem s_X4_turn {kd sm ov cn tsm g pa rl hd sb tb tt w nx kp tk : Int32} {su hs cm : Nat → Int64} {pk vals aa b e hh on ot wi gv : Nat → Int32} {n c p h t : Nat} {K : Int32 → Int32 → Int32 → Int32 → Int32 → Int32 → Int32 → Int32 → (Nat → Int32) → (Nat → Int32) → (Nat → Int64) → (Nat → Int64) → (Nat → Int64) → (Nat → Int32) → (Nat → Int32) → (Nat → Int32) → Prop}
    (hc : cn = nI c) (h1 : 1 ≤ c) (h8 : c ≤ 8) (hn : sm = nI n) (hk : kindP kd n) (hk3 : kd = 3 → 2 ≤ n) (htn : kd = 2 → tsm = nI n) (hp : pa = nI p) (p16 : p ≤ 16) (hhd : hd = nI h) (hh' : h = 0 ∨ h < p) (hnx : nx = nI (t % 256)) (hkp : kp = nI (ktF t)) (htk : tk = nI t)
    (hy : ∀ (cm' : Nat → Int64) (pk' md : Nat → Int32) (gg : Int32), md = mdF kd n c ov vals g hh su w → gg = gvF kd n md sb tb tt → (∀ k, k < n → nearP (toF kd n c ov vals g aa b e hh su w k)) → K gg (nI ((t + 1) % 256)) (nI (ktF (t + 1))) (nI (t + 1)) (sbF kd md sb) (tbF kd n md tb) (ttF kd n tb tt) (nI (hdF rl h p (mnF p gg))) (upd wi (t % 256) w) (upd gv (t % 256) gg) (vp_updL hs (t % 256) (toF kd n c ov vals g aa b e hh su w 0)) (nwF n (toF kd n c ov vals g aa b e hh su w) su) cm' pk' (onF rl h p ot on (mnF p gg)) (otF p ot (onF rl h p ot on (mnF p gg))))
    (hno : ∀ (cm' : Nat → Int64) (pk' : Nat → Int32), (∃ k, k < n ∧ ¬ nearP (toF kd n c ov vals g aa b e hh su w k)) → K (-2147483648) nx kp tk sb tb tt hd wi gv hs su cm' pk' on ot) :
    v_X4_turn nx kp tk sb tb tt kd sm ov cn tsm g pa rl hd wi gv hs su cm pk vals aa b e hh on ot w K := by
  refine s_X5_advance hc h1 h8 hn hk htn (fun cm' pk' hmd hnr => ⟨fun _ => ?_, fun z => absurd z r1n⟩) (fun cm' pk' hx => ⟨fun z => absurd rfl z, fun _ => hno cm' pk' hx⟩)
  have n1 := hk.1
  have n4 := hk.2.1
  have su0 : nwF n (toF kd n c ov vals g aa b e hh su w) su 0 = toF kd n c ov vals g aa b e hh su w 0 := by unfold nwF; rw [if_pos (by omega)]
  have fin : ∀ gg sb' tb' tt' : Int32, gg = gvF kd n (mdF kd n c ov vals g hh su w) sb tb tt → sb' = sbF kd (mdF kd n c ov vals g hh su w) sb → tb' = tbF kd n (mdF kd n c ov vals g hh su w) tb → tt' = ttF kd n tb tt → vJ_X4_turn_45 nx kp tk pa rl hd wi gv hs on ot w K cm' pk' (nwF n (toF kd n c ov vals g aa b e hh su w) su) gg sb' tb' tt' := by
    intro gg sb' tb' tt' q1 q2 q3 q4
    have hK := hy cm' pk' _ gg rfl q1 hnr
    rw [← q2, ← q3, ← q4] at hK
    intro e9 he9
    have e9n : e9 = nI (t + 1) := by rw [he9, htk, nI_1]
    refine ⟨nI_inI (a := 0) (by omega) (by decide), ?_⟩
    intro g10 hg10
    rw [cl0, su0] at hg10
    refine s_X3_note hnx hkp ?_
    refine s_X9_turn hp p16 hhd hh' ?_
    rw [e9n, hg10]
    exact hK
  refine ⟨fun e3 => ⟨nI_inI (a := 0) (by omega) (by decide), ?_⟩, fun e3 => ?_⟩
  · intro g19 hg19
    rw [cl0, hmd 0 (nm_1 n1)] at hg19
    refine fin _ _ _ _ ?_ ?_ ?_ ?_
    · unfold gvF; rw [if_neg e3]; exact hg19
    · unfold sbF; rw [if_neg e3]
    · unfold tbF; rw [if_neg e3]
    · unfold ttF; rw [if_neg e3]
  · have n2 := hk3 e3
    have nm := nm_3 (kd := kd) (n := n) e3
    refine ⟨nI_inI (a := 1) (by omega) (by decide), ?_⟩
    intro g1 hg1
    refine ⟨nI_inI (a := 0) (by omega) (by decide), ?_⟩
    intro g2 hg2 e3' he3 e4 he4
    rw [cl1, hmd 1 (by omega)] at hg1
    rw [cl0, hmd 0 (by omega)] at hg2
    have nn : sm = 3 ↔ n = 3 := by rw [hn]; exact nI_eq (b := 3) (by omega) (by omega)
    refine ⟨fun q => ?_, fun q => ⟨nI_inI (a := 2) (by omega) (by decide), ?_⟩⟩
    · have q : ¬ n = 3 := fun z => q (nn.mpr z)
      refine fin _ _ _ _ ?_ ?_ ?_ ?_
      · unfold gvF; rw [if_pos e3, if_neg q, he4, he3, hg1, hg2]
      · unfold sbF; rw [if_pos e3]; exact hg1
      · unfold tbF; rw [if_pos e3, if_neg q]
      · unfold ttF; rw [if_pos e3, if_neg q]
    · have q := nn.mp q
      intro g5 hg5 e6 he6 e7 he7 e8 he8 e9 he9
      rw [cl2, hmd 2 (by omega)] at hg5
      refine fin _ _ _ _ ?_ ?_ ?_ ?_
      · unfold gvF; rw [if_pos e3, if_pos q, he9, he8, he7, he6, hg5, he4, he3, hg1, hg2]
      · unfold sbF; rw [if_pos e3]; exact hg1
      · unfold tbF; rw [if_pos e3, if_pos q]; exact hg5
      · unfold ttF; rw [if_pos e3, if_pos q]
theorem gv_ref (a b s f t u : Int32) : a + (b - s + f - 2 * t + u) = a + b - s + (f - 2 * t + u) := by
  apply Int32.toBitVec_inj.mp
  simp only [Int32.toBitVec_add, Int32.toBitVec_sub, Int32.toBitVec_mul]
  generalize (2 : Int32).toBitVec * t.toBitVec = x
  bv_omega
theorem gv_ref2 (a b s : Int32) : a + (b - s + 0 - 2 * 0 + 0) = a + b - s := by
  have : (2 : Int32) * 0 = 0 := by decide
  rw [this, Int32.add_zero, Int32.add_zero, Int32.sub_zero]
  apply Int32.toBitVec_inj.mp
  simp only [Int32.toBitVec_add, Int32.toBitVec_sub]
  bv_omega
theorem wh_zero {rl : Int32} {ot on : Nat → Int32} {g : Int32} : hdF rl 0 0 (mnF 0 g) = 0 ∧ onF rl 0 0 ot on (mnF 0 g) = on ∧ otF 0 ot (onF rl 0 0 ot on (mnF 0 g)) = ot := by
  have m0 : mnF 0 g = 0 := by have := mn_le 0 g; omega
  rw [m0]
  refine ⟨?_, rfl, ?_⟩
  · unfold hdF
    split
    · rfl
    · rfl
  · funext k
    unfold otF
    rw [if_neg (by omega)]
theorem s_X11_done {kd sm ov cn g pa rl hd sb tb tt w tk : Int32} {su hs now to : Nat → Int64} {md0 vals aa b e hh on ot wi gv : Nat → Int32} {n c p h t : Nat} {K : Int32 → Int32 → Int32 → Int32 → Int32 → Int32 → (Nat → Int64) → (Nat → Int32) → (Nat → Int32) → (Nat → Int32) → (Nat → Int32) → (Nat → Int64) → (Nat → Int64) → (Nat → Int64) → (Nat → Int32) → Prop}
    (hc : cn = nI c) (h1 : 1 ≤ c) (h8 : c ≤ 8) (hn : sm = nI n) (hk : kindP kd n) (hk3 : kd = 3 → 2 ≤ n) (hp : pa = nI p) (p16 : p ≤ 16) (hp4 : kd = 4 → 2 ≤ p) (hpn : ¬ kd = 4 → p = 0) (hrl : rl = 0 ∨ rl = 1) (hhd : hd = nI h) (hh' : h = 0 ∨ h < p) (htk : tk = nI t) (ht : t < 1073741824) (htb : ¬ n = 3 → tb = 0 ∧ tt = 0)
    (hy : ∀ (now' to' : Nat → Int64) (md' md : Nat → Int32) (gg : Int32), md = mdF kd n c ov vals g hh su w → gg = gvF kd n md sb tb tt → (∀ k, k < n → nearP (toF kd n c ov vals g aa b e hh su w k)) → K 1 (nI (t + 1)) (nI (hdF rl h p (mnF p gg))) (sbF kd md sb) (tbF kd n md tb) (ttF kd n tb tt) (nwF n (toF kd n c ov vals g aa b e hh su w) su) (onF rl h p ot on (mnF p gg)) (otF p ot (onF rl h p ot on (mnF p gg))) (upd gv (t % 256) gg) (upd wi (t % 256) w) (vp_updL hs (t % 256) (toF kd n c ov vals g aa b e hh su w 0)) now' to' md')
    (hno : ∀ (now' to' : Nat → Int64) (md' : Nat → Int32), (∃ k, k < n ∧ ¬ nearP (toF kd n c ov vals g aa b e hh su w k)) → K 0 tk hd sb tb tt su on ot gv wi hs now' to' md') :
    v_X11_done ov cn kd sm pa rl tk hd g sb tb tt vals aa b e hh su on ot gv wi hs now to md0 w K := by
  have n1 := hk.1
  have n4 := hk.2.1
  have nw : ∀ j, j < n → nwF n su now j = su j := fun j hj => by unfold nwF; rw [if_pos hj]
  have tc := toF_congr (ov := ov) (g := g) (w := w) (c := c) (vals := vals) (aa := aa) (b := b) (e := e) (hh := hh) hk nw
  have mc := mdF_congr (ov := ov) (g := g) (w := w) (c := c) (vals := vals) (hh := hh) hk nw
  refine s_copyL hn n4 ?_
  refine s_X11_next hc h1 h8 hn hk (fun to' md' hto hmd hnr => ⟨fun _ => ?_, fun z => absurd z r1n⟩) (fun to' md' hx => ⟨fun z => absurd rfl z, fun _ => hno _ to' md' ?_⟩)
  · have hto : ∀ k, k < n → to' k = toF kd n c ov vals g aa b e hh su w k := fun k hkn => by rw [hto k hkn, tc k hkn]
    have hmd : ∀ k, k < nmF kd n → md' k = mdF kd n c ov vals g hh su w k := fun k hkn => by rw [hmd k hkn, mc k hkn]
    have hnr : ∀ k, k < n → nearP (toF kd n c ov vals g aa b e hh su w k) := fun k hkn => by rw [← tc k hkn]; exact hnr k hkn
    have su0 : nwF n (toF kd n c ov vals g aa b e hh su w) su 0 = toF kd n c ov vals g aa b e hh su w 0 := by unfold nwF; rw [if_pos (by omega)]
    have fin : ∀ gg sb' tb' tt' : Int32, gg = gvF kd n (mdF kd n c ov vals g hh su w) sb tb tt → sb' = sbF kd (mdF kd n c ov vals g hh su w) sb → tb' = tbF kd n (mdF kd n c ov vals g hh su w) tb → tt' = ttF kd n tb tt → vJ_X11_done_99 kd sm pa rl tk hd su on ot gv wi hs w K (nwF n su now) to' md' gg sb' tb' tt' := by
      intro gg sb' tb' tt' q1 q2 q3 q4
      have hK := hy (nwF n su now) to' md' _ gg rfl q1 hnr
      rw [← q2, ← q3, ← q4] at hK
      subst hn
      refine vloop (fun k => (nI k, setL su to' k)) n ?_ ?_
      · intro bk k hkk hb
        unfold vF_X11_done_101 vB_X11_done_101
        refine ⟨fun q => absurd q (nI_nle_lt (by omega) hkk), fun _ => ⟨nI_inI (by omega) (by decide), ?_⟩⟩
        intro g3 hg3
        refine ⟨nI_inI (by omega) (by decide), ?_⟩
        intro p4 hp4 i5 hi5
        rw [nI_cl (by omega)] at hg3 hp4
        subst hp4 hg3 hi5
        dsimp only
        rw [nI_1]
        exact hb
      · intro bk
        unfold vF_X11_done_101 vB_X11_done_101
        dsimp only
        rw [setL_fun su to' _ n hto]
        refine ⟨fun _ => ?_, fun q => absurd (nI_rfl n (by omega)) q⟩
        have ix : tk - tk / 256 * 256 = nI (t % 256) := by rw [htk]; exact pk_rem (d := 256) (by omega) (by omega) (by omega)
        have hl : t % 256 < 256 := Nat.mod_lt _ (by decide)
        intro e12 he12
        rw [ix] at he12
        subst he12
        refine ⟨nI_inI hl (by decide), ?_⟩
        intro f13 hf13 e14 he14
        rw [ix] at he14
        subst he14
        refine ⟨nI_inI hl (by decide), ?_⟩
        intro f15 hf15 e16 he16
        rw [ix] at he16
        subst he16
        refine ⟨nI_inI (a := 0) (by omega) (by decide), ?_⟩
        intro g17 hg17
        rw [cl0, su0] at hg17
        refine ⟨nI_inI hl (by decide), ?_⟩
        intro f18 hf18 e19 he19
        rw [nI_cl (by omega)] at hf13 hf15 hf18
        have e19n : e19 = nI (t + 1) := by rw [he19, htk, nI_1]
        rw [e19n, hf13, hf15, hf18, hg17]
        refine ⟨fun q => ?_, fun q => ?_⟩
        · have p0 := hpn q
          subst p0
          have h0 : h = 0 := by omega
          subst h0
          obtain ⟨z1, z2, z3⟩ := wh_zero (rl := rl) (ot := ot) (on := on) (g := gg)
          rw [z1, z3, z2] at hK
          rw [hhd]
          exact hK
        · exact s_X11_turn hp (hp4 q) p16 hhd hh' hrl hK
    refine ⟨nI_inI (a := 0) (by omega) (by decide), ?_⟩
    intro g5 hg5
    rw [cl0, hmd 0 (nm_1 n1)] at hg5
    refine ⟨fun e3 => ?_, fun e3 => ?_⟩
    · refine fin _ _ _ _ ?_ ?_ ?_ ?_
      · unfold gvF; rw [if_neg e3]; exact hg5
      · unfold sbF; rw [if_neg e3]
      · unfold tbF; rw [if_neg e3]
      · unfold ttF; rw [if_neg e3]
    · have n2 := hk3 e3
      have nm := nm_3 (kd := kd) (n := n) e3
      have nn : sm = 3 ↔ n = 3 := by rw [hn]; exact nI_eq (b := 3) (by omega) (by omega)
      have j47 : ∀ t26 : Int32, t26 = (if n = 3 then mdF kd n c ov vals g hh su w 2 else 0) → vJ_X11_done_47 kd sm pa rl tk hd sb tb tt su on ot gv wi hs w K (nwF n su now) to' md' g5 t26 := by
        intro t26 ht26
        refine ⟨nI_inI (a := 1) (by omega) (by decide), ?_⟩
        intro g27 hg27 e28 he28 e29 he29 e30 he30 e31 he31 e32 he32 e33 he33
        refine ⟨nI_inI (a := 1) (by omega) (by decide), ?_⟩
        intro g34 hg34
        rw [cl1, hmd 1 (by omega)] at hg27 hg34
        refine fin _ _ _ _ ?_ ?_ ?_ ?_
        · unfold gvF
          rw [if_pos e3, he33, he32, he31, he30, he29, he28, hg5, hg27, ht26]
          by_cases q : n = 3
          · rw [if_pos q, if_pos q]
            exact gv_ref _ _ _ _ _ _
          · obtain ⟨z1, z2⟩ := htb q
            rw [if_neg q, if_neg q, z1, z2]
            exact gv_ref2 _ _ _
        · unfold sbF; rw [if_pos e3]; exact hg34
        · unfold tbF
          rw [if_pos e3, ht26]
          by_cases q : n = 3
          · rw [if_pos q, if_pos q]
          · rw [if_neg q, if_neg q, (htb q).1]
        · unfold ttF
          rw [if_pos e3]
          by_cases q : n = 3
          · rw [if_pos q]
          · rw [if_neg q, (htb q).1, (htb q).2]
      refine ⟨fun q => j47 0 ?_, fun q => ⟨nI_inI (a := 2) (by omega) (by decide), ?_⟩⟩
      · rw [if_neg (fun z => q (nn.mpr z))]
      · have q := nn.mp q
        intro g35 hg35
        rw [cl2, hmd 2 (by omega)] at hg35
        refine j47 g35 ?_
        rw [if_pos q]
        exact hg35
  · obtain ⟨k, hkn, hq⟩ := hx
    exact ⟨k, hkn, by rw [← tc k hkn]; exact hq⟩
