theorem updL_same (a : Nat → Int64) (i : Nat) (x y : Int64) : vp_updL (vp_updL a i x) i y = vp_updL a i y := by
  funext j
  unfold vp_updL
  by_cases h : j = i
  · rw [if_pos h, if_pos h]
  · rw [if_neg h, if_neg h, if_neg h]
theorem updL_at (a : Nat → Int64) (i : Nat) (x : Int64) : vp_updL a i x i = x := by unfold vp_updL; rw [if_pos rfl]
theorem upd_at (a : Nat → Int32) (i : Nat) (x : Int32) : upd a i x i = x := by unfold upd; rw [if_pos rfl]
theorem cl0 : (0 : Int32).toNatClampNeg = 0 := by decide
theorem cl1 : (1 : Int32).toNatClampNeg = 1 := by decide
theorem cl2 : (2 : Int32).toNatClampNeg = 2 := by decide
theorem s_X11_next {kd sm ov cn g w : Int32} {vals aa b e hh md : Nat → Int32} {now to : Nat → Int64} {n c : Nat} {K : Int32 → (Nat → Int64) → (Nat → Int32) → Prop} (hc : cn = nI c) (h1 : 1 ≤ c) (h8 : c ≤ 8) (hn : sm = nI n) (hk : kindP kd n)
    (hy : ∀ to' md', (∀ k, k < n → to' k = toF kd n c ov vals g aa b e hh now w k) → (∀ k, k < nmF kd n → md' k = mdF kd n c ov vals g hh now w k) → (∀ k, k < n → nearP (toF kd n c ov vals g aa b e hh now w k)) → K 1 to' md')
    (hno : ∀ to' md', (∃ k, k < n ∧ ¬ nearP (toF kd n c ov vals g aa b e hh now w k)) → K 0 to' md') : v_X11_next ov cn kd sm g vals aa b e hh now to md w K := by
  obtain ⟨k1, k4, kk1, kk3, kkn⟩ := hk
  have fin : ∀ to' md', (∀ k, k < n → to' k = toF kd n c ov vals g aa b e hh now w k) → (∀ k, k < nmF kd n → md' k = mdF kd n c ov vals g hh now w k) → vJ_X11_next_390 sm K to' md' := by
    intro to' md' q1 q2
    refine s_next_end hn k4 (fun hnr => hy to' md' q1 q2 (fun k hk => by rw [← q1 k hk]; exact hnr k hk)) (fun hnr => ?_)
    obtain ⟨k, hk, hq⟩ := hnr
    exact hno to' md' ⟨k, hk, by rw [← q1 k hk]; exact hq⟩
  refine ⟨fun e1 => ?_, fun e2 => ?_, fun e3 => ?_, fun e1 e2 e3 => ?_⟩
  · have hn2 := kk1 e1
    subst hn2
    refine ⟨nI_inI (a := 0) (by omega) (by decide), ?_⟩
    intro g9 hg9 e10 he10 e11 he11
    refine ⟨nI_inI (a := 1) (by omega) (by decide), ?_⟩
    intro g12 hg12 e13 he13
    rw [cl0] at hg9
    rw [cl1] at hg12
    have hv : e13 = v2F now w := by rw [he13, he11, he10, hg9, hg12]; rfl
    rw [hv]
    refine s_X11_stepFor hc h1 h8 ?_
    refine ⟨nI_inI (a := 0) (by omega) (by decide), ?_⟩
    intro md15 hmd
    refine ⟨nI_inI (a := 0) (by omega) (by decide), ?_⟩
    intro g16 hg16
    refine ⟨nI_inI (a := 1) (by omega) (by decide), ?_⟩
    intro to17 hto17
    refine ⟨nI_inI (a := 0) (by omega) (by decide), ?_⟩
    intro g18 hg18 e19 he19 e20 he20
    refine ⟨nI_inI (a := 0) (by omega) (by decide), ?_⟩
    intro to21 hto21
    rw [cl0] at hmd hg16 hg18 hto21
    rw [cl1] at hto17
    have hg18' : g18 = stF vals ov c (v2F now w) := by rw [hg18, hmd, upd_at]
    refine fin _ _ (fun k hk => ?_) (fun k hk => ?_)
    · unfold toF
      rw [if_pos e1, hto21, hto17, hg16, he20, he19, hg18']
      match k, hk with
      | 0, _ => rfl
      | 1, _ => rfl
    · unfold nmF at hk
      rw [if_pos e1] at hk
      have : k = 0 := by omega
      subst this
      unfold mdF
      rw [if_pos e1, hmd, upd_at]
  · have e1 : ¬ kd = 1 := by rw [e2]; decide
    intro e22 he22
    subst hn he22
    refine vloop (fun k => (nI k, accF (fun j => (hh j).toInt64 * now j) (g.toInt64 * w.toInt64) k)) n ?_ ?_
    · intro bk k hk hb
      unfold vF_X11_next_112 vB_X11_next_112
      refine ⟨fun q => absurd q (nI_nle_lt (by omega) hk), fun _ => ⟨nI_inI (by omega) (by decide), ?_⟩⟩
      intro g49 hg49
      refine ⟨nI_inI (by omega) (by decide), ?_⟩
      intro g50 hg50 e51 he51 e52 he52 i53 hi53
      rw [nI_cl (by omega)] at hg49 hg50
      subst he52 he51 hg49 hg50 hi53
      dsimp only
      rw [nI_1]
      exact hb
    · intro bk
      unfold vF_X11_next_112 vB_X11_next_112
      refine ⟨fun _ => ?_, fun q => absurd (nI_rfl n (by omega)) q⟩
      refine s_X11_stepFor hc h1 h8 ?_
      refine ⟨nI_inI (a := 0) (by omega) (by decide), ?_⟩
      intro md26 hmd
      rw [cl0] at hmd
      have hv : accF (fun j => (hh j).toInt64 * now j) (g.toInt64 * w.toInt64) n = vtF g hh now w n := rfl
      dsimp only at hmd
      rw [hv] at hmd
      refine vloop (fun i => (nI i, setL to (fun i => accF (fun j => (aa (i * 4 + j)).toInt64 * now j) ((b i).toInt64 * w.toInt64 + (e i).toInt64 * fiF vals ov c (vtF g hh now w n)) n) i)) n ?_ ?_
      · intro bk2 i hi hb
        unfold vF_X11_next_160 vB_X11_next_160
        refine ⟨fun q => absurd q (nI_nle_lt (by omega) hi), fun _ => ⟨nI_inI (by omega) (by decide), ?_⟩⟩
        intro g29 hg29 e30 he30
        refine ⟨nI_inI (by omega) (by decide), ?_⟩
        intro g31 hg31
        refine ⟨nI_inI (a := 0) (by omega) (by decide), ?_⟩
        intro g32 hg32 e33 he33 e34 he34 e35 he35
        refine ⟨nI_inI (by omega) (by decide), ?_⟩
        intro to36 hto36
        rw [nI_cl (by omega)] at hg29 hg31 hto36
        rw [cl0, hmd, upd_at] at hg32
        have hbase : e35 = (b i).toInt64 * w.toInt64 + (e i).toInt64 * fiF vals ov c (vtF g hh now w n) := by
          rw [he35, he30, he34, he33, hg29, hg31, hg32, Int64.mul_assoc]; rfl
        rw [hbase] at hto36
        subst hto36
        refine vloop (fun j => (nI j, vp_updL (setL to (fun i => accF (fun j => (aa (i * 4 + j)).toInt64 * now j) ((b i).toInt64 * w.toInt64 + (e i).toInt64 * fiF vals ov c (vtF g hh now w n)) n) i) i (accF (fun j => (aa (i * 4 + j)).toInt64 * now j) ((b i).toInt64 * w.toInt64 + (e i).toInt64 * fiF vals ov c (vtF g hh now w n)) j))) n ?_ ?_
        · intro bk3 j hj hb3
          unfold vF_X11_next_213 vB_X11_next_213
          refine ⟨fun q => absurd q (nI_nle_lt (by omega) hj), fun _ => ⟨nI_inI (by omega) (by decide), ?_⟩⟩
          intro g40 hg40 e41 he41 e42 he42
          have e42n : e42 = nI (i * 4 + j) := by rw [he42, he41, ← nI_add, Nat.mul_comm i 4, ← pk_mul]; rfl
          rw [e42n]
          refine ⟨nI_inI (by omega) (by decide), ?_⟩
          intro g43 hg43
          refine ⟨nI_inI (by omega) (by decide), ?_⟩
          intro g44 hg44 e45 he45 e46 he46
          refine ⟨nI_inI (by omega) (by decide), ?_⟩
          intro to47 hto47 i48 hi48
          rw [nI_cl (by omega)] at hg40 hg43 hg44 hto47
          dsimp only at hg40 hto47
          rw [updL_at] at hg40
          rw [updL_same] at hto47
          subst hto47 he46 he45 hg40 hg43 hg44 hi48
          dsimp only
          rw [nI_1]
          exact hb3
        · intro bk3
          unfold vF_X11_next_213 vB_X11_next_213
          refine ⟨fun _ => ?_, fun q => absurd (nI_rfl n (by omega)) q⟩
          intro i39 hi39
          subst hi39
          dsimp only
          rw [nI_1]
          exact hb
      · intro bk2
        unfold vF_X11_next_160 vB_X11_next_160
        refine ⟨fun _ => ?_, fun q => absurd (nI_rfl n (by omega)) q⟩
        refine fin _ _ (fun k hk => ?_) (fun k hk => ?_)
        · dsimp only
          rw [setL_lt _ _ _ _ hk]
          unfold toF
          rw [if_neg e1, if_pos e2]
        · unfold nmF at hk
          rw [if_neg e1, if_pos e2] at hk
          have : k = 0 := by omega
          subst this
          unfold mdF
          rw [if_neg e1, if_pos e2, hmd, upd_at]
  · have e1 : ¬ kd = 1 := by rw [e3]; decide
    have e2 : ¬ kd = 2 := by rw [e3]; decide
    have hn3 := kk3 e1 e2
    subst hn
    refine vloop (fun k => (nI k, rowF vals ov c now w.toInt64 k, setL to (fun k => rowF vals ov c now w.toInt64 (k + 1)) k, setI md (fun k => stF vals ov c (now k + rowF vals ov c now w.toInt64 k)) k)) n ?_ ?_
    · intro bk k hk hb
      unfold vF_X11_next_275 vB_X11_next_275
      refine ⟨fun q => absurd q (nI_nle_lt (by omega) hk), fun _ => ⟨nI_inI (by omega) (by decide), ?_⟩⟩
      intro g58 hg58 e59 he59
      rw [nI_cl (by omega)] at hg58
      subst hg58
      dsimp only at he59
      subst he59
      refine s_X11_stepFor hc h1 h8 ?_
      refine ⟨nI_inI (by omega) (by decide), ?_⟩
      intro md61 hmd
      refine ⟨nI_inI (by omega) (by decide), ?_⟩
      intro g62 hg62 e63 he63 e64 he64
      refine ⟨nI_inI (by omega) (by decide), ?_⟩
      intro to65 hto
      refine ⟨nI_inI (by omega) (by decide), ?_⟩
      intro g66 hg66 i67 hi67
      rw [nI_cl (by omega)] at hmd hg62 hto hg66
      rw [hmd, upd_at] at hg62
      rw [hto, updL_at] at hg66
      rw [hg66, hi67, hto, hmd, he64, he63, hg62, nI_1]
      exact hb
    · intro bk
      unfold vF_X11_next_275 vB_X11_next_275
      refine ⟨fun _ => ?_, fun q => absurd (nI_rfl n (by omega)) q⟩
      refine fin _ _ (fun k hk => ?_) (fun k hk => ?_)
      · dsimp only
        rw [setL_lt _ _ _ _ hk]
        unfold toF
        rw [if_neg e1, if_neg e2]
      · unfold nmF at hk
        rw [if_neg e1, if_neg e2] at hk
        dsimp only
        rw [setI_lt _ _ _ _ hk]
        unfold mdF
        rw [if_neg e1, if_neg e2]
  · have hn1 := kkn e1 e2 e3
    subst hn1
    refine ⟨nI_inI (a := 0) (by omega) (by decide), ?_⟩
    intro g68 hg68 e69 he69
    rw [cl0] at hg68
    subst hg68
    refine s_X11_stepFor hc h1 h8 ?_
    refine ⟨nI_inI (a := 0) (by omega) (by decide), ?_⟩
    intro md71 hmd
    refine ⟨nI_inI (a := 0) (by omega) (by decide), ?_⟩
    intro g72 hg72 e73 he73 e74 he74
    refine ⟨nI_inI (a := 0) (by omega) (by decide), ?_⟩
    intro to75 hto
    rw [cl0] at hmd hg72 hto
    rw [hmd, upd_at] at hg72
    refine fin _ _ (fun k hk => ?_) (fun k hk => ?_)
    · have : k = 0 := by omega
      subst this
      unfold toF
      rw [if_neg e1, if_neg e2, hto, updL_at, he74, he73, hg72, he69]
      rfl
    · unfold nmF at hk
      rw [if_neg e1, if_neg e2] at hk
      have : k = 0 := by omega
      subst this
      unfold mdF
      rw [if_neg e1, if_neg e2, hmd, upd_at, he69]
      rfl
