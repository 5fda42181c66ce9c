/-! the base of all contracts here: array classes by a triple, the nest words, one form of a contract -/
abbrev tyL (cy : ClassId × ClassId × ClassId) : List (ClassId × FieldType) := [(cy.1, .int), (cy.2.1, .long), (cy.2.2, .boolean)]
def nzW : List Cond := [.fieldLinkNest "CoarseSteps" 114 "CoarseSteps$Loop" "ticks" "I" "CoarseSteps", .fieldLinkNest "CoarseSteps" 129 "CoarseSteps$Loop" "sums" "[J" "CoarseSteps", .fieldLinkNest "CoarseSteps" 132 "CoarseSteps$Loop" "history" "LCoarseSteps$History;" "CoarseSteps", .fieldLinkNest "CoarseSteps" 161 "CoarseSteps$Outlook" "toldTail" "I" "CoarseSteps", .fieldLinkNest "CoarseSteps" 203 "CoarseSteps$Claim" "low" "J" "CoarseSteps", .fieldLinkNest "CoarseSteps" 207 "CoarseSteps$Claim" "high" "J" "CoarseSteps", .fieldLinkNest "CoarseSteps" 214 "CoarseSteps$Loop" "wheel" "LCoarseSteps$Wheel;" "CoarseSteps", .fieldLinkNest "CoarseSteps" 218 "CoarseSteps$Wheel" "parts" "I" "CoarseSteps", .fieldLinkNest "CoarseSteps" 223 "CoarseSteps$Wheel" "isOn" "[Z" "CoarseSteps", .fieldLinkNest "CoarseSteps" 227 "CoarseSteps$Wheel" "timesOn" "[I" "CoarseSteps", .fieldLinkNest "CoarseSteps" 234 "CoarseSteps$Scale" "count" "I" "CoarseSteps", .fieldLinkNest "CoarseSteps" 237 "CoarseSteps$History" "kept" "I" "CoarseSteps", .fieldLinkNest "CoarseSteps" 240 "CoarseSteps$Filter" "count" "I" "CoarseSteps", .fieldLinkNest "CoarseSteps" 241 "CoarseSteps$Wheel" "hand" "I" "CoarseSteps", .fieldLinkNest "CoarseSteps" 244 "CoarseSteps$Scale" "values" "[I" "CoarseSteps", .fieldLinkNest "CoarseSteps" 55 "CoarseSteps$Scale" "over" "I" "CoarseSteps", .fieldLinkNest "CoarseSteps" 74 "CoarseSteps$Loop" "mover" "LCoarseSteps$Mover;" "CoarseSteps", .fieldLinkNest "CoarseSteps" 78 "CoarseSteps$Mover" "sums" "I" "CoarseSteps", .fieldLinkNest "CoarseSteps" 90 "CoarseSteps$Mover" "kind" "I" "CoarseSteps", .fieldLinkNest "CoarseSteps" 97 "CoarseSteps$Mover" "tables" "LCoarseSteps$Tables;" "CoarseSteps", .fieldLinkNest "CoarseSteps$Box" 24 "CoarseSteps$Mover" "sums" "I" "CoarseSteps", .fieldLinkNest "CoarseSteps$Claim" 26 "CoarseSteps$History" "kept" "I" "CoarseSteps", .fieldLinkNest "CoarseSteps$Claim" 36 "CoarseSteps$Scale" "over" "I" "CoarseSteps", .fieldLinkNest "CoarseSteps$Claim" 54 "CoarseSteps$Scale" "count" "I" "CoarseSteps", .fieldLinkNest "CoarseSteps$Loop" 72 "CoarseSteps$Mover" "kind" "I" "CoarseSteps", .fieldLinkNest "CoarseSteps$Loop" 79 "CoarseSteps$Mover" "picked" "[I" "CoarseSteps", .fieldLinkNest "CoarseSteps$Loop" 91 "CoarseSteps$Mover" "sums" "I" "CoarseSteps", .fieldLinkNest "CoarseSteps$Loop" 93 "CoarseSteps$History" "kept" "I" "CoarseSteps", .fieldLinkNest "CoarseSteps$Mover" 79 "CoarseSteps$Scale" "values" "[I" "CoarseSteps", .fieldLinkNest "CoarseSteps$Outlook" 34 "CoarseSteps$Loop" "sums" "[J" "CoarseSteps", .fieldLinkNest "CoarseSteps$Outlook" 43 "CoarseSteps$Loop" "mover" "LCoarseSteps$Mover;" "CoarseSteps", .fieldLinkNest "CoarseSteps$Outlook" 61 "CoarseSteps$Mover" "sums" "I" "CoarseSteps", .methodLinkNest "CoarseSteps" 36 ⟨"CoarseSteps$Box", "<init>", "()V"⟩ "CoarseSteps", .methodLinkNest "CoarseSteps" 43 ⟨"CoarseSteps$Filter", "<init>", "()V"⟩ "CoarseSteps", .methodLinkNest "CoarseSteps$Loop" 11 ⟨"CoarseSteps$Wheel", "<init>", "()V"⟩ "CoarseSteps", .methodLinkNest "CoarseSteps$Loop" 20 ⟨"CoarseSteps$History", "<init>", "()V"⟩ "CoarseSteps", .methodLinkNest "CoarseSteps$Mover" 11 ⟨"CoarseSteps$Tables", "<init>", "()V"⟩ "CoarseSteps", .methodLinkNest "CoarseSteps$Mover" 55 ⟨"CoarseSteps", "isSum", "(J)Z"⟩ "CoarseSteps", .methodLinkNest "CoarseSteps$Scale" 22 ⟨"CoarseSteps", "isWithin", "(II)Z"⟩ "CoarseSteps"]
def nzB : Cond → Bool
  | .fieldLinkNest _ _ _ _ _ _ => true
  | .methodLinkNest _ _ _ _ => true
  | _ => false
theorem nzW_B : nzW.all nzB = true := by decide +kernel
def nz (U : State) : Prop := ∀ w ∈ nzW, va_Nw w U
theorem nzB_T {w : Cond} (h : nzB w = true) : w.onTables = true := by
  cases w <;> first | rfl | (simp [nzB] at h)
theorem nz_w {w : Cond} (hw : w ∈ nzW) : nzB w = true := List.all_eq_true.mp nzW_B w hw
theorem nz_warm {s U : State} (hW : s.WarmedH U.vm) (h : nz s) : nz U := by
  intro w hw
  have h1 := h w hw
  have h2 := nz_w hw
  cases w <;> first | exact va_Nw.warmF hW h1 | exact va_Nw.warmM hW h1 | (simp [nzB] at h2)
theorem nz_same {u U : State} (e : u.vm = U.vm) (h : nz u) : nz U := fun w hw => va_Nw.same (nzB_T (nz_w hw)) e (h w hw)
theorem nz_use {w : Cond} {A : Array Value} {U : State} (h : nz U) (hw : w ∈ nzW) : w.before A U = true := va_Nw.use (nzB_T (nz_w hw)) (h w hw)
/-- the world at a method's start -/
def wd (D : va_G) (cy : ClassId × ClassId × ClassId) (ws : va_W) (sz : Nat) (U : State) : Prop := U.heap.size = sz ∧ va_P D vwCl ws U.heap ∧ va_K D vwCl (tyL cy) U ∧ va_D (fun _ => True) ws ∧ nz U
/-- the world at its end -/
def we (D : va_G) (ws : va_W) (A : Nat → Prop) (t : State) : Prop := va_P D vwCl ws t.heap ∧ va_D A ws
theorem wd_blind {av : List Value} {D : va_G} {cy : ClassId × ClassId × ClassId} {ws : va_W} {sz : Nat} : FrameBlind (va_Pc av (wd D cy ws sz)) := by
  intro a U g mk q
  obtain ⟨q, q0, q1, q2, q3, q4⟩ := q
  exact ⟨q, q0, q1, va_K.moved (u := U) (U := U.calling g mk a) (Vm.Alike.refl U.vm) q2, q3, nz_same (u := U) (U := U.calling g mk a) rfl q4⟩
theorem wd_ok {av : List Value} {D : va_G} {cy : ClassId × ClassId × ClassId} {ws : va_W} {s : State} {H : Heap} {A : Nat → Prop} (hP : va_P D vwCl ws H) (hK : va_K D vwCl (tyL cy) s) (hD : va_D A ws) (hN : nz s) : ∀ U : State, U.heap = H → s.WarmedH U.vm → va_Pc av (wd D cy ws H.size) av.toArray U :=
  fun U hU hW => ⟨rfl, by rw [hU], by rw [hU]; exact hP, va_K.moved hW.alike hK, hD.weaken (fun _ _ _ _ => trivial), nz_warm hW hN⟩
section BE
variable {l : Launch}
theorem k_ofW {y : MethodName} {wsy ws' : List Cond} {rm : Room} {cc : ByteArray} {maxL : Nat} {ret : Option FieldType} {av : List Value} {D : va_G} {cy : ClassId × ClassId × ClassId} {ws : va_W} {sz mc ms : Nat} (Qf : (Nat → Prop) → Array Value → State → Outcome → State → Prop)
    (hy : plainName y.cls = true) (hw : wsy = Cond.code y cc maxL ret :: ws') (hle : (lg_sl av).length ≤ maxL)
    (body : ∀ (p : Program) (e : Env) (s : State) (m : MethodId) (below : List Frame) (meth : Method) (c : Code) (A : Nat → Prop) (ls : Array Slot) (H : Heap) (locs : List Loc), p.tables.exec = Jvm.exec → c.code = cc → c.maxLocals = maxL → meth.sig.returnType = ret → (∀ w ∈ wsy, w.before av.toArray s = true) → s.vm.findClass y.cls = some m.cls → meth.locks = false → meth.name = y.name → va_K D vwCl (tyL cy) s → nz s → (∀ q, s.heap.size ≤ q → A q) → va_P D vwCl ws H → va_D A ws → va_S A s.heap H locs → lv_has ls maxL (lv_args 0 av) →
      W p l e rm s m av.toArray below meth c H locs 0 0 (MQ below (Qf A) av.toArray s mc ms A) (F0 m 0 ls [])) :
    Met l y wsy rm (va_Pc av (wd D cy ws sz)) (Qf (va_A ws sz)) mc ms (va_A ws sz) := by
  refine Met.ofW (cc := cc) (maxL := maxL) (ret := ret) hy hw ?_
  intro p e s m args below meth c s₁ B hml hv
  obtain ⟨rfl, hsz, hP, hK, hD0, hN⟩ := hv
  subst hsz
  rw [lg_entry_eq]
  exact body p e s m below meth c (va_A ws s.heap.size) _ s.heap [] B.exec B.bytes hml B.returns (atoms_spec (ws := wsy) B.pre) (findClass_of_methodNamed B.named) B.notSynchronized (name_of_methodNamed B.named B.method).1 hK hN (fun q h => Or.inr h) hP hD0.self va_S.rf (lv_entry av hle)
end BE
section BR
variable {p : Program} {l : Launch} {e : Env} {R : Room} {s : State} {m : MethodId} {args : Array Value} {below : List Frame} {meth : Method} {c : Code} {H : Heap} {locs : List Loc} {cells slots : Nat} {cc : ByteArray} {pc : Nat} {ls : Array Slot} {D : va_G} {A : Nat → Prop} {S : Type} {wn : S → va_W}
theorem k_iret {post : Int32 → S → Prop} {v : Int32} (hx : p.tables.exec = Jvm.exec) (hb : c.code = cc) (hr : meth.sig.returnType = some .int) (hlocks : meth.locks = false) (hS : va_S A s.heap H locs) (u : S) (hP : va_P D vwCl (wn u) H) (hD : va_D A (wn u)) (hp : post v u) (hdg : decode cc pc = .ok (.ireturn, 1)) :
    W p l e R s m args below meth c H locs cells slots (MQ below (va_Qi post (fun u t => we D (wn u) A t) A) args s cells slots A) (F0 m pc ls [.int v]) :=
  W.iret (v := v) hx hb hr (fun t ht hW => ⟨⟨v, u, rfl, hp, by rw [ht]; exact hP, hD⟩, hS.F ht⟩) hS.2.2 hdg hlocks
theorem k_zret {post : Int32 → S → Prop} {v : Int32} (hx : p.tables.exec = Jvm.exec) (hb : c.code = cc) (hr : meth.sig.returnType = some .boolean) (hlocks : meth.locks = false) (hS : va_S A s.heap H locs) (u : S) (hP : va_P D vwCl (wn u) H) (hD : va_D A (wn u)) (hz : v = 0 ∨ v = 1) (hp : post v u) (hdg : decode cc pc = .ok (.ireturn, 1)) :
    W p l e R s m args below meth c H locs cells slots (MQ below (va_Qi (fun r u => (r = 0 ∨ r = 1) ∧ post r u) (fun u t => we D (wn u) A t) A) args s cells slots A) (F0 m pc ls [.int v]) :=
  W.zret (v := v) hx hb hr (by rcases hz with rfl | rfl <;> rfl) (fun t ht hW => ⟨⟨v, u, rfl, ⟨hz, hp⟩, by rw [ht]; exact hP, hD⟩, hS.F ht⟩) hS.2.2 hdg hlocks
theorem k_lret {post : Int64 → S → Prop} {v : Int64} (hx : p.tables.exec = Jvm.exec) (hb : c.code = cc) (hr : meth.sig.returnType = some .long) (hlocks : meth.locks = false) (hS : va_S A s.heap H locs) (u : S) (hP : va_P D vwCl (wn u) H) (hD : va_D A (wn u)) (hp : post v u) (hdg : decode cc pc = .ok (.lreturn, 1)) :
    W p l e R s m args below meth c H locs cells slots (MQ below (va_Ql post (fun u t => we D (wn u) A t) A) args s cells slots A) (F0 m pc ls [.long v]) :=
  W.lret (v := v) hx hb hr (fun t ht hW => ⟨⟨v, u, rfl, hp, by rw [ht]; exact hP, hD⟩, hS.F ht⟩) hS.2.2 hdg hlocks
theorem k_vret {post : S → Prop} (hx : p.tables.exec = Jvm.exec) (hb : c.code = cc) (hr : meth.sig.returnType = none) (hlocks : meth.locks = false) (hS : va_S A s.heap H locs) (u : S) (hP : va_P D vwCl (wn u) H) (hD : va_D A (wn u)) (hp : post u) (hdg : decode cc pc = .ok (.return_, 1)) :
    W p l e R s m args below meth c H locs cells slots (MQ below (va_Qv post (fun u t => we D (wn u) A t) A) args s cells slots A) (F0 m pc ls []) :=
  W.vret hx hb hr (fun t ht hW => ⟨⟨u, rfl, hp, by rw [ht]; exact hP, hD⟩, hS.F ht⟩) hS.2.2 hdg hlocks
end BR
section BC
variable {p : Program} {l : Launch} {e : Env} {R : Room} {s : State} {m : MethodId} {args : Array Value} {below : List Frame} {meth : Method} {c : Code} {H : Heap} {locs : List Loc} {cells slots : Nat} {Q : State → Prop} {cc : ByteArray} {pc : Nat} {ls : Array Slot} {D : va_G} {A : Nat → Prop} {S : Type} {wn : S → va_W} {ws wc wr : va_W} {mc ms : Nat} {st0 rest : List Value} {a : Array Value} {H0 : Heap}
theorem k_cali {post : Int32 → S → Prop} (hr : va_Run p l e R s m args below meth c H locs cells slots mc ms (F0 m pc ls st0) rest (va_Qi post (fun u t => we D (wn u) (va_A wc H.size) t) (va_A wc H.size) a) (va_A wc H.size))
    (hP : va_P D vwCl ws H) (hD : va_D A ws) (hS : va_S A H0 H locs) (hA : ∀ q, H0.size ≤ q → A q) (isC isR : List Nat) (hC : isC.map (fun i => ws[i]?) = wc.map some) (hR : isR.map (fun i => ws[i]?) = wr.map some) (hn : va_nd isR = true) (hdis : ∀ i ∈ isR, i ∉ isC)
    (kk : ∀ (r : Int32) (u : S) (H1 : Heap) (locs1 : List Loc), post r u → va_P D vwCl (wr ++ wn u) H1 → va_D A (wr ++ wn u) → va_S A H0 H1 locs1 → W p l e R s m args below meth c H1 locs1 (cells + mc) (slots + ms) Q (F0 m (pc + 3) ls (.int r :: rest))) :
    W p l e R s m args below meth c H locs cells slots Q (F0 m pc ls st0) := by
  have hF := va_free (wc := wc) hD hS hA isC hC
  refine va_calli hr hS (fun q _ h => hF q h) hF (fun r u t H1 locs1 ht hvm hw hB hz1 hk1 hS1 => ?_)
  obtain ⟨hP1, hD1⟩ := hB
  rw [ht] at hP1
  obtain ⟨hP2, hD2⟩ := va_join hP hD isC isR hC hR hn hdis hk1 hF hP1 hD1
  exact kk r u H1 locs1 hw hP2 hD2 hS1
theorem k_call {post : Int64 → S → Prop} (hr : va_Run p l e R s m args below meth c H locs cells slots mc ms (F0 m pc ls st0) rest (va_Ql post (fun u t => we D (wn u) (va_A wc H.size) t) (va_A wc H.size) a) (va_A wc H.size))
    (hP : va_P D vwCl ws H) (hD : va_D A ws) (hS : va_S A H0 H locs) (hA : ∀ q, H0.size ≤ q → A q) (isC isR : List Nat) (hC : isC.map (fun i => ws[i]?) = wc.map some) (hR : isR.map (fun i => ws[i]?) = wr.map some) (hn : va_nd isR = true) (hdis : ∀ i ∈ isR, i ∉ isC)
    (kk : ∀ (r : Int64) (u : S) (H1 : Heap) (locs1 : List Loc), post r u → va_P D vwCl (wr ++ wn u) H1 → va_D A (wr ++ wn u) → va_S A H0 H1 locs1 → W p l e R s m args below meth c H1 locs1 (cells + mc) (slots + ms) Q (F0 m (pc + 3) ls (.long r :: rest))) :
    W p l e R s m args below meth c H locs cells slots Q (F0 m pc ls st0) := by
  have hF := va_free (wc := wc) hD hS hA isC hC
  refine va_calll hr hS (fun q _ h => hF q h) hF (fun r u t H1 locs1 ht hvm hw hB hz1 hk1 hS1 => ?_)
  obtain ⟨hP1, hD1⟩ := hB
  rw [ht] at hP1
  obtain ⟨hP2, hD2⟩ := va_join hP hD isC isR hC hR hn hdis hk1 hF hP1 hD1
  exact kk r u H1 locs1 hw hP2 hD2 hS1
theorem k_calv {post : S → Prop} (hr : va_Run p l e R s m args below meth c H locs cells slots mc ms (F0 m pc ls st0) rest (va_Qv post (fun u t => we D (wn u) (va_A wc H.size) t) (va_A wc H.size) a) (va_A wc H.size))
    (hP : va_P D vwCl ws H) (hD : va_D A ws) (hS : va_S A H0 H locs) (hA : ∀ q, H0.size ≤ q → A q) (isC isR : List Nat) (hC : isC.map (fun i => ws[i]?) = wc.map some) (hR : isR.map (fun i => ws[i]?) = wr.map some) (hn : va_nd isR = true) (hdis : ∀ i ∈ isR, i ∉ isC)
    (kk : ∀ (u : S) (H1 : Heap) (locs1 : List Loc), post u → va_P D vwCl (wr ++ wn u) H1 → va_D A (wr ++ wn u) → va_S A H0 H1 locs1 → W p l e R s m args below meth c H1 locs1 (cells + mc) (slots + ms) Q (F0 m (pc + 3) ls rest)) :
    W p l e R s m args below meth c H locs cells slots Q (F0 m pc ls st0) := by
  have hF := va_free (wc := wc) hD hS hA isC hC
  refine va_callv hr hS (fun q _ h => hF q h) hF (fun u t H1 locs1 ht hvm hw hB hz1 hk1 hS1 => ?_)
  obtain ⟨hP1, hD1⟩ := hB
  rw [ht] at hP1
  obtain ⟨hP2, hD2⟩ := va_join hP hD isC isR hC hR hn hdis hk1 hF hP1 hD1
  exact kk u H1 locs1 hw hP2 hD2 hS1
end BC
/-! compares of longs -/
theorem lc_cases (x y : Int64) : (y < x ∧ lg_cmp x y = 1) ∨ (x = y ∧ lg_cmp x y = 0) ∨ (x < y ∧ lg_cmp x y = -1) := by
  unfold lg_cmp
  by_cases h1 : y < x
  · exact Or.inl ⟨h1, if_pos h1⟩
  · by_cases h2 : x = y
    · exact Or.inr (Or.inl ⟨h2, by rw [if_neg h1, if_pos h2]⟩)
    · refine Or.inr (Or.inr ⟨?_, by rw [if_neg h1, if_neg h2]⟩)
      have h3 : x.toInt ≠ y.toInt := fun q => h2 (Int64.toInt_inj.mp q)
      rw [Int64.lt_iff_toInt_lt] at h1 ⊢
      omega
theorem lc_asym {x y : Int64} (h : x < y) : ¬ y < x ∧ ¬ x = y := by
  rw [Int64.lt_iff_toInt_lt] at h
  refine ⟨fun q => ?_, fun q => ?_⟩
  · rw [Int64.lt_iff_toInt_lt] at q; omega
  · rw [q] at h; omega
theorem lc_lt (x y : Int64) : lg_cmp x y < 0 ↔ x < y := by
  rcases lc_cases x y with ⟨h, e⟩ | ⟨h, e⟩ | ⟨h, e⟩
  · rw [e]; exact ⟨fun q => absurd q (by decide), fun q => absurd q (lc_asym h).1⟩
  · rw [e]; exact ⟨fun q => absurd q (by decide), fun q => absurd h (lc_asym q).2⟩
  · rw [e]; exact ⟨fun _ => h, fun _ => by decide⟩
theorem lc_gt (x y : Int64) : 0 < lg_cmp x y ↔ y < x := by
  rcases lc_cases x y with ⟨h, e⟩ | ⟨h, e⟩ | ⟨h, e⟩
  · rw [e]; exact ⟨fun _ => h, fun _ => by decide⟩
  · rw [e]; exact ⟨fun q => absurd q (by decide), fun q => absurd h.symm (lc_asym q).2⟩
  · rw [e]; exact ⟨fun q => absurd q (by decide), fun q => absurd q (lc_asym h).1⟩
theorem lc_eq (x y : Int64) : lg_cmp x y = 0 ↔ x = y := by
  rcases lc_cases x y with ⟨h, e⟩ | ⟨h, e⟩ | ⟨h, e⟩
  · rw [e]; exact ⟨fun q => absurd q (by decide), fun q => absurd q.symm (lc_asym h).2⟩
  · rw [e]; exact ⟨fun _ => h, fun _ => rfl⟩
  · rw [e]; exact ⟨fun q => absurd q (by decide), fun q => absurd q (lc_asym h).2⟩
theorem lc_ge (x y : Int64) : 0 ≤ lg_cmp x y ↔ ¬ x < y := by
  rw [← lc_lt x y, Int32.le_iff_toInt_le, Int32.lt_iff_toInt_lt]; omega
theorem lc_le (x y : Int64) : lg_cmp x y ≤ 0 ↔ ¬ y < x := by
  rw [← lc_gt x y, Int32.le_iff_toInt_le, Int32.lt_iff_toInt_lt]; omega
/-! loops of the pure predicates: a fixed point with fuel -/
def vfix {V : Type} (B : (V → Prop) → V → Prop) : Nat → V → Prop
  | 0, _ => False
  | n + 1, v => B (vfix B n) v
theorem vfix_n {V : Type} {B : (V → Prop) → V → Prop} (I : V → Prop) (μ : V → Nat) (h : ∀ (bk : V → Prop) (v : V), I v → (∀ w, I w → μ w < μ v → bk w) → B bk v) : ∀ (n : Nat) (v : V), μ v < n → I v → vfix B n v := by
  intro n
  induction n with
  | zero => intro v h1 _; omega
  | succ n ih => intro v h1 hI; exact h _ v hI (fun w hw hm => ih w (by omega) hw)
theorem vfix_ex {V : Type} {B : (V → Prop) → V → Prop} (I : V → Prop) (μ : V → Nat) (h : ∀ (bk : V → Prop) (v : V), I v → (∀ w, I w → μ w < μ v → bk w) → B bk v) (v : V) (hv : I v) : ∃ n, vfix B n v := ⟨μ v + 1, vfix_n I μ h _ v (Nat.lt_succ_self _) hv⟩
section BA
variable {p : Program} {l : Launch} {e : Env} {R : Room} {s : State} {m : MethodId} {args : Array Value} {below : List Frame} {meth : Method} {c : Code} {H : Heap} {locs : List Loc} {cells slots : Nat} {Q : State → Prop} {cc : ByteArray} {pc : Nat} {ls : Array Slot} {rest : List Value} {D : va_G} {cl : List vw_C} {A : Nat → Prop} {ws : va_W} {tys : List (ClassId × FieldType)} {H0 : Heap} {a : Nat}
theorem k_iast (hx : p.tables.exec = Jvm.exec) (hb : c.code = cc) (hK : va_K D cl tys s) (hP : va_P D cl ws H) (hD : va_D A ws) (hS : va_S A H0 H locs) (q0 t0 : Nat) {cA : ClassId} {n : Nat} {f : Nat → Int32} (ha : ws[q0]? = some (a, .inl (cA, n, .inl f))) (ht : tys[t0]? = some (cA, .int)) {i : Int32} {x : Int32} (hin : vp_in i n) (hdg : decode cc pc = .ok (.iastore, 1))
    (kk : ∀ (g : Nat → Int32) (H1 : Heap) (locs1 : List Loc), g = upd f i.toNatClampNeg x → va_P D cl (ws.set q0 (a, .inl (cA, n, .inl g))) H1 → va_D A (ws.set q0 (a, .inl (cA, n, .inl g))) → va_S A H0 H1 locs1 → W p l e R s m args below meth c H1 locs1 cells slots Q (F0 m (pc + 1) ls rest)) : W p l e R s m args below meth c H locs cells slots Q (F0 m pc ls (.int x :: .int i :: .ref a :: rest)) :=
  va_iast hx hb hK hP hD hS q0 t0 ha ht hin hdg (fun H1 locs1 => kk _ H1 locs1 rfl)
theorem k_last (hx : p.tables.exec = Jvm.exec) (hb : c.code = cc) (hK : va_K D cl tys s) (hP : va_P D cl ws H) (hD : va_D A ws) (hS : va_S A H0 H locs) (q0 t0 : Nat) {cA : ClassId} {n : Nat} {f : Nat → Int64} (ha : ws[q0]? = some (a, .inl (cA, n, .inr (.inl f)))) (ht : tys[t0]? = some (cA, .long)) {i : Int32} {x : Int64} (hin : vp_in i n) (hdg : decode cc pc = .ok (.lastore, 1))
    (kk : ∀ (g : Nat → Int64) (H1 : Heap) (locs1 : List Loc), g = vp_updL f i.toNatClampNeg x → va_P D cl (ws.set q0 (a, .inl (cA, n, .inr (.inl g)))) H1 → va_D A (ws.set q0 (a, .inl (cA, n, .inr (.inl g)))) → va_S A H0 H1 locs1 → W p l e R s m args below meth c H1 locs1 cells slots Q (F0 m (pc + 1) ls rest)) : W p l e R s m args below meth c H locs cells slots Q (F0 m pc ls (.long x :: .int i :: .ref a :: rest)) :=
  va_last hx hb hK hP hD hS q0 t0 ha ht hin hdg (fun H1 locs1 => kk _ H1 locs1 rfl)
theorem k_zast (hx : p.tables.exec = Jvm.exec) (hb : c.code = cc) (hK : va_K D cl tys s) (hP : va_P D cl ws H) (hD : va_D A ws) (hS : va_S A H0 H locs) (q0 t0 : Nat) {cA : ClassId} {n : Nat} {f : Nat → Int32} (ha : ws[q0]? = some (a, .inl (cA, n, .inl f))) (ht : tys[t0]? = some (cA, .boolean)) {i : Int32} {x : Int32} (hin : vp_in i n) (hz : x = 0 ∨ x = 1) (hdg : decode cc pc = .ok (.bastore, 1))
    (kk : ∀ (g : Nat → Int32) (H1 : Heap) (locs1 : List Loc), g = upd f i.toNatClampNeg x → va_P D cl (ws.set q0 (a, .inl (cA, n, .inl g))) H1 → va_D A (ws.set q0 (a, .inl (cA, n, .inl g))) → va_S A H0 H1 locs1 → W p l e R s m args below meth c H1 locs1 cells slots Q (F0 m (pc + 1) ls rest)) : W p l e R s m args below meth c H locs cells slots Q (F0 m pc ls (.int x :: .int i :: .ref a :: rest)) :=
  va_zast hx hb hK hP hD hS q0 t0 ha ht hin hdg (fun H1 locs1 => kk _ H1 locs1 (by rcases hz with rfl | rfl <;> rfl))
theorem k_lc_lt {x y : Int64} {off : Int} {tgt : Nat} (hx : p.tables.exec = Jvm.exec) (hb : c.code = cc) (hd : decode cc pc = .ok (.lcmp, 1)) (hd2 : decode cc (pc + 1) = .ok (.ifCond .lt off, 3)) (ht : ((pc + 1 : Nat) : Int) + off = (tgt : Int))
    (kt : x < y → W p l e R s m args below meth c H locs cells slots Q (F0 m tgt ls rest)) (kf : ¬ x < y → W p l e R s m args below meth c H locs cells slots Q (F0 m (pc + 1 + 3) ls rest)) : W p l e R s m args below meth c H locs cells slots Q (F0 m pc ls (.long y :: .long x :: rest)) :=
  W.lcmp hx hb hd (lv_if_lt hx hb hd2 ht (fun h => kt ((lc_lt x y).mp h)) (fun h => kf (fun q => h ((lc_lt x y).mpr q))))
theorem k_lc_ge {x y : Int64} {off : Int} {tgt : Nat} (hx : p.tables.exec = Jvm.exec) (hb : c.code = cc) (hd : decode cc pc = .ok (.lcmp, 1)) (hd2 : decode cc (pc + 1) = .ok (.ifCond .ge off, 3)) (ht : ((pc + 1 : Nat) : Int) + off = (tgt : Int))
    (kt : ¬ x < y → W p l e R s m args below meth c H locs cells slots Q (F0 m tgt ls rest)) (kf : x < y → W p l e R s m args below meth c H locs cells slots Q (F0 m (pc + 1 + 3) ls rest)) : W p l e R s m args below meth c H locs cells slots Q (F0 m pc ls (.long y :: .long x :: rest)) :=
  W.lcmp hx hb hd (lv_if_ge hx hb hd2 ht (fun h => kt ((lc_ge x y).mp h)) (fun h => kf (Decidable.byContradiction fun q => h ((lc_ge x y).mpr q))))
theorem k_lc_gt {x y : Int64} {off : Int} {tgt : Nat} (hx : p.tables.exec = Jvm.exec) (hb : c.code = cc) (hd : decode cc pc = .ok (.lcmp, 1)) (hd2 : decode cc (pc + 1) = .ok (.ifCond .gt off, 3)) (ht : ((pc + 1 : Nat) : Int) + off = (tgt : Int))
    (kt : y < x → W p l e R s m args below meth c H locs cells slots Q (F0 m tgt ls rest)) (kf : ¬ y < x → W p l e R s m args below meth c H locs cells slots Q (F0 m (pc + 1 + 3) ls rest)) : W p l e R s m args below meth c H locs cells slots Q (F0 m pc ls (.long y :: .long x :: rest)) :=
  W.lcmp hx hb hd (lv_if_gt hx hb hd2 ht (fun h => kt ((lc_gt x y).mp h)) (fun h => kf (fun q => h ((lc_gt x y).mpr q))))
theorem k_lc_le {x y : Int64} {off : Int} {tgt : Nat} (hx : p.tables.exec = Jvm.exec) (hb : c.code = cc) (hd : decode cc pc = .ok (.lcmp, 1)) (hd2 : decode cc (pc + 1) = .ok (.ifCond .le off, 3)) (ht : ((pc + 1 : Nat) : Int) + off = (tgt : Int))
    (kt : ¬ y < x → W p l e R s m args below meth c H locs cells slots Q (F0 m tgt ls rest)) (kf : y < x → W p l e R s m args below meth c H locs cells slots Q (F0 m (pc + 1 + 3) ls rest)) : W p l e R s m args below meth c H locs cells slots Q (F0 m pc ls (.long y :: .long x :: rest)) :=
  W.lcmp hx hb hd (lv_if_le hx hb hd2 ht (fun h => kt ((lc_le x y).mp h)) (fun h => kf (Decidable.byContradiction fun q => h ((lc_le x y).mpr q))))
theorem k_lc_eq {x y : Int64} {off : Int} {tgt : Nat} (hx : p.tables.exec = Jvm.exec) (hb : c.code = cc) (hd : decode cc pc = .ok (.lcmp, 1)) (hd2 : decode cc (pc + 1) = .ok (.ifCond .eq off, 3)) (ht : ((pc + 1 : Nat) : Int) + off = (tgt : Int))
    (kt : x = y → W p l e R s m args below meth c H locs cells slots Q (F0 m tgt ls rest)) (kf : ¬ x = y → W p l e R s m args below meth c H locs cells slots Q (F0 m (pc + 1 + 3) ls rest)) : W p l e R s m args below meth c H locs cells slots Q (F0 m pc ls (.long y :: .long x :: rest)) :=
  W.lcmp hx hb hd (lv_if_eq hx hb hd2 ht (fun h => kt ((lc_eq x y).mp h)) (fun h => kf (fun q => h ((lc_eq x y).mpr q))))
theorem k_lc_ne {x y : Int64} {off : Int} {tgt : Nat} (hx : p.tables.exec = Jvm.exec) (hb : c.code = cc) (hd : decode cc pc = .ok (.lcmp, 1)) (hd2 : decode cc (pc + 1) = .ok (.ifCond .ne off, 3)) (ht : ((pc + 1 : Nat) : Int) + off = (tgt : Int))
    (kt : ¬ x = y → W p l e R s m args below meth c H locs cells slots Q (F0 m tgt ls rest)) (kf : x = y → W p l e R s m args below meth c H locs cells slots Q (F0 m (pc + 1 + 3) ls rest)) : W p l e R s m args below meth c H locs cells slots Q (F0 m pc ls (.long y :: .long x :: rest)) :=
  W.lcmp hx hb hd (lv_if_ne hx hb hd2 ht (fun h => kt (fun q => h ((lc_eq x y).mpr q))) (fun h => kf ((lc_eq x y).mp h)))
end BA
section BN
variable {p : Program} {l : Launch} {e : Env} {R : Room} {s : State} {m : MethodId} {args : Array Value} {below : List Frame} {meth : Method} {c : Code} {H : Heap} {locs : List Loc} {cells slots : Nat} {Q : State → Prop} {cc : ByteArray} {pc : Nat} {ls : Array Slot} {rest : List Value} {D : va_G} {A : Nat → Prop} {ws : va_W} {H0 : Heap} {cy : ClassId × ClassId × ClassId}
theorem k_newI (hx : p.tables.exec = Jvm.exec) (hb : c.code = cc) (harr : (Cond.arrayClass .int).before args s = true) (hK : va_K D vwCl (tyL cy) s) (hP : va_P D vwCl ws H) (hD : va_D A ws) (hS : va_S A H0 H locs) (hA : ∀ q, H0.size ≤ q → A q) {n : Int32} {N : Nat} (hn : ¬ n < 0) (hN : n.toNatClampNeg = N) (hbytes : N * componentBytes .int ≤ 536870912) (hcells : cells + 1 ≤ R.cells) (hslots : slots + N ≤ R.slots) (hdg : decode cc pc = .ok (.newarray .int, 2))
    (kk : ∀ (q : Nat) (H1 : Heap), va_P D vwCl (ws ++ [(q, .inl (cy.1, N, .inl (fun _ => 0)))]) H1 → va_D A (ws ++ [(q, .inl (cy.1, N, .inl (fun _ => 0)))]) → va_S A H0 H1 locs → W p l e R s m args below meth c H1 locs (cells + 1) (slots + N) Q (F0 m (pc + 2) ls (.ref q :: rest))) : W p l e R s m args below meth c H locs cells slots Q (F0 m pc ls (.int n :: rest)) := by
  refine va_newa (atype := .int) (ty := .int) (a0 := (N, .inl (fun _ => 0))) hx hb harr rfl hK hP hD hS hA (fun _ => rfl) hn hN hbytes hcells hslots hdg (fun q cA H1 hK1 hP1 hD1 hS1 => ?_)
  have e1 : s.vm.findClass ("[" ++ (FieldType.int).toString) = some cA := (hK1.2 3 (cA, .int) rfl).2
  have e2 : s.vm.findClass ("[" ++ (FieldType.int).toString) = some cy.1 := (hK.2 0 (cy.1, .int) rfl).2
  have e3 : cA = cy.1 := Option.some.inj (e1.symm.trans e2)
  subst e3
  exact kk q H1 hP1 hD1 hS1
theorem k_newJ (hx : p.tables.exec = Jvm.exec) (hb : c.code = cc) (harr : (Cond.arrayClass .long).before args s = true) (hK : va_K D vwCl (tyL cy) s) (hP : va_P D vwCl ws H) (hD : va_D A ws) (hS : va_S A H0 H locs) (hA : ∀ q, H0.size ≤ q → A q) {n : Int32} {N : Nat} (hn : ¬ n < 0) (hN : n.toNatClampNeg = N) (hbytes : N * componentBytes .long ≤ 536870912) (hcells : cells + 1 ≤ R.cells) (hslots : slots + N ≤ R.slots) (hdg : decode cc pc = .ok (.newarray .long, 2))
    (kk : ∀ (q : Nat) (H1 : Heap), va_P D vwCl (ws ++ [(q, .inl (cy.2.1, N, .inr (.inl (fun _ => 0))))]) H1 → va_D A (ws ++ [(q, .inl (cy.2.1, N, .inr (.inl (fun _ => 0))))]) → va_S A H0 H1 locs → W p l e R s m args below meth c H1 locs (cells + 1) (slots + N) Q (F0 m (pc + 2) ls (.ref q :: rest))) : W p l e R s m args below meth c H locs cells slots Q (F0 m pc ls (.int n :: rest)) := by
  refine va_newa (atype := .long) (ty := .long) (a0 := (N, .inr (.inl (fun _ => 0)))) hx hb harr rfl hK hP hD hS hA (fun _ => rfl) hn hN hbytes hcells hslots hdg (fun q cA H1 hK1 hP1 hD1 hS1 => ?_)
  have e1 : s.vm.findClass ("[" ++ (FieldType.long).toString) = some cA := (hK1.2 3 (cA, .long) rfl).2
  have e2 : s.vm.findClass ("[" ++ (FieldType.long).toString) = some cy.2.1 := (hK.2 1 (cy.2.1, .long) rfl).2
  have e3 : cA = cy.2.1 := Option.some.inj (e1.symm.trans e2)
  subst e3
  exact kk q H1 hP1 hD1 hS1
theorem k_newZ (hx : p.tables.exec = Jvm.exec) (hb : c.code = cc) (harr : (Cond.arrayClass .boolean).before args s = true) (hK : va_K D vwCl (tyL cy) s) (hP : va_P D vwCl ws H) (hD : va_D A ws) (hS : va_S A H0 H locs) (hA : ∀ q, H0.size ≤ q → A q) {n : Int32} {N : Nat} (hn : ¬ n < 0) (hN : n.toNatClampNeg = N) (hbytes : N * componentBytes .boolean ≤ 536870912) (hcells : cells + 1 ≤ R.cells) (hslots : slots + N ≤ R.slots) (hdg : decode cc pc = .ok (.newarray .boolean, 2))
    (kk : ∀ (q : Nat) (H1 : Heap), va_P D vwCl (ws ++ [(q, .inl (cy.2.2, N, .inl (fun _ => 0)))]) H1 → va_D A (ws ++ [(q, .inl (cy.2.2, N, .inl (fun _ => 0)))]) → va_S A H0 H1 locs → W p l e R s m args below meth c H1 locs (cells + 1) (slots + N) Q (F0 m (pc + 2) ls (.ref q :: rest))) : W p l e R s m args below meth c H locs cells slots Q (F0 m pc ls (.int n :: rest)) := by
  refine va_newa (atype := .boolean) (ty := .boolean) (a0 := (N, .inl (fun _ => 0))) hx hb harr rfl hK hP hD hS hA (fun _ => rfl) hn hN hbytes hcells hslots hdg (fun q cA H1 hK1 hP1 hD1 hS1 => ?_)
  have e1 : s.vm.findClass ("[" ++ (FieldType.boolean).toString) = some cA := (hK1.2 3 (cA, .boolean) rfl).2
  have e2 : s.vm.findClass ("[" ++ (FieldType.boolean).toString) = some cy.2.2 := (hK.2 2 (cy.2.2, .boolean) rfl).2
  have e3 : cA = cy.2.2 := Option.some.inj (e1.symm.trans e2)
  subst e3
  exact kk q H1 hP1 hD1 hS1
end BN
