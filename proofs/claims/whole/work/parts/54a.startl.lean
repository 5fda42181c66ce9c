theorem lc_L_law_cl7 : Cond.classLink RL 7 RX10 ∈ wsL_law := by decide +kernel
theorem lc_L_law_it10 : Cond.instantiable RX10 6 ∈ wsL_law := by decide +kernel
theorem lc_L_law_ini10 : Cond.initialized RX10 ∈ wsL_law := by decide +kernel
theorem lc_L_law_ins10 : Cond.instanceMethod yX10_init ∈ wsL_law := by decide +kernel
theorem lc_L_law_ml9 : Cond.methodLink RL 9 yX10_init ∈ wsL_law := by decide +kernel
theorem lc_L_law_cl10 : Cond.classLink RL 10 RX11 ∈ wsL_law := by decide +kernel
theorem lc_L_law_it11 : Cond.instantiable RX11 35 ∈ wsL_law := by decide +kernel
theorem lc_L_law_ini11 : Cond.initialized RX11 ∈ wsL_law := by decide +kernel
theorem lc_L_law_ins11 : Cond.instanceMethod yX11_init ∈ wsL_law := by decide +kernel
theorem lc_L_law_ml12 : Cond.methodLink RL 12 yX11_init ∈ wsL_law := by decide +kernel
theorem lit_0 : Cond.instantiable RX0 4 ∈ wsL_law := by decide +kernel
theorem lit_1 : Cond.instantiable RX1 3 ∈ wsL_law := by decide +kernel
theorem lit_2 : Cond.instantiable RX2 2 ∈ wsL_law := by decide +kernel
theorem lit_3 : Cond.instantiable RX3 6 ∈ wsL_law := by decide +kernel
theorem lit_4 : Cond.instantiable RX4 9 ∈ wsL_law := by decide +kernel
theorem lit_5 : Cond.instantiable RX5 6 ∈ wsL_law := by decide +kernel
theorem lit_6 : Cond.instantiable RX6 4 ∈ wsL_law := by decide +kernel
theorem lit_7 : Cond.instantiable RX7 3 ∈ wsL_law := by decide +kernel
theorem lit_8 : Cond.instantiable RX8 6 ∈ wsL_law := by decide +kernel
theorem lit_9 : Cond.instantiable RX9 5 ∈ wsL_law := by decide +kernel
theorem lit_10 : Cond.instantiable RX10 6 ∈ wsL_law := by decide +kernel
theorem lit_11 : Cond.instantiable RX11 35 ∈ wsL_law := by decide +kernel
theorem lar_int : Cond.arrayClass .int ∈ wsL_law := by decide +kernel
theorem lar_long : Cond.arrayClass .long ∈ wsL_law := by decide +kernel
theorem lar_boolean : Cond.arrayClass .boolean ∈ wsL_law := by decide +kernel
theorem arr_known {ty : FieldType} {args : Array Value} {s : State} (h : (Cond.arrayClass ty).before args s = true) : ∃ cA : ClassId, ArrOfT s cA ty ∧ s.vm.findClass ("[" ++ ty.toString) = some cA := by
  obtain ⟨cA, kA, comp, h1, h2, h3⟩ := Cond.arrayClass_spec h
  exact ⟨cA, fun n z => ⟨fun k h => (by cases h), kA, h2, comp, h3⟩, h1⟩
theorem gvP_0 : gvP 0 := by unfold gvP; decide
theorem le_00 : (0 : Int64) ≤ 0 := by decide
theorem nz_in : ∀ w ∈ nzW, w ∈ lw_tbl := by decide +kernel
theorem vals0 : upd (upd (fun _ => (0 : Int32)) 0 0) 1 1 = upd (fun _ => (0 : Int32)) 1 1 := by
  funext k
  unfold upd
  by_cases h : k = 1
  · rw [if_pos h, if_pos h]
  · rw [if_neg h, if_neg h]
    by_cases h0 : k = 0
    · rw [if_pos h0]
    · rw [if_neg h0]
theorem stp0 : stpP (upd (upd (fun _ => (0 : Int32)) 0 0) 1 1) 2 := by
  refine ⟨fun k hk => ?_, fun k hk => ?_⟩
  · match k, hk with
    | 0, _ => decide
    | 1, _ => decide
  · match k, hk with
    | 0, _ => decide
