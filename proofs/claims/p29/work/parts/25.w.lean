section XW
variable {E : WE} {A : Nat → Prop} {p : Program} {l : Launch} {e : Env} {G : M3} {K : J3} {F : Nat}
abbrev wdL_sets : Cond := Cond.codeWith yL_sets cL_sets 4 (some .int) [(0, 6, 7, 15)]
abbrev rmzL_sets : Room := { frames := 7, cells := 0, slots := 0, locals := 109 }
set_option maxRecDepth 20000 in
theorem mzL_sets {rr : Int32} {GR : M3} {KR : J3} (hst : l.stackTraces = false) {x2 : Int32} {x3 : Int32} (h : fX4_set F x2 x3 G K = some (0, rr, GR, KR)) : MtZ l yL_sets wdL_sets rmzL_sets E [.ref (ad E 6 0), .int x2, .int x3] G K rr GR KR 0 0 := by
  intro sz
  refine Met.ofWH (cc := cL_sets) (maxL := 4) (ret := (some .int)) (hh := [(0, 6, 7, 15)]) (by decide) rfl ?_
  intro p e s m args below meth c s₁ B hml hv
  obtain ⟨rfl, C, w⟩ := Cx.of (own := RL) B rfl hml hv
  have htab := vx_table (x := yL_sets) B (C.2.2.2.2.2.1 _ List.mem_cons_self)
  have hl := lv_entry ([.ref (ad E 6 0), .int x2, .int x3]) (n := 4) (by exact Nat.le_of_ble_eq_true rfl)
  rw [lg_entry_eq]
  generalize (lg_sl ([.ref (ad E 6 0), .int x2, .int x3]) ++ List.replicate (4 - (lg_sl ([.ref (ad E 6 0), .int x2, .int x3])).length) Slot.unset).toArray = ls at hl ⊢
  have hl : lv_has ls 4 [(0, .ref (ad E 6 0)), (1, .int x2), (2, .int x3)] := hl
  obtain ⟨hx, hb, hr, hml, hown, hts, hlocks, hKK, hA1, hA2⟩ := id C
  refine lv_aload_n hx hb dL_sets_0 rfl (lv_at hl 0 rfl) ?_
  refine lv_iload_n hx hb dL_sets_1 rfl (lv_at hl 1 rfl) ?_
  refine lv_iload_n hx hb dL_sets_2 rfl (lv_at hl 2 rfl) ?_
  refine x_cXi (As := [.int x2, .int x3]) (rest := []) C w (mtX4_set hst h) q10_18 q10_19 q10_20 q1_2 q10_21 ydX4_set ⟨rfl, rfl⟩ ⟨by decide, by decide⟩ ⟨by decide, by decide⟩ hl.1 (Nat.le_of_ble_eq_true rfl) rfl dL_sets_3 (fun H locs q9 ce htg w hc1 hc2 hc3 => absurd rfl htg) (fun H locs htg w => ?_)
  exact x_ri C w rfl rfl rfl dL_sets_6
theorem ynL_sets : yL_sets.cls ≠ "java/lang/invoke/MethodHandle" ∧ yL_sets.cls ≠ "java/lang/invoke/VarHandle" ∧ (parseMethodDescriptor yL_sets.desc).map (fun d => d.parameters.length) = some 3 := by decide +kernel
abbrev wdL_adds : Cond := Cond.codeWith yL_adds cL_adds 3 (some .int) [(0, 5, 6, 15), (0, 5, 10, 22)]
abbrev rmzL_adds : Room := { frames := 7, cells := 0, slots := 0, locals := 107 }
set_option maxRecDepth 20000 in
theorem mzL_adds {rr : Int32} {GR : M3} {KR : J3} (hst : l.stackTraces = false) {x2 : Int32} (h : fX4_addCompressor F x2 G K = some (0, rr, GR, KR)) : MtZ l yL_adds wdL_adds rmzL_adds E [.ref (ad E 6 0), .int x2] G K rr GR KR 0 0 := by
  intro sz
  refine Met.ofWH (cc := cL_adds) (maxL := 3) (ret := (some .int)) (hh := [(0, 5, 6, 15), (0, 5, 10, 22)]) (by decide) rfl ?_
  intro p e s m args below meth c s₁ B hml hv
  obtain ⟨rfl, C, w⟩ := Cx.of (own := RL) B rfl hml hv
  have htab := vx_table (x := yL_adds) B (C.2.2.2.2.2.1 _ List.mem_cons_self)
  have hl := lv_entry ([.ref (ad E 6 0), .int x2]) (n := 3) (by exact Nat.le_of_ble_eq_true rfl)
  rw [lg_entry_eq]
  generalize (lg_sl ([.ref (ad E 6 0), .int x2]) ++ List.replicate (3 - (lg_sl ([.ref (ad E 6 0), .int x2])).length) Slot.unset).toArray = ls at hl ⊢
  have hl : lv_has ls 3 [(0, .ref (ad E 6 0)), (1, .int x2)] := hl
  obtain ⟨hx, hb, hr, hml, hown, hts, hlocks, hKK, hA1, hA2⟩ := id C
  refine lv_aload_n hx hb dL_adds_0 rfl (lv_at hl 0 rfl) ?_
  refine lv_iload_n hx hb dL_adds_1 rfl (lv_at hl 1 rfl) ?_
  refine x_cXi (As := [.int x2]) (rest := []) C w (mtX4_addCompressor hst h) q8_19 q8_20 q8_21 q1_2 q8_22 ydX4_addCompressor ⟨rfl, rfl⟩ ⟨by decide, by decide⟩ ⟨by decide, by decide⟩ hl.1 (Nat.le_of_ble_eq_true rfl) rfl dL_adds_2 (fun H locs q9 ce htg w hc1 hc2 hc3 => absurd rfl htg) (fun H locs htg w => ?_)
  exact x_ri C w rfl rfl rfl dL_adds_5
theorem ynL_adds : yL_adds.cls ≠ "java/lang/invoke/MethodHandle" ∧ yL_adds.cls ≠ "java/lang/invoke/VarHandle" ∧ (parseMethodDescriptor yL_adds.desc).map (fun d => d.parameters.length) = some 2 := by decide +kernel
abbrev wdL_trips : Cond := Cond.codeWith yL_trips cL_trips 3 (some .int) [(0, 5, 6, 28), (0, 5, 10, 22)]
abbrev rmzL_trips : Room := { frames := 7, cells := 0, slots := 0, locals := 109 }
set_option maxRecDepth 20000 in
theorem mzL_trips {rr : Int32} {GR : M3} {KR : J3} (hst : l.stackTraces = false) {x2 : Int32} (h : fX4_trip F x2 G K = some (0, rr, GR, KR)) : MtZ l yL_trips wdL_trips rmzL_trips E [.ref (ad E 6 0), .int x2] G K rr GR KR 0 0 := by
  intro sz
  refine Met.ofWH (cc := cL_trips) (maxL := 3) (ret := (some .int)) (hh := [(0, 5, 6, 28), (0, 5, 10, 22)]) (by decide) rfl ?_
  intro p e s m args below meth c s₁ B hml hv
  obtain ⟨rfl, C, w⟩ := Cx.of (own := RL) B rfl hml hv
  have htab := vx_table (x := yL_trips) B (C.2.2.2.2.2.1 _ List.mem_cons_self)
  have hl := lv_entry ([.ref (ad E 6 0), .int x2]) (n := 3) (by exact Nat.le_of_ble_eq_true rfl)
  rw [lg_entry_eq]
  generalize (lg_sl ([.ref (ad E 6 0), .int x2]) ++ List.replicate (3 - (lg_sl ([.ref (ad E 6 0), .int x2])).length) Slot.unset).toArray = ls at hl ⊢
  have hl : lv_has ls 3 [(0, .ref (ad E 6 0)), (1, .int x2)] := hl
  obtain ⟨hx, hb, hr, hml, hown, hts, hlocks, hKK, hA1, hA2⟩ := id C
  refine lv_aload_n hx hb dL_trips_0 rfl (lv_at hl 0 rfl) ?_
  refine lv_iload_n hx hb dL_trips_1 rfl (lv_at hl 1 rfl) ?_
  refine x_cXi (As := [.int x2]) (rest := []) C w (mtX4_trip hst h) q11_16 q11_17 q11_18 q1_2 q11_19 ydX4_trip ⟨rfl, rfl⟩ ⟨by decide, by decide⟩ ⟨by decide, by decide⟩ hl.1 (Nat.le_of_ble_eq_true rfl) rfl dL_trips_2 (fun H locs q9 ce htg w hc1 hc2 hc3 => absurd rfl htg) (fun H locs htg w => ?_)
  exact x_ri C w rfl rfl rfl dL_trips_5
theorem ynL_trips : yL_trips.cls ≠ "java/lang/invoke/MethodHandle" ∧ yL_trips.cls ≠ "java/lang/invoke/VarHandle" ∧ (parseMethodDescriptor yL_trips.desc).map (fun d => d.parameters.length) = some 2 := by decide +kernel
abbrev wdL_clears : Cond := Cond.codeWith yL_clears cL_clears 3 (some .int) [(0, 5, 6, 28), (0, 5, 10, 22)]
abbrev rmzL_clears : Room := { frames := 7, cells := 0, slots := 0, locals := 108 }
set_option maxRecDepth 20000 in
theorem mzL_clears {rr : Int32} {GR : M3} {KR : J3} (hst : l.stackTraces = false) {x2 : Int32} (h : fX4_clear F x2 G K = some (0, rr, GR, KR)) : MtZ l yL_clears wdL_clears rmzL_clears E [.ref (ad E 6 0), .int x2] G K rr GR KR 0 0 := by
  intro sz
  refine Met.ofWH (cc := cL_clears) (maxL := 3) (ret := (some .int)) (hh := [(0, 5, 6, 28), (0, 5, 10, 22)]) (by decide) rfl ?_
  intro p e s m args below meth c s₁ B hml hv
  obtain ⟨rfl, C, w⟩ := Cx.of (own := RL) B rfl hml hv
  have htab := vx_table (x := yL_clears) B (C.2.2.2.2.2.1 _ List.mem_cons_self)
  have hl := lv_entry ([.ref (ad E 6 0), .int x2]) (n := 3) (by exact Nat.le_of_ble_eq_true rfl)
  rw [lg_entry_eq]
  generalize (lg_sl ([.ref (ad E 6 0), .int x2]) ++ List.replicate (3 - (lg_sl ([.ref (ad E 6 0), .int x2])).length) Slot.unset).toArray = ls at hl ⊢
  have hl : lv_has ls 3 [(0, .ref (ad E 6 0)), (1, .int x2)] := hl
  obtain ⟨hx, hb, hr, hml, hown, hts, hlocks, hKK, hA1, hA2⟩ := id C
  refine lv_aload_n hx hb dL_clears_0 rfl (lv_at hl 0 rfl) ?_
  refine lv_iload_n hx hb dL_clears_1 rfl (lv_at hl 1 rfl) ?_
  refine x_cXi (As := [.int x2]) (rest := []) C w (mtX4_clear hst h) q11_3 q11_4 q11_5 q1_2 q11_6 ydX4_clear ⟨rfl, rfl⟩ ⟨by decide, by decide⟩ ⟨by decide, by decide⟩ hl.1 (Nat.le_of_ble_eq_true rfl) rfl dL_clears_2 (fun H locs q9 ce htg w hc1 hc2 hc3 => absurd rfl htg) (fun H locs htg w => ?_)
  exact x_ri C w rfl rfl rfl dL_clears_5
theorem ynL_clears : yL_clears.cls ≠ "java/lang/invoke/MethodHandle" ∧ yL_clears.cls ≠ "java/lang/invoke/VarHandle" ∧ (parseMethodDescriptor yL_clears.desc).map (fun d => d.parameters.length) = some 2 := by decide +kernel
abbrev wdL_passes : Cond := Cond.codeWith yL_passes cL_passes 3 (some .int) [(0, 5, 6, 15), (0, 5, 10, 22)]
abbrev rmzL_passes : Room := { frames := 7, cells := 0, slots := 0, locals := 147 }
set_option maxRecDepth 20000 in
theorem mzL_passes {rr : Int32} {GR : M3} {KR : J3} (hst : l.stackTraces = false) {x2 : Int32} (h : fX4_pass F x2 G K = some (0, rr, GR, KR)) : MtZ l yL_passes wdL_passes rmzL_passes E [.ref (ad E 6 0), .int x2] G K rr GR KR 0 0 := by
  intro sz
  refine Met.ofWH (cc := cL_passes) (maxL := 3) (ret := (some .int)) (hh := [(0, 5, 6, 15), (0, 5, 10, 22)]) (by decide) rfl ?_
  intro p e s m args below meth c s₁ B hml hv
  obtain ⟨rfl, C, w⟩ := Cx.of (own := RL) B rfl hml hv
  have htab := vx_table (x := yL_passes) B (C.2.2.2.2.2.1 _ List.mem_cons_self)
  have hl := lv_entry ([.ref (ad E 6 0), .int x2]) (n := 3) (by exact Nat.le_of_ble_eq_true rfl)
  rw [lg_entry_eq]
  generalize (lg_sl ([.ref (ad E 6 0), .int x2]) ++ List.replicate (3 - (lg_sl ([.ref (ad E 6 0), .int x2])).length) Slot.unset).toArray = ls at hl ⊢
  have hl : lv_has ls 3 [(0, .ref (ad E 6 0)), (1, .int x2)] := hl
  obtain ⟨hx, hb, hr, hml, hown, hts, hlocks, hKK, hA1, hA2⟩ := id C
  refine lv_aload_n hx hb dL_passes_0 rfl (lv_at hl 0 rfl) ?_
  refine lv_iload_n hx hb dL_passes_1 rfl (lv_at hl 1 rfl) ?_
  refine x_cXi (As := [.int x2]) (rest := []) C w (mtX4_pass hst h) q14_13 q14_14 q14_15 q1_2 q14_16 ydX4_pass ⟨rfl, rfl⟩ ⟨by decide, by decide⟩ ⟨by decide, by decide⟩ hl.1 (Nat.le_of_ble_eq_true rfl) rfl dL_passes_2 (fun H locs q9 ce htg w hc1 hc2 hc3 => absurd rfl htg) (fun H locs htg w => ?_)
  exact x_ri C w rfl rfl rfl dL_passes_5
theorem ynL_passes : yL_passes.cls ≠ "java/lang/invoke/MethodHandle" ∧ yL_passes.cls ≠ "java/lang/invoke/VarHandle" ∧ (parseMethodDescriptor yL_passes.desc).map (fun d => d.parameters.length) = some 2 := by decide +kernel
abbrev wdL_tests : Cond := Cond.codeWith yL_tests cL_tests 3 (some .int) [(0, 5, 6, 15), (0, 5, 10, 22)]
abbrev rmzL_tests : Room := { frames := 7, cells := 0, slots := 0, locals := 126 }
set_option maxRecDepth 20000 in
theorem mzL_tests {rr : Int32} {GR : M3} {KR : J3} (hst : l.stackTraces = false) {x2 : Int32} (h : fX4_leakTest F x2 G K = some (0, rr, GR, KR)) : MtZ l yL_tests wdL_tests rmzL_tests E [.ref (ad E 6 0), .int x2] G K rr GR KR 0 0 := by
  intro sz
  refine Met.ofWH (cc := cL_tests) (maxL := 3) (ret := (some .int)) (hh := [(0, 5, 6, 15), (0, 5, 10, 22)]) (by decide) rfl ?_
  intro p e s m args below meth c s₁ B hml hv
  obtain ⟨rfl, C, w⟩ := Cx.of (own := RL) B rfl hml hv
  have htab := vx_table (x := yL_tests) B (C.2.2.2.2.2.1 _ List.mem_cons_self)
  have hl := lv_entry ([.ref (ad E 6 0), .int x2]) (n := 3) (by exact Nat.le_of_ble_eq_true rfl)
  rw [lg_entry_eq]
  generalize (lg_sl ([.ref (ad E 6 0), .int x2]) ++ List.replicate (3 - (lg_sl ([.ref (ad E 6 0), .int x2])).length) Slot.unset).toArray = ls at hl ⊢
  have hl : lv_has ls 3 [(0, .ref (ad E 6 0)), (1, .int x2)] := hl
  obtain ⟨hx, hb, hr, hml, hown, hts, hlocks, hKK, hA1, hA2⟩ := id C
  refine lv_aload_n hx hb dL_tests_0 rfl (lv_at hl 0 rfl) ?_
  refine lv_iload_n hx hb dL_tests_1 rfl (lv_at hl 1 rfl) ?_
  refine x_cXi (As := [.int x2]) (rest := []) C w (mtX4_leakTest hst h) q12_3 q12_4 q12_5 q1_2 q12_6 ydX4_leakTest ⟨rfl, rfl⟩ ⟨by decide, by decide⟩ ⟨by decide, by decide⟩ hl.1 (Nat.le_of_ble_eq_true rfl) rfl dL_tests_2 (fun H locs q9 ce htg w hc1 hc2 hc3 => absurd rfl htg) (fun H locs htg w => ?_)
  exact x_ri C w rfl rfl rfl dL_tests_5
theorem ynL_tests : yL_tests.cls ≠ "java/lang/invoke/MethodHandle" ∧ yL_tests.cls ≠ "java/lang/invoke/VarHandle" ∧ (parseMethodDescriptor yL_tests.desc).map (fun d => d.parameters.length) = some 2 := by decide +kernel
abbrev wdL_its : Cond := Cond.codeWith yL_its cL_its 4 (some .int) [(0, 6, 7, 28), (0, 6, 11, 15)]
abbrev rmzL_its : Room := { frames := 7, cells := 0, slots := 0, locals := 105 }
set_option maxRecDepth 20000 in
theorem mzL_its {rr : Int32} {GR : M3} {KR : J3} (hst : l.stackTraces = false) {x2 : Int32} {x3 : Int32} (h : fX4_compressor x2 x3 G K = some (0, rr, GR, KR)) : MtZ l yL_its wdL_its rmzL_its E [.ref (ad E 6 0), .int x2, .int x3] G K rr GR KR 0 0 := by
  intro sz
  refine Met.ofWH (cc := cL_its) (maxL := 4) (ret := (some .int)) (hh := [(0, 6, 7, 28), (0, 6, 11, 15)]) (by decide) rfl ?_
  intro p e s m args below meth c s₁ B hml hv
  obtain ⟨rfl, C, w⟩ := Cx.of (own := RL) B rfl hml hv
  have htab := vx_table (x := yL_its) B (C.2.2.2.2.2.1 _ List.mem_cons_self)
  have hl := lv_entry ([.ref (ad E 6 0), .int x2, .int x3]) (n := 4) (by exact Nat.le_of_ble_eq_true rfl)
  rw [lg_entry_eq]
  generalize (lg_sl ([.ref (ad E 6 0), .int x2, .int x3]) ++ List.replicate (4 - (lg_sl ([.ref (ad E 6 0), .int x2, .int x3])).length) Slot.unset).toArray = ls at hl ⊢
  have hl : lv_has ls 4 [(0, .ref (ad E 6 0)), (1, .int x2), (2, .int x3)] := hl
  obtain ⟨hx, hb, hr, hml, hown, hts, hlocks, hKK, hA1, hA2⟩ := id C
  refine lv_aload_n hx hb dL_its_0 rfl (lv_at hl 0 rfl) ?_
  refine lv_iload_n hx hb dL_its_1 rfl (lv_at hl 1 rfl) ?_
  refine lv_iload_n hx hb dL_its_2 rfl (lv_at hl 2 rfl) ?_
  refine x_cXi (As := [.int x2, .int x3]) (rest := []) C w (mtX4_compressor hst h) q6_1 q6_2 q6_3 q1_2 q6_4 ydX4_compressor ⟨rfl, rfl⟩ ⟨by decide, by decide⟩ ⟨by decide, by decide⟩ hl.1 (Nat.le_of_ble_eq_true rfl) rfl dL_its_3 (fun H locs q9 ce htg w hc1 hc2 hc3 => absurd rfl htg) (fun H locs htg w => ?_)
  exact x_ri C w rfl rfl rfl dL_its_6
theorem ynL_its : yL_its.cls ≠ "java/lang/invoke/MethodHandle" ∧ yL_its.cls ≠ "java/lang/invoke/VarHandle" ∧ (parseMethodDescriptor yL_its.desc).map (fun d => d.parameters.length) = some 3 := by decide +kernel
abbrev wdL_atStage : Cond := Cond.codeWith yL_atStage cL_atStage 3 (some .int) [(0, 5, 6, 28)]
abbrev rmzL_atStage : Room := { frames := 7, cells := 0, slots := 0, locals := 103 }
set_option maxRecDepth 20000 in
theorem mzL_atStage {rr : Int32} {GR : M3} {KR : J3} (hst : l.stackTraces = false) {x2 : Int32} (h : fX4_atStage F x2 G K = some (0, rr, GR, KR)) : MtZ l yL_atStage wdL_atStage rmzL_atStage E [.ref (ad E 6 0), .int x2] G K rr GR KR 0 0 := by
  intro sz
  refine Met.ofWH (cc := cL_atStage) (maxL := 3) (ret := (some .int)) (hh := [(0, 5, 6, 28)]) (by decide) rfl ?_
  intro p e s m args below meth c s₁ B hml hv
  obtain ⟨rfl, C, w⟩ := Cx.of (own := RL) B rfl hml hv
  have htab := vx_table (x := yL_atStage) B (C.2.2.2.2.2.1 _ List.mem_cons_self)
  have hl := lv_entry ([.ref (ad E 6 0), .int x2]) (n := 3) (by exact Nat.le_of_ble_eq_true rfl)
  rw [lg_entry_eq]
  generalize (lg_sl ([.ref (ad E 6 0), .int x2]) ++ List.replicate (3 - (lg_sl ([.ref (ad E 6 0), .int x2])).length) Slot.unset).toArray = ls at hl ⊢
  have hl : lv_has ls 3 [(0, .ref (ad E 6 0)), (1, .int x2)] := hl
  obtain ⟨hx, hb, hr, hml, hown, hts, hlocks, hKK, hA1, hA2⟩ := id C
  refine lv_aload_n hx hb dL_atStage_0 rfl (lv_at hl 0 rfl) ?_
  refine lv_iload_n hx hb dL_atStage_1 rfl (lv_at hl 1 rfl) ?_
  refine x_cXi (As := [.int x2]) (rest := []) C w (mtX4_atStage hst h) q7_5 q7_6 q7_7 q1_2 q7_8 ydX4_atStage ⟨rfl, rfl⟩ ⟨by decide, by decide⟩ ⟨by decide, by decide⟩ hl.1 (Nat.le_of_ble_eq_true rfl) rfl dL_atStage_2 (fun H locs q9 ce htg w hc1 hc2 hc3 => absurd rfl htg) (fun H locs htg w => ?_)
  exact x_ri C w rfl rfl rfl dL_atStage_5
theorem ynL_atStage : yL_atStage.cls ≠ "java/lang/invoke/MethodHandle" ∧ yL_atStage.cls ≠ "java/lang/invoke/VarHandle" ∧ (parseMethodDescriptor yL_atStage.desc).map (fun d => d.parameters.length) = some 2 := by decide +kernel
abbrev wdL_value : Cond := Cond.codeWith yL_value cL_value 3 (some .int) [(0, 5, 6, 15)]
abbrev rmzL_value : Room := { frames := 7, cells := 0, slots := 0, locals := 103 }
set_option maxRecDepth 20000 in
theorem mzL_value {rr : Int32} {GR : M3} {KR : J3} (hst : l.stackTraces = false) {x2 : Int32} (h : fX4_value F x2 G K = some (0, rr, GR, KR)) : MtZ l yL_value wdL_value rmzL_value E [.ref (ad E 6 0), .int x2] G K rr GR KR 0 0 := by
  intro sz
  refine Met.ofWH (cc := cL_value) (maxL := 3) (ret := (some .int)) (hh := [(0, 5, 6, 15)]) (by decide) rfl ?_
  intro p e s m args below meth c s₁ B hml hv
  obtain ⟨rfl, C, w⟩ := Cx.of (own := RL) B rfl hml hv
  have htab := vx_table (x := yL_value) B (C.2.2.2.2.2.1 _ List.mem_cons_self)
  have hl := lv_entry ([.ref (ad E 6 0), .int x2]) (n := 3) (by exact Nat.le_of_ble_eq_true rfl)
  rw [lg_entry_eq]
  generalize (lg_sl ([.ref (ad E 6 0), .int x2]) ++ List.replicate (3 - (lg_sl ([.ref (ad E 6 0), .int x2])).length) Slot.unset).toArray = ls at hl ⊢
  have hl : lv_has ls 3 [(0, .ref (ad E 6 0)), (1, .int x2)] := hl
  obtain ⟨hx, hb, hr, hml, hown, hts, hlocks, hKK, hA1, hA2⟩ := id C
  refine lv_aload_n hx hb dL_value_0 rfl (lv_at hl 0 rfl) ?_
  refine lv_iload_n hx hb dL_value_1 rfl (lv_at hl 1 rfl) ?_
  refine x_cXi (As := [.int x2]) (rest := []) C w (mtX4_value hst h) q3_21 q3_22 q3_23 q1_2 q4_0 ydX4_value ⟨rfl, rfl⟩ ⟨by decide, by decide⟩ ⟨by decide, by decide⟩ hl.1 (Nat.le_of_ble_eq_true rfl) rfl dL_value_2 (fun H locs q9 ce htg w hc1 hc2 hc3 => absurd rfl htg) (fun H locs htg w => ?_)
  exact x_ri C w rfl rfl rfl dL_value_5
theorem ynL_value : yL_value.cls ≠ "java/lang/invoke/MethodHandle" ∧ yL_value.cls ≠ "java/lang/invoke/VarHandle" ∧ (parseMethodDescriptor yL_value.desc).map (fun d => d.parameters.length) = some 2 := by decide +kernel
abbrev wdL_setting : Cond := Cond.codeWith yL_setting cL_setting 3 (some .int) [(0, 5, 6, 15)]
abbrev rmzL_setting : Room := { frames := 7, cells := 0, slots := 0, locals := 103 }
set_option maxRecDepth 20000 in
theorem mzL_setting {rr : Int32} {GR : M3} {KR : J3} (hst : l.stackTraces = false) {x2 : Int32} (h : fX4_setting x2 G K = some (0, rr, GR, KR)) : MtZ l yL_setting wdL_setting rmzL_setting E [.ref (ad E 6 0), .int x2] G K rr GR KR 0 0 := by
  intro sz
  refine Met.ofWH (cc := cL_setting) (maxL := 3) (ret := (some .int)) (hh := [(0, 5, 6, 15)]) (by decide) rfl ?_
  intro p e s m args below meth c s₁ B hml hv
  obtain ⟨rfl, C, w⟩ := Cx.of (own := RL) B rfl hml hv
  have htab := vx_table (x := yL_setting) B (C.2.2.2.2.2.1 _ List.mem_cons_self)
  have hl := lv_entry ([.ref (ad E 6 0), .int x2]) (n := 3) (by exact Nat.le_of_ble_eq_true rfl)
  rw [lg_entry_eq]
  generalize (lg_sl ([.ref (ad E 6 0), .int x2]) ++ List.replicate (3 - (lg_sl ([.ref (ad E 6 0), .int x2])).length) Slot.unset).toArray = ls at hl ⊢
  have hl : lv_has ls 3 [(0, .ref (ad E 6 0)), (1, .int x2)] := hl
  obtain ⟨hx, hb, hr, hml, hown, hts, hlocks, hKK, hA1, hA2⟩ := id C
  refine lv_aload_n hx hb dL_setting_0 rfl (lv_at hl 0 rfl) ?_
  refine lv_iload_n hx hb dL_setting_1 rfl (lv_at hl 1 rfl) ?_
  refine x_cXi (As := [.int x2]) (rest := []) C w (mtX4_setting hst h) q7_17 q7_18 q7_19 q1_2 q7_20 ydX4_setting ⟨rfl, rfl⟩ ⟨by decide, by decide⟩ ⟨by decide, by decide⟩ hl.1 (Nat.le_of_ble_eq_true rfl) rfl dL_setting_2 (fun H locs q9 ce htg w hc1 hc2 hc3 => absurd rfl htg) (fun H locs htg w => ?_)
  exact x_ri C w rfl rfl rfl dL_setting_5
theorem ynL_setting : yL_setting.cls ≠ "java/lang/invoke/MethodHandle" ∧ yL_setting.cls ≠ "java/lang/invoke/VarHandle" ∧ (parseMethodDescriptor yL_setting.desc).map (fun d => d.parameters.length) = some 2 := by decide +kernel
abbrev wdL_next : Cond := Cond.codeWith yL_next cL_next 3 (some .int) [(0, 5, 6, 28)]
abbrev rmzL_next : Room := { frames := 7, cells := 0, slots := 0, locals := 104 }
set_option maxRecDepth 20000 in
theorem mzL_next {rr : Int32} {GR : M3} {KR : J3} (hst : l.stackTraces = false) {x2 : Int32} (h : fX4_next x2 G K = some (0, rr, GR, KR)) : MtZ l yL_next wdL_next rmzL_next E [.ref (ad E 6 0), .int x2] G K rr GR KR 0 0 := by
  intro sz
  refine Met.ofWH (cc := cL_next) (maxL := 3) (ret := (some .int)) (hh := [(0, 5, 6, 28)]) (by decide) rfl ?_
  intro p e s m args below meth c s₁ B hml hv
  obtain ⟨rfl, C, w⟩ := Cx.of (own := RL) B rfl hml hv
  have htab := vx_table (x := yL_next) B (C.2.2.2.2.2.1 _ List.mem_cons_self)
  have hl := lv_entry ([.ref (ad E 6 0), .int x2]) (n := 3) (by exact Nat.le_of_ble_eq_true rfl)
  rw [lg_entry_eq]
  generalize (lg_sl ([.ref (ad E 6 0), .int x2]) ++ List.replicate (3 - (lg_sl ([.ref (ad E 6 0), .int x2])).length) Slot.unset).toArray = ls at hl ⊢
  have hl : lv_has ls 3 [(0, .ref (ad E 6 0)), (1, .int x2)] := hl
  obtain ⟨hx, hb, hr, hml, hown, hts, hlocks, hKK, hA1, hA2⟩ := id C
  refine lv_aload_n hx hb dL_next_0 rfl (lv_at hl 0 rfl) ?_
  refine lv_iload_n hx hb dL_next_1 rfl (lv_at hl 1 rfl) ?_
  refine x_cXi (As := [.int x2]) (rest := []) C w (mtX4_next hst h) q8_1 q8_2 q8_3 q1_2 q8_4 ydX4_next ⟨rfl, rfl⟩ ⟨by decide, by decide⟩ ⟨by decide, by decide⟩ hl.1 (Nat.le_of_ble_eq_true rfl) rfl dL_next_2 (fun H locs q9 ce htg w hc1 hc2 hc3 => absurd rfl htg) (fun H locs htg w => ?_)
  exact x_ri C w rfl rfl rfl dL_next_5
theorem ynL_next : yL_next.cls ≠ "java/lang/invoke/MethodHandle" ∧ yL_next.cls ≠ "java/lang/invoke/VarHandle" ∧ (parseMethodDescriptor yL_next.desc).map (fun d => d.parameters.length) = some 2 := by decide +kernel
abbrev wdL_undoes : Cond := Cond.codeWith yL_undoes cL_undoes 2 (some .int) [(0, 4, 5, 22)]
abbrev rmzL_undoes : Room := { frames := 7, cells := 0, slots := 0, locals := 106 }
set_option maxRecDepth 20000 in
theorem mzL_undoes {rr : Int32} {GR : M3} {KR : J3} (hst : l.stackTraces = false)  (h : fX4_undo F G K = some (0, rr, GR, KR)) : MtZ l yL_undoes wdL_undoes rmzL_undoes E [.ref (ad E 6 0)] G K rr GR KR 0 0 := by
  intro sz
  refine Met.ofWH (cc := cL_undoes) (maxL := 2) (ret := (some .int)) (hh := [(0, 4, 5, 22)]) (by decide) rfl ?_
  intro p e s m args below meth c s₁ B hml hv
  obtain ⟨rfl, C, w⟩ := Cx.of (own := RL) B rfl hml hv
  have htab := vx_table (x := yL_undoes) B (C.2.2.2.2.2.1 _ List.mem_cons_self)
  have hl := lv_entry ([.ref (ad E 6 0)]) (n := 2) (by exact Nat.le_of_ble_eq_true rfl)
  rw [lg_entry_eq]
  generalize (lg_sl ([.ref (ad E 6 0)]) ++ List.replicate (2 - (lg_sl ([.ref (ad E 6 0)])).length) Slot.unset).toArray = ls at hl ⊢
  have hl : lv_has ls 2 [(0, .ref (ad E 6 0))] := hl
  obtain ⟨hx, hb, hr, hml, hown, hts, hlocks, hKK, hA1, hA2⟩ := id C
  refine lv_aload_n hx hb dL_undoes_0 rfl (lv_at hl 0 rfl) ?_
  refine x_cXi (As := []) (rest := []) C w (mtX4_undo hst h) q16_15 q16_16 q16_17 q1_2 q16_18 ydX4_undo ⟨rfl, rfl⟩ ⟨by decide, by decide⟩ ⟨by decide, by decide⟩ hl.1 (Nat.le_of_ble_eq_true rfl) rfl dL_undoes_1 (fun H locs q9 ce htg w hc1 hc2 hc3 => absurd rfl htg) (fun H locs htg w => ?_)
  exact x_ri C w rfl rfl rfl dL_undoes_4
theorem ynL_undoes : yL_undoes.cls ≠ "java/lang/invoke/MethodHandle" ∧ yL_undoes.cls ≠ "java/lang/invoke/VarHandle" ∧ (parseMethodDescriptor yL_undoes.desc).map (fun d => d.parameters.length) = some 1 := by decide +kernel
abbrev wdL_booked : Cond := Cond.codeWith yL_booked cL_booked 3 (some .long) [(0, 5, 6, 15)]
abbrev rmzL_booked : Room := { frames := 7, cells := 0, slots := 0, locals := 103 }
set_option maxRecDepth 20000 in
theorem mzL_booked {rr : Int64} {GR : M3} {KR : J3} (hst : l.stackTraces = false) {x2 : Int32} (h : fX4_booked x2 G K = some (0, rr, GR, KR)) : MtZl l yL_booked wdL_booked rmzL_booked E [.ref (ad E 6 0), .int x2] G K rr GR KR 0 0 := by
  intro sz
  refine Met.ofWH (cc := cL_booked) (maxL := 3) (ret := (some .long)) (hh := [(0, 5, 6, 15)]) (by decide) rfl ?_
  intro p e s m args below meth c s₁ B hml hv
  obtain ⟨rfl, C, w⟩ := Cx.of (own := RL) B rfl hml hv
  have htab := vx_table (x := yL_booked) B (C.2.2.2.2.2.1 _ List.mem_cons_self)
  have hl := lv_entry ([.ref (ad E 6 0), .int x2]) (n := 3) (by exact Nat.le_of_ble_eq_true rfl)
  rw [lg_entry_eq]
  generalize (lg_sl ([.ref (ad E 6 0), .int x2]) ++ List.replicate (3 - (lg_sl ([.ref (ad E 6 0), .int x2])).length) Slot.unset).toArray = ls at hl ⊢
  have hl : lv_has ls 3 [(0, .ref (ad E 6 0)), (1, .int x2)] := hl
  obtain ⟨hx, hb, hr, hml, hown, hts, hlocks, hKK, hA1, hA2⟩ := id C
  refine lv_aload_n hx hb dL_booked_0 rfl (lv_at hl 0 rfl) ?_
  refine lv_iload_n hx hb dL_booked_1 rfl (lv_at hl 1 rfl) ?_
  refine x_cXl (As := [.int x2]) (rest := []) C w (mtX4_booked hst h) q5_15 q5_16 q5_17 q1_2 q5_18 ydX4_booked ⟨rfl, rfl⟩ ⟨by decide, by decide⟩ ⟨by decide, by decide⟩ hl.1 (Nat.le_of_ble_eq_true rfl) rfl dL_booked_2 (fun H locs q9 ce htg w hc1 hc2 hc3 => absurd rfl htg) (fun H locs htg w => ?_)
  exact x_rl C w rfl rfl rfl dL_booked_5
theorem ynL_booked : yL_booked.cls ≠ "java/lang/invoke/MethodHandle" ∧ yL_booked.cls ≠ "java/lang/invoke/VarHandle" ∧ (parseMethodDescriptor yL_booked.desc).map (fun d => d.parameters.length) = some 2 := by decide +kernel
abbrev rmtL_passes : Room := { frames := 7, cells := 1, slots := 6, locals := 147 }
set_option maxRecDepth 20000 in
theorem mtL_passes {rr : Int32} {GR : M3} {KR : J3} (hst : l.stackTraces = false) {x2 : Int32} (h : fX4_pass F x2 G K = some (1, rr, GR, KR)) : MtZ l yL_passes wdL_passes rmtL_passes E [.ref (ad E 6 0), .int x2] G K (-2000001 : Int32) GR KR 1 6 := by
  intro sz
  refine Met.ofWH (cc := cL_passes) (maxL := 3) (ret := (some .int)) (hh := [(0, 5, 6, 15), (0, 5, 10, 22)]) (by decide) rfl ?_
  intro p e s m args below meth c s₁ B hml hv
  obtain ⟨rfl, C, w⟩ := Cx.of (own := RL) B rfl hml hv
  have htab := vx_table (x := yL_passes) B (C.2.2.2.2.2.1 _ List.mem_cons_self)
  have hl := lv_entry ([.ref (ad E 6 0), .int x2]) (n := 3) (by exact Nat.le_of_ble_eq_true rfl)
  rw [lg_entry_eq]
  generalize (lg_sl ([.ref (ad E 6 0), .int x2]) ++ List.replicate (3 - (lg_sl ([.ref (ad E 6 0), .int x2])).length) Slot.unset).toArray = ls at hl ⊢
  have hl : lv_has ls 3 [(0, .ref (ad E 6 0)), (1, .int x2)] := hl
  obtain ⟨hx, hb, hr, hml, hown, hts, hlocks, hKK, hA1, hA2⟩ := id C
  refine lv_aload_n hx hb dL_passes_0 rfl (lv_at hl 0 rfl) ?_
  refine lv_iload_n hx hb dL_passes_1 rfl (lv_at hl 1 rfl) ?_
  refine x_cXi (As := [.int x2]) (rest := []) C w (mtX4_pass hst h) q14_13 q14_14 q14_15 q1_2 q14_16 ydX4_pass ⟨rfl, rfl⟩ ⟨by decide, by decide⟩ ⟨by decide, by decide⟩ hl.1 (Nat.le_of_ble_eq_true rfl) rfl dL_passes_2 (fun H locs q9 ce htg w hc1 hc2 hc3 => ?_) (fun H locs htg w => absurd htg (by decide))
  refine vx_catch (own := RL) (name := "java/lang/IllegalArgumentException") hown [] ⟨0, 5, 6, 15⟩ [⟨0, 5, 10, 22⟩] (htab.trans rfl) (fun z hz => absurd hz List.not_mem_nil) (by decide) (by decide) (x_hts C q3_20) (x_nest C (List.mem_of_getElem? (i := 1) rfl)) hc1 hc2 hc3 ?_
  refine lv_astore_n (lv' := [(2, .ref q9), (0, .ref (ad E 6 0)), (1, .int x2)]) hx hb dL_passes_6 rfl hl (by decide) rfl (fun ls hl => ?_)
  refine lv_ldc hx hb hown (x_hts C q1_3) dL_passes_7 ?_
  exact x_ri C w rfl rfl rfl dL_passes_9
abbrev rmtL_trips : Room := { frames := 7, cells := 1, slots := 6, locals := 109 }
set_option maxRecDepth 20000 in
theorem mtL_trips {rr : Int32} {GR : M3} {KR : J3} (hst : l.stackTraces = false) {x2 : Int32} (h : fX4_trip F x2 G K = some (3, rr, GR, KR)) : MtZ l yL_trips wdL_trips rmtL_trips E [.ref (ad E 6 0), .int x2] G K (-2000001 : Int32) GR KR 1 6 := by
  intro sz
  refine Met.ofWH (cc := cL_trips) (maxL := 3) (ret := (some .int)) (hh := [(0, 5, 6, 28), (0, 5, 10, 22)]) (by decide) rfl ?_
  intro p e s m args below meth c s₁ B hml hv
  obtain ⟨rfl, C, w⟩ := Cx.of (own := RL) B rfl hml hv
  have htab := vx_table (x := yL_trips) B (C.2.2.2.2.2.1 _ List.mem_cons_self)
  have hl := lv_entry ([.ref (ad E 6 0), .int x2]) (n := 3) (by exact Nat.le_of_ble_eq_true rfl)
  rw [lg_entry_eq]
  generalize (lg_sl ([.ref (ad E 6 0), .int x2]) ++ List.replicate (3 - (lg_sl ([.ref (ad E 6 0), .int x2])).length) Slot.unset).toArray = ls at hl ⊢
  have hl : lv_has ls 3 [(0, .ref (ad E 6 0)), (1, .int x2)] := hl
  obtain ⟨hx, hb, hr, hml, hown, hts, hlocks, hKK, hA1, hA2⟩ := id C
  refine lv_aload_n hx hb dL_trips_0 rfl (lv_at hl 0 rfl) ?_
  refine lv_iload_n hx hb dL_trips_1 rfl (lv_at hl 1 rfl) ?_
  refine x_cXi (As := [.int x2]) (rest := []) C w (mtX4_trip hst h) q11_16 q11_17 q11_18 q1_2 q11_19 ydX4_trip ⟨rfl, rfl⟩ ⟨by decide, by decide⟩ ⟨by decide, by decide⟩ hl.1 (Nat.le_of_ble_eq_true rfl) rfl dL_trips_2 (fun H locs q9 ce htg w hc1 hc2 hc3 => ?_) (fun H locs htg w => absurd htg (by decide))
  refine vx_catch (own := RL) (name := "java/lang/IndexOutOfBoundsException") hown [] ⟨0, 5, 6, 28⟩ [⟨0, 5, 10, 22⟩] (htab.trans rfl) (fun z hz => absurd hz List.not_mem_nil) (by decide) (by decide) (x_hts C q5_23) (x_nest C (List.mem_of_getElem? (i := 3) rfl)) hc1 hc2 hc3 ?_
  refine lv_astore_n (lv' := [(2, .ref q9), (0, .ref (ad E 6 0)), (1, .int x2)]) hx hb dL_trips_6 rfl hl (by decide) rfl (fun ls hl => ?_)
  refine lv_ldc hx hb hown (x_hts C q1_3) dL_trips_7 ?_
  exact x_ri C w rfl rfl rfl dL_trips_9
end XW
