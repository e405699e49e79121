section XW
variable {E : WE} {A : Nat → Prop} {p : Program} {l : Launch} {e : Env} {s : State} {m : MethodId} {args : Array Value} {below : List Frame} {meth : Method} {c : Code} {H : Heap} {locs : List Loc} {ls : Array Slot} {G : M3} {K : J3} {M : M2} {J : J2} {F g q : Nat} {g' q' : Nat}

/-! L.setVolume(LAirStation;I[J)I -/
abbrev rmL_setVolume : Room := { frames := 7, cells := 1, slots := 6, locals := 107 }
abbrev wdL_setVolume : Cond := Cond.codeWith yL_setVolume cL_setVolume 4 (some .int) [(0, 9, 12, 13), (0, 9, 15, 15)]
noncomputable def fL_setVolume (F : Nat)  (x2 : Int32) (G : M3) (K : J3) : Option (Int32 × M3 × J3) := bd4 (fX4_setVolume F x2 G K) (fun tg1 vv2 G3 K4 => if tg1 = 0 then (bnd (up3 K4 9 0 0 (vv2.toInt64)) (fun K6 => some ((0 : Int32), G3, K6))) else if tg1 = 1 then (some ((1 : Int32), G3, K4)) else if tg1 = 2 then (some ((2 : Int32), G3, K4)) else none)
set_option maxRecDepth 20000 in
set_option maxHeartbeats 1000000 in
theorem TL_setVolume {rr : Int32} {GR : M3} {KR : J3}  (C : Cx E A p s m args meth c wdL_setVolume cL_setVolume 4 (some .int) RL) (hst : l.stackTraces = false) (htab : c.exceptionTable.toList = tableOf [(0, 9, 12, 13), (0, 9, 15, 15)]) {x2 : Int32}  (h : fL_setVolume F  x2 G K = some (rr, GR, KR)) (w : Wd E A s G K H locs) (hl : lv_has ls 4 [(0, .ref (ad E 6 0)), (1, .int x2), (2, .ref (ad E 9 0))]) : W p l e rmL_setVolume s m args below meth c H locs 0 0 (MQ below (va_Qi (fun (r1 : Int32) (_ : Unit) => r1 = rr) (fun _ t => PosM E GR KR t) A) args s 1 6 A) (F0 m 0 ls []) := by
  obtain ⟨hx, hb, hr, hml, hown, hts, hlocks, hKK, hA1, hA2⟩ := id C
  unfold fL_setVolume at h
  refine lv_aload_n hx hb dL_setVolume_0 rfl (lv_at hl 2 rfl) ?_
  refine lv_iconst (v := (0 : Int32)) hx hb dL_setVolume_1 (by decide) ?_
  refine lv_aload_n hx hb dL_setVolume_2 rfl (lv_at hl 0 rfl) ?_
  refine lv_iload_n hx hb dL_setVolume_3 rfl (lv_at hl 1 rfl) ?_
  obtain ⟨tg1, vv2, G3, K4, hv5, h⟩ := bd4_of h
  refine x_cXi (As := [.int x2]) (rest := [.int (0 : Int32), .ref (ad E 9 0)]) C w (mtX4_setVolume hst hv5) q4_8 q4_9 q4_10 q1_2 q4_11 ydX4_setVolume ⟨rfl, rfl⟩ ⟨by decide, by decide⟩ ⟨by decide, by decide⟩ hl.1 (Nat.le_of_ble_eq_true rfl) rfl dL_setVolume_4 (fun H locs q9 ce htg w hc1 hc2 hc3 => ?_) (fun H locs htg w => ?_)
  · replace h := ite_f h htg
    by_cases cx0 : tg1 = 1
    · replace h := ite_t h cx0
      rw [cx0] at hc3
      refine vx_catch (own := RL) (name := "java/lang/IllegalArgumentException") hown [] ⟨0, 9, 12, 13⟩ [⟨0, 9, 15, 15⟩] (htab.trans rfl) (fun z hz => absurd hz List.not_mem_nil) (by decide) (by decide) (x_hts C q4_6) (x_nest C (List.mem_of_getElem? (i := 4) rfl)) hc1 hc2 hc3 ?_
      refine lv_astore_n (lv' := [(3, .ref q9), (0, .ref (ad E 6 0)), (1, .int x2), (2, .ref (ad E 9 0))]) hx hb dL_setVolume_12 rfl hl (by decide) rfl (fun ls hl => ?_)
      refine lv_iconst (v := (1 : Int32)) hx hb dL_setVolume_13 (by decide) ?_
      obtain ⟨e1, e2, e3⟩ := rt3 h
      exact x_ri C w e1 (by rw [e2]) (by rw [e3]) dL_setVolume_14
    replace h := ite_f h cx0
    by_cases cx1 : tg1 = 2
    · replace h := ite_t h cx1
      rw [cx1] at hc3
      refine vx_catch (own := RL) (name := "java/lang/IllegalStateException") hown [⟨0, 9, 12, 13⟩] ⟨0, 9, 15, 15⟩ [] (htab.trans rfl) (fun z hz => by rw [List.mem_singleton.mp hz]; exact Or.inr ⟨by decide, _, x_hts C q4_6, hKK.2.2.2.2.2 _ (List.mem_of_getElem? (i := 0) rfl)⟩) (by decide) (by decide) (x_hts C q4_7) (x_nest C (List.mem_of_getElem? (i := 5) rfl)) hc1 hc2 hc3 ?_
      refine lv_astore_n (lv' := [(3, .ref q9), (0, .ref (ad E 6 0)), (1, .int x2), (2, .ref (ad E 9 0))]) hx hb dL_setVolume_15 rfl hl (by decide) rfl (fun ls hl => ?_)
      refine lv_iconst (v := (2 : Int32)) hx hb dL_setVolume_16 (by decide) ?_
      obtain ⟨e1, e2, e3⟩ := rt3 h
      exact x_ri C w e1 (by rw [e2]) (by rw [e3]) dL_setVolume_17
    replace h := ite_f h cx1
    cases h
  · replace h := ite_t h htg
    refine lv_i2l hx hb dL_setVolume_7 rfl ?_
    refine x_astJ_G C w v9 c9_0 (inb_k (k := 0) (by decide) (by decide)) cl_0 dL_setVolume_8 (fun K6 H locs e7 w => ?_)
    replace h := bnd_of h e7
    refine lv_goto (tgt := 18) hx hb dL_setVolume_9 (by decide) ?_
    refine lv_iconst (v := (0 : Int32)) hx hb dL_setVolume_18 (by decide) ?_
    obtain ⟨e1, e2, e3⟩ := rt3 h
    exact x_ri C w e1 (by rw [e2]) (by rw [e3]) dL_setVolume_19
theorem mtL_setVolume {rr : Int32} {GR : M3} {KR : J3}  (hst : l.stackTraces = false) {x2 : Int32}  (h : fL_setVolume F  x2 G K = some (rr, GR, KR)) : MtW l yL_setVolume wdL_setVolume rmL_setVolume E [.ref (ad E 6 0), .int x2, .ref (ad E 9 0)] G K rr GR KR := by
  intro sz
  refine Met.ofWH (cc := cL_setVolume) (maxL := 4) (ret := (some .int)) (hh := [(0, 9, 12, 13), (0, 9, 15, 15)]) (by decide) rfl ?_
  intro p e s m args below meth c s₁ B hml hv
  obtain ⟨rfl, C, w⟩ := Cx.of (own := RL) B rfl hml hv
  have htab := vx_table (x := yL_setVolume) B (C.2.2.2.2.2.1 _ List.mem_cons_self)
  have hl := lv_entry ([.ref (ad E 6 0), .int x2, .ref (ad E 9 0)]) (n := 4) (by first | exact Nat.le_of_ble_eq_true rfl)
  rw [lg_entry_eq]
  generalize (lg_sl ([.ref (ad E 6 0), .int x2, .ref (ad E 9 0)]) ++ List.replicate (4 - (lg_sl ([.ref (ad E 6 0), .int x2, .ref (ad E 9 0)])).length) Slot.unset).toArray = ls at hl ⊢
  exact TL_setVolume C hst htab  h w hl
theorem ydL_setVolume : yL_setVolume.cls = RL ∧ yL_setVolume.cls ≠ "java/lang/invoke/MethodHandle" ∧ yL_setVolume.cls ≠ "java/lang/invoke/VarHandle" ∧ (parseMethodDescriptor yL_setVolume.desc).map (fun d => d.parameters.length) = some 3 := by decide +kernel
theorem ynL_setVolume : yL_setVolume.cls ≠ "java/lang/invoke/MethodHandle" ∧ yL_setVolume.cls ≠ "java/lang/invoke/VarHandle" ∧ (parseMethodDescriptor yL_setVolume.desc).map (fun d => d.parameters.length) = some 3 := by decide +kernel
/-! L.set(LAirStation;II[J)I -/
abbrev rmL_set : Room := { frames := 7, cells := 1, slots := 6, locals := 109 }
abbrev wdL_set : Cond := Cond.codeWith yL_set cL_set 5 (some .int) [(0, 10, 13, 13)]
noncomputable def fL_set (F : Nat)  (x2 : Int32) (x3 : Int32) (G : M3) (K : J3) : Option (Int32 × M3 × J3) := bd4 (fX4_set F x2 x3 G K) (fun tg1 vv2 G3 K4 => if tg1 = 0 then (bnd (up3 K4 9 0 0 (vv2.toInt64)) (fun K6 => some ((0 : Int32), G3, K6))) else if tg1 = 1 then (some ((1 : Int32), G3, K4)) else none)
set_option maxRecDepth 20000 in
set_option maxHeartbeats 1000000 in
theorem TL_set {rr : Int32} {GR : M3} {KR : J3}  (C : Cx E A p s m args meth c wdL_set cL_set 5 (some .int) RL) (hst : l.stackTraces = false) (htab : c.exceptionTable.toList = tableOf [(0, 10, 13, 13)]) {x2 : Int32} {x3 : Int32}  (h : fL_set F  x2 x3 G K = some (rr, GR, KR)) (w : Wd E A s G K H locs) (hl : lv_has ls 5 [(0, .ref (ad E 6 0)), (1, .int x2), (2, .int x3), (3, .ref (ad E 9 0))]) : W p l e rmL_set s m args below meth c H locs 0 0 (MQ below (va_Qi (fun (r1 : Int32) (_ : Unit) => r1 = rr) (fun _ t => PosM E GR KR t) A) args s 1 6 A) (F0 m 0 ls []) := by
  obtain ⟨hx, hb, hr, hml, hown, hts, hlocks, hKK, hA1, hA2⟩ := id C
  unfold fL_set at h
  refine lv_aload_n hx hb dL_set_0 rfl (lv_at hl 3 rfl) ?_
  refine lv_iconst (v := (0 : Int32)) hx hb dL_set_1 (by decide) ?_
  refine lv_aload_n hx hb dL_set_2 rfl (lv_at hl 0 rfl) ?_
  refine lv_iload_n hx hb dL_set_3 rfl (lv_at hl 1 rfl) ?_
  refine lv_iload_n hx hb dL_set_4 rfl (lv_at hl 2 rfl) ?_
  obtain ⟨tg1, vv2, G3, K4, hv5, h⟩ := bd4_of h
  refine x_cXi (As := [.int x2, .int x3]) (rest := [.int (0 : Int32), .ref (ad E 9 0)]) C w (mtX4_set hst hv5) q8_8 q8_9 q8_10 q1_2 q8_11 ydX4_set ⟨rfl, rfl⟩ ⟨by decide, by decide⟩ ⟨by decide, by decide⟩ hl.1 (Nat.le_of_ble_eq_true rfl) rfl dL_set_5 (fun H locs q9 ce htg w hc1 hc2 hc3 => ?_) (fun H locs htg w => ?_)
  · replace h := ite_f h htg
    by_cases cx0 : tg1 = 1
    · replace h := ite_t h cx0
      rw [cx0] at hc3
      refine vx_catch (own := RL) (name := "java/lang/IllegalArgumentException") hown [] ⟨0, 10, 13, 13⟩ [] (htab.trans rfl) (fun z hz => absurd hz List.not_mem_nil) (by decide) (by decide) (x_hts C q4_6) (x_nest C (List.mem_of_getElem? (i := 4) rfl)) hc1 hc2 hc3 ?_
      refine lv_astore (lv' := [(4, .ref q9), (0, .ref (ad E 6 0)), (1, .int x2), (2, .int x3), (3, .ref (ad E 9 0))]) hx hb dL_set_13 hl (by decide) rfl (fun ls hl => ?_)
      refine lv_iconst (v := (1 : Int32)) hx hb dL_set_15 (by decide) ?_
      obtain ⟨e1, e2, e3⟩ := rt3 h
      exact x_ri C w e1 (by rw [e2]) (by rw [e3]) dL_set_16
    replace h := ite_f h cx0
    cases h
  · replace h := ite_t h htg
    refine lv_i2l hx hb dL_set_8 rfl ?_
    refine x_astJ_G C w v9 c9_0 (inb_k (k := 0) (by decide) (by decide)) cl_0 dL_set_9 (fun K6 H locs e7 w => ?_)
    replace h := bnd_of h e7
    refine lv_goto (tgt := 17) hx hb dL_set_10 (by decide) ?_
    refine lv_iconst (v := (0 : Int32)) hx hb dL_set_17 (by decide) ?_
    obtain ⟨e1, e2, e3⟩ := rt3 h
    exact x_ri C w e1 (by rw [e2]) (by rw [e3]) dL_set_18
theorem mtL_set {rr : Int32} {GR : M3} {KR : J3}  (hst : l.stackTraces = false) {x2 : Int32} {x3 : Int32}  (h : fL_set F  x2 x3 G K = some (rr, GR, KR)) : MtW l yL_set wdL_set rmL_set E [.ref (ad E 6 0), .int x2, .int x3, .ref (ad E 9 0)] G K rr GR KR := by
  intro sz
  refine Met.ofWH (cc := cL_set) (maxL := 5) (ret := (some .int)) (hh := [(0, 10, 13, 13)]) (by decide) rfl ?_
  intro p e s m args below meth c s₁ B hml hv
  obtain ⟨rfl, C, w⟩ := Cx.of (own := RL) B rfl hml hv
  have htab := vx_table (x := yL_set) B (C.2.2.2.2.2.1 _ List.mem_cons_self)
  have hl := lv_entry ([.ref (ad E 6 0), .int x2, .int x3, .ref (ad E 9 0)]) (n := 5) (by first | exact Nat.le_of_ble_eq_true rfl)
  rw [lg_entry_eq]
  generalize (lg_sl ([.ref (ad E 6 0), .int x2, .int x3, .ref (ad E 9 0)]) ++ List.replicate (5 - (lg_sl ([.ref (ad E 6 0), .int x2, .int x3, .ref (ad E 9 0)])).length) Slot.unset).toArray = ls at hl ⊢
  exact TL_set C hst htab  h w hl
theorem ydL_set : yL_set.cls = RL ∧ yL_set.cls ≠ "java/lang/invoke/MethodHandle" ∧ yL_set.cls ≠ "java/lang/invoke/VarHandle" ∧ (parseMethodDescriptor yL_set.desc).map (fun d => d.parameters.length) = some 4 := by decide +kernel
theorem ynL_set : yL_set.cls ≠ "java/lang/invoke/MethodHandle" ∧ yL_set.cls ≠ "java/lang/invoke/VarHandle" ∧ (parseMethodDescriptor yL_set.desc).map (fun d => d.parameters.length) = some 4 := by decide +kernel
/-! L.addCompressor(LAirStation;I[J)I -/
abbrev rmL_addCompressor : Room := { frames := 7, cells := 1, slots := 6, locals := 107 }
abbrev wdL_addCompressor : Cond := Cond.codeWith yL_addCompressor cL_addCompressor 4 (some .int) [(0, 9, 12, 13), (0, 9, 15, 15)]
noncomputable def fL_addCompressor (F : Nat)  (x2 : Int32) (G : M3) (K : J3) : Option (Int32 × M3 × J3) := bd4 (fX4_addCompressor F x2 G K) (fun tg1 vv2 G3 K4 => if tg1 = 0 then (bnd (up3 K4 9 0 0 (vv2.toInt64)) (fun K6 => some ((0 : Int32), G3, K6))) else if tg1 = 1 then (some ((1 : Int32), G3, K4)) else if tg1 = 2 then (some ((2 : Int32), G3, K4)) else none)
set_option maxRecDepth 20000 in
set_option maxHeartbeats 1000000 in
theorem TL_addCompressor {rr : Int32} {GR : M3} {KR : J3}  (C : Cx E A p s m args meth c wdL_addCompressor cL_addCompressor 4 (some .int) RL) (hst : l.stackTraces = false) (htab : c.exceptionTable.toList = tableOf [(0, 9, 12, 13), (0, 9, 15, 15)]) {x2 : Int32}  (h : fL_addCompressor F  x2 G K = some (rr, GR, KR)) (w : Wd E A s G K H locs) (hl : lv_has ls 4 [(0, .ref (ad E 6 0)), (1, .int x2), (2, .ref (ad E 9 0))]) : W p l e rmL_addCompressor s m args below meth c H locs 0 0 (MQ below (va_Qi (fun (r1 : Int32) (_ : Unit) => r1 = rr) (fun _ t => PosM E GR KR t) A) args s 1 6 A) (F0 m 0 ls []) := by
  obtain ⟨hx, hb, hr, hml, hown, hts, hlocks, hKK, hA1, hA2⟩ := id C
  unfold fL_addCompressor at h
  refine lv_aload_n hx hb dL_addCompressor_0 rfl (lv_at hl 2 rfl) ?_
  refine lv_iconst (v := (0 : Int32)) hx hb dL_addCompressor_1 (by decide) ?_
  refine lv_aload_n hx hb dL_addCompressor_2 rfl (lv_at hl 0 rfl) ?_
  refine lv_iload_n hx hb dL_addCompressor_3 rfl (lv_at hl 1 rfl) ?_
  obtain ⟨tg1, vv2, G3, K4, hv5, h⟩ := bd4_of h
  refine x_cXi (As := [.int x2]) (rest := [.int (0 : Int32), .ref (ad E 9 0)]) C w (mtX4_addCompressor hst hv5) q9_3 q9_4 q9_5 q1_2 q9_6 ydX4_addCompressor ⟨rfl, rfl⟩ ⟨by decide, by decide⟩ ⟨by decide, by decide⟩ hl.1 (Nat.le_of_ble_eq_true rfl) rfl dL_addCompressor_4 (fun H locs q9 ce htg w hc1 hc2 hc3 => ?_) (fun H locs htg w => ?_)
  · replace h := ite_f h htg
    by_cases cx0 : tg1 = 1
    · replace h := ite_t h cx0
      rw [cx0] at hc3
      refine vx_catch (own := RL) (name := "java/lang/IllegalArgumentException") hown [] ⟨0, 9, 12, 13⟩ [⟨0, 9, 15, 15⟩] (htab.trans rfl) (fun z hz => absurd hz List.not_mem_nil) (by decide) (by decide) (x_hts C q4_6) (x_nest C (List.mem_of_getElem? (i := 4) rfl)) hc1 hc2 hc3 ?_
      refine lv_astore_n (lv' := [(3, .ref q9), (0, .ref (ad E 6 0)), (1, .int x2), (2, .ref (ad E 9 0))]) hx hb dL_addCompressor_12 rfl hl (by decide) rfl (fun ls hl => ?_)
      refine lv_iconst (v := (1 : Int32)) hx hb dL_addCompressor_13 (by decide) ?_
      obtain ⟨e1, e2, e3⟩ := rt3 h
      exact x_ri C w e1 (by rw [e2]) (by rw [e3]) dL_addCompressor_14
    replace h := ite_f h cx0
    by_cases cx1 : tg1 = 2
    · replace h := ite_t h cx1
      rw [cx1] at hc3
      refine vx_catch (own := RL) (name := "java/lang/IllegalStateException") hown [⟨0, 9, 12, 13⟩] ⟨0, 9, 15, 15⟩ [] (htab.trans rfl) (fun z hz => by rw [List.mem_singleton.mp hz]; exact Or.inr ⟨by decide, _, x_hts C q4_6, hKK.2.2.2.2.2 _ (List.mem_of_getElem? (i := 0) rfl)⟩) (by decide) (by decide) (x_hts C q4_7) (x_nest C (List.mem_of_getElem? (i := 5) rfl)) hc1 hc2 hc3 ?_
      refine lv_astore_n (lv' := [(3, .ref q9), (0, .ref (ad E 6 0)), (1, .int x2), (2, .ref (ad E 9 0))]) hx hb dL_addCompressor_15 rfl hl (by decide) rfl (fun ls hl => ?_)
      refine lv_iconst (v := (2 : Int32)) hx hb dL_addCompressor_16 (by decide) ?_
      obtain ⟨e1, e2, e3⟩ := rt3 h
      exact x_ri C w e1 (by rw [e2]) (by rw [e3]) dL_addCompressor_17
    replace h := ite_f h cx1
    cases h
  · replace h := ite_t h htg
    refine lv_i2l hx hb dL_addCompressor_7 rfl ?_
    refine x_astJ_G C w v9 c9_0 (inb_k (k := 0) (by decide) (by decide)) cl_0 dL_addCompressor_8 (fun K6 H locs e7 w => ?_)
    replace h := bnd_of h e7
    refine lv_goto (tgt := 18) hx hb dL_addCompressor_9 (by decide) ?_
    refine lv_iconst (v := (0 : Int32)) hx hb dL_addCompressor_18 (by decide) ?_
    obtain ⟨e1, e2, e3⟩ := rt3 h
    exact x_ri C w e1 (by rw [e2]) (by rw [e3]) dL_addCompressor_19
theorem mtL_addCompressor {rr : Int32} {GR : M3} {KR : J3}  (hst : l.stackTraces = false) {x2 : Int32}  (h : fL_addCompressor F  x2 G K = some (rr, GR, KR)) : MtW l yL_addCompressor wdL_addCompressor rmL_addCompressor E [.ref (ad E 6 0), .int x2, .ref (ad E 9 0)] G K rr GR KR := by
  intro sz
  refine Met.ofWH (cc := cL_addCompressor) (maxL := 4) (ret := (some .int)) (hh := [(0, 9, 12, 13), (0, 9, 15, 15)]) (by decide) rfl ?_
  intro p e s m args below meth c s₁ B hml hv
  obtain ⟨rfl, C, w⟩ := Cx.of (own := RL) B rfl hml hv
  have htab := vx_table (x := yL_addCompressor) B (C.2.2.2.2.2.1 _ List.mem_cons_self)
  have hl := lv_entry ([.ref (ad E 6 0), .int x2, .ref (ad E 9 0)]) (n := 4) (by first | exact Nat.le_of_ble_eq_true rfl)
  rw [lg_entry_eq]
  generalize (lg_sl ([.ref (ad E 6 0), .int x2, .ref (ad E 9 0)]) ++ List.replicate (4 - (lg_sl ([.ref (ad E 6 0), .int x2, .ref (ad E 9 0)])).length) Slot.unset).toArray = ls at hl ⊢
  exact TL_addCompressor C hst htab  h w hl
theorem ydL_addCompressor : yL_addCompressor.cls = RL ∧ yL_addCompressor.cls ≠ "java/lang/invoke/MethodHandle" ∧ yL_addCompressor.cls ≠ "java/lang/invoke/VarHandle" ∧ (parseMethodDescriptor yL_addCompressor.desc).map (fun d => d.parameters.length) = some 3 := by decide +kernel
theorem ynL_addCompressor : yL_addCompressor.cls ≠ "java/lang/invoke/MethodHandle" ∧ yL_addCompressor.cls ≠ "java/lang/invoke/VarHandle" ∧ (parseMethodDescriptor yL_addCompressor.desc).map (fun d => d.parameters.length) = some 3 := by decide +kernel
/-! L.trip(LAirStation;I[J)I -/
abbrev rmL_trip : Room := { frames := 7, cells := 1, slots := 6, locals := 109 }
abbrev wdL_trip : Cond := Cond.codeWith yL_trip cL_trip 4 (some .int) [(0, 9, 12, 27), (0, 9, 15, 15)]
noncomputable def fL_trip (F : Nat)  (x2 : Int32) (G : M3) (K : J3) : Option (Int32 × M3 × J3) := bd4 (fX4_trip F x2 G K) (fun tg1 vv2 G3 K4 => if tg1 = 0 then (bnd (up3 K4 9 0 0 (vv2.toInt64)) (fun K6 => some ((0 : Int32), G3, K6))) else if tg1 = 3 then (some ((1 : Int32), G3, K4)) else if tg1 = 2 then (some ((2 : Int32), G3, K4)) else none)
set_option maxRecDepth 20000 in
set_option maxHeartbeats 1000000 in
theorem TL_trip {rr : Int32} {GR : M3} {KR : J3}  (C : Cx E A p s m args meth c wdL_trip cL_trip 4 (some .int) RL) (hst : l.stackTraces = false) (htab : c.exceptionTable.toList = tableOf [(0, 9, 12, 27), (0, 9, 15, 15)]) {x2 : Int32}  (h : fL_trip F  x2 G K = some (rr, GR, KR)) (w : Wd E A s G K H locs) (hl : lv_has ls 4 [(0, .ref (ad E 6 0)), (1, .int x2), (2, .ref (ad E 9 0))]) : W p l e rmL_trip s m args below meth c H locs 0 0 (MQ below (va_Qi (fun (r1 : Int32) (_ : Unit) => r1 = rr) (fun _ t => PosM E GR KR t) A) args s 1 6 A) (F0 m 0 ls []) := by
  obtain ⟨hx, hb, hr, hml, hown, hts, hlocks, hKK, hA1, hA2⟩ := id C
  unfold fL_trip at h
  refine lv_aload_n hx hb dL_trip_0 rfl (lv_at hl 2 rfl) ?_
  refine lv_iconst (v := (0 : Int32)) hx hb dL_trip_1 (by decide) ?_
  refine lv_aload_n hx hb dL_trip_2 rfl (lv_at hl 0 rfl) ?_
  refine lv_iload_n hx hb dL_trip_3 rfl (lv_at hl 1 rfl) ?_
  obtain ⟨tg1, vv2, G3, K4, hv5, h⟩ := bd4_of h
  refine x_cXi (As := [.int x2]) (rest := [.int (0 : Int32), .ref (ad E 9 0)]) C w (mtX4_trip hst hv5) q10_4 q10_5 q10_6 q1_2 q10_7 ydX4_trip ⟨rfl, rfl⟩ ⟨by decide, by decide⟩ ⟨by decide, by decide⟩ hl.1 (Nat.le_of_ble_eq_true rfl) rfl dL_trip_4 (fun H locs q9 ce htg w hc1 hc2 hc3 => ?_) (fun H locs htg w => ?_)
  · replace h := ite_f h htg
    by_cases cx0 : tg1 = 3
    · replace h := ite_t h cx0
      rw [cx0] at hc3
      refine vx_catch (own := RL) (name := "java/lang/IndexOutOfBoundsException") hown [] ⟨0, 9, 12, 27⟩ [⟨0, 9, 15, 15⟩] (htab.trans rfl) (fun z hz => absurd hz List.not_mem_nil) (by decide) (by decide) (x_hts C q10_3) (x_nest C (List.mem_of_getElem? (i := 6) rfl)) hc1 hc2 hc3 ?_
      refine lv_astore_n (lv' := [(3, .ref q9), (0, .ref (ad E 6 0)), (1, .int x2), (2, .ref (ad E 9 0))]) hx hb dL_trip_12 rfl hl (by decide) rfl (fun ls hl => ?_)
      refine lv_iconst (v := (1 : Int32)) hx hb dL_trip_13 (by decide) ?_
      obtain ⟨e1, e2, e3⟩ := rt3 h
      exact x_ri C w e1 (by rw [e2]) (by rw [e3]) dL_trip_14
    replace h := ite_f h cx0
    by_cases cx1 : tg1 = 2
    · replace h := ite_t h cx1
      rw [cx1] at hc3
      refine vx_catch (own := RL) (name := "java/lang/IllegalStateException") hown [⟨0, 9, 12, 27⟩] ⟨0, 9, 15, 15⟩ [] (htab.trans rfl) (fun z hz => by rw [List.mem_singleton.mp hz]; exact Or.inr ⟨by decide, _, x_hts C q10_3, hKK.2.2.2.2.2 _ (List.mem_of_getElem? (i := 1) rfl)⟩) (by decide) (by decide) (x_hts C q4_7) (x_nest C (List.mem_of_getElem? (i := 5) rfl)) hc1 hc2 hc3 ?_
      refine lv_astore_n (lv' := [(3, .ref q9), (0, .ref (ad E 6 0)), (1, .int x2), (2, .ref (ad E 9 0))]) hx hb dL_trip_15 rfl hl (by decide) rfl (fun ls hl => ?_)
      refine lv_iconst (v := (2 : Int32)) hx hb dL_trip_16 (by decide) ?_
      obtain ⟨e1, e2, e3⟩ := rt3 h
      exact x_ri C w e1 (by rw [e2]) (by rw [e3]) dL_trip_17
    replace h := ite_f h cx1
    cases h
  · replace h := ite_t h htg
    refine lv_i2l hx hb dL_trip_7 rfl ?_
    refine x_astJ_G C w v9 c9_0 (inb_k (k := 0) (by decide) (by decide)) cl_0 dL_trip_8 (fun K6 H locs e7 w => ?_)
    replace h := bnd_of h e7
    refine lv_goto (tgt := 18) hx hb dL_trip_9 (by decide) ?_
    refine lv_iconst (v := (0 : Int32)) hx hb dL_trip_18 (by decide) ?_
    obtain ⟨e1, e2, e3⟩ := rt3 h
    exact x_ri C w e1 (by rw [e2]) (by rw [e3]) dL_trip_19
theorem mtL_trip {rr : Int32} {GR : M3} {KR : J3}  (hst : l.stackTraces = false) {x2 : Int32}  (h : fL_trip F  x2 G K = some (rr, GR, KR)) : MtW l yL_trip wdL_trip rmL_trip E [.ref (ad E 6 0), .int x2, .ref (ad E 9 0)] G K rr GR KR := by
  intro sz
  refine Met.ofWH (cc := cL_trip) (maxL := 4) (ret := (some .int)) (hh := [(0, 9, 12, 27), (0, 9, 15, 15)]) (by decide) rfl ?_
  intro p e s m args below meth c s₁ B hml hv
  obtain ⟨rfl, C, w⟩ := Cx.of (own := RL) B rfl hml hv
  have htab := vx_table (x := yL_trip) B (C.2.2.2.2.2.1 _ List.mem_cons_self)
  have hl := lv_entry ([.ref (ad E 6 0), .int x2, .ref (ad E 9 0)]) (n := 4) (by first | exact Nat.le_of_ble_eq_true rfl)
  rw [lg_entry_eq]
  generalize (lg_sl ([.ref (ad E 6 0), .int x2, .ref (ad E 9 0)]) ++ List.replicate (4 - (lg_sl ([.ref (ad E 6 0), .int x2, .ref (ad E 9 0)])).length) Slot.unset).toArray = ls at hl ⊢
  exact TL_trip C hst htab  h w hl
theorem ydL_trip : yL_trip.cls = RL ∧ yL_trip.cls ≠ "java/lang/invoke/MethodHandle" ∧ yL_trip.cls ≠ "java/lang/invoke/VarHandle" ∧ (parseMethodDescriptor yL_trip.desc).map (fun d => d.parameters.length) = some 3 := by decide +kernel
theorem ynL_trip : yL_trip.cls ≠ "java/lang/invoke/MethodHandle" ∧ yL_trip.cls ≠ "java/lang/invoke/VarHandle" ∧ (parseMethodDescriptor yL_trip.desc).map (fun d => d.parameters.length) = some 3 := by decide +kernel
/-! L.clear(LAirStation;I[J)I -/
abbrev rmL_clear : Room := { frames := 7, cells := 1, slots := 6, locals := 108 }
abbrev wdL_clear : Cond := Cond.codeWith yL_clear cL_clear 4 (some .int) [(0, 9, 12, 27), (0, 9, 15, 15)]
noncomputable def fL_clear (F : Nat)  (x2 : Int32) (G : M3) (K : J3) : Option (Int32 × M3 × J3) := bd4 (fX4_clear F x2 G K) (fun tg1 vv2 G3 K4 => if tg1 = 0 then (bnd (up3 K4 9 0 0 (vv2.toInt64)) (fun K6 => some ((0 : Int32), G3, K6))) else if tg1 = 3 then (some ((1 : Int32), G3, K4)) else if tg1 = 2 then (some ((2 : Int32), G3, K4)) else none)
set_option maxRecDepth 20000 in
set_option maxHeartbeats 1000000 in
theorem TL_clear {rr : Int32} {GR : M3} {KR : J3}  (C : Cx E A p s m args meth c wdL_clear cL_clear 4 (some .int) RL) (hst : l.stackTraces = false) (htab : c.exceptionTable.toList = tableOf [(0, 9, 12, 27), (0, 9, 15, 15)]) {x2 : Int32}  (h : fL_clear F  x2 G K = some (rr, GR, KR)) (w : Wd E A s G K H locs) (hl : lv_has ls 4 [(0, .ref (ad E 6 0)), (1, .int x2), (2, .ref (ad E 9 0))]) : W p l e rmL_clear s m args below meth c H locs 0 0 (MQ below (va_Qi (fun (r1 : Int32) (_ : Unit) => r1 = rr) (fun _ t => PosM E GR KR t) A) args s 1 6 A) (F0 m 0 ls []) := by
  obtain ⟨hx, hb, hr, hml, hown, hts, hlocks, hKK, hA1, hA2⟩ := id C
  unfold fL_clear at h
  refine lv_aload_n hx hb dL_clear_0 rfl (lv_at hl 2 rfl) ?_
  refine lv_iconst (v := (0 : Int32)) hx hb dL_clear_1 (by decide) ?_
  refine lv_aload_n hx hb dL_clear_2 rfl (lv_at hl 0 rfl) ?_
  refine lv_iload_n hx hb dL_clear_3 rfl (lv_at hl 1 rfl) ?_
  obtain ⟨tg1, vv2, G3, K4, hv5, h⟩ := bd4_of h
  refine x_cXi (As := [.int x2]) (rest := [.int (0 : Int32), .ref (ad E 9 0)]) C w (mtX4_clear hst hv5) q11_16 q11_17 q11_18 q1_2 q11_19 ydX4_clear ⟨rfl, rfl⟩ ⟨by decide, by decide⟩ ⟨by decide, by decide⟩ hl.1 (Nat.le_of_ble_eq_true rfl) rfl dL_clear_4 (fun H locs q9 ce htg w hc1 hc2 hc3 => ?_) (fun H locs htg w => ?_)
  · replace h := ite_f h htg
    by_cases cx0 : tg1 = 3
    · replace h := ite_t h cx0
      rw [cx0] at hc3
      refine vx_catch (own := RL) (name := "java/lang/IndexOutOfBoundsException") hown [] ⟨0, 9, 12, 27⟩ [⟨0, 9, 15, 15⟩] (htab.trans rfl) (fun z hz => absurd hz List.not_mem_nil) (by decide) (by decide) (x_hts C q10_3) (x_nest C (List.mem_of_getElem? (i := 6) rfl)) hc1 hc2 hc3 ?_
      refine lv_astore_n (lv' := [(3, .ref q9), (0, .ref (ad E 6 0)), (1, .int x2), (2, .ref (ad E 9 0))]) hx hb dL_clear_12 rfl hl (by decide) rfl (fun ls hl => ?_)
      refine lv_iconst (v := (1 : Int32)) hx hb dL_clear_13 (by decide) ?_
      obtain ⟨e1, e2, e3⟩ := rt3 h
      exact x_ri C w e1 (by rw [e2]) (by rw [e3]) dL_clear_14
    replace h := ite_f h cx0
    by_cases cx1 : tg1 = 2
    · replace h := ite_t h cx1
      rw [cx1] at hc3
      refine vx_catch (own := RL) (name := "java/lang/IllegalStateException") hown [⟨0, 9, 12, 27⟩] ⟨0, 9, 15, 15⟩ [] (htab.trans rfl) (fun z hz => by rw [List.mem_singleton.mp hz]; exact Or.inr ⟨by decide, _, x_hts C q10_3, hKK.2.2.2.2.2 _ (List.mem_of_getElem? (i := 1) rfl)⟩) (by decide) (by decide) (x_hts C q4_7) (x_nest C (List.mem_of_getElem? (i := 5) rfl)) hc1 hc2 hc3 ?_
      refine lv_astore_n (lv' := [(3, .ref q9), (0, .ref (ad E 6 0)), (1, .int x2), (2, .ref (ad E 9 0))]) hx hb dL_clear_15 rfl hl (by decide) rfl (fun ls hl => ?_)
      refine lv_iconst (v := (2 : Int32)) hx hb dL_clear_16 (by decide) ?_
      obtain ⟨e1, e2, e3⟩ := rt3 h
      exact x_ri C w e1 (by rw [e2]) (by rw [e3]) dL_clear_17
    replace h := ite_f h cx1
    cases h
  · replace h := ite_t h htg
    refine lv_i2l hx hb dL_clear_7 rfl ?_
    refine x_astJ_G C w v9 c9_0 (inb_k (k := 0) (by decide) (by decide)) cl_0 dL_clear_8 (fun K6 H locs e7 w => ?_)
    replace h := bnd_of h e7
    refine lv_goto (tgt := 18) hx hb dL_clear_9 (by decide) ?_
    refine lv_iconst (v := (0 : Int32)) hx hb dL_clear_18 (by decide) ?_
    obtain ⟨e1, e2, e3⟩ := rt3 h
    exact x_ri C w e1 (by rw [e2]) (by rw [e3]) dL_clear_19
theorem mtL_clear {rr : Int32} {GR : M3} {KR : J3}  (hst : l.stackTraces = false) {x2 : Int32}  (h : fL_clear F  x2 G K = some (rr, GR, KR)) : MtW l yL_clear wdL_clear rmL_clear E [.ref (ad E 6 0), .int x2, .ref (ad E 9 0)] G K rr GR KR := by
  intro sz
  refine Met.ofWH (cc := cL_clear) (maxL := 4) (ret := (some .int)) (hh := [(0, 9, 12, 27), (0, 9, 15, 15)]) (by decide) rfl ?_
  intro p e s m args below meth c s₁ B hml hv
  obtain ⟨rfl, C, w⟩ := Cx.of (own := RL) B rfl hml hv
  have htab := vx_table (x := yL_clear) B (C.2.2.2.2.2.1 _ List.mem_cons_self)
  have hl := lv_entry ([.ref (ad E 6 0), .int x2, .ref (ad E 9 0)]) (n := 4) (by first | exact Nat.le_of_ble_eq_true rfl)
  rw [lg_entry_eq]
  generalize (lg_sl ([.ref (ad E 6 0), .int x2, .ref (ad E 9 0)]) ++ List.replicate (4 - (lg_sl ([.ref (ad E 6 0), .int x2, .ref (ad E 9 0)])).length) Slot.unset).toArray = ls at hl ⊢
  exact TL_clear C hst htab  h w hl
theorem ydL_clear : yL_clear.cls = RL ∧ yL_clear.cls ≠ "java/lang/invoke/MethodHandle" ∧ yL_clear.cls ≠ "java/lang/invoke/VarHandle" ∧ (parseMethodDescriptor yL_clear.desc).map (fun d => d.parameters.length) = some 3 := by decide +kernel
theorem ynL_clear : yL_clear.cls ≠ "java/lang/invoke/MethodHandle" ∧ yL_clear.cls ≠ "java/lang/invoke/VarHandle" ∧ (parseMethodDescriptor yL_clear.desc).map (fun d => d.parameters.length) = some 3 := by decide +kernel
/-! L.pass(LAirStation;I[J)I -/
abbrev rmL_pass : Room := { frames := 7, cells := 1, slots := 6, locals := 147 }
abbrev wdL_pass : Cond := Cond.codeWith yL_pass cL_pass 4 (some .int) [(0, 9, 12, 13), (0, 9, 15, 15)]
noncomputable def fL_pass (F : Nat)  (x2 : Int32) (G : M3) (K : J3) : Option (Int32 × M3 × J3) := bd4 (fX4_pass F x2 G K) (fun tg1 vv2 G3 K4 => if tg1 = 0 then (bnd (up3 K4 9 0 0 (vv2.toInt64)) (fun K6 => some ((0 : Int32), G3, K6))) else if tg1 = 1 then (some ((1 : Int32), G3, K4)) else if tg1 = 2 then (some ((2 : Int32), G3, K4)) else none)
set_option maxRecDepth 20000 in
set_option maxHeartbeats 1000000 in
theorem TL_pass {rr : Int32} {GR : M3} {KR : J3}  (C : Cx E A p s m args meth c wdL_pass cL_pass 4 (some .int) RL) (hst : l.stackTraces = false) (htab : c.exceptionTable.toList = tableOf [(0, 9, 12, 13), (0, 9, 15, 15)]) {x2 : Int32}  (h : fL_pass F  x2 G K = some (rr, GR, KR)) (w : Wd E A s G K H locs) (hl : lv_has ls 4 [(0, .ref (ad E 6 0)), (1, .int x2), (2, .ref (ad E 9 0))]) : W p l e rmL_pass s m args below meth c H locs 0 0 (MQ below (va_Qi (fun (r1 : Int32) (_ : Unit) => r1 = rr) (fun _ t => PosM E GR KR t) A) args s 1 6 A) (F0 m 0 ls []) := by
  obtain ⟨hx, hb, hr, hml, hown, hts, hlocks, hKK, hA1, hA2⟩ := id C
  unfold fL_pass at h
  refine lv_aload_n hx hb dL_pass_0 rfl (lv_at hl 2 rfl) ?_
  refine lv_iconst (v := (0 : Int32)) hx hb dL_pass_1 (by decide) ?_
  refine lv_aload_n hx hb dL_pass_2 rfl (lv_at hl 0 rfl) ?_
  refine lv_iload_n hx hb dL_pass_3 rfl (lv_at hl 1 rfl) ?_
  obtain ⟨tg1, vv2, G3, K4, hv5, h⟩ := bd4_of h
  refine x_cXi (As := [.int x2]) (rest := [.int (0 : Int32), .ref (ad E 9 0)]) C w (mtX4_pass hst hv5) q13_18 q13_19 q13_20 q1_2 q13_21 ydX4_pass ⟨rfl, rfl⟩ ⟨by decide, by decide⟩ ⟨by decide, by decide⟩ hl.1 (Nat.le_of_ble_eq_true rfl) rfl dL_pass_4 (fun H locs q9 ce htg w hc1 hc2 hc3 => ?_) (fun H locs htg w => ?_)
  · replace h := ite_f h htg
    by_cases cx0 : tg1 = 1
    · replace h := ite_t h cx0
      rw [cx0] at hc3
      refine vx_catch (own := RL) (name := "java/lang/IllegalArgumentException") hown [] ⟨0, 9, 12, 13⟩ [⟨0, 9, 15, 15⟩] (htab.trans rfl) (fun z hz => absurd hz List.not_mem_nil) (by decide) (by decide) (x_hts C q4_6) (x_nest C (List.mem_of_getElem? (i := 4) rfl)) hc1 hc2 hc3 ?_
      refine lv_astore_n (lv' := [(3, .ref q9), (0, .ref (ad E 6 0)), (1, .int x2), (2, .ref (ad E 9 0))]) hx hb dL_pass_12 rfl hl (by decide) rfl (fun ls hl => ?_)
      refine lv_iconst (v := (1 : Int32)) hx hb dL_pass_13 (by decide) ?_
      obtain ⟨e1, e2, e3⟩ := rt3 h
      exact x_ri C w e1 (by rw [e2]) (by rw [e3]) dL_pass_14
    replace h := ite_f h cx0
    by_cases cx1 : tg1 = 2
    · replace h := ite_t h cx1
      rw [cx1] at hc3
      refine vx_catch (own := RL) (name := "java/lang/IllegalStateException") hown [⟨0, 9, 12, 13⟩] ⟨0, 9, 15, 15⟩ [] (htab.trans rfl) (fun z hz => by rw [List.mem_singleton.mp hz]; exact Or.inr ⟨by decide, _, x_hts C q4_6, hKK.2.2.2.2.2 _ (List.mem_of_getElem? (i := 0) rfl)⟩) (by decide) (by decide) (x_hts C q4_7) (x_nest C (List.mem_of_getElem? (i := 5) rfl)) hc1 hc2 hc3 ?_
      refine lv_astore_n (lv' := [(3, .ref q9), (0, .ref (ad E 6 0)), (1, .int x2), (2, .ref (ad E 9 0))]) hx hb dL_pass_15 rfl hl (by decide) rfl (fun ls hl => ?_)
      refine lv_iconst (v := (2 : Int32)) hx hb dL_pass_16 (by decide) ?_
      obtain ⟨e1, e2, e3⟩ := rt3 h
      exact x_ri C w e1 (by rw [e2]) (by rw [e3]) dL_pass_17
    replace h := ite_f h cx1
    cases h
  · replace h := ite_t h htg
    refine lv_i2l hx hb dL_pass_7 rfl ?_
    refine x_astJ_G C w v9 c9_0 (inb_k (k := 0) (by decide) (by decide)) cl_0 dL_pass_8 (fun K6 H locs e7 w => ?_)
    replace h := bnd_of h e7
    refine lv_goto (tgt := 18) hx hb dL_pass_9 (by decide) ?_
    refine lv_iconst (v := (0 : Int32)) hx hb dL_pass_18 (by decide) ?_
    obtain ⟨e1, e2, e3⟩ := rt3 h
    exact x_ri C w e1 (by rw [e2]) (by rw [e3]) dL_pass_19
theorem mtL_pass {rr : Int32} {GR : M3} {KR : J3}  (hst : l.stackTraces = false) {x2 : Int32}  (h : fL_pass F  x2 G K = some (rr, GR, KR)) : MtW l yL_pass wdL_pass rmL_pass E [.ref (ad E 6 0), .int x2, .ref (ad E 9 0)] G K rr GR KR := by
  intro sz
  refine Met.ofWH (cc := cL_pass) (maxL := 4) (ret := (some .int)) (hh := [(0, 9, 12, 13), (0, 9, 15, 15)]) (by decide) rfl ?_
  intro p e s m args below meth c s₁ B hml hv
  obtain ⟨rfl, C, w⟩ := Cx.of (own := RL) B rfl hml hv
  have htab := vx_table (x := yL_pass) B (C.2.2.2.2.2.1 _ List.mem_cons_self)
  have hl := lv_entry ([.ref (ad E 6 0), .int x2, .ref (ad E 9 0)]) (n := 4) (by first | exact Nat.le_of_ble_eq_true rfl)
  rw [lg_entry_eq]
  generalize (lg_sl ([.ref (ad E 6 0), .int x2, .ref (ad E 9 0)]) ++ List.replicate (4 - (lg_sl ([.ref (ad E 6 0), .int x2, .ref (ad E 9 0)])).length) Slot.unset).toArray = ls at hl ⊢
  exact TL_pass C hst htab  h w hl
theorem ydL_pass : yL_pass.cls = RL ∧ yL_pass.cls ≠ "java/lang/invoke/MethodHandle" ∧ yL_pass.cls ≠ "java/lang/invoke/VarHandle" ∧ (parseMethodDescriptor yL_pass.desc).map (fun d => d.parameters.length) = some 3 := by decide +kernel
theorem ynL_pass : yL_pass.cls ≠ "java/lang/invoke/MethodHandle" ∧ yL_pass.cls ≠ "java/lang/invoke/VarHandle" ∧ (parseMethodDescriptor yL_pass.desc).map (fun d => d.parameters.length) = some 3 := by decide +kernel
/-! L.leakTest(LAirStation;I[J)I -/
abbrev rmL_leakTest : Room := { frames := 7, cells := 1, slots := 6, locals := 126 }
abbrev wdL_leakTest : Cond := Cond.codeWith yL_leakTest cL_leakTest 4 (some .int) [(0, 9, 12, 13), (0, 9, 15, 15)]
noncomputable def fL_leakTest (F : Nat)  (x2 : Int32) (G : M3) (K : J3) : Option (Int32 × M3 × J3) := bd4 (fX4_leakTest F x2 G K) (fun tg1 vv2 G3 K4 => if tg1 = 0 then (bnd (up3 K4 9 0 0 (vv2.toInt64)) (fun K6 => some ((0 : Int32), G3, K6))) else if tg1 = 1 then (some ((1 : Int32), G3, K4)) else if tg1 = 2 then (some ((2 : Int32), G3, K4)) else none)
set_option maxRecDepth 20000 in
set_option maxHeartbeats 1000000 in
theorem TL_leakTest {rr : Int32} {GR : M3} {KR : J3}  (C : Cx E A p s m args meth c wdL_leakTest cL_leakTest 4 (some .int) RL) (hst : l.stackTraces = false) (htab : c.exceptionTable.toList = tableOf [(0, 9, 12, 13), (0, 9, 15, 15)]) {x2 : Int32}  (h : fL_leakTest F  x2 G K = some (rr, GR, KR)) (w : Wd E A s G K H locs) (hl : lv_has ls 4 [(0, .ref (ad E 6 0)), (1, .int x2), (2, .ref (ad E 9 0))]) : W p l e rmL_leakTest s m args below meth c H locs 0 0 (MQ below (va_Qi (fun (r1 : Int32) (_ : Unit) => r1 = rr) (fun _ t => PosM E GR KR t) A) args s 1 6 A) (F0 m 0 ls []) := by
  obtain ⟨hx, hb, hr, hml, hown, hts, hlocks, hKK, hA1, hA2⟩ := id C
  unfold fL_leakTest at h
  refine lv_aload_n hx hb dL_leakTest_0 rfl (lv_at hl 2 rfl) ?_
  refine lv_iconst (v := (0 : Int32)) hx hb dL_leakTest_1 (by decide) ?_
  refine lv_aload_n hx hb dL_leakTest_2 rfl (lv_at hl 0 rfl) ?_
  refine lv_iload_n hx hb dL_leakTest_3 rfl (lv_at hl 1 rfl) ?_
  obtain ⟨tg1, vv2, G3, K4, hv5, h⟩ := bd4_of h
  refine x_cXi (As := [.int x2]) (rest := [.int (0 : Int32), .ref (ad E 9 0)]) C w (mtX4_leakTest hst hv5) q18_5 q18_6 q18_7 q1_2 q18_8 ydX4_leakTest ⟨rfl, rfl⟩ ⟨by decide, by decide⟩ ⟨by decide, by decide⟩ hl.1 (Nat.le_of_ble_eq_true rfl) rfl dL_leakTest_4 (fun H locs q9 ce htg w hc1 hc2 hc3 => ?_) (fun H locs htg w => ?_)
  · replace h := ite_f h htg
    by_cases cx0 : tg1 = 1
    · replace h := ite_t h cx0
      rw [cx0] at hc3
      refine vx_catch (own := RL) (name := "java/lang/IllegalArgumentException") hown [] ⟨0, 9, 12, 13⟩ [⟨0, 9, 15, 15⟩] (htab.trans rfl) (fun z hz => absurd hz List.not_mem_nil) (by decide) (by decide) (x_hts C q4_6) (x_nest C (List.mem_of_getElem? (i := 4) rfl)) hc1 hc2 hc3 ?_
      refine lv_astore_n (lv' := [(3, .ref q9), (0, .ref (ad E 6 0)), (1, .int x2), (2, .ref (ad E 9 0))]) hx hb dL_leakTest_12 rfl hl (by decide) rfl (fun ls hl => ?_)
      refine lv_iconst (v := (1 : Int32)) hx hb dL_leakTest_13 (by decide) ?_
      obtain ⟨e1, e2, e3⟩ := rt3 h
      exact x_ri C w e1 (by rw [e2]) (by rw [e3]) dL_leakTest_14
    replace h := ite_f h cx0
    by_cases cx1 : tg1 = 2
    · replace h := ite_t h cx1
      rw [cx1] at hc3
      refine vx_catch (own := RL) (name := "java/lang/IllegalStateException") hown [⟨0, 9, 12, 13⟩] ⟨0, 9, 15, 15⟩ [] (htab.trans rfl) (fun z hz => by rw [List.mem_singleton.mp hz]; exact Or.inr ⟨by decide, _, x_hts C q4_6, hKK.2.2.2.2.2 _ (List.mem_of_getElem? (i := 0) rfl)⟩) (by decide) (by decide) (x_hts C q4_7) (x_nest C (List.mem_of_getElem? (i := 5) rfl)) hc1 hc2 hc3 ?_
      refine lv_astore_n (lv' := [(3, .ref q9), (0, .ref (ad E 6 0)), (1, .int x2), (2, .ref (ad E 9 0))]) hx hb dL_leakTest_15 rfl hl (by decide) rfl (fun ls hl => ?_)
      refine lv_iconst (v := (2 : Int32)) hx hb dL_leakTest_16 (by decide) ?_
      obtain ⟨e1, e2, e3⟩ := rt3 h
      exact x_ri C w e1 (by rw [e2]) (by rw [e3]) dL_leakTest_17
    replace h := ite_f h cx1
    cases h
  · replace h := ite_t h htg
    refine lv_i2l hx hb dL_leakTest_7 rfl ?_
    refine x_astJ_G C w v9 c9_0 (inb_k (k := 0) (by decide) (by decide)) cl_0 dL_leakTest_8 (fun K6 H locs e7 w => ?_)
    replace h := bnd_of h e7
    refine lv_goto (tgt := 18) hx hb dL_leakTest_9 (by decide) ?_
    refine lv_iconst (v := (0 : Int32)) hx hb dL_leakTest_18 (by decide) ?_
    obtain ⟨e1, e2, e3⟩ := rt3 h
    exact x_ri C w e1 (by rw [e2]) (by rw [e3]) dL_leakTest_19
theorem mtL_leakTest {rr : Int32} {GR : M3} {KR : J3}  (hst : l.stackTraces = false) {x2 : Int32}  (h : fL_leakTest F  x2 G K = some (rr, GR, KR)) : MtW l yL_leakTest wdL_leakTest rmL_leakTest E [.ref (ad E 6 0), .int x2, .ref (ad E 9 0)] G K rr GR KR := by
  intro sz
  refine Met.ofWH (cc := cL_leakTest) (maxL := 4) (ret := (some .int)) (hh := [(0, 9, 12, 13), (0, 9, 15, 15)]) (by decide) rfl ?_
  intro p e s m args below meth c s₁ B hml hv
  obtain ⟨rfl, C, w⟩ := Cx.of (own := RL) B rfl hml hv
  have htab := vx_table (x := yL_leakTest) B (C.2.2.2.2.2.1 _ List.mem_cons_self)
  have hl := lv_entry ([.ref (ad E 6 0), .int x2, .ref (ad E 9 0)]) (n := 4) (by first | exact Nat.le_of_ble_eq_true rfl)
  rw [lg_entry_eq]
  generalize (lg_sl ([.ref (ad E 6 0), .int x2, .ref (ad E 9 0)]) ++ List.replicate (4 - (lg_sl ([.ref (ad E 6 0), .int x2, .ref (ad E 9 0)])).length) Slot.unset).toArray = ls at hl ⊢
  exact TL_leakTest C hst htab  h w hl
theorem ydL_leakTest : yL_leakTest.cls = RL ∧ yL_leakTest.cls ≠ "java/lang/invoke/MethodHandle" ∧ yL_leakTest.cls ≠ "java/lang/invoke/VarHandle" ∧ (parseMethodDescriptor yL_leakTest.desc).map (fun d => d.parameters.length) = some 3 := by decide +kernel
theorem ynL_leakTest : yL_leakTest.cls ≠ "java/lang/invoke/MethodHandle" ∧ yL_leakTest.cls ≠ "java/lang/invoke/VarHandle" ∧ (parseMethodDescriptor yL_leakTest.desc).map (fun d => d.parameters.length) = some 3 := by decide +kernel
/-! L.compressor(LAirStation;II[J)I -/
abbrev rmL_compressor : Room := { frames := 7, cells := 1, slots := 6, locals := 105 }
abbrev wdL_compressor : Cond := Cond.codeWith yL_compressor cL_compressor 5 (some .int) [(0, 10, 13, 27), (0, 10, 17, 13)]
noncomputable def fL_compressor  (x2 : Int32) (x3 : Int32) (G : M3) (K : J3) : Option (Int32 × M3 × J3) := bd4 (fX4_compressor x2 x3 G K) (fun tg1 vv2 G3 K4 => if tg1 = 0 then (bnd (up3 K4 9 0 0 (vv2.toInt64)) (fun K6 => some ((0 : Int32), G3, K6))) else if tg1 = 3 then (some ((1 : Int32), G3, K4)) else if tg1 = 1 then (some ((2 : Int32), G3, K4)) else none)
set_option maxRecDepth 20000 in
set_option maxHeartbeats 1000000 in
theorem TL_compressor {rr : Int32} {GR : M3} {KR : J3}  (C : Cx E A p s m args meth c wdL_compressor cL_compressor 5 (some .int) RL) (hst : l.stackTraces = false) (htab : c.exceptionTable.toList = tableOf [(0, 10, 13, 27), (0, 10, 17, 13)]) {x2 : Int32} {x3 : Int32}  (h : fL_compressor  x2 x3 G K = some (rr, GR, KR)) (w : Wd E A s G K H locs) (hl : lv_has ls 5 [(0, .ref (ad E 6 0)), (1, .int x2), (2, .int x3), (3, .ref (ad E 9 0))]) : W p l e rmL_compressor s m args below meth c H locs 0 0 (MQ below (va_Qi (fun (r1 : Int32) (_ : Unit) => r1 = rr) (fun _ t => PosM E GR KR t) A) args s 1 6 A) (F0 m 0 ls []) := by
  obtain ⟨hx, hb, hr, hml, hown, hts, hlocks, hKK, hA1, hA2⟩ := id C
  unfold fL_compressor at h
  refine lv_aload_n hx hb dL_compressor_0 rfl (lv_at hl 3 rfl) ?_
  refine lv_iconst (v := (0 : Int32)) hx hb dL_compressor_1 (by decide) ?_
  refine lv_aload_n hx hb dL_compressor_2 rfl (lv_at hl 0 rfl) ?_
  refine lv_iload_n hx hb dL_compressor_3 rfl (lv_at hl 1 rfl) ?_
  refine lv_iload_n hx hb dL_compressor_4 rfl (lv_at hl 2 rfl) ?_
  obtain ⟨tg1, vv2, G3, K4, hv5, h⟩ := bd4_of h
  refine x_cXi (As := [.int x2, .int x3]) (rest := [.int (0 : Int32), .ref (ad E 9 0)]) C w (mtX4_compressor hst hv5) q19_5 q19_6 q19_7 q1_2 q19_8 ydX4_compressor ⟨rfl, rfl⟩ ⟨by decide, by decide⟩ ⟨by decide, by decide⟩ hl.1 (Nat.le_of_ble_eq_true rfl) rfl dL_compressor_5 (fun H locs q9 ce htg w hc1 hc2 hc3 => ?_) (fun H locs htg w => ?_)
  · replace h := ite_f h htg
    by_cases cx0 : tg1 = 3
    · replace h := ite_t h cx0
      rw [cx0] at hc3
      refine vx_catch (own := RL) (name := "java/lang/IndexOutOfBoundsException") hown [] ⟨0, 10, 13, 27⟩ [⟨0, 10, 17, 13⟩] (htab.trans rfl) (fun z hz => absurd hz List.not_mem_nil) (by decide) (by decide) (x_hts C q10_3) (x_nest C (List.mem_of_getElem? (i := 6) rfl)) hc1 hc2 hc3 ?_
      refine lv_astore (lv' := [(4, .ref q9), (0, .ref (ad E 6 0)), (1, .int x2), (2, .int x3), (3, .ref (ad E 9 0))]) hx hb dL_compressor_13 hl (by decide) rfl (fun ls hl => ?_)
      refine lv_iconst (v := (1 : Int32)) hx hb dL_compressor_15 (by decide) ?_
      obtain ⟨e1, e2, e3⟩ := rt3 h
      exact x_ri C w e1 (by rw [e2]) (by rw [e3]) dL_compressor_16
    replace h := ite_f h cx0
    by_cases cx1 : tg1 = 1
    · replace h := ite_t h cx1
      rw [cx1] at hc3
      refine vx_catch (own := RL) (name := "java/lang/IllegalArgumentException") hown [⟨0, 10, 13, 27⟩] ⟨0, 10, 17, 13⟩ [] (htab.trans rfl) (fun z hz => by rw [List.mem_singleton.mp hz]; exact Or.inr ⟨by decide, _, x_hts C q10_3, hKK.2.2.2.2.2 _ (List.mem_of_getElem? (i := 2) rfl)⟩) (by decide) (by decide) (x_hts C q4_6) (x_nest C (List.mem_of_getElem? (i := 4) rfl)) hc1 hc2 hc3 ?_
      refine lv_astore (lv' := [(4, .ref q9), (0, .ref (ad E 6 0)), (1, .int x2), (2, .int x3), (3, .ref (ad E 9 0))]) hx hb dL_compressor_17 hl (by decide) rfl (fun ls hl => ?_)
      refine lv_iconst (v := (2 : Int32)) hx hb dL_compressor_19 (by decide) ?_
      obtain ⟨e1, e2, e3⟩ := rt3 h
      exact x_ri C w e1 (by rw [e2]) (by rw [e3]) dL_compressor_20
    replace h := ite_f h cx1
    cases h
  · replace h := ite_t h htg
    refine lv_i2l hx hb dL_compressor_8 rfl ?_
    refine x_astJ_G C w v9 c9_0 (inb_k (k := 0) (by decide) (by decide)) cl_0 dL_compressor_9 (fun K6 H locs e7 w => ?_)
    replace h := bnd_of h e7
    refine lv_goto (tgt := 21) hx hb dL_compressor_10 (by decide) ?_
    refine lv_iconst (v := (0 : Int32)) hx hb dL_compressor_21 (by decide) ?_
    obtain ⟨e1, e2, e3⟩ := rt3 h
    exact x_ri C w e1 (by rw [e2]) (by rw [e3]) dL_compressor_22
theorem mtL_compressor {rr : Int32} {GR : M3} {KR : J3}  (hst : l.stackTraces = false) {x2 : Int32} {x3 : Int32}  (h : fL_compressor  x2 x3 G K = some (rr, GR, KR)) : MtW l yL_compressor wdL_compressor rmL_compressor E [.ref (ad E 6 0), .int x2, .int x3, .ref (ad E 9 0)] G K rr GR KR := by
  intro sz
  refine Met.ofWH (cc := cL_compressor) (maxL := 5) (ret := (some .int)) (hh := [(0, 10, 13, 27), (0, 10, 17, 13)]) (by decide) rfl ?_
  intro p e s m args below meth c s₁ B hml hv
  obtain ⟨rfl, C, w⟩ := Cx.of (own := RL) B rfl hml hv
  have htab := vx_table (x := yL_compressor) B (C.2.2.2.2.2.1 _ List.mem_cons_self)
  have hl := lv_entry ([.ref (ad E 6 0), .int x2, .int x3, .ref (ad E 9 0)]) (n := 5) (by first | exact Nat.le_of_ble_eq_true rfl)
  rw [lg_entry_eq]
  generalize (lg_sl ([.ref (ad E 6 0), .int x2, .int x3, .ref (ad E 9 0)]) ++ List.replicate (5 - (lg_sl ([.ref (ad E 6 0), .int x2, .int x3, .ref (ad E 9 0)])).length) Slot.unset).toArray = ls at hl ⊢
  exact TL_compressor C hst htab  h w hl
theorem ydL_compressor : yL_compressor.cls = RL ∧ yL_compressor.cls ≠ "java/lang/invoke/MethodHandle" ∧ yL_compressor.cls ≠ "java/lang/invoke/VarHandle" ∧ (parseMethodDescriptor yL_compressor.desc).map (fun d => d.parameters.length) = some 4 := by decide +kernel
theorem ynL_compressor : yL_compressor.cls ≠ "java/lang/invoke/MethodHandle" ∧ yL_compressor.cls ≠ "java/lang/invoke/VarHandle" ∧ (parseMethodDescriptor yL_compressor.desc).map (fun d => d.parameters.length) = some 4 := by decide +kernel
/-! L.atStage(LAirStation;I[J)I -/
abbrev rmL_atStage : Room := { frames := 7, cells := 1, slots := 6, locals := 103 }
abbrev wdL_atStage : Cond := Cond.codeWith yL_atStage cL_atStage 4 (some .int) [(0, 9, 12, 27)]
noncomputable def fL_atStage (F : Nat)  (x2 : Int32) (G : M3) (K : J3) : Option (Int32 × M3 × J3) := bd4 (fX4_atStage F x2 G K) (fun tg1 vv2 G3 K4 => if tg1 = 0 then (bnd (up3 K4 9 0 0 (vv2.toInt64)) (fun K6 => some ((0 : Int32), G3, K6))) else if tg1 = 3 then (some ((1 : Int32), G3, K4)) else none)
set_option maxRecDepth 20000 in
set_option maxHeartbeats 1000000 in
theorem TL_atStage {rr : Int32} {GR : M3} {KR : J3}  (C : Cx E A p s m args meth c wdL_atStage cL_atStage 4 (some .int) RL) (hst : l.stackTraces = false) (htab : c.exceptionTable.toList = tableOf [(0, 9, 12, 27)]) {x2 : Int32}  (h : fL_atStage F  x2 G K = some (rr, GR, KR)) (w : Wd E A s G K H locs) (hl : lv_has ls 4 [(0, .ref (ad E 6 0)), (1, .int x2), (2, .ref (ad E 9 0))]) : W p l e rmL_atStage s m args below meth c H locs 0 0 (MQ below (va_Qi (fun (r1 : Int32) (_ : Unit) => r1 = rr) (fun _ t => PosM E GR KR t) A) args s 1 6 A) (F0 m 0 ls []) := by
  obtain ⟨hx, hb, hr, hml, hown, hts, hlocks, hKK, hA1, hA2⟩ := id C
  unfold fL_atStage at h
  refine lv_aload_n hx hb dL_atStage_0 rfl (lv_at hl 2 rfl) ?_
  refine lv_iconst (v := (0 : Int32)) hx hb dL_atStage_1 (by decide) ?_
  refine lv_aload_n hx hb dL_atStage_2 rfl (lv_at hl 0 rfl) ?_
  refine lv_iload_n hx hb dL_atStage_3 rfl (lv_at hl 1 rfl) ?_
  obtain ⟨tg1, vv2, G3, K4, hv5, h⟩ := bd4_of h
  refine x_cXi (As := [.int x2]) (rest := [.int (0 : Int32), .ref (ad E 9 0)]) C w (mtX4_atStage hst hv5) q20_1 q20_2 q20_3 q1_2 q20_4 ydX4_atStage ⟨rfl, rfl⟩ ⟨by decide, by decide⟩ ⟨by decide, by decide⟩ hl.1 (Nat.le_of_ble_eq_true rfl) rfl dL_atStage_4 (fun H locs q9 ce htg w hc1 hc2 hc3 => ?_) (fun H locs htg w => ?_)
  · replace h := ite_f h htg
    by_cases cx0 : tg1 = 3
    · replace h := ite_t h cx0
      rw [cx0] at hc3
      refine vx_catch (own := RL) (name := "java/lang/IndexOutOfBoundsException") hown [] ⟨0, 9, 12, 27⟩ [] (htab.trans rfl) (fun z hz => absurd hz List.not_mem_nil) (by decide) (by decide) (x_hts C q10_3) (x_nest C (List.mem_of_getElem? (i := 6) rfl)) hc1 hc2 hc3 ?_
      refine lv_astore_n (lv' := [(3, .ref q9), (0, .ref (ad E 6 0)), (1, .int x2), (2, .ref (ad E 9 0))]) hx hb dL_atStage_12 rfl hl (by decide) rfl (fun ls hl => ?_)
      refine lv_iconst (v := (1 : Int32)) hx hb dL_atStage_13 (by decide) ?_
      obtain ⟨e1, e2, e3⟩ := rt3 h
      exact x_ri C w e1 (by rw [e2]) (by rw [e3]) dL_atStage_14
    replace h := ite_f h cx0
    cases h
  · replace h := ite_t h htg
    refine lv_i2l hx hb dL_atStage_7 rfl ?_
    refine x_astJ_G C w v9 c9_0 (inb_k (k := 0) (by decide) (by decide)) cl_0 dL_atStage_8 (fun K6 H locs e7 w => ?_)
    replace h := bnd_of h e7
    refine lv_goto (tgt := 15) hx hb dL_atStage_9 (by decide) ?_
    refine lv_iconst (v := (0 : Int32)) hx hb dL_atStage_15 (by decide) ?_
    obtain ⟨e1, e2, e3⟩ := rt3 h
    exact x_ri C w e1 (by rw [e2]) (by rw [e3]) dL_atStage_16
theorem mtL_atStage {rr : Int32} {GR : M3} {KR : J3}  (hst : l.stackTraces = false) {x2 : Int32}  (h : fL_atStage F  x2 G K = some (rr, GR, KR)) : MtW l yL_atStage wdL_atStage rmL_atStage E [.ref (ad E 6 0), .int x2, .ref (ad E 9 0)] G K rr GR KR := by
  intro sz
  refine Met.ofWH (cc := cL_atStage) (maxL := 4) (ret := (some .int)) (hh := [(0, 9, 12, 27)]) (by decide) rfl ?_
  intro p e s m args below meth c s₁ B hml hv
  obtain ⟨rfl, C, w⟩ := Cx.of (own := RL) B rfl hml hv
  have htab := vx_table (x := yL_atStage) B (C.2.2.2.2.2.1 _ List.mem_cons_self)
  have hl := lv_entry ([.ref (ad E 6 0), .int x2, .ref (ad E 9 0)]) (n := 4) (by first | exact Nat.le_of_ble_eq_true rfl)
  rw [lg_entry_eq]
  generalize (lg_sl ([.ref (ad E 6 0), .int x2, .ref (ad E 9 0)]) ++ List.replicate (4 - (lg_sl ([.ref (ad E 6 0), .int x2, .ref (ad E 9 0)])).length) Slot.unset).toArray = ls at hl ⊢
  exact TL_atStage C hst htab  h w hl
theorem ydL_atStage : yL_atStage.cls = RL ∧ yL_atStage.cls ≠ "java/lang/invoke/MethodHandle" ∧ yL_atStage.cls ≠ "java/lang/invoke/VarHandle" ∧ (parseMethodDescriptor yL_atStage.desc).map (fun d => d.parameters.length) = some 3 := by decide +kernel
theorem ynL_atStage : yL_atStage.cls ≠ "java/lang/invoke/MethodHandle" ∧ yL_atStage.cls ≠ "java/lang/invoke/VarHandle" ∧ (parseMethodDescriptor yL_atStage.desc).map (fun d => d.parameters.length) = some 3 := by decide +kernel
/-! L.value(LAirStation;I[J)I -/
abbrev rmL_value : Room := { frames := 7, cells := 1, slots := 6, locals := 103 }
abbrev wdL_value : Cond := Cond.codeWith yL_value cL_value 4 (some .int) [(0, 9, 12, 13)]
noncomputable def fL_value (F : Nat)  (x2 : Int32) (G : M3) (K : J3) : Option (Int32 × M3 × J3) := bd4 (fX4_value F x2 G K) (fun tg1 vv2 G3 K4 => if tg1 = 0 then (bnd (up3 K4 9 0 0 (vv2.toInt64)) (fun K6 => some ((0 : Int32), G3, K6))) else if tg1 = 1 then (some ((1 : Int32), G3, K4)) else none)
set_option maxRecDepth 20000 in
set_option maxHeartbeats 1000000 in
theorem TL_value {rr : Int32} {GR : M3} {KR : J3}  (C : Cx E A p s m args meth c wdL_value cL_value 4 (some .int) RL) (hst : l.stackTraces = false) (htab : c.exceptionTable.toList = tableOf [(0, 9, 12, 13)]) {x2 : Int32}  (h : fL_value F  x2 G K = some (rr, GR, KR)) (w : Wd E A s G K H locs) (hl : lv_has ls 4 [(0, .ref (ad E 6 0)), (1, .int x2), (2, .ref (ad E 9 0))]) : W p l e rmL_value s m args below meth c H locs 0 0 (MQ below (va_Qi (fun (r1 : Int32) (_ : Unit) => r1 = rr) (fun _ t => PosM E GR KR t) A) args s 1 6 A) (F0 m 0 ls []) := by
  obtain ⟨hx, hb, hr, hml, hown, hts, hlocks, hKK, hA1, hA2⟩ := id C
  unfold fL_value at h
  refine lv_aload_n hx hb dL_value_0 rfl (lv_at hl 2 rfl) ?_
  refine lv_iconst (v := (0 : Int32)) hx hb dL_value_1 (by decide) ?_
  refine lv_aload_n hx hb dL_value_2 rfl (lv_at hl 0 rfl) ?_
  refine lv_iload_n hx hb dL_value_3 rfl (lv_at hl 1 rfl) ?_
  obtain ⟨tg1, vv2, G3, K4, hv5, h⟩ := bd4_of h
  refine x_cXi (As := [.int x2]) (rest := [.int (0 : Int32), .ref (ad E 9 0)]) C w (mtX4_value hst hv5) q20_16 q20_17 q20_18 q1_2 q20_19 ydX4_value ⟨rfl, rfl⟩ ⟨by decide, by decide⟩ ⟨by decide, by decide⟩ hl.1 (Nat.le_of_ble_eq_true rfl) rfl dL_value_4 (fun H locs q9 ce htg w hc1 hc2 hc3 => ?_) (fun H locs htg w => ?_)
  · replace h := ite_f h htg
    by_cases cx0 : tg1 = 1
    · replace h := ite_t h cx0
      rw [cx0] at hc3
      refine vx_catch (own := RL) (name := "java/lang/IllegalArgumentException") hown [] ⟨0, 9, 12, 13⟩ [] (htab.trans rfl) (fun z hz => absurd hz List.not_mem_nil) (by decide) (by decide) (x_hts C q4_6) (x_nest C (List.mem_of_getElem? (i := 4) rfl)) hc1 hc2 hc3 ?_
      refine lv_astore_n (lv' := [(3, .ref q9), (0, .ref (ad E 6 0)), (1, .int x2), (2, .ref (ad E 9 0))]) hx hb dL_value_12 rfl hl (by decide) rfl (fun ls hl => ?_)
      refine lv_iconst (v := (1 : Int32)) hx hb dL_value_13 (by decide) ?_
      obtain ⟨e1, e2, e3⟩ := rt3 h
      exact x_ri C w e1 (by rw [e2]) (by rw [e3]) dL_value_14
    replace h := ite_f h cx0
    cases h
  · replace h := ite_t h htg
    refine lv_i2l hx hb dL_value_7 rfl ?_
    refine x_astJ_G C w v9 c9_0 (inb_k (k := 0) (by decide) (by decide)) cl_0 dL_value_8 (fun K6 H locs e7 w => ?_)
    replace h := bnd_of h e7
    refine lv_goto (tgt := 15) hx hb dL_value_9 (by decide) ?_
    refine lv_iconst (v := (0 : Int32)) hx hb dL_value_15 (by decide) ?_
    obtain ⟨e1, e2, e3⟩ := rt3 h
    exact x_ri C w e1 (by rw [e2]) (by rw [e3]) dL_value_16
theorem mtL_value {rr : Int32} {GR : M3} {KR : J3}  (hst : l.stackTraces = false) {x2 : Int32}  (h : fL_value F  x2 G K = some (rr, GR, KR)) : MtW l yL_value wdL_value rmL_value E [.ref (ad E 6 0), .int x2, .ref (ad E 9 0)] G K rr GR KR := by
  intro sz
  refine Met.ofWH (cc := cL_value) (maxL := 4) (ret := (some .int)) (hh := [(0, 9, 12, 13)]) (by decide) rfl ?_
  intro p e s m args below meth c s₁ B hml hv
  obtain ⟨rfl, C, w⟩ := Cx.of (own := RL) B rfl hml hv
  have htab := vx_table (x := yL_value) B (C.2.2.2.2.2.1 _ List.mem_cons_self)
  have hl := lv_entry ([.ref (ad E 6 0), .int x2, .ref (ad E 9 0)]) (n := 4) (by first | exact Nat.le_of_ble_eq_true rfl)
  rw [lg_entry_eq]
  generalize (lg_sl ([.ref (ad E 6 0), .int x2, .ref (ad E 9 0)]) ++ List.replicate (4 - (lg_sl ([.ref (ad E 6 0), .int x2, .ref (ad E 9 0)])).length) Slot.unset).toArray = ls at hl ⊢
  exact TL_value C hst htab  h w hl
theorem ydL_value : yL_value.cls = RL ∧ yL_value.cls ≠ "java/lang/invoke/MethodHandle" ∧ yL_value.cls ≠ "java/lang/invoke/VarHandle" ∧ (parseMethodDescriptor yL_value.desc).map (fun d => d.parameters.length) = some 3 := by decide +kernel
theorem ynL_value : yL_value.cls ≠ "java/lang/invoke/MethodHandle" ∧ yL_value.cls ≠ "java/lang/invoke/VarHandle" ∧ (parseMethodDescriptor yL_value.desc).map (fun d => d.parameters.length) = some 3 := by decide +kernel
/-! L.setting(LAirStation;I[J)I -/
abbrev rmL_setting : Room := { frames := 7, cells := 1, slots := 6, locals := 103 }
abbrev wdL_setting : Cond := Cond.codeWith yL_setting cL_setting 4 (some .int) [(0, 9, 12, 13)]
noncomputable def fL_setting  (x2 : Int32) (G : M3) (K : J3) : Option (Int32 × M3 × J3) := bd4 (fX4_setting x2 G K) (fun tg1 vv2 G3 K4 => if tg1 = 0 then (bnd (up3 K4 9 0 0 (vv2.toInt64)) (fun K6 => some ((0 : Int32), G3, K6))) else if tg1 = 1 then (some ((1 : Int32), G3, K4)) else none)
set_option maxRecDepth 20000 in
set_option maxHeartbeats 1000000 in
theorem TL_setting {rr : Int32} {GR : M3} {KR : J3}  (C : Cx E A p s m args meth c wdL_setting cL_setting 4 (some .int) RL) (hst : l.stackTraces = false) (htab : c.exceptionTable.toList = tableOf [(0, 9, 12, 13)]) {x2 : Int32}  (h : fL_setting  x2 G K = some (rr, GR, KR)) (w : Wd E A s G K H locs) (hl : lv_has ls 4 [(0, .ref (ad E 6 0)), (1, .int x2), (2, .ref (ad E 9 0))]) : W p l e rmL_setting s m args below meth c H locs 0 0 (MQ below (va_Qi (fun (r1 : Int32) (_ : Unit) => r1 = rr) (fun _ t => PosM E GR KR t) A) args s 1 6 A) (F0 m 0 ls []) := by
  obtain ⟨hx, hb, hr, hml, hown, hts, hlocks, hKK, hA1, hA2⟩ := id C
  unfold fL_setting at h
  refine lv_aload_n hx hb dL_setting_0 rfl (lv_at hl 2 rfl) ?_
  refine lv_iconst (v := (0 : Int32)) hx hb dL_setting_1 (by decide) ?_
  refine lv_aload_n hx hb dL_setting_2 rfl (lv_at hl 0 rfl) ?_
  refine lv_iload_n hx hb dL_setting_3 rfl (lv_at hl 1 rfl) ?_
  obtain ⟨tg1, vv2, G3, K4, hv5, h⟩ := bd4_of h
  refine x_cXi (As := [.int x2]) (rest := [.int (0 : Int32), .ref (ad E 9 0)]) C w (mtX4_setting hst hv5) q22_3 q22_4 q22_5 q1_2 q22_6 ydX4_setting ⟨rfl, rfl⟩ ⟨by decide, by decide⟩ ⟨by decide, by decide⟩ hl.1 (Nat.le_of_ble_eq_true rfl) rfl dL_setting_4 (fun H locs q9 ce htg w hc1 hc2 hc3 => ?_) (fun H locs htg w => ?_)
  · replace h := ite_f h htg
    by_cases cx0 : tg1 = 1
    · replace h := ite_t h cx0
      rw [cx0] at hc3
      refine vx_catch (own := RL) (name := "java/lang/IllegalArgumentException") hown [] ⟨0, 9, 12, 13⟩ [] (htab.trans rfl) (fun z hz => absurd hz List.not_mem_nil) (by decide) (by decide) (x_hts C q4_6) (x_nest C (List.mem_of_getElem? (i := 4) rfl)) hc1 hc2 hc3 ?_
      refine lv_astore_n (lv' := [(3, .ref q9), (0, .ref (ad E 6 0)), (1, .int x2), (2, .ref (ad E 9 0))]) hx hb dL_setting_12 rfl hl (by decide) rfl (fun ls hl => ?_)
      refine lv_iconst (v := (1 : Int32)) hx hb dL_setting_13 (by decide) ?_
      obtain ⟨e1, e2, e3⟩ := rt3 h
      exact x_ri C w e1 (by rw [e2]) (by rw [e3]) dL_setting_14
    replace h := ite_f h cx0
    cases h
  · replace h := ite_t h htg
    refine lv_i2l hx hb dL_setting_7 rfl ?_
    refine x_astJ_G C w v9 c9_0 (inb_k (k := 0) (by decide) (by decide)) cl_0 dL_setting_8 (fun K6 H locs e7 w => ?_)
    replace h := bnd_of h e7
    refine lv_goto (tgt := 15) hx hb dL_setting_9 (by decide) ?_
    refine lv_iconst (v := (0 : Int32)) hx hb dL_setting_15 (by decide) ?_
    obtain ⟨e1, e2, e3⟩ := rt3 h
    exact x_ri C w e1 (by rw [e2]) (by rw [e3]) dL_setting_16
theorem mtL_setting {rr : Int32} {GR : M3} {KR : J3}  (hst : l.stackTraces = false) {x2 : Int32}  (h : fL_setting  x2 G K = some (rr, GR, KR)) : MtW l yL_setting wdL_setting rmL_setting E [.ref (ad E 6 0), .int x2, .ref (ad E 9 0)] G K rr GR KR := by
  intro sz
  refine Met.ofWH (cc := cL_setting) (maxL := 4) (ret := (some .int)) (hh := [(0, 9, 12, 13)]) (by decide) rfl ?_
  intro p e s m args below meth c s₁ B hml hv
  obtain ⟨rfl, C, w⟩ := Cx.of (own := RL) B rfl hml hv
  have htab := vx_table (x := yL_setting) B (C.2.2.2.2.2.1 _ List.mem_cons_self)
  have hl := lv_entry ([.ref (ad E 6 0), .int x2, .ref (ad E 9 0)]) (n := 4) (by first | exact Nat.le_of_ble_eq_true rfl)
  rw [lg_entry_eq]
  generalize (lg_sl ([.ref (ad E 6 0), .int x2, .ref (ad E 9 0)]) ++ List.replicate (4 - (lg_sl ([.ref (ad E 6 0), .int x2, .ref (ad E 9 0)])).length) Slot.unset).toArray = ls at hl ⊢
  exact TL_setting C hst htab  h w hl
theorem ydL_setting : yL_setting.cls = RL ∧ yL_setting.cls ≠ "java/lang/invoke/MethodHandle" ∧ yL_setting.cls ≠ "java/lang/invoke/VarHandle" ∧ (parseMethodDescriptor yL_setting.desc).map (fun d => d.parameters.length) = some 3 := by decide +kernel
theorem ynL_setting : yL_setting.cls ≠ "java/lang/invoke/MethodHandle" ∧ yL_setting.cls ≠ "java/lang/invoke/VarHandle" ∧ (parseMethodDescriptor yL_setting.desc).map (fun d => d.parameters.length) = some 3 := by decide +kernel
/-! L.booked(LAirStation;I[J)I -/
abbrev rmL_booked : Room := { frames := 7, cells := 1, slots := 6, locals := 103 }
abbrev wdL_booked : Cond := Cond.codeWith yL_booked cL_booked 4 (some .int) [(0, 8, 11, 13)]
noncomputable def fL_booked  (x2 : Int32) (G : M3) (K : J3) : Option (Int32 × M3 × J3) := bd4 (fX4_booked x2 G K) (fun tg1 vv2 G3 K4 => if tg1 = 0 then (bnd (up3 K4 9 0 0 vv2) (fun K6 => some ((0 : Int32), G3, K6))) else if tg1 = 1 then (some ((1 : Int32), G3, K4)) else none)
set_option maxRecDepth 20000 in
set_option maxHeartbeats 1000000 in
theorem TL_booked {rr : Int32} {GR : M3} {KR : J3}  (C : Cx E A p s m args meth c wdL_booked cL_booked 4 (some .int) RL) (hst : l.stackTraces = false) (htab : c.exceptionTable.toList = tableOf [(0, 8, 11, 13)]) {x2 : Int32}  (h : fL_booked  x2 G K = some (rr, GR, KR)) (w : Wd E A s G K H locs) (hl : lv_has ls 4 [(0, .ref (ad E 6 0)), (1, .int x2), (2, .ref (ad E 9 0))]) : W p l e rmL_booked s m args below meth c H locs 0 0 (MQ below (va_Qi (fun (r1 : Int32) (_ : Unit) => r1 = rr) (fun _ t => PosM E GR KR t) A) args s 1 6 A) (F0 m 0 ls []) := by
  obtain ⟨hx, hb, hr, hml, hown, hts, hlocks, hKK, hA1, hA2⟩ := id C
  unfold fL_booked at h
  refine lv_aload_n hx hb dL_booked_0 rfl (lv_at hl 2 rfl) ?_
  refine lv_iconst (v := (0 : Int32)) hx hb dL_booked_1 (by decide) ?_
  refine lv_aload_n hx hb dL_booked_2 rfl (lv_at hl 0 rfl) ?_
  refine lv_iload_n hx hb dL_booked_3 rfl (lv_at hl 1 rfl) ?_
  obtain ⟨tg1, vv2, G3, K4, hv5, h⟩ := bd4_of h
  refine x_cXl (As := [.int x2]) (rest := [.int (0 : Int32), .ref (ad E 9 0)]) C w (mtX4_booked hst hv5) q22_14 q22_15 q22_16 q1_2 q22_17 ydX4_booked ⟨rfl, rfl⟩ ⟨by decide, by decide⟩ ⟨by decide, by decide⟩ hl.1 (Nat.le_of_ble_eq_true rfl) rfl dL_booked_4 (fun H locs q9 ce htg w hc1 hc2 hc3 => ?_) (fun H locs htg w => ?_)
  · replace h := ite_f h htg
    by_cases cx0 : tg1 = 1
    · replace h := ite_t h cx0
      rw [cx0] at hc3
      refine vx_catch (own := RL) (name := "java/lang/IllegalArgumentException") hown [] ⟨0, 8, 11, 13⟩ [] (htab.trans rfl) (fun z hz => absurd hz List.not_mem_nil) (by decide) (by decide) (x_hts C q4_6) (x_nest C (List.mem_of_getElem? (i := 4) rfl)) hc1 hc2 hc3 ?_
      refine lv_astore_n (lv' := [(3, .ref q9), (0, .ref (ad E 6 0)), (1, .int x2), (2, .ref (ad E 9 0))]) hx hb dL_booked_11 rfl hl (by decide) rfl (fun ls hl => ?_)
      refine lv_iconst (v := (1 : Int32)) hx hb dL_booked_12 (by decide) ?_
      obtain ⟨e1, e2, e3⟩ := rt3 h
      exact x_ri C w e1 (by rw [e2]) (by rw [e3]) dL_booked_13
    replace h := ite_f h cx0
    cases h
  · replace h := ite_t h htg
    refine x_astJ_G C w v9 c9_0 (inb_k (k := 0) (by decide) (by decide)) cl_0 dL_booked_7 (fun K6 H locs e7 w => ?_)
    replace h := bnd_of h e7
    refine lv_goto (tgt := 14) hx hb dL_booked_8 (by decide) ?_
    refine lv_iconst (v := (0 : Int32)) hx hb dL_booked_14 (by decide) ?_
    obtain ⟨e1, e2, e3⟩ := rt3 h
    exact x_ri C w e1 (by rw [e2]) (by rw [e3]) dL_booked_15
theorem mtL_booked {rr : Int32} {GR : M3} {KR : J3}  (hst : l.stackTraces = false) {x2 : Int32}  (h : fL_booked  x2 G K = some (rr, GR, KR)) : MtW l yL_booked wdL_booked rmL_booked E [.ref (ad E 6 0), .int x2, .ref (ad E 9 0)] G K rr GR KR := by
  intro sz
  refine Met.ofWH (cc := cL_booked) (maxL := 4) (ret := (some .int)) (hh := [(0, 8, 11, 13)]) (by decide) rfl ?_
  intro p e s m args below meth c s₁ B hml hv
  obtain ⟨rfl, C, w⟩ := Cx.of (own := RL) B rfl hml hv
  have htab := vx_table (x := yL_booked) B (C.2.2.2.2.2.1 _ List.mem_cons_self)
  have hl := lv_entry ([.ref (ad E 6 0), .int x2, .ref (ad E 9 0)]) (n := 4) (by first | exact Nat.le_of_ble_eq_true rfl)
  rw [lg_entry_eq]
  generalize (lg_sl ([.ref (ad E 6 0), .int x2, .ref (ad E 9 0)]) ++ List.replicate (4 - (lg_sl ([.ref (ad E 6 0), .int x2, .ref (ad E 9 0)])).length) Slot.unset).toArray = ls at hl ⊢
  exact TL_booked C hst htab  h w hl
theorem ydL_booked : yL_booked.cls = RL ∧ yL_booked.cls ≠ "java/lang/invoke/MethodHandle" ∧ yL_booked.cls ≠ "java/lang/invoke/VarHandle" ∧ (parseMethodDescriptor yL_booked.desc).map (fun d => d.parameters.length) = some 3 := by decide +kernel
theorem ynL_booked : yL_booked.cls ≠ "java/lang/invoke/MethodHandle" ∧ yL_booked.cls ≠ "java/lang/invoke/VarHandle" ∧ (parseMethodDescriptor yL_booked.desc).map (fun d => d.parameters.length) = some 3 := by decide +kernel
/-! L.result(LAirStation;I[J)I -/
abbrev rmL_result : Room := { frames := 7, cells := 1, slots := 6, locals := 103 }
abbrev wdL_result : Cond := Cond.codeWith yL_result cL_result 4 (some .int) [(0, 9, 12, 27)]
noncomputable def fL_result  (x2 : Int32) (G : M3) (K : J3) : Option (Int32 × M3 × J3) := bd4 (fX4_result x2 G K) (fun tg1 vv2 G3 K4 => if tg1 = 0 then (bnd (up3 K4 9 0 0 (vv2.toInt64)) (fun K6 => some ((0 : Int32), G3, K6))) else if tg1 = 3 then (some ((1 : Int32), G3, K4)) else none)
set_option maxRecDepth 20000 in
set_option maxHeartbeats 1000000 in
theorem TL_result {rr : Int32} {GR : M3} {KR : J3}  (C : Cx E A p s m args meth c wdL_result cL_result 4 (some .int) RL) (hst : l.stackTraces = false) (htab : c.exceptionTable.toList = tableOf [(0, 9, 12, 27)]) {x2 : Int32}  (h : fL_result  x2 G K = some (rr, GR, KR)) (w : Wd E A s G K H locs) (hl : lv_has ls 4 [(0, .ref (ad E 6 0)), (1, .int x2), (2, .ref (ad E 9 0))]) : W p l e rmL_result s m args below meth c H locs 0 0 (MQ below (va_Qi (fun (r1 : Int32) (_ : Unit) => r1 = rr) (fun _ t => PosM E GR KR t) A) args s 1 6 A) (F0 m 0 ls []) := by
  obtain ⟨hx, hb, hr, hml, hown, hts, hlocks, hKK, hA1, hA2⟩ := id C
  unfold fL_result at h
  refine lv_aload_n hx hb dL_result_0 rfl (lv_at hl 2 rfl) ?_
  refine lv_iconst (v := (0 : Int32)) hx hb dL_result_1 (by decide) ?_
  refine lv_aload_n hx hb dL_result_2 rfl (lv_at hl 0 rfl) ?_
  refine lv_iload_n hx hb dL_result_3 rfl (lv_at hl 1 rfl) ?_
  obtain ⟨tg1, vv2, G3, K4, hv5, h⟩ := bd4_of h
  refine x_cXi (As := [.int x2]) (rest := [.int (0 : Int32), .ref (ad E 9 0)]) C w (mtX4_result hst hv5) q23_2 q23_3 q23_4 q1_2 q23_5 ydX4_result ⟨rfl, rfl⟩ ⟨by decide, by decide⟩ ⟨by decide, by decide⟩ hl.1 (Nat.le_of_ble_eq_true rfl) rfl dL_result_4 (fun H locs q9 ce htg w hc1 hc2 hc3 => ?_) (fun H locs htg w => ?_)
  · replace h := ite_f h htg
    by_cases cx0 : tg1 = 3
    · replace h := ite_t h cx0
      rw [cx0] at hc3
      refine vx_catch (own := RL) (name := "java/lang/IndexOutOfBoundsException") hown [] ⟨0, 9, 12, 27⟩ [] (htab.trans rfl) (fun z hz => absurd hz List.not_mem_nil) (by decide) (by decide) (x_hts C q10_3) (x_nest C (List.mem_of_getElem? (i := 6) rfl)) hc1 hc2 hc3 ?_
      refine lv_astore_n (lv' := [(3, .ref q9), (0, .ref (ad E 6 0)), (1, .int x2), (2, .ref (ad E 9 0))]) hx hb dL_result_12 rfl hl (by decide) rfl (fun ls hl => ?_)
      refine lv_iconst (v := (1 : Int32)) hx hb dL_result_13 (by decide) ?_
      obtain ⟨e1, e2, e3⟩ := rt3 h
      exact x_ri C w e1 (by rw [e2]) (by rw [e3]) dL_result_14
    replace h := ite_f h cx0
    cases h
  · replace h := ite_t h htg
    refine lv_i2l hx hb dL_result_7 rfl ?_
    refine x_astJ_G C w v9 c9_0 (inb_k (k := 0) (by decide) (by decide)) cl_0 dL_result_8 (fun K6 H locs e7 w => ?_)
    replace h := bnd_of h e7
    refine lv_goto (tgt := 15) hx hb dL_result_9 (by decide) ?_
    refine lv_iconst (v := (0 : Int32)) hx hb dL_result_15 (by decide) ?_
    obtain ⟨e1, e2, e3⟩ := rt3 h
    exact x_ri C w e1 (by rw [e2]) (by rw [e3]) dL_result_16
theorem mtL_result {rr : Int32} {GR : M3} {KR : J3}  (hst : l.stackTraces = false) {x2 : Int32}  (h : fL_result  x2 G K = some (rr, GR, KR)) : MtW l yL_result wdL_result rmL_result E [.ref (ad E 6 0), .int x2, .ref (ad E 9 0)] G K rr GR KR := by
  intro sz
  refine Met.ofWH (cc := cL_result) (maxL := 4) (ret := (some .int)) (hh := [(0, 9, 12, 27)]) (by decide) rfl ?_
  intro p e s m args below meth c s₁ B hml hv
  obtain ⟨rfl, C, w⟩ := Cx.of (own := RL) B rfl hml hv
  have htab := vx_table (x := yL_result) B (C.2.2.2.2.2.1 _ List.mem_cons_self)
  have hl := lv_entry ([.ref (ad E 6 0), .int x2, .ref (ad E 9 0)]) (n := 4) (by first | exact Nat.le_of_ble_eq_true rfl)
  rw [lg_entry_eq]
  generalize (lg_sl ([.ref (ad E 6 0), .int x2, .ref (ad E 9 0)]) ++ List.replicate (4 - (lg_sl ([.ref (ad E 6 0), .int x2, .ref (ad E 9 0)])).length) Slot.unset).toArray = ls at hl ⊢
  exact TL_result C hst htab  h w hl
theorem ydL_result : yL_result.cls = RL ∧ yL_result.cls ≠ "java/lang/invoke/MethodHandle" ∧ yL_result.cls ≠ "java/lang/invoke/VarHandle" ∧ (parseMethodDescriptor yL_result.desc).map (fun d => d.parameters.length) = some 3 := by decide +kernel
theorem ynL_result : yL_result.cls ≠ "java/lang/invoke/MethodHandle" ∧ yL_result.cls ≠ "java/lang/invoke/VarHandle" ∧ (parseMethodDescriptor yL_result.desc).map (fun d => d.parameters.length) = some 3 := by decide +kernel
/-! L.next(LAirStation;I[J)I -/
abbrev rmL_next : Room := { frames := 7, cells := 1, slots := 6, locals := 104 }
abbrev wdL_next : Cond := Cond.codeWith yL_next cL_next 4 (some .int) [(0, 9, 12, 27)]
noncomputable def fL_next  (x2 : Int32) (G : M3) (K : J3) : Option (Int32 × M3 × J3) := bd4 (fX4_next x2 G K) (fun tg1 vv2 G3 K4 => if tg1 = 0 then (bnd (up3 K4 9 0 0 (vv2.toInt64)) (fun K6 => some ((0 : Int32), G3, K6))) else if tg1 = 3 then (some ((1 : Int32), G3, K4)) else none)
set_option maxRecDepth 20000 in
set_option maxHeartbeats 1000000 in
theorem TL_next {rr : Int32} {GR : M3} {KR : J3}  (C : Cx E A p s m args meth c wdL_next cL_next 4 (some .int) RL) (hst : l.stackTraces = false) (htab : c.exceptionTable.toList = tableOf [(0, 9, 12, 27)]) {x2 : Int32}  (h : fL_next  x2 G K = some (rr, GR, KR)) (w : Wd E A s G K H locs) (hl : lv_has ls 4 [(0, .ref (ad E 6 0)), (1, .int x2), (2, .ref (ad E 9 0))]) : W p l e rmL_next s m args below meth c H locs 0 0 (MQ below (va_Qi (fun (r1 : Int32) (_ : Unit) => r1 = rr) (fun _ t => PosM E GR KR t) A) args s 1 6 A) (F0 m 0 ls []) := by
  obtain ⟨hx, hb, hr, hml, hown, hts, hlocks, hKK, hA1, hA2⟩ := id C
  unfold fL_next at h
  refine lv_aload_n hx hb dL_next_0 rfl (lv_at hl 2 rfl) ?_
  refine lv_iconst (v := (0 : Int32)) hx hb dL_next_1 (by decide) ?_
  refine lv_aload_n hx hb dL_next_2 rfl (lv_at hl 0 rfl) ?_
  refine lv_iload_n hx hb dL_next_3 rfl (lv_at hl 1 rfl) ?_
  obtain ⟨tg1, vv2, G3, K4, hv5, h⟩ := bd4_of h
  refine x_cXi (As := [.int x2]) (rest := [.int (0 : Int32), .ref (ad E 9 0)]) C w (mtX4_next hst hv5) q23_15 q23_16 q23_17 q1_2 q23_18 ydX4_next ⟨rfl, rfl⟩ ⟨by decide, by decide⟩ ⟨by decide, by decide⟩ hl.1 (Nat.le_of_ble_eq_true rfl) rfl dL_next_4 (fun H locs q9 ce htg w hc1 hc2 hc3 => ?_) (fun H locs htg w => ?_)
  · replace h := ite_f h htg
    by_cases cx0 : tg1 = 3
    · replace h := ite_t h cx0
      rw [cx0] at hc3
      refine vx_catch (own := RL) (name := "java/lang/IndexOutOfBoundsException") hown [] ⟨0, 9, 12, 27⟩ [] (htab.trans rfl) (fun z hz => absurd hz List.not_mem_nil) (by decide) (by decide) (x_hts C q10_3) (x_nest C (List.mem_of_getElem? (i := 6) rfl)) hc1 hc2 hc3 ?_
      refine lv_astore_n (lv' := [(3, .ref q9), (0, .ref (ad E 6 0)), (1, .int x2), (2, .ref (ad E 9 0))]) hx hb dL_next_12 rfl hl (by decide) rfl (fun ls hl => ?_)
      refine lv_iconst (v := (1 : Int32)) hx hb dL_next_13 (by decide) ?_
      obtain ⟨e1, e2, e3⟩ := rt3 h
      exact x_ri C w e1 (by rw [e2]) (by rw [e3]) dL_next_14
    replace h := ite_f h cx0
    cases h
  · replace h := ite_t h htg
    refine lv_i2l hx hb dL_next_7 rfl ?_
    refine x_astJ_G C w v9 c9_0 (inb_k (k := 0) (by decide) (by decide)) cl_0 dL_next_8 (fun K6 H locs e7 w => ?_)
    replace h := bnd_of h e7
    refine lv_goto (tgt := 15) hx hb dL_next_9 (by decide) ?_
    refine lv_iconst (v := (0 : Int32)) hx hb dL_next_15 (by decide) ?_
    obtain ⟨e1, e2, e3⟩ := rt3 h
    exact x_ri C w e1 (by rw [e2]) (by rw [e3]) dL_next_16
theorem mtL_next {rr : Int32} {GR : M3} {KR : J3}  (hst : l.stackTraces = false) {x2 : Int32}  (h : fL_next  x2 G K = some (rr, GR, KR)) : MtW l yL_next wdL_next rmL_next E [.ref (ad E 6 0), .int x2, .ref (ad E 9 0)] G K rr GR KR := by
  intro sz
  refine Met.ofWH (cc := cL_next) (maxL := 4) (ret := (some .int)) (hh := [(0, 9, 12, 27)]) (by decide) rfl ?_
  intro p e s m args below meth c s₁ B hml hv
  obtain ⟨rfl, C, w⟩ := Cx.of (own := RL) B rfl hml hv
  have htab := vx_table (x := yL_next) B (C.2.2.2.2.2.1 _ List.mem_cons_self)
  have hl := lv_entry ([.ref (ad E 6 0), .int x2, .ref (ad E 9 0)]) (n := 4) (by first | exact Nat.le_of_ble_eq_true rfl)
  rw [lg_entry_eq]
  generalize (lg_sl ([.ref (ad E 6 0), .int x2, .ref (ad E 9 0)]) ++ List.replicate (4 - (lg_sl ([.ref (ad E 6 0), .int x2, .ref (ad E 9 0)])).length) Slot.unset).toArray = ls at hl ⊢
  exact TL_next C hst htab  h w hl
theorem ydL_next : yL_next.cls = RL ∧ yL_next.cls ≠ "java/lang/invoke/MethodHandle" ∧ yL_next.cls ≠ "java/lang/invoke/VarHandle" ∧ (parseMethodDescriptor yL_next.desc).map (fun d => d.parameters.length) = some 3 := by decide +kernel
theorem ynL_next : yL_next.cls ≠ "java/lang/invoke/MethodHandle" ∧ yL_next.cls ≠ "java/lang/invoke/VarHandle" ∧ (parseMethodDescriptor yL_next.desc).map (fun d => d.parameters.length) = some 3 := by decide +kernel
/-! L.pressureIn(LAirStation;I[J)I -/
abbrev rmL_pressureIn : Room := { frames := 7, cells := 1, slots := 6, locals := 147 }
abbrev wdL_pressureIn : Cond := Cond.codeWith yL_pressureIn cL_pressureIn 4 (some .int) [(0, 9, 12, 13)]
noncomputable def fL_pressureIn (F : Nat)  (x2 : Int32) (G : M3) (K : J3) : Option (Int32 × M3 × J3) := bd4 (fX4_pressureIn F x2 G K) (fun tg1 vv2 G3 K4 => if tg1 = 0 then (bnd (up3 K4 9 0 0 (vv2.toInt64)) (fun K6 => some ((0 : Int32), G3, K6))) else if tg1 = 1 then (some ((1 : Int32), G3, K4)) else none)
set_option maxRecDepth 20000 in
set_option maxHeartbeats 1000000 in
theorem TL_pressureIn {rr : Int32} {GR : M3} {KR : J3}  (C : Cx E A p s m args meth c wdL_pressureIn cL_pressureIn 4 (some .int) RL) (hst : l.stackTraces = false) (htab : c.exceptionTable.toList = tableOf [(0, 9, 12, 13)]) {x2 : Int32}  (h : fL_pressureIn F  x2 G K = some (rr, GR, KR)) (w : Wd E A s G K H locs) (hl : lv_has ls 4 [(0, .ref (ad E 6 0)), (1, .int x2), (2, .ref (ad E 9 0))]) : W p l e rmL_pressureIn s m args below meth c H locs 0 0 (MQ below (va_Qi (fun (r1 : Int32) (_ : Unit) => r1 = rr) (fun _ t => PosM E GR KR t) A) args s 1 6 A) (F0 m 0 ls []) := by
  obtain ⟨hx, hb, hr, hml, hown, hts, hlocks, hKK, hA1, hA2⟩ := id C
  unfold fL_pressureIn at h
  refine lv_aload_n hx hb dL_pressureIn_0 rfl (lv_at hl 2 rfl) ?_
  refine lv_iconst (v := (0 : Int32)) hx hb dL_pressureIn_1 (by decide) ?_
  refine lv_aload_n hx hb dL_pressureIn_2 rfl (lv_at hl 0 rfl) ?_
  refine lv_iload_n hx hb dL_pressureIn_3 rfl (lv_at hl 1 rfl) ?_
  obtain ⟨tg1, vv2, G3, K4, hv5, h⟩ := bd4_of h
  refine x_cXi (As := [.int x2]) (rest := [.int (0 : Int32), .ref (ad E 9 0)]) C w (mtX4_pressureIn hst hv5) q24_3 q24_4 q24_5 q1_2 q24_6 ydX4_pressureIn ⟨rfl, rfl⟩ ⟨by decide, by decide⟩ ⟨by decide, by decide⟩ hl.1 (Nat.le_of_ble_eq_true rfl) rfl dL_pressureIn_4 (fun H locs q9 ce htg w hc1 hc2 hc3 => ?_) (fun H locs htg w => ?_)
  · replace h := ite_f h htg
    by_cases cx0 : tg1 = 1
    · replace h := ite_t h cx0
      rw [cx0] at hc3
      refine vx_catch (own := RL) (name := "java/lang/IllegalArgumentException") hown [] ⟨0, 9, 12, 13⟩ [] (htab.trans rfl) (fun z hz => absurd hz List.not_mem_nil) (by decide) (by decide) (x_hts C q4_6) (x_nest C (List.mem_of_getElem? (i := 4) rfl)) hc1 hc2 hc3 ?_
      refine lv_astore_n (lv' := [(3, .ref q9), (0, .ref (ad E 6 0)), (1, .int x2), (2, .ref (ad E 9 0))]) hx hb dL_pressureIn_12 rfl hl (by decide) rfl (fun ls hl => ?_)
      refine lv_iconst (v := (1 : Int32)) hx hb dL_pressureIn_13 (by decide) ?_
      obtain ⟨e1, e2, e3⟩ := rt3 h
      exact x_ri C w e1 (by rw [e2]) (by rw [e3]) dL_pressureIn_14
    replace h := ite_f h cx0
    cases h
  · replace h := ite_t h htg
    refine lv_i2l hx hb dL_pressureIn_7 rfl ?_
    refine x_astJ_G C w v9 c9_0 (inb_k (k := 0) (by decide) (by decide)) cl_0 dL_pressureIn_8 (fun K6 H locs e7 w => ?_)
    replace h := bnd_of h e7
    refine lv_goto (tgt := 15) hx hb dL_pressureIn_9 (by decide) ?_
    refine lv_iconst (v := (0 : Int32)) hx hb dL_pressureIn_15 (by decide) ?_
    obtain ⟨e1, e2, e3⟩ := rt3 h
    exact x_ri C w e1 (by rw [e2]) (by rw [e3]) dL_pressureIn_16
theorem mtL_pressureIn {rr : Int32} {GR : M3} {KR : J3}  (hst : l.stackTraces = false) {x2 : Int32}  (h : fL_pressureIn F  x2 G K = some (rr, GR, KR)) : MtW l yL_pressureIn wdL_pressureIn rmL_pressureIn E [.ref (ad E 6 0), .int x2, .ref (ad E 9 0)] G K rr GR KR := by
  intro sz
  refine Met.ofWH (cc := cL_pressureIn) (maxL := 4) (ret := (some .int)) (hh := [(0, 9, 12, 13)]) (by decide) rfl ?_
  intro p e s m args below meth c s₁ B hml hv
  obtain ⟨rfl, C, w⟩ := Cx.of (own := RL) B rfl hml hv
  have htab := vx_table (x := yL_pressureIn) B (C.2.2.2.2.2.1 _ List.mem_cons_self)
  have hl := lv_entry ([.ref (ad E 6 0), .int x2, .ref (ad E 9 0)]) (n := 4) (by first | exact Nat.le_of_ble_eq_true rfl)
  rw [lg_entry_eq]
  generalize (lg_sl ([.ref (ad E 6 0), .int x2, .ref (ad E 9 0)]) ++ List.replicate (4 - (lg_sl ([.ref (ad E 6 0), .int x2, .ref (ad E 9 0)])).length) Slot.unset).toArray = ls at hl ⊢
  exact TL_pressureIn C hst htab  h w hl
theorem ydL_pressureIn : yL_pressureIn.cls = RL ∧ yL_pressureIn.cls ≠ "java/lang/invoke/MethodHandle" ∧ yL_pressureIn.cls ≠ "java/lang/invoke/VarHandle" ∧ (parseMethodDescriptor yL_pressureIn.desc).map (fun d => d.parameters.length) = some 3 := by decide +kernel
theorem ynL_pressureIn : yL_pressureIn.cls ≠ "java/lang/invoke/MethodHandle" ∧ yL_pressureIn.cls ≠ "java/lang/invoke/VarHandle" ∧ (parseMethodDescriptor yL_pressureIn.desc).map (fun d => d.parameters.length) = some 3 := by decide +kernel
/-! L.canServe(LAirStation;I[J)I -/
abbrev rmL_canServe : Room := { frames := 7, cells := 1, slots := 6, locals := 103 }
abbrev wdL_canServe : Cond := Cond.codeWith yL_canServe cL_canServe 4 (some .int) [(0, 9, 12, 13)]
noncomputable def fL_canServe (F : Nat)  (x2 : Int32) (G : M3) (K : J3) : Option (Int32 × M3 × J3) := bd4 (fX4_canServe F x2 G K) (fun tg1 vv2 G3 K4 => if tg1 = 0 then (bnd (up3 K4 9 0 0 (vv2.toInt64)) (fun K6 => some ((0 : Int32), G3, K6))) else if tg1 = 1 then (some ((1 : Int32), G3, K4)) else none)
set_option maxRecDepth 20000 in
set_option maxHeartbeats 1000000 in
theorem TL_canServe {rr : Int32} {GR : M3} {KR : J3}  (C : Cx E A p s m args meth c wdL_canServe cL_canServe 4 (some .int) RL) (hst : l.stackTraces = false) (htab : c.exceptionTable.toList = tableOf [(0, 9, 12, 13)]) {x2 : Int32}  (h : fL_canServe F  x2 G K = some (rr, GR, KR)) (w : Wd E A s G K H locs) (hl : lv_has ls 4 [(0, .ref (ad E 6 0)), (1, .int x2), (2, .ref (ad E 9 0))]) : W p l e rmL_canServe s m args below meth c H locs 0 0 (MQ below (va_Qi (fun (r1 : Int32) (_ : Unit) => r1 = rr) (fun _ t => PosM E GR KR t) A) args s 1 6 A) (F0 m 0 ls []) := by
  obtain ⟨hx, hb, hr, hml, hown, hts, hlocks, hKK, hA1, hA2⟩ := id C
  unfold fL_canServe at h
  refine lv_aload_n hx hb dL_canServe_0 rfl (lv_at hl 2 rfl) ?_
  refine lv_iconst (v := (0 : Int32)) hx hb dL_canServe_1 (by decide) ?_
  refine lv_aload_n hx hb dL_canServe_2 rfl (lv_at hl 0 rfl) ?_
  refine lv_iload_n hx hb dL_canServe_3 rfl (lv_at hl 1 rfl) ?_
  obtain ⟨tg1, vv2, G3, K4, hv5, h⟩ := bd4_of h
  refine x_cXi (As := [.int x2]) (rest := [.int (0 : Int32), .ref (ad E 9 0)]) C w (mtX4_canServe hst hv5) q25_8 q25_9 q25_10 q1_2 q25_11 ydX4_canServe ⟨rfl, rfl⟩ ⟨by decide, by decide⟩ ⟨by decide, by decide⟩ hl.1 (Nat.le_of_ble_eq_true rfl) rfl dL_canServe_4 (fun H locs q9 ce htg w hc1 hc2 hc3 => ?_) (fun H locs htg w => ?_)
  · replace h := ite_f h htg
    by_cases cx0 : tg1 = 1
    · replace h := ite_t h cx0
      rw [cx0] at hc3
      refine vx_catch (own := RL) (name := "java/lang/IllegalArgumentException") hown [] ⟨0, 9, 12, 13⟩ [] (htab.trans rfl) (fun z hz => absurd hz List.not_mem_nil) (by decide) (by decide) (x_hts C q4_6) (x_nest C (List.mem_of_getElem? (i := 4) rfl)) hc1 hc2 hc3 ?_
      refine lv_astore_n (lv' := [(3, .ref q9), (0, .ref (ad E 6 0)), (1, .int x2), (2, .ref (ad E 9 0))]) hx hb dL_canServe_12 rfl hl (by decide) rfl (fun ls hl => ?_)
      refine lv_iconst (v := (1 : Int32)) hx hb dL_canServe_13 (by decide) ?_
      obtain ⟨e1, e2, e3⟩ := rt3 h
      exact x_ri C w e1 (by rw [e2]) (by rw [e3]) dL_canServe_14
    replace h := ite_f h cx0
    cases h
  · replace h := ite_t h htg
    refine lv_i2l hx hb dL_canServe_7 rfl ?_
    refine x_astJ_G C w v9 c9_0 (inb_k (k := 0) (by decide) (by decide)) cl_0 dL_canServe_8 (fun K6 H locs e7 w => ?_)
    replace h := bnd_of h e7
    refine lv_goto (tgt := 15) hx hb dL_canServe_9 (by decide) ?_
    refine lv_iconst (v := (0 : Int32)) hx hb dL_canServe_15 (by decide) ?_
    obtain ⟨e1, e2, e3⟩ := rt3 h
    exact x_ri C w e1 (by rw [e2]) (by rw [e3]) dL_canServe_16
theorem mtL_canServe {rr : Int32} {GR : M3} {KR : J3}  (hst : l.stackTraces = false) {x2 : Int32}  (h : fL_canServe F  x2 G K = some (rr, GR, KR)) : MtW l yL_canServe wdL_canServe rmL_canServe E [.ref (ad E 6 0), .int x2, .ref (ad E 9 0)] G K rr GR KR := by
  intro sz
  refine Met.ofWH (cc := cL_canServe) (maxL := 4) (ret := (some .int)) (hh := [(0, 9, 12, 13)]) (by decide) rfl ?_
  intro p e s m args below meth c s₁ B hml hv
  obtain ⟨rfl, C, w⟩ := Cx.of (own := RL) B rfl hml hv
  have htab := vx_table (x := yL_canServe) B (C.2.2.2.2.2.1 _ List.mem_cons_self)
  have hl := lv_entry ([.ref (ad E 6 0), .int x2, .ref (ad E 9 0)]) (n := 4) (by first | exact Nat.le_of_ble_eq_true rfl)
  rw [lg_entry_eq]
  generalize (lg_sl ([.ref (ad E 6 0), .int x2, .ref (ad E 9 0)]) ++ List.replicate (4 - (lg_sl ([.ref (ad E 6 0), .int x2, .ref (ad E 9 0)])).length) Slot.unset).toArray = ls at hl ⊢
  exact TL_canServe C hst htab  h w hl
theorem ydL_canServe : yL_canServe.cls = RL ∧ yL_canServe.cls ≠ "java/lang/invoke/MethodHandle" ∧ yL_canServe.cls ≠ "java/lang/invoke/VarHandle" ∧ (parseMethodDescriptor yL_canServe.desc).map (fun d => d.parameters.length) = some 3 := by decide +kernel
theorem ynL_canServe : yL_canServe.cls ≠ "java/lang/invoke/MethodHandle" ∧ yL_canServe.cls ≠ "java/lang/invoke/VarHandle" ∧ (parseMethodDescriptor yL_canServe.desc).map (fun d => d.parameters.length) = some 3 := by decide +kernel
/-! L.energyWith(LAirStation;II[J)I -/
abbrev rmL_energyWith : Room := { frames := 7, cells := 1, slots := 6, locals := 148 }
abbrev wdL_energyWith : Cond := Cond.codeWith yL_energyWith cL_energyWith 5 (some .int) [(0, 10, 13, 13)]
noncomputable def fL_energyWith (F : Nat)  (x2 : Int32) (x3 : Int32) (G : M3) (K : J3) : Option (Int32 × M3 × J3) := bd4 (fX4_energyWith F x2 x3 G K) (fun tg1 vv2 G3 K4 => if tg1 = 0 then (bnd (up3 K4 9 0 0 (vv2.toInt64)) (fun K6 => some ((0 : Int32), G3, K6))) else if tg1 = 1 then (some ((1 : Int32), G3, K4)) else none)
set_option maxRecDepth 20000 in
set_option maxHeartbeats 1000000 in
theorem TL_energyWith {rr : Int32} {GR : M3} {KR : J3}  (C : Cx E A p s m args meth c wdL_energyWith cL_energyWith 5 (some .int) RL) (hst : l.stackTraces = false) (htab : c.exceptionTable.toList = tableOf [(0, 10, 13, 13)]) {x2 : Int32} {x3 : Int32}  (h : fL_energyWith F  x2 x3 G K = some (rr, GR, KR)) (w : Wd E A s G K H locs) (hl : lv_has ls 5 [(0, .ref (ad E 6 0)), (1, .int x2), (2, .int x3), (3, .ref (ad E 9 0))]) : W p l e rmL_energyWith s m args below meth c H locs 0 0 (MQ below (va_Qi (fun (r1 : Int32) (_ : Unit) => r1 = rr) (fun _ t => PosM E GR KR t) A) args s 1 6 A) (F0 m 0 ls []) := by
  obtain ⟨hx, hb, hr, hml, hown, hts, hlocks, hKK, hA1, hA2⟩ := id C
  unfold fL_energyWith at h
  refine lv_aload_n hx hb dL_energyWith_0 rfl (lv_at hl 3 rfl) ?_
  refine lv_iconst (v := (0 : Int32)) hx hb dL_energyWith_1 (by decide) ?_
  refine lv_aload_n hx hb dL_energyWith_2 rfl (lv_at hl 0 rfl) ?_
  refine lv_iload_n hx hb dL_energyWith_3 rfl (lv_at hl 1 rfl) ?_
  refine lv_iload_n hx hb dL_energyWith_4 rfl (lv_at hl 2 rfl) ?_
  obtain ⟨tg1, vv2, G3, K4, hv5, h⟩ := bd4_of h
  refine x_cXi (As := [.int x2, .int x3]) (rest := [.int (0 : Int32), .ref (ad E 9 0)]) C w (mtX4_energyWith hst hv5) q26_3 q26_4 q26_5 q1_2 q26_6 ydX4_energyWith ⟨rfl, rfl⟩ ⟨by decide, by decide⟩ ⟨by decide, by decide⟩ hl.1 (Nat.le_of_ble_eq_true rfl) rfl dL_energyWith_5 (fun H locs q9 ce htg w hc1 hc2 hc3 => ?_) (fun H locs htg w => ?_)
  · replace h := ite_f h htg
    by_cases cx0 : tg1 = 1
    · replace h := ite_t h cx0
      rw [cx0] at hc3
      refine vx_catch (own := RL) (name := "java/lang/IllegalArgumentException") hown [] ⟨0, 10, 13, 13⟩ [] (htab.trans rfl) (fun z hz => absurd hz List.not_mem_nil) (by decide) (by decide) (x_hts C q4_6) (x_nest C (List.mem_of_getElem? (i := 4) rfl)) hc1 hc2 hc3 ?_
      refine lv_astore (lv' := [(4, .ref q9), (0, .ref (ad E 6 0)), (1, .int x2), (2, .int x3), (3, .ref (ad E 9 0))]) hx hb dL_energyWith_13 hl (by decide) rfl (fun ls hl => ?_)
      refine lv_iconst (v := (1 : Int32)) hx hb dL_energyWith_15 (by decide) ?_
      obtain ⟨e1, e2, e3⟩ := rt3 h
      exact x_ri C w e1 (by rw [e2]) (by rw [e3]) dL_energyWith_16
    replace h := ite_f h cx0
    cases h
  · replace h := ite_t h htg
    refine lv_i2l hx hb dL_energyWith_8 rfl ?_
    refine x_astJ_G C w v9 c9_0 (inb_k (k := 0) (by decide) (by decide)) cl_0 dL_energyWith_9 (fun K6 H locs e7 w => ?_)
    replace h := bnd_of h e7
    refine lv_goto (tgt := 17) hx hb dL_energyWith_10 (by decide) ?_
    refine lv_iconst (v := (0 : Int32)) hx hb dL_energyWith_17 (by decide) ?_
    obtain ⟨e1, e2, e3⟩ := rt3 h
    exact x_ri C w e1 (by rw [e2]) (by rw [e3]) dL_energyWith_18
theorem mtL_energyWith {rr : Int32} {GR : M3} {KR : J3}  (hst : l.stackTraces = false) {x2 : Int32} {x3 : Int32}  (h : fL_energyWith F  x2 x3 G K = some (rr, GR, KR)) : MtW l yL_energyWith wdL_energyWith rmL_energyWith E [.ref (ad E 6 0), .int x2, .int x3, .ref (ad E 9 0)] G K rr GR KR := by
  intro sz
  refine Met.ofWH (cc := cL_energyWith) (maxL := 5) (ret := (some .int)) (hh := [(0, 10, 13, 13)]) (by decide) rfl ?_
  intro p e s m args below meth c s₁ B hml hv
  obtain ⟨rfl, C, w⟩ := Cx.of (own := RL) B rfl hml hv
  have htab := vx_table (x := yL_energyWith) B (C.2.2.2.2.2.1 _ List.mem_cons_self)
  have hl := lv_entry ([.ref (ad E 6 0), .int x2, .int x3, .ref (ad E 9 0)]) (n := 5) (by first | exact Nat.le_of_ble_eq_true rfl)
  rw [lg_entry_eq]
  generalize (lg_sl ([.ref (ad E 6 0), .int x2, .int x3, .ref (ad E 9 0)]) ++ List.replicate (5 - (lg_sl ([.ref (ad E 6 0), .int x2, .int x3, .ref (ad E 9 0)])).length) Slot.unset).toArray = ls at hl ⊢
  exact TL_energyWith C hst htab  h w hl
theorem ydL_energyWith : yL_energyWith.cls = RL ∧ yL_energyWith.cls ≠ "java/lang/invoke/MethodHandle" ∧ yL_energyWith.cls ≠ "java/lang/invoke/VarHandle" ∧ (parseMethodDescriptor yL_energyWith.desc).map (fun d => d.parameters.length) = some 4 := by decide +kernel
theorem ynL_energyWith : yL_energyWith.cls ≠ "java/lang/invoke/MethodHandle" ∧ yL_energyWith.cls ≠ "java/lang/invoke/VarHandle" ∧ (parseMethodDescriptor yL_energyWith.desc).map (fun d => d.parameters.length) = some 4 := by decide +kernel
/-! L.bestOrder(LAirStation;II[J)I -/
abbrev rmL_bestOrder : Room := { frames := 8, cells := 1, slots := 6, locals := 180 }
abbrev wdL_bestOrder : Cond := Cond.codeWith yL_bestOrder cL_bestOrder 5 (some .int) [(0, 10, 13, 13), (0, 10, 17, 27)]
noncomputable def fL_bestOrder (F : Nat)  (x2 : Int32) (x3 : Int32) (G : M3) (K : J3) : Option (Int32 × M3 × J3) := bd4 (fX4_bestOrder F x2 x3 G K) (fun tg1 vv2 G3 K4 => if tg1 = 0 then (bnd (up3 K4 9 0 0 (vv2.toInt64)) (fun K6 => some ((0 : Int32), G3, K6))) else if tg1 = 1 then (some ((1 : Int32), G3, K4)) else if tg1 = 3 then (some ((2 : Int32), G3, K4)) else none)
set_option maxRecDepth 20000 in
set_option maxHeartbeats 1000000 in
theorem TL_bestOrder {rr : Int32} {GR : M3} {KR : J3}  (C : Cx E A p s m args meth c wdL_bestOrder cL_bestOrder 5 (some .int) RL) (hst : l.stackTraces = false) (htab : c.exceptionTable.toList = tableOf [(0, 10, 13, 13), (0, 10, 17, 27)]) {x2 : Int32} {x3 : Int32}  (h : fL_bestOrder F  x2 x3 G K = some (rr, GR, KR)) (w : Wd E A s G K H locs) (hl : lv_has ls 5 [(0, .ref (ad E 6 0)), (1, .int x2), (2, .int x3), (3, .ref (ad E 9 0))]) : W p l e rmL_bestOrder s m args below meth c H locs 0 0 (MQ below (va_Qi (fun (r1 : Int32) (_ : Unit) => r1 = rr) (fun _ t => PosM E GR KR t) A) args s 1 6 A) (F0 m 0 ls []) := by
  obtain ⟨hx, hb, hr, hml, hown, hts, hlocks, hKK, hA1, hA2⟩ := id C
  unfold fL_bestOrder at h
  refine lv_aload_n hx hb dL_bestOrder_0 rfl (lv_at hl 3 rfl) ?_
  refine lv_iconst (v := (0 : Int32)) hx hb dL_bestOrder_1 (by decide) ?_
  refine lv_aload_n hx hb dL_bestOrder_2 rfl (lv_at hl 0 rfl) ?_
  refine lv_iload_n hx hb dL_bestOrder_3 rfl (lv_at hl 1 rfl) ?_
  refine lv_iload_n hx hb dL_bestOrder_4 rfl (lv_at hl 2 rfl) ?_
  obtain ⟨tg1, vv2, G3, K4, hv5, h⟩ := bd4_of h
  refine x_cXi (As := [.int x2, .int x3]) (rest := [.int (0 : Int32), .ref (ad E 9 0)]) C w (mtX4_bestOrder hst hv5) q26_14 q26_15 q26_16 q1_2 q26_17 ydX4_bestOrder ⟨rfl, rfl⟩ ⟨by decide, by decide⟩ ⟨by decide, by decide⟩ hl.1 (Nat.le_of_ble_eq_true rfl) rfl dL_bestOrder_5 (fun H locs q9 ce htg w hc1 hc2 hc3 => ?_) (fun H locs htg w => ?_)
  · replace h := ite_f h htg
    by_cases cx0 : tg1 = 1
    · replace h := ite_t h cx0
      rw [cx0] at hc3
      refine vx_catch (own := RL) (name := "java/lang/IllegalArgumentException") hown [] ⟨0, 10, 13, 13⟩ [⟨0, 10, 17, 27⟩] (htab.trans rfl) (fun z hz => absurd hz List.not_mem_nil) (by decide) (by decide) (x_hts C q4_6) (x_nest C (List.mem_of_getElem? (i := 4) rfl)) hc1 hc2 hc3 ?_
      refine lv_astore (lv' := [(4, .ref q9), (0, .ref (ad E 6 0)), (1, .int x2), (2, .int x3), (3, .ref (ad E 9 0))]) hx hb dL_bestOrder_13 hl (by decide) rfl (fun ls hl => ?_)
      refine lv_iconst (v := (1 : Int32)) hx hb dL_bestOrder_15 (by decide) ?_
      obtain ⟨e1, e2, e3⟩ := rt3 h
      exact x_ri C w e1 (by rw [e2]) (by rw [e3]) dL_bestOrder_16
    replace h := ite_f h cx0
    by_cases cx1 : tg1 = 3
    · replace h := ite_t h cx1
      rw [cx1] at hc3
      refine vx_catch (own := RL) (name := "java/lang/IndexOutOfBoundsException") hown [⟨0, 10, 13, 13⟩] ⟨0, 10, 17, 27⟩ [] (htab.trans rfl) (fun z hz => by rw [List.mem_singleton.mp hz]; exact Or.inr ⟨by decide, _, x_hts C q4_6, hKK.2.2.2.2.2 _ (List.mem_of_getElem? (i := 3) rfl)⟩) (by decide) (by decide) (x_hts C q10_3) (x_nest C (List.mem_of_getElem? (i := 6) rfl)) hc1 hc2 hc3 ?_
      refine lv_astore (lv' := [(4, .ref q9), (0, .ref (ad E 6 0)), (1, .int x2), (2, .int x3), (3, .ref (ad E 9 0))]) hx hb dL_bestOrder_17 hl (by decide) rfl (fun ls hl => ?_)
      refine lv_iconst (v := (2 : Int32)) hx hb dL_bestOrder_19 (by decide) ?_
      obtain ⟨e1, e2, e3⟩ := rt3 h
      exact x_ri C w e1 (by rw [e2]) (by rw [e3]) dL_bestOrder_20
    replace h := ite_f h cx1
    cases h
  · replace h := ite_t h htg
    refine lv_i2l hx hb dL_bestOrder_8 rfl ?_
    refine x_astJ_G C w v9 c9_0 (inb_k (k := 0) (by decide) (by decide)) cl_0 dL_bestOrder_9 (fun K6 H locs e7 w => ?_)
    replace h := bnd_of h e7
    refine lv_goto (tgt := 21) hx hb dL_bestOrder_10 (by decide) ?_
    refine lv_iconst (v := (0 : Int32)) hx hb dL_bestOrder_21 (by decide) ?_
    obtain ⟨e1, e2, e3⟩ := rt3 h
    exact x_ri C w e1 (by rw [e2]) (by rw [e3]) dL_bestOrder_22
theorem mtL_bestOrder {rr : Int32} {GR : M3} {KR : J3}  (hst : l.stackTraces = false) {x2 : Int32} {x3 : Int32}  (h : fL_bestOrder F  x2 x3 G K = some (rr, GR, KR)) : MtW l yL_bestOrder wdL_bestOrder rmL_bestOrder E [.ref (ad E 6 0), .int x2, .int x3, .ref (ad E 9 0)] G K rr GR KR := by
  intro sz
  refine Met.ofWH (cc := cL_bestOrder) (maxL := 5) (ret := (some .int)) (hh := [(0, 10, 13, 13), (0, 10, 17, 27)]) (by decide) rfl ?_
  intro p e s m args below meth c s₁ B hml hv
  obtain ⟨rfl, C, w⟩ := Cx.of (own := RL) B rfl hml hv
  have htab := vx_table (x := yL_bestOrder) B (C.2.2.2.2.2.1 _ List.mem_cons_self)
  have hl := lv_entry ([.ref (ad E 6 0), .int x2, .int x3, .ref (ad E 9 0)]) (n := 5) (by first | exact Nat.le_of_ble_eq_true rfl)
  rw [lg_entry_eq]
  generalize (lg_sl ([.ref (ad E 6 0), .int x2, .int x3, .ref (ad E 9 0)]) ++ List.replicate (5 - (lg_sl ([.ref (ad E 6 0), .int x2, .int x3, .ref (ad E 9 0)])).length) Slot.unset).toArray = ls at hl ⊢
  exact TL_bestOrder C hst htab  h w hl
theorem ydL_bestOrder : yL_bestOrder.cls = RL ∧ yL_bestOrder.cls ≠ "java/lang/invoke/MethodHandle" ∧ yL_bestOrder.cls ≠ "java/lang/invoke/VarHandle" ∧ (parseMethodDescriptor yL_bestOrder.desc).map (fun d => d.parameters.length) = some 4 := by decide +kernel
theorem ynL_bestOrder : yL_bestOrder.cls ≠ "java/lang/invoke/MethodHandle" ∧ yL_bestOrder.cls ≠ "java/lang/invoke/VarHandle" ∧ (parseMethodDescriptor yL_bestOrder.desc).map (fun d => d.parameters.length) = some 4 := by decide +kernel
/-! L.append(LAirStation;I[J)I -/
abbrev rmL_append : Room := { frames := 7, cells := 1, slots := 6, locals := 103 }
abbrev wdL_append : Cond := Cond.codeWith yL_append cL_append 4 (some .int) [(0, 9, 12, 13), (0, 9, 15, 15)]
noncomputable def fL_append  (x2 : Int32) (G : M3) (K : J3) : Option (Int32 × M3 × J3) := bd4 (fX4_append x2 G K) (fun tg1 vv2 G3 K4 => if tg1 = 0 then (bnd (up3 K4 9 0 0 (vv2.toInt64)) (fun K6 => some ((0 : Int32), G3, K6))) else if tg1 = 1 then (some ((1 : Int32), G3, K4)) else if tg1 = 2 then (some ((2 : Int32), G3, K4)) else none)
set_option maxRecDepth 20000 in
set_option maxHeartbeats 1000000 in
theorem TL_append {rr : Int32} {GR : M3} {KR : J3}  (C : Cx E A p s m args meth c wdL_append cL_append 4 (some .int) RL) (hst : l.stackTraces = false) (htab : c.exceptionTable.toList = tableOf [(0, 9, 12, 13), (0, 9, 15, 15)]) {x2 : Int32}  (h : fL_append  x2 G K = some (rr, GR, KR)) (w : Wd E A s G K H locs) (hl : lv_has ls 4 [(0, .ref (ad E 6 0)), (1, .int x2), (2, .ref (ad E 9 0))]) : W p l e rmL_append s m args below meth c H locs 0 0 (MQ below (va_Qi (fun (r1 : Int32) (_ : Unit) => r1 = rr) (fun _ t => PosM E GR KR t) A) args s 1 6 A) (F0 m 0 ls []) := by
  obtain ⟨hx, hb, hr, hml, hown, hts, hlocks, hKK, hA1, hA2⟩ := id C
  unfold fL_append at h
  refine lv_aload_n hx hb dL_append_0 rfl (lv_at hl 2 rfl) ?_
  refine lv_iconst (v := (0 : Int32)) hx hb dL_append_1 (by decide) ?_
  refine lv_aload_n hx hb dL_append_2 rfl (lv_at hl 0 rfl) ?_
  refine lv_iload_n hx hb dL_append_3 rfl (lv_at hl 1 rfl) ?_
  obtain ⟨tg1, vv2, G3, K4, hv5, h⟩ := bd4_of h
  refine x_cXi (As := [.int x2]) (rest := [.int (0 : Int32), .ref (ad E 9 0)]) C w (mtX4_append hst hv5) q28_11 q28_12 q28_13 q1_2 q28_14 ydX4_append ⟨rfl, rfl⟩ ⟨by decide, by decide⟩ ⟨by decide, by decide⟩ hl.1 (Nat.le_of_ble_eq_true rfl) rfl dL_append_4 (fun H locs q9 ce htg w hc1 hc2 hc3 => ?_) (fun H locs htg w => ?_)
  · replace h := ite_f h htg
    by_cases cx0 : tg1 = 1
    · replace h := ite_t h cx0
      rw [cx0] at hc3
      refine vx_catch (own := RL) (name := "java/lang/IllegalArgumentException") hown [] ⟨0, 9, 12, 13⟩ [⟨0, 9, 15, 15⟩] (htab.trans rfl) (fun z hz => absurd hz List.not_mem_nil) (by decide) (by decide) (x_hts C q4_6) (x_nest C (List.mem_of_getElem? (i := 4) rfl)) hc1 hc2 hc3 ?_
      refine lv_astore_n (lv' := [(3, .ref q9), (0, .ref (ad E 6 0)), (1, .int x2), (2, .ref (ad E 9 0))]) hx hb dL_append_12 rfl hl (by decide) rfl (fun ls hl => ?_)
      refine lv_iconst (v := (1 : Int32)) hx hb dL_append_13 (by decide) ?_
      obtain ⟨e1, e2, e3⟩ := rt3 h
      exact x_ri C w e1 (by rw [e2]) (by rw [e3]) dL_append_14
    replace h := ite_f h cx0
    by_cases cx1 : tg1 = 2
    · replace h := ite_t h cx1
      rw [cx1] at hc3
      refine vx_catch (own := RL) (name := "java/lang/IllegalStateException") hown [⟨0, 9, 12, 13⟩] ⟨0, 9, 15, 15⟩ [] (htab.trans rfl) (fun z hz => by rw [List.mem_singleton.mp hz]; exact Or.inr ⟨by decide, _, x_hts C q4_6, hKK.2.2.2.2.2 _ (List.mem_of_getElem? (i := 0) rfl)⟩) (by decide) (by decide) (x_hts C q4_7) (x_nest C (List.mem_of_getElem? (i := 5) rfl)) hc1 hc2 hc3 ?_
      refine lv_astore_n (lv' := [(3, .ref q9), (0, .ref (ad E 6 0)), (1, .int x2), (2, .ref (ad E 9 0))]) hx hb dL_append_15 rfl hl (by decide) rfl (fun ls hl => ?_)
      refine lv_iconst (v := (2 : Int32)) hx hb dL_append_16 (by decide) ?_
      obtain ⟨e1, e2, e3⟩ := rt3 h
      exact x_ri C w e1 (by rw [e2]) (by rw [e3]) dL_append_17
    replace h := ite_f h cx1
    cases h
  · replace h := ite_t h htg
    refine lv_i2l hx hb dL_append_7 rfl ?_
    refine x_astJ_G C w v9 c9_0 (inb_k (k := 0) (by decide) (by decide)) cl_0 dL_append_8 (fun K6 H locs e7 w => ?_)
    replace h := bnd_of h e7
    refine lv_goto (tgt := 18) hx hb dL_append_9 (by decide) ?_
    refine lv_iconst (v := (0 : Int32)) hx hb dL_append_18 (by decide) ?_
    obtain ⟨e1, e2, e3⟩ := rt3 h
    exact x_ri C w e1 (by rw [e2]) (by rw [e3]) dL_append_19
theorem mtL_append {rr : Int32} {GR : M3} {KR : J3}  (hst : l.stackTraces = false) {x2 : Int32}  (h : fL_append  x2 G K = some (rr, GR, KR)) : MtW l yL_append wdL_append rmL_append E [.ref (ad E 6 0), .int x2, .ref (ad E 9 0)] G K rr GR KR := by
  intro sz
  refine Met.ofWH (cc := cL_append) (maxL := 4) (ret := (some .int)) (hh := [(0, 9, 12, 13), (0, 9, 15, 15)]) (by decide) rfl ?_
  intro p e s m args below meth c s₁ B hml hv
  obtain ⟨rfl, C, w⟩ := Cx.of (own := RL) B rfl hml hv
  have htab := vx_table (x := yL_append) B (C.2.2.2.2.2.1 _ List.mem_cons_self)
  have hl := lv_entry ([.ref (ad E 6 0), .int x2, .ref (ad E 9 0)]) (n := 4) (by first | exact Nat.le_of_ble_eq_true rfl)
  rw [lg_entry_eq]
  generalize (lg_sl ([.ref (ad E 6 0), .int x2, .ref (ad E 9 0)]) ++ List.replicate (4 - (lg_sl ([.ref (ad E 6 0), .int x2, .ref (ad E 9 0)])).length) Slot.unset).toArray = ls at hl ⊢
  exact TL_append C hst htab  h w hl
theorem ydL_append : yL_append.cls = RL ∧ yL_append.cls ≠ "java/lang/invoke/MethodHandle" ∧ yL_append.cls ≠ "java/lang/invoke/VarHandle" ∧ (parseMethodDescriptor yL_append.desc).map (fun d => d.parameters.length) = some 3 := by decide +kernel
theorem ynL_append : yL_append.cls ≠ "java/lang/invoke/MethodHandle" ∧ yL_append.cls ≠ "java/lang/invoke/VarHandle" ∧ (parseMethodDescriptor yL_append.desc).map (fun d => d.parameters.length) = some 3 := by decide +kernel
/-! L.undo(LAirStation;[J)I -/
abbrev rmL_undo : Room := { frames := 7, cells := 1, slots := 6, locals := 106 }
abbrev wdL_undo : Cond := Cond.codeWith yL_undo cL_undo 3 (some .int) [(0, 8, 11, 15)]
noncomputable def fL_undo (F : Nat)   (G : M3) (K : J3) : Option (Int32 × M3 × J3) := bd4 (fX4_undo F G K) (fun tg1 vv2 G3 K4 => if tg1 = 0 then (bnd (up3 K4 9 0 0 (vv2.toInt64)) (fun K6 => some ((0 : Int32), G3, K6))) else if tg1 = 2 then (some ((1 : Int32), G3, K4)) else none)
set_option maxRecDepth 20000 in
set_option maxHeartbeats 1000000 in
theorem TL_undo {rr : Int32} {GR : M3} {KR : J3}  (C : Cx E A p s m args meth c wdL_undo cL_undo 3 (some .int) RL) (hst : l.stackTraces = false) (htab : c.exceptionTable.toList = tableOf [(0, 8, 11, 15)])   (h : fL_undo F  G K = some (rr, GR, KR)) (w : Wd E A s G K H locs) (hl : lv_has ls 3 [(0, .ref (ad E 6 0)), (1, .ref (ad E 9 0))]) : W p l e rmL_undo s m args below meth c H locs 0 0 (MQ below (va_Qi (fun (r1 : Int32) (_ : Unit) => r1 = rr) (fun _ t => PosM E GR KR t) A) args s 1 6 A) (F0 m 0 ls []) := by
  obtain ⟨hx, hb, hr, hml, hown, hts, hlocks, hKK, hA1, hA2⟩ := id C
  unfold fL_undo at h
  refine lv_aload_n hx hb dL_undo_0 rfl (lv_at hl 1 rfl) ?_
  refine lv_iconst (v := (0 : Int32)) hx hb dL_undo_1 (by decide) ?_
  refine lv_aload_n hx hb dL_undo_2 rfl (lv_at hl 0 rfl) ?_
  obtain ⟨tg1, vv2, G3, K4, hv5, h⟩ := bd4_of h
  refine x_cXi (As := []) (rest := [.int (0 : Int32), .ref (ad E 9 0)]) C w (mtX4_undo hst hv5) q32_22 q32_23 q33_0 q1_2 q33_1 ydX4_undo ⟨rfl, rfl⟩ ⟨by decide, by decide⟩ ⟨by decide, by decide⟩ hl.1 (Nat.le_of_ble_eq_true rfl) rfl dL_undo_3 (fun H locs q9 ce htg w hc1 hc2 hc3 => ?_) (fun H locs htg w => ?_)
  · replace h := ite_f h htg
    by_cases cx0 : tg1 = 2
    · replace h := ite_t h cx0
      rw [cx0] at hc3
      refine vx_catch (own := RL) (name := "java/lang/IllegalStateException") hown [] ⟨0, 8, 11, 15⟩ [] (htab.trans rfl) (fun z hz => absurd hz List.not_mem_nil) (by decide) (by decide) (x_hts C q4_7) (x_nest C (List.mem_of_getElem? (i := 5) rfl)) hc1 hc2 hc3 ?_
      refine lv_astore_n (lv' := [(2, .ref q9), (0, .ref (ad E 6 0)), (1, .ref (ad E 9 0))]) hx hb dL_undo_11 rfl hl (by decide) rfl (fun ls hl => ?_)
      refine lv_iconst (v := (1 : Int32)) hx hb dL_undo_12 (by decide) ?_
      obtain ⟨e1, e2, e3⟩ := rt3 h
      exact x_ri C w e1 (by rw [e2]) (by rw [e3]) dL_undo_13
    replace h := ite_f h cx0
    cases h
  · replace h := ite_t h htg
    refine lv_i2l hx hb dL_undo_6 rfl ?_
    refine x_astJ_G C w v9 c9_0 (inb_k (k := 0) (by decide) (by decide)) cl_0 dL_undo_7 (fun K6 H locs e7 w => ?_)
    replace h := bnd_of h e7
    refine lv_goto (tgt := 14) hx hb dL_undo_8 (by decide) ?_
    refine lv_iconst (v := (0 : Int32)) hx hb dL_undo_14 (by decide) ?_
    obtain ⟨e1, e2, e3⟩ := rt3 h
    exact x_ri C w e1 (by rw [e2]) (by rw [e3]) dL_undo_15
theorem mtL_undo {rr : Int32} {GR : M3} {KR : J3}  (hst : l.stackTraces = false)   (h : fL_undo F  G K = some (rr, GR, KR)) : MtW l yL_undo wdL_undo rmL_undo E [.ref (ad E 6 0), .ref (ad E 9 0)] G K rr GR KR := by
  intro sz
  refine Met.ofWH (cc := cL_undo) (maxL := 3) (ret := (some .int)) (hh := [(0, 8, 11, 15)]) (by decide) rfl ?_
  intro p e s m args below meth c s₁ B hml hv
  obtain ⟨rfl, C, w⟩ := Cx.of (own := RL) B rfl hml hv
  have htab := vx_table (x := yL_undo) B (C.2.2.2.2.2.1 _ List.mem_cons_self)
  have hl := lv_entry ([.ref (ad E 6 0), .ref (ad E 9 0)]) (n := 3) (by first | exact Nat.le_of_ble_eq_true rfl)
  rw [lg_entry_eq]
  generalize (lg_sl ([.ref (ad E 6 0), .ref (ad E 9 0)]) ++ List.replicate (3 - (lg_sl ([.ref (ad E 6 0), .ref (ad E 9 0)])).length) Slot.unset).toArray = ls at hl ⊢
  exact TL_undo C hst htab  h w hl
theorem ydL_undo : yL_undo.cls = RL ∧ yL_undo.cls ≠ "java/lang/invoke/MethodHandle" ∧ yL_undo.cls ≠ "java/lang/invoke/VarHandle" ∧ (parseMethodDescriptor yL_undo.desc).map (fun d => d.parameters.length) = some 2 := by decide +kernel
theorem ynL_undo : yL_undo.cls ≠ "java/lang/invoke/MethodHandle" ∧ yL_undo.cls ≠ "java/lang/invoke/VarHandle" ∧ (parseMethodDescriptor yL_undo.desc).map (fun d => d.parameters.length) = some 2 := by decide +kernel
end XW
