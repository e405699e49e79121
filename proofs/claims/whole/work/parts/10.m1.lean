section XM1
variable {E : WE} {A : Nat → Prop} {p : Program} {l : Launch} {e : Env} {s : State} {m : MethodId} {args : Array Value} {below : List Frame} {meth : Method} {c : Code} {H : Heap} {locs : List Loc} {ls : Array Slot} {G : M3} {K : J3} {M : M2} {J : J2} {F g q : Nat} {g' q' : Nat}

/-! X5.thrown()I -/
abbrev rmX5_thrown : Room := { frames := 1, cells := 0, slots := 0, locals := 12 }
abbrev wdX5_thrown : Cond := Cond.code yX5_thrown cX5_thrown 1 (some .int)
noncomputable def fX5_thrown (M : M2) (J : J2)   : Int32 := (M 0 11)
set_option maxRecDepth 20000 in
set_option maxHeartbeats 1000000 in
theorem TX5_thrown {rr : Int32}  (C : Cx E A p s m args meth c wdX5_thrown cX5_thrown 1 (some .int) RX5)    (h : fX5_thrown M J  = rr) (w : Wd E A s (sg G 8 M) (sg K 8 J) H locs) (hl : lv_has ls 1 [(0, .ref (ad E 8 0))]) : W p l e rmX5_thrown s m args below meth c H locs 0 0 (QI E A below args s rr (sg G 8 M) (sg K 8 J)) (F0 m 0 ls []) := by
  obtain ⟨hx, hb, hr, hml, hown, hts, hlocks, hKK, hA1, hA2⟩ := id C
  unfold fX5_thrown at h
  refine lv_aload_n hx hb dX5_thrown_0 rfl (lv_at hl 0 rfl) ?_
  refine gL_X5_thrown C w q7_7 dX5_thrown_1 ?_
  exact x_ri C w h rfl rfl dX5_thrown_4
theorem mtX5_thrown      : MtI l yX5_thrown wdX5_thrown rmX5_thrown E [.ref (ad E 8 0)] (sg G 8 M) (sg K 8 J) (fX5_thrown M J ) (sg G 8 M) (sg K 8 J) := by
  intro sz
  refine Met.ofW (cc := cX5_thrown) (maxL := 1) (ret := (some .int)) (by decide) rfl ?_
  intro p e s m args below meth c s₁ B hml hv
  obtain ⟨rfl, C, w⟩ := Cx.of (own := RX5) B rfl hml hv
  have hl := lv_entry ([.ref (ad E 8 0)]) (n := 1) (by first | exact Nat.le_of_ble_eq_true rfl)
  rw [lg_entry_eq]
  generalize (lg_sl ([.ref (ad E 8 0)]) ++ List.replicate (1 - (lg_sl ([.ref (ad E 8 0)])).length) Slot.unset).toArray = ls at hl ⊢
  exact TX5_thrown C   rfl w hl
theorem ydX5_thrown : yX5_thrown.cls = RX5 ∧ yX5_thrown.cls ≠ "java/lang/invoke/MethodHandle" ∧ yX5_thrown.cls ≠ "java/lang/invoke/VarHandle" ∧ (parseMethodDescriptor yX5_thrown.desc).map (fun d => d.parameters.length) = some 0 := by decide +kernel
/-! X5.in(III)Z -/
abbrev rmX5_in : Room := { frames := 1, cells := 0, slots := 0, locals := 12 }
abbrev wdX5_in : Cond := Cond.code yX5_in cX5_in 3 (some .boolean)
noncomputable def fX5_in  (x1 : Int32) (x2 : Int32) (x3 : Int32)  : Int32 := (if x1 < x2 then ((0 : Int32)) else ((if x3 < x1 then ((0 : Int32)) else ((1 : Int32)))))
set_option maxRecDepth 20000 in
set_option maxHeartbeats 1000000 in
theorem TX5_in {rr : Int32}  (C : Cx E A p s m args meth c wdX5_in cX5_in 3 (some .boolean) RX5)  {x1 : Int32} {x2 : Int32} {x3 : Int32}  (h : fX5_in  x1 x2 x3 = rr) (w : Wd E A s G K H locs) (hl : lv_has ls 3 [(0, .int x1), (1, .int x2), (2, .int x3)]) : W p l e rmX5_in s m args below meth c H locs 0 0 (QI E A below args s rr G K) (F0 m 0 ls []) := by
  obtain ⟨hx, hb, hr, hml, hown, hts, hlocks, hKK, hA1, hA2⟩ := id C
  unfold fX5_in at h
  refine lv_iload_n hx hb dX5_in_0 rfl (lv_at hl 0 rfl) ?_
  refine lv_iload_n hx hb dX5_in_1 rfl (lv_at hl 1 rfl) ?_
  refine lv_icmp_lt (tgt := 14) hx hb dX5_in_2 (by decide) (fun c1 => ?_) (fun c1 => ?_)
  · replace h := ite_t h c1
    refine lv_iconst (v := (0 : Int32)) hx hb dX5_in_14 (by decide) ?_
    exact x_rz C w (Or.inl rfl) h rfl rfl dX5_in_15
  · replace h := ite_f h c1
    refine lv_iload_n hx hb dX5_in_5 rfl (lv_at hl 0 rfl) ?_
    refine lv_iload_n hx hb dX5_in_6 rfl (lv_at hl 2 rfl) ?_
    refine lv_icmp_gt (tgt := 14) hx hb dX5_in_7 (by decide) (fun c2 => ?_) (fun c2 => ?_)
    · replace h := ite_t h c2
      refine lv_iconst (v := (0 : Int32)) hx hb dX5_in_14 (by decide) ?_
      exact x_rz C w (Or.inl rfl) h rfl rfl dX5_in_15
    · replace h := ite_f h c2
      refine lv_iconst (v := (1 : Int32)) hx hb dX5_in_10 (by decide) ?_
      refine lv_goto (tgt := 15) hx hb dX5_in_11 (by decide) ?_
      exact x_rz C w (Or.inr rfl) h rfl rfl dX5_in_15
theorem mtX5_in   {x1 : Int32} {x2 : Int32} {x3 : Int32}   : MtI l yX5_in wdX5_in rmX5_in E [.int x1, .int x2, .int x3] G K (fX5_in  x1 x2 x3) G K := by
  intro sz
  refine Met.ofW (cc := cX5_in) (maxL := 3) (ret := (some .boolean)) (by decide) rfl ?_
  intro p e s m args below meth c s₁ B hml hv
  obtain ⟨rfl, C, w⟩ := Cx.of (own := RX5) B rfl hml hv
  have hl := lv_entry ([.int x1, .int x2, .int x3]) (n := 3) (by first | exact Nat.le_of_ble_eq_true rfl)
  rw [lg_entry_eq]
  generalize (lg_sl ([.int x1, .int x2, .int x3]) ++ List.replicate (3 - (lg_sl ([.int x1, .int x2, .int x3])).length) Slot.unset).toArray = ls at hl ⊢
  exact TX5_in C   rfl w hl
theorem ydX5_in : yX5_in.cls = RX5 ∧ yX5_in.cls ≠ "java/lang/invoke/MethodHandle" ∧ yX5_in.cls ≠ "java/lang/invoke/VarHandle" ∧ (parseMethodDescriptor yX5_in.desc).map (fun d => d.parameters.length) = some 3 := by decide +kernel
theorem ynX5_in : yX5_in.cls ≠ "java/lang/invoke/MethodHandle" ∧ yX5_in.cls ≠ "java/lang/invoke/VarHandle" ∧ (parseMethodDescriptor yX5_in.desc).map (fun d => d.parameters.length) = some 3 := by decide +kernel
theorem zX5_in  (x1 : Int32) (x2 : Int32) (x3 : Int32) : fX5_in  x1 x2 x3 = 0 ∨ fX5_in  x1 x2 x3 = 1 := by unfold fX5_in; (repeat' split) <;> first | exact Or.inl rfl | exact Or.inr rfl
/-! X5.fails(I)I -/
abbrev rmX5_fails : Room := { frames := 1, cells := 0, slots := 0, locals := 12 }
abbrev wdX5_fails : Cond := Cond.code yX5_fails cX5_fails 2 (some .int)
noncomputable def fX5_fails  (x1 : Int32) (M : M2) (J : J2) : Option (Int32 × M2 × J2) := bnd (up2 M 0 11 x1) (fun M1 => some ((0 : Int32), M1, J))
set_option maxRecDepth 20000 in
set_option maxHeartbeats 1000000 in
theorem TX5_fails {rr : Int32} {MR : M2} {JR : J2}  (C : Cx E A p s m args meth c wdX5_fails cX5_fails 2 (some .int) RX5)  {x1 : Int32}  (h : fX5_fails  x1 M J = some (rr, MR, JR)) (w : Wd E A s (sg G 8 M) (sg K 8 J) H locs) (hl : lv_has ls 2 [(0, .ref (ad E 8 0)), (1, .int x1)]) : W p l e rmX5_fails s m args below meth c H locs 0 0 (QI E A below args s rr (sg G 8 MR) (sg K 8 JR)) (F0 m 0 ls []) := by
  obtain ⟨hx, hb, hr, hml, hown, hts, hlocks, hKK, hA1, hA2⟩ := id C
  unfold fX5_fails at h
  refine lv_aload_n hx hb dX5_fails_0 rfl (lv_at hl 0 rfl) ?_
  refine lv_iload_n hx hb dX5_fails_1 rfl (lv_at hl 1 rfl) ?_
  refine pL_X5_thrown C w q7_7 dX5_fails_2 (fun M1 H locs e2 w => ?_)
  replace h := bnd_of h e2
  refine lv_iconst (v := (0 : Int32)) hx hb dX5_fails_5 (by decide) ?_
  obtain ⟨e1, e2, e3⟩ := rt3 h
  exact x_ri C w e1 (by rw [e2]) (by rw [e3]) dX5_fails_6
theorem mtX5_fails {rr : Int32} {MR : M2} {JR : J2}   {x1 : Int32}  (h : fX5_fails  x1 M J = some (rr, MR, JR)) : MtI l yX5_fails wdX5_fails rmX5_fails E [.ref (ad E 8 0), .int x1] (sg G 8 M) (sg K 8 J) rr (sg G 8 MR) (sg K 8 JR) := by
  intro sz
  refine Met.ofW (cc := cX5_fails) (maxL := 2) (ret := (some .int)) (by decide) rfl ?_
  intro p e s m args below meth c s₁ B hml hv
  obtain ⟨rfl, C, w⟩ := Cx.of (own := RX5) B rfl hml hv
  have hl := lv_entry ([.ref (ad E 8 0), .int x1]) (n := 2) (by first | exact Nat.le_of_ble_eq_true rfl)
  rw [lg_entry_eq]
  generalize (lg_sl ([.ref (ad E 8 0), .int x1]) ++ List.replicate (2 - (lg_sl ([.ref (ad E 8 0), .int x1])).length) Slot.unset).toArray = ls at hl ⊢
  exact TX5_fails C   h w hl
theorem ydX5_fails : yX5_fails.cls = RX5 ∧ yX5_fails.cls ≠ "java/lang/invoke/MethodHandle" ∧ yX5_fails.cls ≠ "java/lang/invoke/VarHandle" ∧ (parseMethodDescriptor yX5_fails.desc).map (fun d => d.parameters.length) = some 1 := by decide +kernel
/-! X5.tells(I)I -/
abbrev rmX5_tells : Room := { frames := 1, cells := 0, slots := 0, locals := 12 }
abbrev wdX5_tells : Cond := Cond.code yX5_tells cX5_tells 2 (some .int)
noncomputable def fX5_tells  (x1 : Int32) (M : M2) (J : J2) : Option (Int32 × M2 × J2) := bnd (up2 M 0 11 (0 : Int32)) (fun M1 => some (x1, M1, J))
set_option maxRecDepth 20000 in
set_option maxHeartbeats 1000000 in
theorem TX5_tells {rr : Int32} {MR : M2} {JR : J2}  (C : Cx E A p s m args meth c wdX5_tells cX5_tells 2 (some .int) RX5)  {x1 : Int32}  (h : fX5_tells  x1 M J = some (rr, MR, JR)) (w : Wd E A s (sg G 8 M) (sg K 8 J) H locs) (hl : lv_has ls 2 [(0, .ref (ad E 8 0)), (1, .int x1)]) : W p l e rmX5_tells s m args below meth c H locs 0 0 (QI E A below args s rr (sg G 8 MR) (sg K 8 JR)) (F0 m 0 ls []) := by
  obtain ⟨hx, hb, hr, hml, hown, hts, hlocks, hKK, hA1, hA2⟩ := id C
  unfold fX5_tells at h
  refine lv_aload_n hx hb dX5_tells_0 rfl (lv_at hl 0 rfl) ?_
  refine lv_iconst (v := (0 : Int32)) hx hb dX5_tells_1 (by decide) ?_
  refine pL_X5_thrown C w q7_7 dX5_tells_2 (fun M1 H locs e2 w => ?_)
  replace h := bnd_of h e2
  refine lv_iload_n hx hb dX5_tells_5 rfl (lv_at hl 1 rfl) ?_
  obtain ⟨e1, e2, e3⟩ := rt3 h
  exact x_ri C w e1 (by rw [e2]) (by rw [e3]) dX5_tells_6
theorem mtX5_tells {rr : Int32} {MR : M2} {JR : J2}   {x1 : Int32}  (h : fX5_tells  x1 M J = some (rr, MR, JR)) : MtI l yX5_tells wdX5_tells rmX5_tells E [.ref (ad E 8 0), .int x1] (sg G 8 M) (sg K 8 J) rr (sg G 8 MR) (sg K 8 JR) := by
  intro sz
  refine Met.ofW (cc := cX5_tells) (maxL := 2) (ret := (some .int)) (by decide) rfl ?_
  intro p e s m args below meth c s₁ B hml hv
  obtain ⟨rfl, C, w⟩ := Cx.of (own := RX5) B rfl hml hv
  have hl := lv_entry ([.ref (ad E 8 0), .int x1]) (n := 2) (by first | exact Nat.le_of_ble_eq_true rfl)
  rw [lg_entry_eq]
  generalize (lg_sl ([.ref (ad E 8 0), .int x1]) ++ List.replicate (2 - (lg_sl ([.ref (ad E 8 0), .int x1])).length) Slot.unset).toArray = ls at hl ⊢
  exact TX5_tells C   h w hl
theorem ydX5_tells : yX5_tells.cls = RX5 ∧ yX5_tells.cls ≠ "java/lang/invoke/MethodHandle" ∧ yX5_tells.cls ≠ "java/lang/invoke/VarHandle" ∧ (parseMethodDescriptor yX5_tells.desc).map (fun d => d.parameters.length) = some 1 := by decide +kernel
/-! X5.isOne(I)Z -/
abbrev rmX5_isOne : Room := { frames := 2, cells := 0, slots := 0, locals := 34 }
abbrev wdX5_isOne : Cond := Cond.code yX5_isOne cX5_isOne 2 (some .boolean)
noncomputable def fX5_isOne (M : M2) (J : J2) (x1 : Int32)  : Int32 := (fX5_in x1 (0 : Int32) ((M 1 10) - (1 : Int32)))
set_option maxRecDepth 20000 in
set_option maxHeartbeats 1000000 in
theorem TX5_isOne {rr : Int32}  (C : Cx E A p s m args meth c wdX5_isOne cX5_isOne 2 (some .boolean) RX5)  {x1 : Int32}  (h : fX5_isOne M J x1 = rr) (w : Wd E A s (sg G 8 M) (sg K 8 J) H locs) (hl : lv_has ls 2 [(0, .ref (ad E 8 0)), (1, .int x1)]) : W p l e rmX5_isOne s m args below meth c H locs 0 0 (QI E A below args s rr (sg G 8 M) (sg K 8 J)) (F0 m 0 ls []) := by
  obtain ⟨hx, hb, hr, hml, hown, hts, hlocks, hKK, hA1, hA2⟩ := id C
  unfold fX5_isOne at h
  refine lv_iload_n hx hb dX5_isOne_0 rfl (lv_at hl 1 rfl) ?_
  refine lv_iconst (v := (0 : Int32)) hx hb dX5_isOne_1 (by decide) ?_
  refine lv_aload_n hx hb dX5_isOne_2 rfl (lv_at hl 0 rfl) ?_
  refine gR_X5_s C w q3_16 dX5_isOne_3 ?_
  refine lv_bipush (v := (10 : Int32)) hx hb dX5_isOne_6 (by decide) ?_
  refine x_aldI_L C w (v8 (by decide)) c8_1 (inb_k (k := 10) (by decide) (by decide)) cl_10 dX5_isOne_8 ?_
  refine lv_iconst (v := (1 : Int32)) hx hb dX5_isOne_9 (by decide) ?_
  refine lv_isub hx hb dX5_isOne_10 ?_
  refine x_cSi (As := [.int x1, .int (0 : Int32), .int ((M 1 10) - (1 : Int32))]) (rest := []) C w (mtX5_in ) q7_0 q7_1 q1_5 q7_2 ydX5_in ⟨rfl, rfl⟩ ⟨by decide, by decide⟩ ⟨Nat.zero_le _, Nat.zero_le _⟩ hl.1 (Nat.le_of_ble_eq_true rfl) rfl dX5_isOne_11 (fun H locs w => ?_)
  exact x_rz C w (by apply zX5_in) h rfl rfl dX5_isOne_14
theorem mtX5_isOne   {x1 : Int32}   : MtI l yX5_isOne wdX5_isOne rmX5_isOne E [.ref (ad E 8 0), .int x1] (sg G 8 M) (sg K 8 J) (fX5_isOne M J x1) (sg G 8 M) (sg K 8 J) := by
  intro sz
  refine Met.ofW (cc := cX5_isOne) (maxL := 2) (ret := (some .boolean)) (by decide) rfl ?_
  intro p e s m args below meth c s₁ B hml hv
  obtain ⟨rfl, C, w⟩ := Cx.of (own := RX5) B rfl hml hv
  have hl := lv_entry ([.ref (ad E 8 0), .int x1]) (n := 2) (by first | exact Nat.le_of_ble_eq_true rfl)
  rw [lg_entry_eq]
  generalize (lg_sl ([.ref (ad E 8 0), .int x1]) ++ List.replicate (2 - (lg_sl ([.ref (ad E 8 0), .int x1])).length) Slot.unset).toArray = ls at hl ⊢
  exact TX5_isOne C   rfl w hl
theorem ydX5_isOne : yX5_isOne.cls = RX5 ∧ yX5_isOne.cls ≠ "java/lang/invoke/MethodHandle" ∧ yX5_isOne.cls ≠ "java/lang/invoke/VarHandle" ∧ (parseMethodDescriptor yX5_isOne.desc).map (fun d => d.parameters.length) = some 1 := by decide +kernel
theorem zX5_isOne (M : M2) (J : J2) (x1 : Int32) : fX5_isOne M J x1 = 0 ∨ fX5_isOne M J x1 = 1 := by unfold fX5_isOne; (repeat' split) <;> first | exact Or.inl rfl | exact Or.inr rfl | apply zX5_in
/-! X5.its(II)I -/
abbrev rmX5_its : Room := { frames := 1, cells := 0, slots := 0, locals := 12 }
abbrev wdX5_its : Cond := Cond.code yX5_its cX5_its 3 (some .int)
noncomputable def fX5_its (M : M2) (J : J2) (x1 : Int32) (x2 : Int32)  : Option Int32 := chk (inb (((21 : Int32) + ((7 : Int32) * x1)) + x2) 61) (some (M 1 (((21 : Int32) + ((7 : Int32) * x1)) + x2).toNatClampNeg))
set_option maxRecDepth 20000 in
set_option maxHeartbeats 1000000 in
theorem TX5_its {rr : Int32}  (C : Cx E A p s m args meth c wdX5_its cX5_its 3 (some .int) RX5)  {x1 : Int32} {x2 : Int32}  (h : fX5_its M J x1 x2 = some rr) (w : Wd E A s (sg G 8 M) (sg K 8 J) H locs) (hl : lv_has ls 3 [(0, .ref (ad E 8 0)), (1, .int x1), (2, .int x2)]) : W p l e rmX5_its s m args below meth c H locs 0 0 (QI E A below args s rr (sg G 8 M) (sg K 8 J)) (F0 m 0 ls []) := by
  obtain ⟨hx, hb, hr, hml, hown, hts, hlocks, hKK, hA1, hA2⟩ := id C
  unfold fX5_its at h
  refine lv_aload_n hx hb dX5_its_0 rfl (lv_at hl 0 rfl) ?_
  refine gR_X5_s C w q3_16 dX5_its_1 ?_
  refine lv_bipush (v := (21 : Int32)) hx hb dX5_its_4 (by decide) ?_
  refine lv_bipush (v := (7 : Int32)) hx hb dX5_its_6 (by decide) ?_
  refine lv_iload_n hx hb dX5_its_8 rfl (lv_at hl 1 rfl) ?_
  refine lv_imul hx hb dX5_its_9 ?_
  refine lv_iadd hx hb dX5_its_10 ?_
  refine lv_iload_n hx hb dX5_its_11 rfl (lv_at hl 2 rfl) ?_
  refine lv_iadd hx hb dX5_its_12 ?_
  obtain ⟨ki1, h⟩ := chk_of h
  refine x_aldI_L C w (v8 (by decide)) c8_1 ki1 rfl dX5_its_13 ?_
  have e1 := Option.some.inj h
  exact x_ri C w e1 rfl rfl dX5_its_14
theorem mtX5_its {rr : Int32}   {x1 : Int32} {x2 : Int32}  (h : fX5_its M J x1 x2 = some rr) : MtI l yX5_its wdX5_its rmX5_its E [.ref (ad E 8 0), .int x1, .int x2] (sg G 8 M) (sg K 8 J) rr (sg G 8 M) (sg K 8 J) := by
  intro sz
  refine Met.ofW (cc := cX5_its) (maxL := 3) (ret := (some .int)) (by decide) rfl ?_
  intro p e s m args below meth c s₁ B hml hv
  obtain ⟨rfl, C, w⟩ := Cx.of (own := RX5) B rfl hml hv
  have hl := lv_entry ([.ref (ad E 8 0), .int x1, .int x2]) (n := 3) (by first | exact Nat.le_of_ble_eq_true rfl)
  rw [lg_entry_eq]
  generalize (lg_sl ([.ref (ad E 8 0), .int x1, .int x2]) ++ List.replicate (3 - (lg_sl ([.ref (ad E 8 0), .int x1, .int x2])).length) Slot.unset).toArray = ls at hl ⊢
  exact TX5_its C   h w hl
theorem ydX5_its : yX5_its.cls = RX5 ∧ yX5_its.cls ≠ "java/lang/invoke/MethodHandle" ∧ yX5_its.cls ≠ "java/lang/invoke/VarHandle" ∧ (parseMethodDescriptor yX5_its.desc).map (fun d => d.parameters.length) = some 2 := by decide +kernel
/-! X5.put(III)V -/
abbrev rmX5_put : Room := { frames := 1, cells := 0, slots := 0, locals := 12 }
abbrev wdX5_put : Cond := Cond.code yX5_put cX5_put 4 none
noncomputable def fX5_put  (x1 : Int32) (x2 : Int32) (x3 : Int32) (M : M2) (J : J2) : Option (M2 × J2) := chk (inb (((21 : Int32) + ((7 : Int32) * x1)) + x2) 61) (bnd (up2 M 1 ((((21 : Int32) + ((7 : Int32) * x1)) + x2).toNatClampNeg) x3) (fun M2 => some (M2, J)))
set_option maxRecDepth 20000 in
set_option maxHeartbeats 1000000 in
theorem TX5_put {MR : M2} {JR : J2}  (C : Cx E A p s m args meth c wdX5_put cX5_put 4 none RX5)  {x1 : Int32} {x2 : Int32} {x3 : Int32}  (h : fX5_put  x1 x2 x3 M J = some (MR, JR)) (w : Wd E A s (sg G 8 M) (sg K 8 J) H locs) (hl : lv_has ls 4 [(0, .ref (ad E 8 0)), (1, .int x1), (2, .int x2), (3, .int x3)]) : W p l e rmX5_put s m args below meth c H locs 0 0 (QV E A below args s  (sg G 8 MR) (sg K 8 JR)) (F0 m 0 ls []) := by
  obtain ⟨hx, hb, hr, hml, hown, hts, hlocks, hKK, hA1, hA2⟩ := id C
  unfold fX5_put at h
  refine lv_aload_n hx hb dX5_put_0 rfl (lv_at hl 0 rfl) ?_
  refine gR_X5_s C w q3_16 dX5_put_1 ?_
  refine lv_bipush (v := (21 : Int32)) hx hb dX5_put_4 (by decide) ?_
  refine lv_bipush (v := (7 : Int32)) hx hb dX5_put_6 (by decide) ?_
  refine lv_iload_n hx hb dX5_put_8 rfl (lv_at hl 1 rfl) ?_
  refine lv_imul hx hb dX5_put_9 ?_
  refine lv_iadd hx hb dX5_put_10 ?_
  refine lv_iload_n hx hb dX5_put_11 rfl (lv_at hl 2 rfl) ?_
  refine lv_iadd hx hb dX5_put_12 ?_
  refine lv_iload_n hx hb dX5_put_13 rfl (lv_at hl 3 rfl) ?_
  obtain ⟨ki1, h⟩ := chk_of h
  refine x_astI_L C w (v8 (by decide)) c8_1 ki1 rfl dX5_put_14 (fun M2 H locs e3 w => ?_)
  replace h := bnd_of h e3
  obtain ⟨e2, e3⟩ := rt2 h
  exact x_rv C w (by rw [e2]) (by rw [e3]) dX5_put_15
theorem mtX5_put {MR : M2} {JR : J2}   {x1 : Int32} {x2 : Int32} {x3 : Int32}  (h : fX5_put  x1 x2 x3 M J = some (MR, JR)) : MtV l yX5_put wdX5_put rmX5_put E [.ref (ad E 8 0), .int x1, .int x2, .int x3] (sg G 8 M) (sg K 8 J)  (sg G 8 MR) (sg K 8 JR) := by
  intro sz
  refine Met.ofW (cc := cX5_put) (maxL := 4) (ret := none) (by decide) rfl ?_
  intro p e s m args below meth c s₁ B hml hv
  obtain ⟨rfl, C, w⟩ := Cx.of (own := RX5) B rfl hml hv
  have hl := lv_entry ([.ref (ad E 8 0), .int x1, .int x2, .int x3]) (n := 4) (by first | exact Nat.le_of_ble_eq_true rfl)
  rw [lg_entry_eq]
  generalize (lg_sl ([.ref (ad E 8 0), .int x1, .int x2, .int x3]) ++ List.replicate (4 - (lg_sl ([.ref (ad E 8 0), .int x1, .int x2, .int x3])).length) Slot.unset).toArray = ls at hl ⊢
  exact TX5_put C   h w hl
theorem ydX5_put : yX5_put.cls = RX5 ∧ yX5_put.cls ≠ "java/lang/invoke/MethodHandle" ∧ yX5_put.cls ≠ "java/lang/invoke/VarHandle" ∧ (parseMethodDescriptor yX5_put.desc).map (fun d => d.parameters.length) = some 3 := by decide +kernel
/-! X5.pressure()I -/
abbrev rmX5_pressure : Room := { frames := 1, cells := 0, slots := 0, locals := 12 }
abbrev wdX5_pressure : Cond := Cond.code yX5_pressure cX5_pressure 1 (some .int)
noncomputable def fX5_pressure (M : M2) (J : J2)   : Option Int32 := chk (¬ (M 1 0) = 0) (some (((M 1 1) * (1000 : Int32)) / (M 1 0)))
set_option maxRecDepth 20000 in
set_option maxHeartbeats 1000000 in
theorem TX5_pressure {rr : Int32}  (C : Cx E A p s m args meth c wdX5_pressure cX5_pressure 1 (some .int) RX5)    (h : fX5_pressure M J  = some rr) (w : Wd E A s (sg G 8 M) (sg K 8 J) H locs) (hl : lv_has ls 1 [(0, .ref (ad E 8 0))]) : W p l e rmX5_pressure s m args below meth c H locs 0 0 (QI E A below args s rr (sg G 8 M) (sg K 8 J)) (F0 m 0 ls []) := by
  obtain ⟨hx, hb, hr, hml, hown, hts, hlocks, hKK, hA1, hA2⟩ := id C
  unfold fX5_pressure at h
  refine lv_aload_n hx hb dX5_pressure_0 rfl (lv_at hl 0 rfl) ?_
  refine gR_X5_s C w q3_16 dX5_pressure_1 ?_
  refine lv_iconst (v := (1 : Int32)) hx hb dX5_pressure_4 (by decide) ?_
  refine x_aldI_L C w (v8 (by decide)) c8_1 (inb_k (k := 1) (by decide) (by decide)) cl_1 dX5_pressure_5 ?_
  refine lv_sipush (v := (1000 : Int32)) hx hb dX5_pressure_6 (by decide) ?_
  refine lv_imul hx hb dX5_pressure_9 ?_
  refine lv_aload_n hx hb dX5_pressure_10 rfl (lv_at hl 0 rfl) ?_
  refine gR_X5_s C w q3_16 dX5_pressure_11 ?_
  refine lv_iconst (v := (0 : Int32)) hx hb dX5_pressure_14 (by decide) ?_
  refine x_aldI_L C w (v8 (by decide)) c8_1 (inb_k (k := 0) (by decide) (by decide)) cl_0 dX5_pressure_15 ?_
  obtain ⟨kz1, h⟩ := chk_of h
  refine lv_idiv hx hb dX5_pressure_16 kz1 ?_
  have e1 := Option.some.inj h
  exact x_ri C w e1 rfl rfl dX5_pressure_17
theorem mtX5_pressure {rr : Int32}     (h : fX5_pressure M J  = some rr) : MtI l yX5_pressure wdX5_pressure rmX5_pressure E [.ref (ad E 8 0)] (sg G 8 M) (sg K 8 J) rr (sg G 8 M) (sg K 8 J) := by
  intro sz
  refine Met.ofW (cc := cX5_pressure) (maxL := 1) (ret := (some .int)) (by decide) rfl ?_
  intro p e s m args below meth c s₁ B hml hv
  obtain ⟨rfl, C, w⟩ := Cx.of (own := RX5) B rfl hml hv
  have hl := lv_entry ([.ref (ad E 8 0)]) (n := 1) (by first | exact Nat.le_of_ble_eq_true rfl)
  rw [lg_entry_eq]
  generalize (lg_sl ([.ref (ad E 8 0)]) ++ List.replicate (1 - (lg_sl ([.ref (ad E 8 0)])).length) Slot.unset).toArray = ls at hl ⊢
  exact TX5_pressure C   h w hl
theorem ydX5_pressure : yX5_pressure.cls = RX5 ∧ yX5_pressure.cls ≠ "java/lang/invoke/MethodHandle" ∧ yX5_pressure.cls ≠ "java/lang/invoke/VarHandle" ∧ (parseMethodDescriptor yX5_pressure.desc).map (fun d => d.parameters.length) = some 0 := by decide +kernel
/-! X5.holds()V -/
abbrev rmX5_holds : Room := { frames := 1, cells := 0, slots := 0, locals := 12 }
abbrev wdX5_holds : Cond := Cond.code yX5_holds cX5_holds 2 none
noncomputable def fsX5_holds_28 (F : Nat)   (k28 : Int32 → M2 → J2 → Option (M2 × J2)) : Int32 → M2 → J2 → Option (M2 × J2) := fun a1 M J => (if (6 : Int32) ≤ a1 then (some (M, J)) else (chk (inb a1 6) (chk (inb a1 6) (bnd (up2 J 8 (a1.toNatClampNeg) (J 2 a1.toNatClampNeg)) (fun J4 => k28 (a1 + (1 : Int32)) M J4)))))
noncomputable def fbX5_holds_28 (F : Nat)   (n : Nat) : Int32 → M2 → J2 → Option (M2 × J2) := itr (fsX5_holds_28 F ) (fun _ _ _ => none) n
set_option maxRecDepth 20000 in
set_option maxHeartbeats 1000000 in
theorem SX5_holds_28 {MR : M2} {JR : J2}   {k28 : Int32 → M2 → J2 → Option (M2 × J2)} (C : Cx E A p s m args meth c wdX5_holds cX5_holds 2 none RX5)   (hk28 : ∀ (a1 : Int32) (M : M2) (J : J2)  (ls : Array Slot) (H : Heap) (locs : List Loc), k28 a1 M J = some (MR, JR) → Wd E A s (sg G 8 M) (sg K 8 J) H locs → lv_has ls 2 [(0, .ref (ad E 8 0)), (1, .int a1)] → W p l e rmX5_holds s m args below meth c H locs 0 0 (QV E A below args s  (sg G 8 MR) (sg K 8 JR)) (F0 m 28 ls [])) (a1 : Int32) (M : M2) (J : J2)  (h : fsX5_holds_28 F  k28 a1 M J = some (MR, JR)) (w : Wd E A s (sg G 8 M) (sg K 8 J) H locs) (hl : lv_has ls 2 [(0, .ref (ad E 8 0)), (1, .int a1)]) : W p l e rmX5_holds s m args below meth c H locs 0 0 (QV E A below args s  (sg G 8 MR) (sg K 8 JR)) (F0 m 28 ls []) := by
  obtain ⟨hx, hb, hr, hml, hown, hts, hlocks, hKK, hA1, hA2⟩ := id C
  unfold fsX5_holds_28 at h
  refine lv_iload_n hx hb dX5_holds_28 rfl (lv_at hl 1 rfl) ?_
  refine lv_bipush (v := (6 : Int32)) hx hb dX5_holds_29 (by decide) ?_
  refine lv_icmp_ge (tgt := 52) hx hb dX5_holds_31 (by decide) (fun c1 => ?_) (fun c1 => ?_)
  · replace h := ite_t h c1
    obtain ⟨e2, e3⟩ := rt2 h
    exact x_rv C w (by rw [e2]) (by rw [e3]) dX5_holds_52
  · replace h := ite_f h c1
    refine lv_aload_n hx hb dX5_holds_34 rfl (lv_at hl 0 rfl) ?_
    refine gR_X5_beforeB C w q3_23 dX5_holds_35 ?_
    refine lv_iload_n hx hb dX5_holds_38 rfl (lv_at hl 1 rfl) ?_
    refine lv_aload_n hx hb dX5_holds_39 rfl (lv_at hl 0 rfl) ?_
    refine gR_X5_b C w q3_17 dX5_holds_40 ?_
    refine lv_iload_n hx hb dX5_holds_43 rfl (lv_at hl 1 rfl) ?_
    obtain ⟨ki2, h⟩ := chk_of h
    refine x_aldJ_L C w (v8 (by decide)) c8_2 ki2 rfl dX5_holds_44 ?_
    obtain ⟨ki3, h⟩ := chk_of h
    refine x_astJ_L C w (v8 (by decide)) c8_8 ki3 rfl dX5_holds_45 (fun J4 H locs e5 w => ?_)
    replace h := bnd_of h e5
    refine lv_iinc (v := (a1 + (1 : Int32))) (lv' := [(1, .int (a1 + (1 : Int32))), (0, .ref (ad E 8 0))]) hx hb dX5_holds_46 hl (k := 1) rfl (congrArg (HAdd.hAdd _) (by decide)) (by decide) rfl (fun ls hl => ?_)
    refine lv_goto (tgt := 28) hx hb dX5_holds_49 (by decide) ?_
    exact hk28 _ _ _ _ _ _ h w (lv_sub hl [1, 0] rfl)
theorem TX5_holds_28 {MR : M2} {JR : J2}   (C : Cx E A p s m args meth c wdX5_holds cX5_holds 2 none RX5)   : ∀ (n : Nat) (a1 : Int32) (M : M2) (J : J2)  (ls : Array Slot) (H : Heap) (locs : List Loc), fbX5_holds_28 F  n a1 M J = some (MR, JR) → Wd E A s (sg G 8 M) (sg K 8 J) H locs → lv_has ls 2 [(0, .ref (ad E 8 0)), (1, .int a1)] → W p l e rmX5_holds s m args below meth c H locs 0 0 (QV E A below args s  (sg G 8 MR) (sg K 8 JR)) (F0 m 28 ls []) := by
  intro n
  induction n with
  | zero => intro a1 M J  ls H locs h; exact absurd (show none = _ from h) (fun z => nomatch z)
  | succ n ih => intro a1 M J  ls H locs h w hl; exact SX5_holds_28 (F := F) C   ih a1 M J  h w hl
noncomputable def fsX5_holds_2 (F : Nat)   (k2 : Int32 → M2 → J2 → Option (M2 × J2)) : Int32 → M2 → J2 → Option (M2 × J2) := fun a1 M J => (if (61 : Int32) ≤ a1 then (fbX5_holds_28 F F (0 : Int32) M J) else (chk (inb a1 61) (chk (inb a1 61) (bnd (up2 M 7 (a1.toNatClampNeg) (M 1 a1.toNatClampNeg)) (fun M4 => k2 (a1 + (1 : Int32)) M4 J)))))
noncomputable def fbX5_holds_2 (F : Nat)   (n : Nat) : Int32 → M2 → J2 → Option (M2 × J2) := itr (fsX5_holds_2 F ) (fun _ _ _ => none) n
set_option maxRecDepth 20000 in
set_option maxHeartbeats 1000000 in
theorem SX5_holds_2 {MR : M2} {JR : J2}   {k2 : Int32 → M2 → J2 → Option (M2 × J2)} (C : Cx E A p s m args meth c wdX5_holds cX5_holds 2 none RX5)   (hk2 : ∀ (a1 : Int32) (M : M2) (J : J2)  (ls : Array Slot) (H : Heap) (locs : List Loc), k2 a1 M J = some (MR, JR) → Wd E A s (sg G 8 M) (sg K 8 J) H locs → lv_has ls 2 [(0, .ref (ad E 8 0)), (1, .int a1)] → W p l e rmX5_holds s m args below meth c H locs 0 0 (QV E A below args s  (sg G 8 MR) (sg K 8 JR)) (F0 m 2 ls [])) (a1 : Int32) (M : M2) (J : J2)  (h : fsX5_holds_2 F  k2 a1 M J = some (MR, JR)) (w : Wd E A s (sg G 8 M) (sg K 8 J) H locs) (hl : lv_has ls 2 [(0, .ref (ad E 8 0)), (1, .int a1)]) : W p l e rmX5_holds s m args below meth c H locs 0 0 (QV E A below args s  (sg G 8 MR) (sg K 8 JR)) (F0 m 2 ls []) := by
  obtain ⟨hx, hb, hr, hml, hown, hts, hlocks, hKK, hA1, hA2⟩ := id C
  unfold fsX5_holds_2 at h
  refine lv_iload_n hx hb dX5_holds_2 rfl (lv_at hl 1 rfl) ?_
  refine lv_bipush (v := (61 : Int32)) hx hb dX5_holds_3 (by decide) ?_
  refine lv_icmp_ge (tgt := 26) hx hb dX5_holds_5 (by decide) (fun c1 => ?_) (fun c1 => ?_)
  · replace h := ite_t h c1
    refine lv_iconst (v := (0 : Int32)) hx hb dX5_holds_26 (by decide) ?_
    refine lv_istore_n (lv' := [(1, .int (0 : Int32)), (0, .ref (ad E 8 0))]) hx hb dX5_holds_27 rfl hl (by decide) rfl (fun ls hl => ?_)
    exact TX5_holds_28 C   _ _ _ _ _ _ _ h w (lv_sub hl [1, 0] rfl)
  · replace h := ite_f h c1
    refine lv_aload_n hx hb dX5_holds_8 rfl (lv_at hl 0 rfl) ?_
    refine gR_X5_before C w q3_22 dX5_holds_9 ?_
    refine lv_iload_n hx hb dX5_holds_12 rfl (lv_at hl 1 rfl) ?_
    refine lv_aload_n hx hb dX5_holds_13 rfl (lv_at hl 0 rfl) ?_
    refine gR_X5_s C w q3_16 dX5_holds_14 ?_
    refine lv_iload_n hx hb dX5_holds_17 rfl (lv_at hl 1 rfl) ?_
    obtain ⟨ki2, h⟩ := chk_of h
    refine x_aldI_L C w (v8 (by decide)) c8_1 ki2 rfl dX5_holds_18 ?_
    obtain ⟨ki3, h⟩ := chk_of h
    refine x_astI_L C w (v8 (by decide)) c8_7 ki3 rfl dX5_holds_19 (fun M4 H locs e5 w => ?_)
    replace h := bnd_of h e5
    refine lv_iinc (v := (a1 + (1 : Int32))) (lv' := [(1, .int (a1 + (1 : Int32))), (0, .ref (ad E 8 0))]) hx hb dX5_holds_20 hl (k := 1) rfl (congrArg (HAdd.hAdd _) (by decide)) (by decide) rfl (fun ls hl => ?_)
    refine lv_goto (tgt := 2) hx hb dX5_holds_23 (by decide) ?_
    exact hk2 _ _ _ _ _ _ h w (lv_sub hl [1, 0] rfl)
theorem TX5_holds_2 {MR : M2} {JR : J2}   (C : Cx E A p s m args meth c wdX5_holds cX5_holds 2 none RX5)   : ∀ (n : Nat) (a1 : Int32) (M : M2) (J : J2)  (ls : Array Slot) (H : Heap) (locs : List Loc), fbX5_holds_2 F  n a1 M J = some (MR, JR) → Wd E A s (sg G 8 M) (sg K 8 J) H locs → lv_has ls 2 [(0, .ref (ad E 8 0)), (1, .int a1)] → W p l e rmX5_holds s m args below meth c H locs 0 0 (QV E A below args s  (sg G 8 MR) (sg K 8 JR)) (F0 m 2 ls []) := by
  intro n
  induction n with
  | zero => intro a1 M J  ls H locs h; exact absurd (show none = _ from h) (fun z => nomatch z)
  | succ n ih => intro a1 M J  ls H locs h w hl; exact SX5_holds_2 (F := F) C   ih a1 M J  h w hl
noncomputable def fX5_holds (F : Nat)   (M : M2) (J : J2) : Option (M2 × J2) := fbX5_holds_2 F F (0 : Int32) M J
set_option maxRecDepth 20000 in
set_option maxHeartbeats 1000000 in
theorem TX5_holds {MR : M2} {JR : J2}  (C : Cx E A p s m args meth c wdX5_holds cX5_holds 2 none RX5)    (h : fX5_holds F  M J = some (MR, JR)) (w : Wd E A s (sg G 8 M) (sg K 8 J) H locs) (hl : lv_has ls 2 [(0, .ref (ad E 8 0))]) : W p l e rmX5_holds s m args below meth c H locs 0 0 (QV E A below args s  (sg G 8 MR) (sg K 8 JR)) (F0 m 0 ls []) := by
  obtain ⟨hx, hb, hr, hml, hown, hts, hlocks, hKK, hA1, hA2⟩ := id C
  unfold fX5_holds at h
  refine lv_iconst (v := (0 : Int32)) hx hb dX5_holds_0 (by decide) ?_
  refine lv_istore_n (lv' := [(1, .int (0 : Int32)), (0, .ref (ad E 8 0))]) hx hb dX5_holds_1 rfl hl (by decide) rfl (fun ls hl => ?_)
  exact TX5_holds_2 C   _ _ _ _ _ _ _ h w (lv_sub hl [1, 0] rfl)
theorem mtX5_holds {MR : M2} {JR : J2}     (h : fX5_holds F  M J = some (MR, JR)) : MtV l yX5_holds wdX5_holds rmX5_holds E [.ref (ad E 8 0)] (sg G 8 M) (sg K 8 J)  (sg G 8 MR) (sg K 8 JR) := by
  intro sz
  refine Met.ofW (cc := cX5_holds) (maxL := 2) (ret := none) (by decide) rfl ?_
  intro p e s m args below meth c s₁ B hml hv
  obtain ⟨rfl, C, w⟩ := Cx.of (own := RX5) B rfl hml hv
  have hl := lv_entry ([.ref (ad E 8 0)]) (n := 2) (by first | exact Nat.le_of_ble_eq_true rfl)
  rw [lg_entry_eq]
  generalize (lg_sl ([.ref (ad E 8 0)]) ++ List.replicate (2 - (lg_sl ([.ref (ad E 8 0)])).length) Slot.unset).toArray = ls at hl ⊢
  exact TX5_holds C   h w hl
theorem ydX5_holds : yX5_holds.cls = RX5 ∧ yX5_holds.cls ≠ "java/lang/invoke/MethodHandle" ∧ yX5_holds.cls ≠ "java/lang/invoke/VarHandle" ∧ (parseMethodDescriptor yX5_holds.desc).map (fun d => d.parameters.length) = some 0 := by decide +kernel
/-! X5.saves()V -/
abbrev rmX5_saves : Room := { frames := 1, cells := 0, slots := 0, locals := 12 }
abbrev wdX5_saves : Cond := Cond.code yX5_saves cX5_saves 2 none
noncomputable def fsX5_saves_113 (F : Nat)   (k113 : Int32 → M2 → J2 → Option (M2 × J2)) : Int32 → M2 → J2 → Option (M2 × J2) := fun a1 M J => (if (6 : Int32) ≤ a1 then (bnd (up2 M 0 8 ((M 0 8) + (1 : Int32))) (fun M2 => some (M2, J))) else (chk (inb a1 6) (chk (inb (((6 : Int32) * (M 0 8)) + a1) 24) (bnd (up2 J 4 ((((6 : Int32) * (M 0 8)) + a1).toNatClampNeg) (J 8 a1.toNatClampNeg)) (fun J6 => k113 (a1 + (1 : Int32)) M J6)))))
noncomputable def fbX5_saves_113 (F : Nat)   (n : Nat) : Int32 → M2 → J2 → Option (M2 × J2) := itr (fsX5_saves_113 F ) (fun _ _ _ => none) n
set_option maxRecDepth 20000 in
set_option maxHeartbeats 1000000 in
theorem SX5_saves_113 {MR : M2} {JR : J2}   {k113 : Int32 → M2 → J2 → Option (M2 × J2)} (C : Cx E A p s m args meth c wdX5_saves cX5_saves 2 none RX5)   (hk113 : ∀ (a1 : Int32) (M : M2) (J : J2)  (ls : Array Slot) (H : Heap) (locs : List Loc), k113 a1 M J = some (MR, JR) → Wd E A s (sg G 8 M) (sg K 8 J) H locs → lv_has ls 2 [(0, .ref (ad E 8 0)), (1, .int a1)] → W p l e rmX5_saves s m args below meth c H locs 0 0 (QV E A below args s  (sg G 8 MR) (sg K 8 JR)) (F0 m 113 ls [])) (a1 : Int32) (M : M2) (J : J2)  (h : fsX5_saves_113 F  k113 a1 M J = some (MR, JR)) (w : Wd E A s (sg G 8 M) (sg K 8 J) H locs) (hl : lv_has ls 2 [(0, .ref (ad E 8 0)), (1, .int a1)]) : W p l e rmX5_saves s m args below meth c H locs 0 0 (QV E A below args s  (sg G 8 MR) (sg K 8 JR)) (F0 m 113 ls []) := by
  obtain ⟨hx, hb, hr, hml, hown, hts, hlocks, hKK, hA1, hA2⟩ := id C
  unfold fsX5_saves_113 at h
  refine lv_iload_n hx hb dX5_saves_113 rfl (lv_at hl 1 rfl) ?_
  refine lv_bipush (v := (6 : Int32)) hx hb dX5_saves_114 (by decide) ?_
  refine lv_icmp_ge (tgt := 145) hx hb dX5_saves_116 (by decide) (fun c1 => ?_) (fun c1 => ?_)
  · replace h := ite_t h c1
    refine lv_aload_n hx hb dX5_saves_145 rfl (lv_at hl 0 rfl) ?_
    refine lv_dup hx hb dX5_saves_146 rfl ?_
    refine gL_X5_pasts C w q7_16 dX5_saves_147 ?_
    refine lv_iconst (v := (1 : Int32)) hx hb dX5_saves_150 (by decide) ?_
    refine lv_iadd hx hb dX5_saves_151 ?_
    refine pL_X5_pasts C w q7_16 dX5_saves_152 (fun M2 H locs e3 w => ?_)
    replace h := bnd_of h e3
    obtain ⟨e2, e3⟩ := rt2 h
    exact x_rv C w (by rw [e2]) (by rw [e3]) dX5_saves_155
  · replace h := ite_f h c1
    refine lv_aload_n hx hb dX5_saves_119 rfl (lv_at hl 0 rfl) ?_
    refine gR_X5_pastB C w q3_19 dX5_saves_120 ?_
    refine lv_bipush (v := (6 : Int32)) hx hb dX5_saves_123 (by decide) ?_
    refine lv_aload_n hx hb dX5_saves_125 rfl (lv_at hl 0 rfl) ?_
    refine gL_X5_pasts C w q7_16 dX5_saves_126 ?_
    refine lv_imul hx hb dX5_saves_129 ?_
    refine lv_iload_n hx hb dX5_saves_130 rfl (lv_at hl 1 rfl) ?_
    refine lv_iadd hx hb dX5_saves_131 ?_
    refine lv_aload_n hx hb dX5_saves_132 rfl (lv_at hl 0 rfl) ?_
    refine gR_X5_beforeB C w q3_23 dX5_saves_133 ?_
    refine lv_iload_n hx hb dX5_saves_136 rfl (lv_at hl 1 rfl) ?_
    obtain ⟨ki4, h⟩ := chk_of h
    refine x_aldJ_L C w (v8 (by decide)) c8_8 ki4 rfl dX5_saves_137 ?_
    obtain ⟨ki5, h⟩ := chk_of h
    refine x_astJ_L C w (v8 (by decide)) c8_4 ki5 rfl dX5_saves_138 (fun J6 H locs e7 w => ?_)
    replace h := bnd_of h e7
    refine lv_iinc (v := (a1 + (1 : Int32))) (lv' := [(1, .int (a1 + (1 : Int32))), (0, .ref (ad E 8 0))]) hx hb dX5_saves_139 hl (k := 1) rfl (congrArg (HAdd.hAdd _) (by decide)) (by decide) rfl (fun ls hl => ?_)
    refine lv_goto (tgt := 113) hx hb dX5_saves_142 (by decide) ?_
    exact hk113 _ _ _ _ _ _ h w (lv_sub hl [1, 0] rfl)
theorem TX5_saves_113 {MR : M2} {JR : J2}   (C : Cx E A p s m args meth c wdX5_saves cX5_saves 2 none RX5)   : ∀ (n : Nat) (a1 : Int32) (M : M2) (J : J2)  (ls : Array Slot) (H : Heap) (locs : List Loc), fbX5_saves_113 F  n a1 M J = some (MR, JR) → Wd E A s (sg G 8 M) (sg K 8 J) H locs → lv_has ls 2 [(0, .ref (ad E 8 0)), (1, .int a1)] → W p l e rmX5_saves s m args below meth c H locs 0 0 (QV E A below args s  (sg G 8 MR) (sg K 8 JR)) (F0 m 113 ls []) := by
  intro n
  induction n with
  | zero => intro a1 M J  ls H locs h; exact absurd (show none = _ from h) (fun z => nomatch z)
  | succ n ih => intro a1 M J  ls H locs h w hl; exact SX5_saves_113 (F := F) C   ih a1 M J  h w hl
noncomputable def fsX5_saves_79 (F : Nat)   (k79 : Int32 → M2 → J2 → Option (M2 × J2)) : Int32 → M2 → J2 → Option (M2 × J2) := fun a1 M J => (if (61 : Int32) ≤ a1 then (fbX5_saves_113 F F (0 : Int32) M J) else (chk (inb a1 61) (chk (inb (((61 : Int32) * (M 0 8)) + a1) 244) (bnd (up2 M 3 ((((61 : Int32) * (M 0 8)) + a1).toNatClampNeg) (M 7 a1.toNatClampNeg)) (fun M4 => k79 (a1 + (1 : Int32)) M4 J)))))
noncomputable def fbX5_saves_79 (F : Nat)   (n : Nat) : Int32 → M2 → J2 → Option (M2 × J2) := itr (fsX5_saves_79 F ) (fun _ _ _ => none) n
set_option maxRecDepth 20000 in
set_option maxHeartbeats 1000000 in
theorem SX5_saves_79 {MR : M2} {JR : J2}   {k79 : Int32 → M2 → J2 → Option (M2 × J2)} (C : Cx E A p s m args meth c wdX5_saves cX5_saves 2 none RX5)   (hk79 : ∀ (a1 : Int32) (M : M2) (J : J2)  (ls : Array Slot) (H : Heap) (locs : List Loc), k79 a1 M J = some (MR, JR) → Wd E A s (sg G 8 M) (sg K 8 J) H locs → lv_has ls 2 [(0, .ref (ad E 8 0)), (1, .int a1)] → W p l e rmX5_saves s m args below meth c H locs 0 0 (QV E A below args s  (sg G 8 MR) (sg K 8 JR)) (F0 m 79 ls [])) (a1 : Int32) (M : M2) (J : J2)  (h : fsX5_saves_79 F  k79 a1 M J = some (MR, JR)) (w : Wd E A s (sg G 8 M) (sg K 8 J) H locs) (hl : lv_has ls 2 [(0, .ref (ad E 8 0)), (1, .int a1)]) : W p l e rmX5_saves s m args below meth c H locs 0 0 (QV E A below args s  (sg G 8 MR) (sg K 8 JR)) (F0 m 79 ls []) := by
  obtain ⟨hx, hb, hr, hml, hown, hts, hlocks, hKK, hA1, hA2⟩ := id C
  unfold fsX5_saves_79 at h
  refine lv_iload_n hx hb dX5_saves_79 rfl (lv_at hl 1 rfl) ?_
  refine lv_bipush (v := (61 : Int32)) hx hb dX5_saves_80 (by decide) ?_
  refine lv_icmp_ge (tgt := 111) hx hb dX5_saves_82 (by decide) (fun c1 => ?_) (fun c1 => ?_)
  · replace h := ite_t h c1
    refine lv_iconst (v := (0 : Int32)) hx hb dX5_saves_111 (by decide) ?_
    refine lv_istore_n (lv' := [(1, .int (0 : Int32)), (0, .ref (ad E 8 0))]) hx hb dX5_saves_112 rfl hl (by decide) rfl (fun ls hl => ?_)
    exact TX5_saves_113 C   _ _ _ _ _ _ _ h w (lv_sub hl [1, 0] rfl)
  · replace h := ite_f h c1
    refine lv_aload_n hx hb dX5_saves_85 rfl (lv_at hl 0 rfl) ?_
    refine gR_X5_past C w q3_18 dX5_saves_86 ?_
    refine lv_bipush (v := (61 : Int32)) hx hb dX5_saves_89 (by decide) ?_
    refine lv_aload_n hx hb dX5_saves_91 rfl (lv_at hl 0 rfl) ?_
    refine gL_X5_pasts C w q7_16 dX5_saves_92 ?_
    refine lv_imul hx hb dX5_saves_95 ?_
    refine lv_iload_n hx hb dX5_saves_96 rfl (lv_at hl 1 rfl) ?_
    refine lv_iadd hx hb dX5_saves_97 ?_
    refine lv_aload_n hx hb dX5_saves_98 rfl (lv_at hl 0 rfl) ?_
    refine gR_X5_before C w q3_22 dX5_saves_99 ?_
    refine lv_iload_n hx hb dX5_saves_102 rfl (lv_at hl 1 rfl) ?_
    obtain ⟨ki2, h⟩ := chk_of h
    refine x_aldI_L C w (v8 (by decide)) c8_7 ki2 rfl dX5_saves_103 ?_
    obtain ⟨ki3, h⟩ := chk_of h
    refine x_astI_L C w (v8 (by decide)) c8_3 ki3 rfl dX5_saves_104 (fun M4 H locs e5 w => ?_)
    replace h := bnd_of h e5
    refine lv_iinc (v := (a1 + (1 : Int32))) (lv' := [(1, .int (a1 + (1 : Int32))), (0, .ref (ad E 8 0))]) hx hb dX5_saves_105 hl (k := 1) rfl (congrArg (HAdd.hAdd _) (by decide)) (by decide) rfl (fun ls hl => ?_)
    refine lv_goto (tgt := 79) hx hb dX5_saves_108 (by decide) ?_
    exact hk79 _ _ _ _ _ _ h w (lv_sub hl [1, 0] rfl)
theorem TX5_saves_79 {MR : M2} {JR : J2}   (C : Cx E A p s m args meth c wdX5_saves cX5_saves 2 none RX5)   : ∀ (n : Nat) (a1 : Int32) (M : M2) (J : J2)  (ls : Array Slot) (H : Heap) (locs : List Loc), fbX5_saves_79 F  n a1 M J = some (MR, JR) → Wd E A s (sg G 8 M) (sg K 8 J) H locs → lv_has ls 2 [(0, .ref (ad E 8 0)), (1, .int a1)] → W p l e rmX5_saves s m args below meth c H locs 0 0 (QV E A below args s  (sg G 8 MR) (sg K 8 JR)) (F0 m 79 ls []) := by
  intro n
  induction n with
  | zero => intro a1 M J  ls H locs h; exact absurd (show none = _ from h) (fun z => nomatch z)
  | succ n ih => intro a1 M J  ls H locs h w hl; exact SX5_saves_79 (F := F) C   ih a1 M J  h w hl
noncomputable def fbX5_saves_77 (F : Nat)    (M : M2) (J : J2) : Option (M2 × J2) := fbX5_saves_79 F F (0 : Int32) M J
set_option maxRecDepth 20000 in
set_option maxHeartbeats 1000000 in
theorem TX5_saves_77 {MR : M2} {JR : J2}   (C : Cx E A p s m args meth c wdX5_saves cX5_saves 2 none RX5)    (M : M2) (J : J2)  (h : fbX5_saves_77 F  M J = some (MR, JR)) (w : Wd E A s (sg G 8 M) (sg K 8 J) H locs) (hl : lv_has ls 2 [(0, .ref (ad E 8 0))]) : W p l e rmX5_saves s m args below meth c H locs 0 0 (QV E A below args s  (sg G 8 MR) (sg K 8 JR)) (F0 m 77 ls []) := by
  obtain ⟨hx, hb, hr, hml, hown, hts, hlocks, hKK, hA1, hA2⟩ := id C
  unfold fbX5_saves_77 at h
  refine lv_iconst (v := (0 : Int32)) hx hb dX5_saves_77 (by decide) ?_
  refine lv_istore_n (lv' := [(1, .int (0 : Int32)), (0, .ref (ad E 8 0))]) hx hb dX5_saves_78 rfl hl (by decide) rfl (fun ls hl => ?_)
  exact TX5_saves_79 C   _ _ _ _ _ _ _ h w (lv_sub hl [1, 0] rfl)
noncomputable def fsX5_saves_40 (F : Nat)   (k40 : Int32 → M2 → J2 → Option (M2 × J2)) : Int32 → M2 → J2 → Option (M2 × J2) := fun a1 M J => (if (18 : Int32) ≤ a1 then (bnd (up2 M 0 8 ((M 0 8) - (1 : Int32))) (fun M2 => fbX5_saves_77 F  M2 J)) else (chk (inb (a1 + (6 : Int32)) 24) (chk (inb a1 24) (bnd (up2 J 4 (a1.toNatClampNeg) (J 4 (a1 + (6 : Int32)).toNatClampNeg)) (fun J6 => k40 (a1 + (1 : Int32)) M J6)))))
noncomputable def fbX5_saves_40 (F : Nat)   (n : Nat) : Int32 → M2 → J2 → Option (M2 × J2) := itr (fsX5_saves_40 F ) (fun _ _ _ => none) n
set_option maxRecDepth 20000 in
set_option maxHeartbeats 1000000 in
theorem SX5_saves_40 {MR : M2} {JR : J2}   {k40 : Int32 → M2 → J2 → Option (M2 × J2)} (C : Cx E A p s m args meth c wdX5_saves cX5_saves 2 none RX5)   (hk40 : ∀ (a1 : Int32) (M : M2) (J : J2)  (ls : Array Slot) (H : Heap) (locs : List Loc), k40 a1 M J = some (MR, JR) → Wd E A s (sg G 8 M) (sg K 8 J) H locs → lv_has ls 2 [(0, .ref (ad E 8 0)), (1, .int a1)] → W p l e rmX5_saves s m args below meth c H locs 0 0 (QV E A below args s  (sg G 8 MR) (sg K 8 JR)) (F0 m 40 ls [])) (a1 : Int32) (M : M2) (J : J2)  (h : fsX5_saves_40 F  k40 a1 M J = some (MR, JR)) (w : Wd E A s (sg G 8 M) (sg K 8 J) H locs) (hl : lv_has ls 2 [(0, .ref (ad E 8 0)), (1, .int a1)]) : W p l e rmX5_saves s m args below meth c H locs 0 0 (QV E A below args s  (sg G 8 MR) (sg K 8 JR)) (F0 m 40 ls []) := by
  obtain ⟨hx, hb, hr, hml, hown, hts, hlocks, hKK, hA1, hA2⟩ := id C
  unfold fsX5_saves_40 at h
  refine lv_iload_n hx hb dX5_saves_40 rfl (lv_at hl 1 rfl) ?_
  refine lv_bipush (v := (18 : Int32)) hx hb dX5_saves_41 (by decide) ?_
  refine lv_icmp_ge (tgt := 67) hx hb dX5_saves_43 (by decide) (fun c1 => ?_) (fun c1 => ?_)
  · replace h := ite_t h c1
    refine lv_aload_n hx hb dX5_saves_67 rfl (lv_at hl 0 rfl) ?_
    refine lv_dup hx hb dX5_saves_68 rfl ?_
    refine gL_X5_pasts C w q7_16 dX5_saves_69 ?_
    refine lv_iconst (v := (1 : Int32)) hx hb dX5_saves_72 (by decide) ?_
    refine lv_isub hx hb dX5_saves_73 ?_
    refine pL_X5_pasts C w q7_16 dX5_saves_74 (fun M2 H locs e3 w => ?_)
    replace h := bnd_of h e3
    exact TX5_saves_77 C   _ _ h w (lv_sub hl [0] rfl)
  · replace h := ite_f h c1
    refine lv_aload_n hx hb dX5_saves_46 rfl (lv_at hl 0 rfl) ?_
    refine gR_X5_pastB C w q3_19 dX5_saves_47 ?_
    refine lv_iload_n hx hb dX5_saves_50 rfl (lv_at hl 1 rfl) ?_
    refine lv_aload_n hx hb dX5_saves_51 rfl (lv_at hl 0 rfl) ?_
    refine gR_X5_pastB C w q3_19 dX5_saves_52 ?_
    refine lv_iload_n hx hb dX5_saves_55 rfl (lv_at hl 1 rfl) ?_
    refine lv_bipush (v := (6 : Int32)) hx hb dX5_saves_56 (by decide) ?_
    refine lv_iadd hx hb dX5_saves_58 ?_
    obtain ⟨ki4, h⟩ := chk_of h
    refine x_aldJ_L C w (v8 (by decide)) c8_4 ki4 rfl dX5_saves_59 ?_
    obtain ⟨ki5, h⟩ := chk_of h
    refine x_astJ_L C w (v8 (by decide)) c8_4 ki5 rfl dX5_saves_60 (fun J6 H locs e7 w => ?_)
    replace h := bnd_of h e7
    refine lv_iinc (v := (a1 + (1 : Int32))) (lv' := [(1, .int (a1 + (1 : Int32))), (0, .ref (ad E 8 0))]) hx hb dX5_saves_61 hl (k := 1) rfl (congrArg (HAdd.hAdd _) (by decide)) (by decide) rfl (fun ls hl => ?_)
    refine lv_goto (tgt := 40) hx hb dX5_saves_64 (by decide) ?_
    exact hk40 _ _ _ _ _ _ h w (lv_sub hl [1, 0] rfl)
theorem TX5_saves_40 {MR : M2} {JR : J2}   (C : Cx E A p s m args meth c wdX5_saves cX5_saves 2 none RX5)   : ∀ (n : Nat) (a1 : Int32) (M : M2) (J : J2)  (ls : Array Slot) (H : Heap) (locs : List Loc), fbX5_saves_40 F  n a1 M J = some (MR, JR) → Wd E A s (sg G 8 M) (sg K 8 J) H locs → lv_has ls 2 [(0, .ref (ad E 8 0)), (1, .int a1)] → W p l e rmX5_saves s m args below meth c H locs 0 0 (QV E A below args s  (sg G 8 MR) (sg K 8 JR)) (F0 m 40 ls []) := by
  intro n
  induction n with
  | zero => intro a1 M J  ls H locs h; exact absurd (show none = _ from h) (fun z => nomatch z)
  | succ n ih => intro a1 M J  ls H locs h w hl; exact SX5_saves_40 (F := F) C   ih a1 M J  h w hl
noncomputable def fsX5_saves_10 (F : Nat)   (k10 : Int32 → M2 → J2 → Option (M2 × J2)) : Int32 → M2 → J2 → Option (M2 × J2) := fun a1 M J => (if (183 : Int32) ≤ a1 then (fbX5_saves_40 F F (0 : Int32) M J) else (chk (inb (a1 + (61 : Int32)) 244) (chk (inb a1 244) (bnd (up2 M 3 (a1.toNatClampNeg) (M 3 (a1 + (61 : Int32)).toNatClampNeg)) (fun M4 => k10 (a1 + (1 : Int32)) M4 J)))))
noncomputable def fbX5_saves_10 (F : Nat)   (n : Nat) : Int32 → M2 → J2 → Option (M2 × J2) := itr (fsX5_saves_10 F ) (fun _ _ _ => none) n
set_option maxRecDepth 20000 in
set_option maxHeartbeats 1000000 in
theorem SX5_saves_10 {MR : M2} {JR : J2}   {k10 : Int32 → M2 → J2 → Option (M2 × J2)} (C : Cx E A p s m args meth c wdX5_saves cX5_saves 2 none RX5)   (hk10 : ∀ (a1 : Int32) (M : M2) (J : J2)  (ls : Array Slot) (H : Heap) (locs : List Loc), k10 a1 M J = some (MR, JR) → Wd E A s (sg G 8 M) (sg K 8 J) H locs → lv_has ls 2 [(0, .ref (ad E 8 0)), (1, .int a1)] → W p l e rmX5_saves s m args below meth c H locs 0 0 (QV E A below args s  (sg G 8 MR) (sg K 8 JR)) (F0 m 10 ls [])) (a1 : Int32) (M : M2) (J : J2)  (h : fsX5_saves_10 F  k10 a1 M J = some (MR, JR)) (w : Wd E A s (sg G 8 M) (sg K 8 J) H locs) (hl : lv_has ls 2 [(0, .ref (ad E 8 0)), (1, .int a1)]) : W p l e rmX5_saves s m args below meth c H locs 0 0 (QV E A below args s  (sg G 8 MR) (sg K 8 JR)) (F0 m 10 ls []) := by
  obtain ⟨hx, hb, hr, hml, hown, hts, hlocks, hKK, hA1, hA2⟩ := id C
  unfold fsX5_saves_10 at h
  refine lv_iload_n hx hb dX5_saves_10 rfl (lv_at hl 1 rfl) ?_
  refine lv_sipush (v := (183 : Int32)) hx hb dX5_saves_11 (by decide) ?_
  refine lv_icmp_ge (tgt := 38) hx hb dX5_saves_14 (by decide) (fun c1 => ?_) (fun c1 => ?_)
  · replace h := ite_t h c1
    refine lv_iconst (v := (0 : Int32)) hx hb dX5_saves_38 (by decide) ?_
    refine lv_istore_n (lv' := [(1, .int (0 : Int32)), (0, .ref (ad E 8 0))]) hx hb dX5_saves_39 rfl hl (by decide) rfl (fun ls hl => ?_)
    exact TX5_saves_40 C   _ _ _ _ _ _ _ h w (lv_sub hl [1, 0] rfl)
  · replace h := ite_f h c1
    refine lv_aload_n hx hb dX5_saves_17 rfl (lv_at hl 0 rfl) ?_
    refine gR_X5_past C w q3_18 dX5_saves_18 ?_
    refine lv_iload_n hx hb dX5_saves_21 rfl (lv_at hl 1 rfl) ?_
    refine lv_aload_n hx hb dX5_saves_22 rfl (lv_at hl 0 rfl) ?_
    refine gR_X5_past C w q3_18 dX5_saves_23 ?_
    refine lv_iload_n hx hb dX5_saves_26 rfl (lv_at hl 1 rfl) ?_
    refine lv_bipush (v := (61 : Int32)) hx hb dX5_saves_27 (by decide) ?_
    refine lv_iadd hx hb dX5_saves_29 ?_
    obtain ⟨ki2, h⟩ := chk_of h
    refine x_aldI_L C w (v8 (by decide)) c8_3 ki2 rfl dX5_saves_30 ?_
    obtain ⟨ki3, h⟩ := chk_of h
    refine x_astI_L C w (v8 (by decide)) c8_3 ki3 rfl dX5_saves_31 (fun M4 H locs e5 w => ?_)
    replace h := bnd_of h e5
    refine lv_iinc (v := (a1 + (1 : Int32))) (lv' := [(1, .int (a1 + (1 : Int32))), (0, .ref (ad E 8 0))]) hx hb dX5_saves_32 hl (k := 1) rfl (congrArg (HAdd.hAdd _) (by decide)) (by decide) rfl (fun ls hl => ?_)
    refine lv_goto (tgt := 10) hx hb dX5_saves_35 (by decide) ?_
    exact hk10 _ _ _ _ _ _ h w (lv_sub hl [1, 0] rfl)
theorem TX5_saves_10 {MR : M2} {JR : J2}   (C : Cx E A p s m args meth c wdX5_saves cX5_saves 2 none RX5)   : ∀ (n : Nat) (a1 : Int32) (M : M2) (J : J2)  (ls : Array Slot) (H : Heap) (locs : List Loc), fbX5_saves_10 F  n a1 M J = some (MR, JR) → Wd E A s (sg G 8 M) (sg K 8 J) H locs → lv_has ls 2 [(0, .ref (ad E 8 0)), (1, .int a1)] → W p l e rmX5_saves s m args below meth c H locs 0 0 (QV E A below args s  (sg G 8 MR) (sg K 8 JR)) (F0 m 10 ls []) := by
  intro n
  induction n with
  | zero => intro a1 M J  ls H locs h; exact absurd (show none = _ from h) (fun z => nomatch z)
  | succ n ih => intro a1 M J  ls H locs h w hl; exact SX5_saves_10 (F := F) C   ih a1 M J  h w hl
noncomputable def fX5_saves (F : Nat)   (M : M2) (J : J2) : Option (M2 × J2) := (if ¬ (M 0 8) = (4 : Int32) then (fbX5_saves_77 F  M J) else (fbX5_saves_10 F F (0 : Int32) M J))
set_option maxRecDepth 20000 in
set_option maxHeartbeats 1000000 in
theorem TX5_saves {MR : M2} {JR : J2}  (C : Cx E A p s m args meth c wdX5_saves cX5_saves 2 none RX5)    (h : fX5_saves F  M J = some (MR, JR)) (w : Wd E A s (sg G 8 M) (sg K 8 J) H locs) (hl : lv_has ls 2 [(0, .ref (ad E 8 0))]) : W p l e rmX5_saves s m args below meth c H locs 0 0 (QV E A below args s  (sg G 8 MR) (sg K 8 JR)) (F0 m 0 ls []) := by
  obtain ⟨hx, hb, hr, hml, hown, hts, hlocks, hKK, hA1, hA2⟩ := id C
  unfold fX5_saves at h
  refine lv_aload_n hx hb dX5_saves_0 rfl (lv_at hl 0 rfl) ?_
  refine gL_X5_pasts C w q7_16 dX5_saves_1 ?_
  refine lv_iconst (v := (4 : Int32)) hx hb dX5_saves_4 (by decide) ?_
  refine lv_icmp_ne (tgt := 77) hx hb dX5_saves_5 (by decide) (fun c1 => ?_) (fun c1 => ?_)
  · replace h := ite_t h c1
    exact TX5_saves_77 C   _ _ h w (lv_sub hl [0] rfl)
  · replace h := ite_f h (fun z => z c1)
    refine lv_iconst (v := (0 : Int32)) hx hb dX5_saves_8 (by decide) ?_
    refine lv_istore_n (lv' := [(1, .int (0 : Int32)), (0, .ref (ad E 8 0))]) hx hb dX5_saves_9 rfl hl (by decide) rfl (fun ls hl => ?_)
    exact TX5_saves_10 C   _ _ _ _ _ _ _ h w (lv_sub hl [1, 0] rfl)
theorem mtX5_saves {MR : M2} {JR : J2}     (h : fX5_saves F  M J = some (MR, JR)) : MtV l yX5_saves wdX5_saves rmX5_saves E [.ref (ad E 8 0)] (sg G 8 M) (sg K 8 J)  (sg G 8 MR) (sg K 8 JR) := by
  intro sz
  refine Met.ofW (cc := cX5_saves) (maxL := 2) (ret := none) (by decide) rfl ?_
  intro p e s m args below meth c s₁ B hml hv
  obtain ⟨rfl, C, w⟩ := Cx.of (own := RX5) B rfl hml hv
  have hl := lv_entry ([.ref (ad E 8 0)]) (n := 2) (by first | exact Nat.le_of_ble_eq_true rfl)
  rw [lg_entry_eq]
  generalize (lg_sl ([.ref (ad E 8 0)]) ++ List.replicate (2 - (lg_sl ([.ref (ad E 8 0)])).length) Slot.unset).toArray = ls at hl ⊢
  exact TX5_saves C   h w hl
theorem ydX5_saves : yX5_saves.cls = RX5 ∧ yX5_saves.cls ≠ "java/lang/invoke/MethodHandle" ∧ yX5_saves.cls ≠ "java/lang/invoke/VarHandle" ∧ (parseMethodDescriptor yX5_saves.desc).map (fun d => d.parameters.length) = some 0 := by decide +kernel
/-! X5.lays()V -/
abbrev rmX5_lays : Room := { frames := 1, cells := 0, slots := 0, locals := 12 }
abbrev wdX5_lays : Cond := Cond.code yX5_lays cX5_lays 2 none
noncomputable def fsX5_lays_28 (F : Nat)   (k28 : Int32 → M2 → J2 → Option (M2 × J2)) : Int32 → M2 → J2 → Option (M2 × J2) := fun a1 M J => (if (6 : Int32) ≤ a1 then (some (M, J)) else (chk (inb a1 6) (chk (inb a1 6) (bnd (up2 J 6 (a1.toNatClampNeg) (J 2 a1.toNatClampNeg)) (fun J4 => k28 (a1 + (1 : Int32)) M J4)))))
noncomputable def fbX5_lays_28 (F : Nat)   (n : Nat) : Int32 → M2 → J2 → Option (M2 × J2) := itr (fsX5_lays_28 F ) (fun _ _ _ => none) n
set_option maxRecDepth 20000 in
set_option maxHeartbeats 1000000 in
theorem SX5_lays_28 {MR : M2} {JR : J2}   {k28 : Int32 → M2 → J2 → Option (M2 × J2)} (C : Cx E A p s m args meth c wdX5_lays cX5_lays 2 none RX5)   (hk28 : ∀ (a1 : Int32) (M : M2) (J : J2)  (ls : Array Slot) (H : Heap) (locs : List Loc), k28 a1 M J = some (MR, JR) → Wd E A s (sg G 8 M) (sg K 8 J) H locs → lv_has ls 2 [(0, .ref (ad E 8 0)), (1, .int a1)] → W p l e rmX5_lays s m args below meth c H locs 0 0 (QV E A below args s  (sg G 8 MR) (sg K 8 JR)) (F0 m 28 ls [])) (a1 : Int32) (M : M2) (J : J2)  (h : fsX5_lays_28 F  k28 a1 M J = some (MR, JR)) (w : Wd E A s (sg G 8 M) (sg K 8 J) H locs) (hl : lv_has ls 2 [(0, .ref (ad E 8 0)), (1, .int a1)]) : W p l e rmX5_lays s m args below meth c H locs 0 0 (QV E A below args s  (sg G 8 MR) (sg K 8 JR)) (F0 m 28 ls []) := by
  obtain ⟨hx, hb, hr, hml, hown, hts, hlocks, hKK, hA1, hA2⟩ := id C
  unfold fsX5_lays_28 at h
  refine lv_iload_n hx hb dX5_lays_28 rfl (lv_at hl 1 rfl) ?_
  refine lv_bipush (v := (6 : Int32)) hx hb dX5_lays_29 (by decide) ?_
  refine lv_icmp_ge (tgt := 52) hx hb dX5_lays_31 (by decide) (fun c1 => ?_) (fun c1 => ?_)
  · replace h := ite_t h c1
    obtain ⟨e2, e3⟩ := rt2 h
    exact x_rv C w (by rw [e2]) (by rw [e3]) dX5_lays_52
  · replace h := ite_f h c1
    refine lv_aload_n hx hb dX5_lays_34 rfl (lv_at hl 0 rfl) ?_
    refine gR_X5_asideB C w q3_21 dX5_lays_35 ?_
    refine lv_iload_n hx hb dX5_lays_38 rfl (lv_at hl 1 rfl) ?_
    refine lv_aload_n hx hb dX5_lays_39 rfl (lv_at hl 0 rfl) ?_
    refine gR_X5_b C w q3_17 dX5_lays_40 ?_
    refine lv_iload_n hx hb dX5_lays_43 rfl (lv_at hl 1 rfl) ?_
    obtain ⟨ki2, h⟩ := chk_of h
    refine x_aldJ_L C w (v8 (by decide)) c8_2 ki2 rfl dX5_lays_44 ?_
    obtain ⟨ki3, h⟩ := chk_of h
    refine x_astJ_L C w (v8 (by decide)) c8_6 ki3 rfl dX5_lays_45 (fun J4 H locs e5 w => ?_)
    replace h := bnd_of h e5
    refine lv_iinc (v := (a1 + (1 : Int32))) (lv' := [(1, .int (a1 + (1 : Int32))), (0, .ref (ad E 8 0))]) hx hb dX5_lays_46 hl (k := 1) rfl (congrArg (HAdd.hAdd _) (by decide)) (by decide) rfl (fun ls hl => ?_)
    refine lv_goto (tgt := 28) hx hb dX5_lays_49 (by decide) ?_
    exact hk28 _ _ _ _ _ _ h w (lv_sub hl [1, 0] rfl)
theorem TX5_lays_28 {MR : M2} {JR : J2}   (C : Cx E A p s m args meth c wdX5_lays cX5_lays 2 none RX5)   : ∀ (n : Nat) (a1 : Int32) (M : M2) (J : J2)  (ls : Array Slot) (H : Heap) (locs : List Loc), fbX5_lays_28 F  n a1 M J = some (MR, JR) → Wd E A s (sg G 8 M) (sg K 8 J) H locs → lv_has ls 2 [(0, .ref (ad E 8 0)), (1, .int a1)] → W p l e rmX5_lays s m args below meth c H locs 0 0 (QV E A below args s  (sg G 8 MR) (sg K 8 JR)) (F0 m 28 ls []) := by
  intro n
  induction n with
  | zero => intro a1 M J  ls H locs h; exact absurd (show none = _ from h) (fun z => nomatch z)
  | succ n ih => intro a1 M J  ls H locs h w hl; exact SX5_lays_28 (F := F) C   ih a1 M J  h w hl
noncomputable def fsX5_lays_2 (F : Nat)   (k2 : Int32 → M2 → J2 → Option (M2 × J2)) : Int32 → M2 → J2 → Option (M2 × J2) := fun a1 M J => (if (61 : Int32) ≤ a1 then (fbX5_lays_28 F F (0 : Int32) M J) else (chk (inb a1 61) (chk (inb a1 61) (bnd (up2 M 5 (a1.toNatClampNeg) (M 1 a1.toNatClampNeg)) (fun M4 => k2 (a1 + (1 : Int32)) M4 J)))))
noncomputable def fbX5_lays_2 (F : Nat)   (n : Nat) : Int32 → M2 → J2 → Option (M2 × J2) := itr (fsX5_lays_2 F ) (fun _ _ _ => none) n
set_option maxRecDepth 20000 in
set_option maxHeartbeats 1000000 in
theorem SX5_lays_2 {MR : M2} {JR : J2}   {k2 : Int32 → M2 → J2 → Option (M2 × J2)} (C : Cx E A p s m args meth c wdX5_lays cX5_lays 2 none RX5)   (hk2 : ∀ (a1 : Int32) (M : M2) (J : J2)  (ls : Array Slot) (H : Heap) (locs : List Loc), k2 a1 M J = some (MR, JR) → Wd E A s (sg G 8 M) (sg K 8 J) H locs → lv_has ls 2 [(0, .ref (ad E 8 0)), (1, .int a1)] → W p l e rmX5_lays s m args below meth c H locs 0 0 (QV E A below args s  (sg G 8 MR) (sg K 8 JR)) (F0 m 2 ls [])) (a1 : Int32) (M : M2) (J : J2)  (h : fsX5_lays_2 F  k2 a1 M J = some (MR, JR)) (w : Wd E A s (sg G 8 M) (sg K 8 J) H locs) (hl : lv_has ls 2 [(0, .ref (ad E 8 0)), (1, .int a1)]) : W p l e rmX5_lays s m args below meth c H locs 0 0 (QV E A below args s  (sg G 8 MR) (sg K 8 JR)) (F0 m 2 ls []) := by
  obtain ⟨hx, hb, hr, hml, hown, hts, hlocks, hKK, hA1, hA2⟩ := id C
  unfold fsX5_lays_2 at h
  refine lv_iload_n hx hb dX5_lays_2 rfl (lv_at hl 1 rfl) ?_
  refine lv_bipush (v := (61 : Int32)) hx hb dX5_lays_3 (by decide) ?_
  refine lv_icmp_ge (tgt := 26) hx hb dX5_lays_5 (by decide) (fun c1 => ?_) (fun c1 => ?_)
  · replace h := ite_t h c1
    refine lv_iconst (v := (0 : Int32)) hx hb dX5_lays_26 (by decide) ?_
    refine lv_istore_n (lv' := [(1, .int (0 : Int32)), (0, .ref (ad E 8 0))]) hx hb dX5_lays_27 rfl hl (by decide) rfl (fun ls hl => ?_)
    exact TX5_lays_28 C   _ _ _ _ _ _ _ h w (lv_sub hl [1, 0] rfl)
  · replace h := ite_f h c1
    refine lv_aload_n hx hb dX5_lays_8 rfl (lv_at hl 0 rfl) ?_
    refine gR_X5_aside C w q3_20 dX5_lays_9 ?_
    refine lv_iload_n hx hb dX5_lays_12 rfl (lv_at hl 1 rfl) ?_
    refine lv_aload_n hx hb dX5_lays_13 rfl (lv_at hl 0 rfl) ?_
    refine gR_X5_s C w q3_16 dX5_lays_14 ?_
    refine lv_iload_n hx hb dX5_lays_17 rfl (lv_at hl 1 rfl) ?_
    obtain ⟨ki2, h⟩ := chk_of h
    refine x_aldI_L C w (v8 (by decide)) c8_1 ki2 rfl dX5_lays_18 ?_
    obtain ⟨ki3, h⟩ := chk_of h
    refine x_astI_L C w (v8 (by decide)) c8_5 ki3 rfl dX5_lays_19 (fun M4 H locs e5 w => ?_)
    replace h := bnd_of h e5
    refine lv_iinc (v := (a1 + (1 : Int32))) (lv' := [(1, .int (a1 + (1 : Int32))), (0, .ref (ad E 8 0))]) hx hb dX5_lays_20 hl (k := 1) rfl (congrArg (HAdd.hAdd _) (by decide)) (by decide) rfl (fun ls hl => ?_)
    refine lv_goto (tgt := 2) hx hb dX5_lays_23 (by decide) ?_
    exact hk2 _ _ _ _ _ _ h w (lv_sub hl [1, 0] rfl)
theorem TX5_lays_2 {MR : M2} {JR : J2}   (C : Cx E A p s m args meth c wdX5_lays cX5_lays 2 none RX5)   : ∀ (n : Nat) (a1 : Int32) (M : M2) (J : J2)  (ls : Array Slot) (H : Heap) (locs : List Loc), fbX5_lays_2 F  n a1 M J = some (MR, JR) → Wd E A s (sg G 8 M) (sg K 8 J) H locs → lv_has ls 2 [(0, .ref (ad E 8 0)), (1, .int a1)] → W p l e rmX5_lays s m args below meth c H locs 0 0 (QV E A below args s  (sg G 8 MR) (sg K 8 JR)) (F0 m 2 ls []) := by
  intro n
  induction n with
  | zero => intro a1 M J  ls H locs h; exact absurd (show none = _ from h) (fun z => nomatch z)
  | succ n ih => intro a1 M J  ls H locs h w hl; exact SX5_lays_2 (F := F) C   ih a1 M J  h w hl
noncomputable def fX5_lays (F : Nat)   (M : M2) (J : J2) : Option (M2 × J2) := fbX5_lays_2 F F (0 : Int32) M J
set_option maxRecDepth 20000 in
set_option maxHeartbeats 1000000 in
theorem TX5_lays {MR : M2} {JR : J2}  (C : Cx E A p s m args meth c wdX5_lays cX5_lays 2 none RX5)    (h : fX5_lays F  M J = some (MR, JR)) (w : Wd E A s (sg G 8 M) (sg K 8 J) H locs) (hl : lv_has ls 2 [(0, .ref (ad E 8 0))]) : W p l e rmX5_lays s m args below meth c H locs 0 0 (QV E A below args s  (sg G 8 MR) (sg K 8 JR)) (F0 m 0 ls []) := by
  obtain ⟨hx, hb, hr, hml, hown, hts, hlocks, hKK, hA1, hA2⟩ := id C
  unfold fX5_lays at h
  refine lv_iconst (v := (0 : Int32)) hx hb dX5_lays_0 (by decide) ?_
  refine lv_istore_n (lv' := [(1, .int (0 : Int32)), (0, .ref (ad E 8 0))]) hx hb dX5_lays_1 rfl hl (by decide) rfl (fun ls hl => ?_)
  exact TX5_lays_2 C   _ _ _ _ _ _ _ h w (lv_sub hl [1, 0] rfl)
theorem mtX5_lays {MR : M2} {JR : J2}     (h : fX5_lays F  M J = some (MR, JR)) : MtV l yX5_lays wdX5_lays rmX5_lays E [.ref (ad E 8 0)] (sg G 8 M) (sg K 8 J)  (sg G 8 MR) (sg K 8 JR) := by
  intro sz
  refine Met.ofW (cc := cX5_lays) (maxL := 2) (ret := none) (by decide) rfl ?_
  intro p e s m args below meth c s₁ B hml hv
  obtain ⟨rfl, C, w⟩ := Cx.of (own := RX5) B rfl hml hv
  have hl := lv_entry ([.ref (ad E 8 0)]) (n := 2) (by first | exact Nat.le_of_ble_eq_true rfl)
  rw [lg_entry_eq]
  generalize (lg_sl ([.ref (ad E 8 0)]) ++ List.replicate (2 - (lg_sl ([.ref (ad E 8 0)])).length) Slot.unset).toArray = ls at hl ⊢
  exact TX5_lays C   h w hl
theorem ydX5_lays : yX5_lays.cls = RX5 ∧ yX5_lays.cls ≠ "java/lang/invoke/MethodHandle" ∧ yX5_lays.cls ≠ "java/lang/invoke/VarHandle" ∧ (parseMethodDescriptor yX5_lays.desc).map (fun d => d.parameters.length) = some 0 := by decide +kernel
/-! X5.restores()V -/
abbrev rmX5_restores : Room := { frames := 1, cells := 0, slots := 0, locals := 12 }
abbrev wdX5_restores : Cond := Cond.code yX5_restores cX5_restores 2 none
noncomputable def fsX5_restores_28 (F : Nat)   (k28 : Int32 → M2 → J2 → Option (M2 × J2)) : Int32 → M2 → J2 → Option (M2 × J2) := fun a1 M J => (if (6 : Int32) ≤ a1 then (some (M, J)) else (chk (inb a1 6) (chk (inb a1 6) (bnd (up2 J 2 (a1.toNatClampNeg) (J 6 a1.toNatClampNeg)) (fun J4 => k28 (a1 + (1 : Int32)) M J4)))))
noncomputable def fbX5_restores_28 (F : Nat)   (n : Nat) : Int32 → M2 → J2 → Option (M2 × J2) := itr (fsX5_restores_28 F ) (fun _ _ _ => none) n
set_option maxRecDepth 20000 in
set_option maxHeartbeats 1000000 in
theorem SX5_restores_28 {MR : M2} {JR : J2}   {k28 : Int32 → M2 → J2 → Option (M2 × J2)} (C : Cx E A p s m args meth c wdX5_restores cX5_restores 2 none RX5)   (hk28 : ∀ (a1 : Int32) (M : M2) (J : J2)  (ls : Array Slot) (H : Heap) (locs : List Loc), k28 a1 M J = some (MR, JR) → Wd E A s (sg G 8 M) (sg K 8 J) H locs → lv_has ls 2 [(0, .ref (ad E 8 0)), (1, .int a1)] → W p l e rmX5_restores s m args below meth c H locs 0 0 (QV E A below args s  (sg G 8 MR) (sg K 8 JR)) (F0 m 28 ls [])) (a1 : Int32) (M : M2) (J : J2)  (h : fsX5_restores_28 F  k28 a1 M J = some (MR, JR)) (w : Wd E A s (sg G 8 M) (sg K 8 J) H locs) (hl : lv_has ls 2 [(0, .ref (ad E 8 0)), (1, .int a1)]) : W p l e rmX5_restores s m args below meth c H locs 0 0 (QV E A below args s  (sg G 8 MR) (sg K 8 JR)) (F0 m 28 ls []) := by
  obtain ⟨hx, hb, hr, hml, hown, hts, hlocks, hKK, hA1, hA2⟩ := id C
  unfold fsX5_restores_28 at h
  refine lv_iload_n hx hb dX5_restores_28 rfl (lv_at hl 1 rfl) ?_
  refine lv_bipush (v := (6 : Int32)) hx hb dX5_restores_29 (by decide) ?_
  refine lv_icmp_ge (tgt := 52) hx hb dX5_restores_31 (by decide) (fun c1 => ?_) (fun c1 => ?_)
  · replace h := ite_t h c1
    obtain ⟨e2, e3⟩ := rt2 h
    exact x_rv C w (by rw [e2]) (by rw [e3]) dX5_restores_52
  · replace h := ite_f h c1
    refine lv_aload_n hx hb dX5_restores_34 rfl (lv_at hl 0 rfl) ?_
    refine gR_X5_b C w q3_17 dX5_restores_35 ?_
    refine lv_iload_n hx hb dX5_restores_38 rfl (lv_at hl 1 rfl) ?_
    refine lv_aload_n hx hb dX5_restores_39 rfl (lv_at hl 0 rfl) ?_
    refine gR_X5_asideB C w q3_21 dX5_restores_40 ?_
    refine lv_iload_n hx hb dX5_restores_43 rfl (lv_at hl 1 rfl) ?_
    obtain ⟨ki2, h⟩ := chk_of h
    refine x_aldJ_L C w (v8 (by decide)) c8_6 ki2 rfl dX5_restores_44 ?_
    obtain ⟨ki3, h⟩ := chk_of h
    refine x_astJ_L C w (v8 (by decide)) c8_2 ki3 rfl dX5_restores_45 (fun J4 H locs e5 w => ?_)
    replace h := bnd_of h e5
    refine lv_iinc (v := (a1 + (1 : Int32))) (lv' := [(1, .int (a1 + (1 : Int32))), (0, .ref (ad E 8 0))]) hx hb dX5_restores_46 hl (k := 1) rfl (congrArg (HAdd.hAdd _) (by decide)) (by decide) rfl (fun ls hl => ?_)
    refine lv_goto (tgt := 28) hx hb dX5_restores_49 (by decide) ?_
    exact hk28 _ _ _ _ _ _ h w (lv_sub hl [1, 0] rfl)
theorem TX5_restores_28 {MR : M2} {JR : J2}   (C : Cx E A p s m args meth c wdX5_restores cX5_restores 2 none RX5)   : ∀ (n : Nat) (a1 : Int32) (M : M2) (J : J2)  (ls : Array Slot) (H : Heap) (locs : List Loc), fbX5_restores_28 F  n a1 M J = some (MR, JR) → Wd E A s (sg G 8 M) (sg K 8 J) H locs → lv_has ls 2 [(0, .ref (ad E 8 0)), (1, .int a1)] → W p l e rmX5_restores s m args below meth c H locs 0 0 (QV E A below args s  (sg G 8 MR) (sg K 8 JR)) (F0 m 28 ls []) := by
  intro n
  induction n with
  | zero => intro a1 M J  ls H locs h; exact absurd (show none = _ from h) (fun z => nomatch z)
  | succ n ih => intro a1 M J  ls H locs h w hl; exact SX5_restores_28 (F := F) C   ih a1 M J  h w hl
noncomputable def fsX5_restores_2 (F : Nat)   (k2 : Int32 → M2 → J2 → Option (M2 × J2)) : Int32 → M2 → J2 → Option (M2 × J2) := fun a1 M J => (if (61 : Int32) ≤ a1 then (fbX5_restores_28 F F (0 : Int32) M J) else (chk (inb a1 61) (chk (inb a1 61) (bnd (up2 M 1 (a1.toNatClampNeg) (M 5 a1.toNatClampNeg)) (fun M4 => k2 (a1 + (1 : Int32)) M4 J)))))
noncomputable def fbX5_restores_2 (F : Nat)   (n : Nat) : Int32 → M2 → J2 → Option (M2 × J2) := itr (fsX5_restores_2 F ) (fun _ _ _ => none) n
set_option maxRecDepth 20000 in
set_option maxHeartbeats 1000000 in
theorem SX5_restores_2 {MR : M2} {JR : J2}   {k2 : Int32 → M2 → J2 → Option (M2 × J2)} (C : Cx E A p s m args meth c wdX5_restores cX5_restores 2 none RX5)   (hk2 : ∀ (a1 : Int32) (M : M2) (J : J2)  (ls : Array Slot) (H : Heap) (locs : List Loc), k2 a1 M J = some (MR, JR) → Wd E A s (sg G 8 M) (sg K 8 J) H locs → lv_has ls 2 [(0, .ref (ad E 8 0)), (1, .int a1)] → W p l e rmX5_restores s m args below meth c H locs 0 0 (QV E A below args s  (sg G 8 MR) (sg K 8 JR)) (F0 m 2 ls [])) (a1 : Int32) (M : M2) (J : J2)  (h : fsX5_restores_2 F  k2 a1 M J = some (MR, JR)) (w : Wd E A s (sg G 8 M) (sg K 8 J) H locs) (hl : lv_has ls 2 [(0, .ref (ad E 8 0)), (1, .int a1)]) : W p l e rmX5_restores s m args below meth c H locs 0 0 (QV E A below args s  (sg G 8 MR) (sg K 8 JR)) (F0 m 2 ls []) := by
  obtain ⟨hx, hb, hr, hml, hown, hts, hlocks, hKK, hA1, hA2⟩ := id C
  unfold fsX5_restores_2 at h
  refine lv_iload_n hx hb dX5_restores_2 rfl (lv_at hl 1 rfl) ?_
  refine lv_bipush (v := (61 : Int32)) hx hb dX5_restores_3 (by decide) ?_
  refine lv_icmp_ge (tgt := 26) hx hb dX5_restores_5 (by decide) (fun c1 => ?_) (fun c1 => ?_)
  · replace h := ite_t h c1
    refine lv_iconst (v := (0 : Int32)) hx hb dX5_restores_26 (by decide) ?_
    refine lv_istore_n (lv' := [(1, .int (0 : Int32)), (0, .ref (ad E 8 0))]) hx hb dX5_restores_27 rfl hl (by decide) rfl (fun ls hl => ?_)
    exact TX5_restores_28 C   _ _ _ _ _ _ _ h w (lv_sub hl [1, 0] rfl)
  · replace h := ite_f h c1
    refine lv_aload_n hx hb dX5_restores_8 rfl (lv_at hl 0 rfl) ?_
    refine gR_X5_s C w q3_16 dX5_restores_9 ?_
    refine lv_iload_n hx hb dX5_restores_12 rfl (lv_at hl 1 rfl) ?_
    refine lv_aload_n hx hb dX5_restores_13 rfl (lv_at hl 0 rfl) ?_
    refine gR_X5_aside C w q3_20 dX5_restores_14 ?_
    refine lv_iload_n hx hb dX5_restores_17 rfl (lv_at hl 1 rfl) ?_
    obtain ⟨ki2, h⟩ := chk_of h
    refine x_aldI_L C w (v8 (by decide)) c8_5 ki2 rfl dX5_restores_18 ?_
    obtain ⟨ki3, h⟩ := chk_of h
    refine x_astI_L C w (v8 (by decide)) c8_1 ki3 rfl dX5_restores_19 (fun M4 H locs e5 w => ?_)
    replace h := bnd_of h e5
    refine lv_iinc (v := (a1 + (1 : Int32))) (lv' := [(1, .int (a1 + (1 : Int32))), (0, .ref (ad E 8 0))]) hx hb dX5_restores_20 hl (k := 1) rfl (congrArg (HAdd.hAdd _) (by decide)) (by decide) rfl (fun ls hl => ?_)
    refine lv_goto (tgt := 2) hx hb dX5_restores_23 (by decide) ?_
    exact hk2 _ _ _ _ _ _ h w (lv_sub hl [1, 0] rfl)
theorem TX5_restores_2 {MR : M2} {JR : J2}   (C : Cx E A p s m args meth c wdX5_restores cX5_restores 2 none RX5)   : ∀ (n : Nat) (a1 : Int32) (M : M2) (J : J2)  (ls : Array Slot) (H : Heap) (locs : List Loc), fbX5_restores_2 F  n a1 M J = some (MR, JR) → Wd E A s (sg G 8 M) (sg K 8 J) H locs → lv_has ls 2 [(0, .ref (ad E 8 0)), (1, .int a1)] → W p l e rmX5_restores s m args below meth c H locs 0 0 (QV E A below args s  (sg G 8 MR) (sg K 8 JR)) (F0 m 2 ls []) := by
  intro n
  induction n with
  | zero => intro a1 M J  ls H locs h; exact absurd (show none = _ from h) (fun z => nomatch z)
  | succ n ih => intro a1 M J  ls H locs h w hl; exact SX5_restores_2 (F := F) C   ih a1 M J  h w hl
noncomputable def fX5_restores (F : Nat)   (M : M2) (J : J2) : Option (M2 × J2) := fbX5_restores_2 F F (0 : Int32) M J
set_option maxRecDepth 20000 in
set_option maxHeartbeats 1000000 in
theorem TX5_restores {MR : M2} {JR : J2}  (C : Cx E A p s m args meth c wdX5_restores cX5_restores 2 none RX5)    (h : fX5_restores F  M J = some (MR, JR)) (w : Wd E A s (sg G 8 M) (sg K 8 J) H locs) (hl : lv_has ls 2 [(0, .ref (ad E 8 0))]) : W p l e rmX5_restores s m args below meth c H locs 0 0 (QV E A below args s  (sg G 8 MR) (sg K 8 JR)) (F0 m 0 ls []) := by
  obtain ⟨hx, hb, hr, hml, hown, hts, hlocks, hKK, hA1, hA2⟩ := id C
  unfold fX5_restores at h
  refine lv_iconst (v := (0 : Int32)) hx hb dX5_restores_0 (by decide) ?_
  refine lv_istore_n (lv' := [(1, .int (0 : Int32)), (0, .ref (ad E 8 0))]) hx hb dX5_restores_1 rfl hl (by decide) rfl (fun ls hl => ?_)
  exact TX5_restores_2 C   _ _ _ _ _ _ _ h w (lv_sub hl [1, 0] rfl)
theorem mtX5_restores {MR : M2} {JR : J2}     (h : fX5_restores F  M J = some (MR, JR)) : MtV l yX5_restores wdX5_restores rmX5_restores E [.ref (ad E 8 0)] (sg G 8 M) (sg K 8 J)  (sg G 8 MR) (sg K 8 JR) := by
  intro sz
  refine Met.ofW (cc := cX5_restores) (maxL := 2) (ret := none) (by decide) rfl ?_
  intro p e s m args below meth c s₁ B hml hv
  obtain ⟨rfl, C, w⟩ := Cx.of (own := RX5) B rfl hml hv
  have hl := lv_entry ([.ref (ad E 8 0)]) (n := 2) (by first | exact Nat.le_of_ble_eq_true rfl)
  rw [lg_entry_eq]
  generalize (lg_sl ([.ref (ad E 8 0)]) ++ List.replicate (2 - (lg_sl ([.ref (ad E 8 0)])).length) Slot.unset).toArray = ls at hl ⊢
  exact TX5_restores C   h w hl
theorem ydX5_restores : yX5_restores.cls = RX5 ∧ yX5_restores.cls ≠ "java/lang/invoke/MethodHandle" ∧ yX5_restores.cls ≠ "java/lang/invoke/VarHandle" ∧ (parseMethodDescriptor yX5_restores.desc).map (fun d => d.parameters.length) = some 0 := by decide +kernel
/-! X5.stage(I)I -/
abbrev rmX5_stage : Room := { frames := 1, cells := 0, slots := 0, locals := 12 }
abbrev wdX5_stage : Cond := Cond.code yX5_stage cX5_stage 3 (some .int)
noncomputable def fsX5_stage_2 (F : Nat)  (M : M2) (J : J2) (k2 : Int32 → Int32 → Option Int32) : Int32 → Int32 → Option Int32 := fun a1 a2 => chk (inb ((56 : Int32) + a2) 61) ((if (M 1 ((56 : Int32) + a2).toNatClampNeg) = a1 then (some a2) else (k2 a1 (a2 + (1 : Int32)))))
noncomputable def fbX5_stage_2 (F : Nat)  (M : M2) (J : J2) (n : Nat) : Int32 → Int32 → Option Int32 := itr (fsX5_stage_2 F M J) (fun _ _ => none) n
set_option maxRecDepth 20000 in
set_option maxHeartbeats 1000000 in
theorem SX5_stage_2 {rr : Int32}   {k2 : Int32 → Int32 → Option Int32} (C : Cx E A p s m args meth c wdX5_stage cX5_stage 3 (some .int) RX5)   (hk2 : ∀ (a1 : Int32) (a2 : Int32)   (ls : Array Slot) (H : Heap) (locs : List Loc), k2 a1 a2 = some rr → Wd E A s (sg G 8 M) (sg K 8 J) H locs → lv_has ls 3 [(0, .ref (ad E 8 0)), (1, .int a1), (2, .int a2)] → W p l e rmX5_stage s m args below meth c H locs 0 0 (QI E A below args s rr (sg G 8 M) (sg K 8 J)) (F0 m 2 ls [])) (a1 : Int32) (a2 : Int32)   (h : fsX5_stage_2 F M J k2 a1 a2 = some rr) (w : Wd E A s (sg G 8 M) (sg K 8 J) H locs) (hl : lv_has ls 3 [(0, .ref (ad E 8 0)), (1, .int a1), (2, .int a2)]) : W p l e rmX5_stage s m args below meth c H locs 0 0 (QI E A below args s rr (sg G 8 M) (sg K 8 J)) (F0 m 2 ls []) := by
  obtain ⟨hx, hb, hr, hml, hown, hts, hlocks, hKK, hA1, hA2⟩ := id C
  unfold fsX5_stage_2 at h
  refine lv_aload_n hx hb dX5_stage_2 rfl (lv_at hl 0 rfl) ?_
  refine gR_X5_s C w q3_16 dX5_stage_3 ?_
  refine lv_bipush (v := (56 : Int32)) hx hb dX5_stage_6 (by decide) ?_
  refine lv_iload_n hx hb dX5_stage_8 rfl (lv_at hl 2 rfl) ?_
  refine lv_iadd hx hb dX5_stage_9 ?_
  obtain ⟨ki1, h⟩ := chk_of h
  refine x_aldI_L C w (v8 (by decide)) c8_1 ki1 rfl dX5_stage_10 ?_
  refine lv_iload_n hx hb dX5_stage_11 rfl (lv_at hl 1 rfl) ?_
  refine lv_icmp_eq (tgt := 21) hx hb dX5_stage_12 (by decide) (fun c2 => ?_) (fun c2 => ?_)
  · replace h := ite_t h c2
    refine lv_iload_n hx hb dX5_stage_21 rfl (lv_at hl 2 rfl) ?_
    have e1 := Option.some.inj h
    exact x_ri C w e1 rfl rfl dX5_stage_22
  · replace h := ite_f h c2
    refine lv_iinc (v := (a2 + (1 : Int32))) (lv' := [(2, .int (a2 + (1 : Int32))), (0, .ref (ad E 8 0)), (1, .int a1)]) hx hb dX5_stage_15 hl (k := 2) rfl (congrArg (HAdd.hAdd _) (by decide)) (by decide) rfl (fun ls hl => ?_)
    refine lv_goto (tgt := 2) hx hb dX5_stage_18 (by decide) ?_
    exact hk2 _ _ _ _ _ h w (lv_sub hl [1, 2, 0] rfl)
theorem TX5_stage_2 {rr : Int32}   (C : Cx E A p s m args meth c wdX5_stage cX5_stage 3 (some .int) RX5)   : ∀ (n : Nat) (a1 : Int32) (a2 : Int32)   (ls : Array Slot) (H : Heap) (locs : List Loc), fbX5_stage_2 F M J n a1 a2 = some rr → Wd E A s (sg G 8 M) (sg K 8 J) H locs → lv_has ls 3 [(0, .ref (ad E 8 0)), (1, .int a1), (2, .int a2)] → W p l e rmX5_stage s m args below meth c H locs 0 0 (QI E A below args s rr (sg G 8 M) (sg K 8 J)) (F0 m 2 ls []) := by
  intro n
  induction n with
  | zero => intro a1 a2  ls H locs h; exact absurd (show none = _ from h) (fun z => nomatch z)
  | succ n ih => intro a1 a2  ls H locs h w hl; exact SX5_stage_2 (F := F) C   ih a1 a2  h w hl
noncomputable def fX5_stage (F : Nat) (M : M2) (J : J2) (x1 : Int32)  : Option Int32 := fbX5_stage_2 F M J F x1 (0 : Int32)
set_option maxRecDepth 20000 in
set_option maxHeartbeats 1000000 in
theorem TX5_stage {rr : Int32}  (C : Cx E A p s m args meth c wdX5_stage cX5_stage 3 (some .int) RX5)  {x1 : Int32}  (h : fX5_stage F M J x1 = some rr) (w : Wd E A s (sg G 8 M) (sg K 8 J) H locs) (hl : lv_has ls 3 [(0, .ref (ad E 8 0)), (1, .int x1)]) : W p l e rmX5_stage s m args below meth c H locs 0 0 (QI E A below args s rr (sg G 8 M) (sg K 8 J)) (F0 m 0 ls []) := by
  obtain ⟨hx, hb, hr, hml, hown, hts, hlocks, hKK, hA1, hA2⟩ := id C
  unfold fX5_stage at h
  refine lv_iconst (v := (0 : Int32)) hx hb dX5_stage_0 (by decide) ?_
  refine lv_istore_n (lv' := [(2, .int (0 : Int32)), (0, .ref (ad E 8 0)), (1, .int x1)]) hx hb dX5_stage_1 rfl hl (by decide) rfl (fun ls hl => ?_)
  exact TX5_stage_2 C   _ _ _ _ _ _ h w (lv_sub hl [1, 2, 0] rfl)
theorem mtX5_stage {rr : Int32}   {x1 : Int32}  (h : fX5_stage F M J x1 = some rr) : MtI l yX5_stage wdX5_stage rmX5_stage E [.ref (ad E 8 0), .int x1] (sg G 8 M) (sg K 8 J) rr (sg G 8 M) (sg K 8 J) := by
  intro sz
  refine Met.ofW (cc := cX5_stage) (maxL := 3) (ret := (some .int)) (by decide) rfl ?_
  intro p e s m args below meth c s₁ B hml hv
  obtain ⟨rfl, C, w⟩ := Cx.of (own := RX5) B rfl hml hv
  have hl := lv_entry ([.ref (ad E 8 0), .int x1]) (n := 3) (by first | exact Nat.le_of_ble_eq_true rfl)
  rw [lg_entry_eq]
  generalize (lg_sl ([.ref (ad E 8 0), .int x1]) ++ List.replicate (3 - (lg_sl ([.ref (ad E 8 0), .int x1])).length) Slot.unset).toArray = ls at hl ⊢
  exact TX5_stage C   h w hl
theorem ydX5_stage : yX5_stage.cls = RX5 ∧ yX5_stage.cls ≠ "java/lang/invoke/MethodHandle" ∧ yX5_stage.cls ≠ "java/lang/invoke/VarHandle" ∧ (parseMethodDescriptor yX5_stage.desc).map (fun d => d.parameters.length) = some 1 := by decide +kernel
/-! X5.loadsBelow(I)I -/
abbrev rmX5_loadsBelow : Room := { frames := 2, cells := 0, slots := 0, locals := 34 }
abbrev wdX5_loadsBelow : Cond := Cond.code yX5_loadsBelow cX5_loadsBelow 2 (some .int)
noncomputable def fX5_loadsBelow (F : Nat) (M : M2) (J : J2) (x1 : Int32)  : Option Int32 := (fX5_stage F M J x1).bind (fun vv2 => some ((M 1 2) - ((vv2 + (1 : Int32)) * (M 1 3))))
set_option maxRecDepth 20000 in
set_option maxHeartbeats 1000000 in
theorem TX5_loadsBelow {rr : Int32}  (C : Cx E A p s m args meth c wdX5_loadsBelow cX5_loadsBelow 2 (some .int) RX5)  {x1 : Int32}  (h : fX5_loadsBelow F M J x1 = some rr) (w : Wd E A s (sg G 8 M) (sg K 8 J) H locs) (hl : lv_has ls 2 [(0, .ref (ad E 8 0)), (1, .int x1)]) : W p l e rmX5_loadsBelow s m args below meth c H locs 0 0 (QI E A below args s rr (sg G 8 M) (sg K 8 J)) (F0 m 0 ls []) := by
  obtain ⟨hx, hb, hr, hml, hown, hts, hlocks, hKK, hA1, hA2⟩ := id C
  unfold fX5_loadsBelow at h
  refine lv_aload_n hx hb dX5_loadsBelow_0 rfl (lv_at hl 0 rfl) ?_
  refine gR_X5_s C w q3_16 dX5_loadsBelow_1 ?_
  refine lv_iconst (v := (2 : Int32)) hx hb dX5_loadsBelow_4 (by decide) ?_
  refine x_aldI_L C w (v8 (by decide)) c8_1 (inb_k (k := 2) (by decide) (by decide)) cl_2 dX5_loadsBelow_5 ?_
  refine lv_aload_n hx hb dX5_loadsBelow_6 rfl (lv_at hl 0 rfl) ?_
  refine lv_iload_n hx hb dX5_loadsBelow_7 rfl (lv_at hl 1 rfl) ?_
  obtain ⟨vv2, hv1, h⟩ := bind_of h
  refine x_cVi (As := [.int x1]) (rest := [.int (M 1 2)]) C w (v8 (by decide)) cel_8 rfl (mtX5_stage  hv1) q12_9 q12_10 q12_11 q1_5 q12_12 ydX5_stage ⟨rfl, rfl⟩ ⟨by decide, by decide⟩ ⟨Nat.zero_le _, Nat.zero_le _⟩ hl.1 (Nat.le_of_ble_eq_true rfl) rfl dX5_loadsBelow_8 (fun H locs w => ?_)
  refine lv_iconst (v := (1 : Int32)) hx hb dX5_loadsBelow_11 (by decide) ?_
  refine lv_iadd hx hb dX5_loadsBelow_12 ?_
  refine lv_aload_n hx hb dX5_loadsBelow_13 rfl (lv_at hl 0 rfl) ?_
  refine gR_X5_s C w q3_16 dX5_loadsBelow_14 ?_
  refine lv_iconst (v := (3 : Int32)) hx hb dX5_loadsBelow_17 (by decide) ?_
  refine x_aldI_L C w (v8 (by decide)) c8_1 (inb_k (k := 3) (by decide) (by decide)) cl_3 dX5_loadsBelow_18 ?_
  refine lv_imul hx hb dX5_loadsBelow_19 ?_
  refine lv_isub hx hb dX5_loadsBelow_20 ?_
  have e1 := Option.some.inj h
  exact x_ri C w e1 rfl rfl dX5_loadsBelow_21
theorem mtX5_loadsBelow {rr : Int32}   {x1 : Int32}  (h : fX5_loadsBelow F M J x1 = some rr) : MtI l yX5_loadsBelow wdX5_loadsBelow rmX5_loadsBelow E [.ref (ad E 8 0), .int x1] (sg G 8 M) (sg K 8 J) rr (sg G 8 M) (sg K 8 J) := by
  intro sz
  refine Met.ofW (cc := cX5_loadsBelow) (maxL := 2) (ret := (some .int)) (by decide) rfl ?_
  intro p e s m args below meth c s₁ B hml hv
  obtain ⟨rfl, C, w⟩ := Cx.of (own := RX5) B rfl hml hv
  have hl := lv_entry ([.ref (ad E 8 0), .int x1]) (n := 2) (by first | exact Nat.le_of_ble_eq_true rfl)
  rw [lg_entry_eq]
  generalize (lg_sl ([.ref (ad E 8 0), .int x1]) ++ List.replicate (2 - (lg_sl ([.ref (ad E 8 0), .int x1])).length) Slot.unset).toArray = ls at hl ⊢
  exact TX5_loadsBelow C   h w hl
theorem ydX5_loadsBelow : yX5_loadsBelow.cls = RX5 ∧ yX5_loadsBelow.cls ≠ "java/lang/invoke/MethodHandle" ∧ yX5_loadsBelow.cls ≠ "java/lang/invoke/VarHandle" ∧ (parseMethodDescriptor yX5_loadsBelow.desc).map (fun d => d.parameters.length) = some 1 := by decide +kernel
/-! X5.unloadsAbove(I)I -/
abbrev rmX5_unloadsAbove : Room := { frames := 2, cells := 0, slots := 0, locals := 34 }
abbrev wdX5_unloadsAbove : Cond := Cond.code yX5_unloadsAbove cX5_unloadsAbove 2 (some .int)
noncomputable def fX5_unloadsAbove (F : Nat) (M : M2) (J : J2) (x1 : Int32)  : Option Int32 := (fX5_stage F M J x1).bind (fun vv2 => some ((M 1 2) + (((M 1 10) - vv2) * (M 1 3))))
set_option maxRecDepth 20000 in
set_option maxHeartbeats 1000000 in
theorem TX5_unloadsAbove {rr : Int32}  (C : Cx E A p s m args meth c wdX5_unloadsAbove cX5_unloadsAbove 2 (some .int) RX5)  {x1 : Int32}  (h : fX5_unloadsAbove F M J x1 = some rr) (w : Wd E A s (sg G 8 M) (sg K 8 J) H locs) (hl : lv_has ls 2 [(0, .ref (ad E 8 0)), (1, .int x1)]) : W p l e rmX5_unloadsAbove s m args below meth c H locs 0 0 (QI E A below args s rr (sg G 8 M) (sg K 8 J)) (F0 m 0 ls []) := by
  obtain ⟨hx, hb, hr, hml, hown, hts, hlocks, hKK, hA1, hA2⟩ := id C
  unfold fX5_unloadsAbove at h
  refine lv_aload_n hx hb dX5_unloadsAbove_0 rfl (lv_at hl 0 rfl) ?_
  refine gR_X5_s C w q3_16 dX5_unloadsAbove_1 ?_
  refine lv_iconst (v := (2 : Int32)) hx hb dX5_unloadsAbove_4 (by decide) ?_
  refine x_aldI_L C w (v8 (by decide)) c8_1 (inb_k (k := 2) (by decide) (by decide)) cl_2 dX5_unloadsAbove_5 ?_
  refine lv_aload_n hx hb dX5_unloadsAbove_6 rfl (lv_at hl 0 rfl) ?_
  refine gR_X5_s C w q3_16 dX5_unloadsAbove_7 ?_
  refine lv_bipush (v := (10 : Int32)) hx hb dX5_unloadsAbove_10 (by decide) ?_
  refine x_aldI_L C w (v8 (by decide)) c8_1 (inb_k (k := 10) (by decide) (by decide)) cl_10 dX5_unloadsAbove_12 ?_
  refine lv_aload_n hx hb dX5_unloadsAbove_13 rfl (lv_at hl 0 rfl) ?_
  refine lv_iload_n hx hb dX5_unloadsAbove_14 rfl (lv_at hl 1 rfl) ?_
  obtain ⟨vv2, hv1, h⟩ := bind_of h
  refine x_cVi (As := [.int x1]) (rest := [.int (M 1 10), .int (M 1 2)]) C w (v8 (by decide)) cel_8 rfl (mtX5_stage  hv1) q12_9 q12_10 q12_11 q1_5 q12_12 ydX5_stage ⟨rfl, rfl⟩ ⟨by decide, by decide⟩ ⟨Nat.zero_le _, Nat.zero_le _⟩ hl.1 (Nat.le_of_ble_eq_true rfl) rfl dX5_unloadsAbove_15 (fun H locs w => ?_)
  refine lv_isub hx hb dX5_unloadsAbove_18 ?_
  refine lv_aload_n hx hb dX5_unloadsAbove_19 rfl (lv_at hl 0 rfl) ?_
  refine gR_X5_s C w q3_16 dX5_unloadsAbove_20 ?_
  refine lv_iconst (v := (3 : Int32)) hx hb dX5_unloadsAbove_23 (by decide) ?_
  refine x_aldI_L C w (v8 (by decide)) c8_1 (inb_k (k := 3) (by decide) (by decide)) cl_3 dX5_unloadsAbove_24 ?_
  refine lv_imul hx hb dX5_unloadsAbove_25 ?_
  refine lv_iadd hx hb dX5_unloadsAbove_26 ?_
  have e1 := Option.some.inj h
  exact x_ri C w e1 rfl rfl dX5_unloadsAbove_27
theorem mtX5_unloadsAbove {rr : Int32}   {x1 : Int32}  (h : fX5_unloadsAbove F M J x1 = some rr) : MtI l yX5_unloadsAbove wdX5_unloadsAbove rmX5_unloadsAbove E [.ref (ad E 8 0), .int x1] (sg G 8 M) (sg K 8 J) rr (sg G 8 M) (sg K 8 J) := by
  intro sz
  refine Met.ofW (cc := cX5_unloadsAbove) (maxL := 2) (ret := (some .int)) (by decide) rfl ?_
  intro p e s m args below meth c s₁ B hml hv
  obtain ⟨rfl, C, w⟩ := Cx.of (own := RX5) B rfl hml hv
  have hl := lv_entry ([.ref (ad E 8 0), .int x1]) (n := 2) (by first | exact Nat.le_of_ble_eq_true rfl)
  rw [lg_entry_eq]
  generalize (lg_sl ([.ref (ad E 8 0), .int x1]) ++ List.replicate (2 - (lg_sl ([.ref (ad E 8 0), .int x1])).length) Slot.unset).toArray = ls at hl ⊢
  exact TX5_unloadsAbove C   h w hl
theorem ydX5_unloadsAbove : yX5_unloadsAbove.cls = RX5 ∧ yX5_unloadsAbove.cls ≠ "java/lang/invoke/MethodHandle" ∧ yX5_unloadsAbove.cls ≠ "java/lang/invoke/VarHandle" ∧ (parseMethodDescriptor yX5_unloadsAbove.desc).map (fun d => d.parameters.length) = some 1 := by decide +kernel
/-! X5.countOf(I)I -/
abbrev rmX5_countOf : Room := { frames := 2, cells := 0, slots := 0, locals := 34 }
abbrev wdX5_countOf : Cond := Cond.code yX5_countOf cX5_countOf 4 (some .int)
noncomputable def fbX5_countOf_31 (F : Nat) (k4 : Int32 → Int32 → Int32 → Option Int32) (M : M2) (J : J2) (a1 : Int32) (a3 : Int32) (s0 : Int32) (s1 : Int32)  : Option Int32 := k4 a1 (s1 + s0) (a3 + (1 : Int32))
set_option maxRecDepth 20000 in
set_option maxHeartbeats 1000000 in
theorem TX5_countOf_31 {rr : Int32}  {k4 : Int32 → Int32 → Int32 → Option Int32} (C : Cx E A p s m args meth c wdX5_countOf cX5_countOf 4 (some .int) RX5)  (hk4 : ∀ (a1 : Int32) (a2 : Int32) (a3 : Int32)   (ls : Array Slot) (H : Heap) (locs : List Loc), k4 a1 a2 a3 = some rr → Wd E A s (sg G 8 M) (sg K 8 J) H locs → lv_has ls 4 [(0, .ref (ad E 8 0)), (1, .int a1), (2, .int a2), (3, .int a3)] → W p l e rmX5_countOf s m args below meth c H locs 0 0 (QI E A below args s rr (sg G 8 M) (sg K 8 J)) (F0 m 4 ls [])) (a1 : Int32) (a3 : Int32) (s0 : Int32) (s1 : Int32)   (h : fbX5_countOf_31 F k4 M J a1 a3 s0 s1 = some rr) (w : Wd E A s (sg G 8 M) (sg K 8 J) H locs) (hl : lv_has ls 4 [(0, .ref (ad E 8 0)), (1, .int a1), (3, .int a3)]) : W p l e rmX5_countOf s m args below meth c H locs 0 0 (QI E A below args s rr (sg G 8 M) (sg K 8 J)) (F0 m 31 ls [.int s0, .int s1]) := by
  obtain ⟨hx, hb, hr, hml, hown, hts, hlocks, hKK, hA1, hA2⟩ := id C
  unfold fbX5_countOf_31 at h
  refine lv_iadd hx hb dX5_countOf_31 ?_
  refine lv_istore_n (lv' := [(2, .int (s1 + s0)), (0, .ref (ad E 8 0)), (1, .int a1), (3, .int a3)]) hx hb dX5_countOf_32 rfl hl (by decide) rfl (fun ls hl => ?_)
  refine lv_iinc (v := (a3 + (1 : Int32))) (lv' := [(3, .int (a3 + (1 : Int32))), (2, .int (s1 + s0)), (0, .ref (ad E 8 0)), (1, .int a1)]) hx hb dX5_countOf_33 hl (k := 3) rfl (congrArg (HAdd.hAdd _) (by decide)) (by decide) rfl (fun ls hl => ?_)
  refine lv_goto (tgt := 4) hx hb dX5_countOf_36 (by decide) ?_
  exact hk4 _ _ _ _ _ _ h w (lv_sub hl [2, 3, 1, 0] rfl)
noncomputable def fsX5_countOf_4 (F : Nat)  (M : M2) (J : J2) (k4 : Int32 → Int32 → Int32 → Option Int32) : Int32 → Int32 → Int32 → Option Int32 := fun a1 a2 a3 => (if (M 1 10) ≤ a3 then (some a2) else ((fX5_its M J a3 (1 : Int32)).bind (fun vv3 => (if ¬ vv3 = a1 then (fbX5_countOf_31 F k4 M J a1 a3 (0 : Int32) a2) else (fbX5_countOf_31 F k4 M J a1 a3 (1 : Int32) a2)))))
noncomputable def fbX5_countOf_4 (F : Nat)  (M : M2) (J : J2) (n : Nat) : Int32 → Int32 → Int32 → Option Int32 := itr (fsX5_countOf_4 F M J) (fun _ _ _ => none) n
set_option maxRecDepth 20000 in
set_option maxHeartbeats 1000000 in
theorem SX5_countOf_4 {rr : Int32}   {k4 : Int32 → Int32 → Int32 → Option Int32} (C : Cx E A p s m args meth c wdX5_countOf cX5_countOf 4 (some .int) RX5)   (hk4 : ∀ (a1 : Int32) (a2 : Int32) (a3 : Int32)   (ls : Array Slot) (H : Heap) (locs : List Loc), k4 a1 a2 a3 = some rr → Wd E A s (sg G 8 M) (sg K 8 J) H locs → lv_has ls 4 [(0, .ref (ad E 8 0)), (1, .int a1), (2, .int a2), (3, .int a3)] → W p l e rmX5_countOf s m args below meth c H locs 0 0 (QI E A below args s rr (sg G 8 M) (sg K 8 J)) (F0 m 4 ls [])) (a1 : Int32) (a2 : Int32) (a3 : Int32)   (h : fsX5_countOf_4 F M J k4 a1 a2 a3 = some rr) (w : Wd E A s (sg G 8 M) (sg K 8 J) H locs) (hl : lv_has ls 4 [(0, .ref (ad E 8 0)), (1, .int a1), (2, .int a2), (3, .int a3)]) : W p l e rmX5_countOf s m args below meth c H locs 0 0 (QI E A below args s rr (sg G 8 M) (sg K 8 J)) (F0 m 4 ls []) := by
  obtain ⟨hx, hb, hr, hml, hown, hts, hlocks, hKK, hA1, hA2⟩ := id C
  unfold fsX5_countOf_4 at h
  refine lv_iload_n hx hb dX5_countOf_4 rfl (lv_at hl 3 rfl) ?_
  refine lv_aload_n hx hb dX5_countOf_5 rfl (lv_at hl 0 rfl) ?_
  refine gR_X5_s C w q3_16 dX5_countOf_6 ?_
  refine lv_bipush (v := (10 : Int32)) hx hb dX5_countOf_9 (by decide) ?_
  refine x_aldI_L C w (v8 (by decide)) c8_1 (inb_k (k := 10) (by decide) (by decide)) cl_10 dX5_countOf_11 ?_
  refine lv_icmp_ge (tgt := 39) hx hb dX5_countOf_12 (by decide) (fun c1 => ?_) (fun c1 => ?_)
  · replace h := ite_t h c1
    refine lv_iload_n hx hb dX5_countOf_39 rfl (lv_at hl 2 rfl) ?_
    have e1 := Option.some.inj h
    exact x_ri C w e1 rfl rfl dX5_countOf_40
  · replace h := ite_f h c1
    refine lv_iload_n hx hb dX5_countOf_15 rfl (lv_at hl 2 rfl) ?_
    refine lv_aload_n hx hb dX5_countOf_16 rfl (lv_at hl 0 rfl) ?_
    refine lv_iload_n hx hb dX5_countOf_17 rfl (lv_at hl 3 rfl) ?_
    refine lv_iconst (v := (1 : Int32)) hx hb dX5_countOf_18 (by decide) ?_
    obtain ⟨vv3, hv2, h⟩ := bind_of h
    refine x_cVi (As := [.int a3, .int (1 : Int32)]) (rest := [.int a2]) C w (v8 (by decide)) cel_8 rfl (mtX5_its  hv2) q11_5 q11_6 q11_7 q1_5 q11_8 ydX5_its ⟨rfl, rfl⟩ ⟨by decide, by decide⟩ ⟨Nat.zero_le _, Nat.zero_le _⟩ hl.1 (Nat.le_of_ble_eq_true rfl) rfl dX5_countOf_19 (fun H locs w => ?_)
    refine lv_iload_n hx hb dX5_countOf_22 rfl (lv_at hl 1 rfl) ?_
    refine lv_icmp_ne (tgt := 30) hx hb dX5_countOf_23 (by decide) (fun c4 => ?_) (fun c4 => ?_)
    · replace h := ite_t h c4
      refine lv_iconst (v := (0 : Int32)) hx hb dX5_countOf_30 (by decide) ?_
      exact TX5_countOf_31 C  hk4 _ _ _ _ h w (lv_sub hl [0, 1, 3] rfl)
    · replace h := ite_f h (fun z => z c4)
      refine lv_iconst (v := (1 : Int32)) hx hb dX5_countOf_26 (by decide) ?_
      refine lv_goto (tgt := 31) hx hb dX5_countOf_27 (by decide) ?_
      exact TX5_countOf_31 C  hk4 _ _ _ _ h w (lv_sub hl [0, 1, 3] rfl)
theorem TX5_countOf_4 {rr : Int32}   (C : Cx E A p s m args meth c wdX5_countOf cX5_countOf 4 (some .int) RX5)   : ∀ (n : Nat) (a1 : Int32) (a2 : Int32) (a3 : Int32)   (ls : Array Slot) (H : Heap) (locs : List Loc), fbX5_countOf_4 F M J n a1 a2 a3 = some rr → Wd E A s (sg G 8 M) (sg K 8 J) H locs → lv_has ls 4 [(0, .ref (ad E 8 0)), (1, .int a1), (2, .int a2), (3, .int a3)] → W p l e rmX5_countOf s m args below meth c H locs 0 0 (QI E A below args s rr (sg G 8 M) (sg K 8 J)) (F0 m 4 ls []) := by
  intro n
  induction n with
  | zero => intro a1 a2 a3  ls H locs h; exact absurd (show none = _ from h) (fun z => nomatch z)
  | succ n ih => intro a1 a2 a3  ls H locs h w hl; exact SX5_countOf_4 (F := F) C   ih a1 a2 a3  h w hl
noncomputable def fX5_countOf (F : Nat) (M : M2) (J : J2) (x1 : Int32)  : Option Int32 := fbX5_countOf_4 F M J F x1 (0 : Int32) (0 : Int32)
set_option maxRecDepth 20000 in
set_option maxHeartbeats 1000000 in
theorem TX5_countOf {rr : Int32}  (C : Cx E A p s m args meth c wdX5_countOf cX5_countOf 4 (some .int) RX5)  {x1 : Int32}  (h : fX5_countOf F M J x1 = some rr) (w : Wd E A s (sg G 8 M) (sg K 8 J) H locs) (hl : lv_has ls 4 [(0, .ref (ad E 8 0)), (1, .int x1)]) : W p l e rmX5_countOf s m args below meth c H locs 0 0 (QI E A below args s rr (sg G 8 M) (sg K 8 J)) (F0 m 0 ls []) := by
  obtain ⟨hx, hb, hr, hml, hown, hts, hlocks, hKK, hA1, hA2⟩ := id C
  unfold fX5_countOf at h
  refine lv_iconst (v := (0 : Int32)) hx hb dX5_countOf_0 (by decide) ?_
  refine lv_istore_n (lv' := [(2, .int (0 : Int32)), (0, .ref (ad E 8 0)), (1, .int x1)]) hx hb dX5_countOf_1 rfl hl (by decide) rfl (fun ls hl => ?_)
  refine lv_iconst (v := (0 : Int32)) hx hb dX5_countOf_2 (by decide) ?_
  refine lv_istore_n (lv' := [(3, .int (0 : Int32)), (2, .int (0 : Int32)), (0, .ref (ad E 8 0)), (1, .int x1)]) hx hb dX5_countOf_3 rfl hl (by decide) rfl (fun ls hl => ?_)
  exact TX5_countOf_4 C   _ _ _ _ _ _ _ h w (lv_sub hl [2, 3, 1, 0] rfl)
theorem mtX5_countOf {rr : Int32}   {x1 : Int32}  (h : fX5_countOf F M J x1 = some rr) : MtI l yX5_countOf wdX5_countOf rmX5_countOf E [.ref (ad E 8 0), .int x1] (sg G 8 M) (sg K 8 J) rr (sg G 8 M) (sg K 8 J) := by
  intro sz
  refine Met.ofW (cc := cX5_countOf) (maxL := 4) (ret := (some .int)) (by decide) rfl ?_
  intro p e s m args below meth c s₁ B hml hv
  obtain ⟨rfl, C, w⟩ := Cx.of (own := RX5) B rfl hml hv
  have hl := lv_entry ([.ref (ad E 8 0), .int x1]) (n := 4) (by first | exact Nat.le_of_ble_eq_true rfl)
  rw [lg_entry_eq]
  generalize (lg_sl ([.ref (ad E 8 0), .int x1]) ++ List.replicate (4 - (lg_sl ([.ref (ad E 8 0), .int x1])).length) Slot.unset).toArray = ls at hl ⊢
  exact TX5_countOf C   h w hl
theorem ydX5_countOf : yX5_countOf.cls = RX5 ∧ yX5_countOf.cls ≠ "java/lang/invoke/MethodHandle" ∧ yX5_countOf.cls ≠ "java/lang/invoke/VarHandle" ∧ (parseMethodDescriptor yX5_countOf.desc).map (fun d => d.parameters.length) = some 1 := by decide +kernel
/-! X5.rank(I)I -/
abbrev rmX5_rank : Room := { frames := 2, cells := 0, slots := 0, locals := 34 }
abbrev wdX5_rank : Cond := Cond.code yX5_rank cX5_rank 4 (some .int)
noncomputable def fbX5_rank_56 (F : Nat) (k4 : Int32 → Int32 → Int32 → Option Int32) (M : M2) (J : J2) (a1 : Int32) (a3 : Int32) (s0 : Int32) (s1 : Int32)  : Option Int32 := k4 a1 (s1 + s0) (a3 + (1 : Int32))
set_option maxRecDepth 20000 in
set_option maxHeartbeats 1000000 in
theorem TX5_rank_56 {rr : Int32}  {k4 : Int32 → Int32 → Int32 → Option Int32} (C : Cx E A p s m args meth c wdX5_rank cX5_rank 4 (some .int) RX5)  (hk4 : ∀ (a1 : Int32) (a2 : Int32) (a3 : Int32)   (ls : Array Slot) (H : Heap) (locs : List Loc), k4 a1 a2 a3 = some rr → Wd E A s (sg G 8 M) (sg K 8 J) H locs → lv_has ls 4 [(0, .ref (ad E 8 0)), (1, .int a1), (2, .int a2), (3, .int a3)] → W p l e rmX5_rank s m args below meth c H locs 0 0 (QI E A below args s rr (sg G 8 M) (sg K 8 J)) (F0 m 4 ls [])) (a1 : Int32) (a3 : Int32) (s0 : Int32) (s1 : Int32)   (h : fbX5_rank_56 F k4 M J a1 a3 s0 s1 = some rr) (w : Wd E A s (sg G 8 M) (sg K 8 J) H locs) (hl : lv_has ls 4 [(0, .ref (ad E 8 0)), (1, .int a1), (3, .int a3)]) : W p l e rmX5_rank s m args below meth c H locs 0 0 (QI E A below args s rr (sg G 8 M) (sg K 8 J)) (F0 m 56 ls [.int s0, .int s1]) := by
  obtain ⟨hx, hb, hr, hml, hown, hts, hlocks, hKK, hA1, hA2⟩ := id C
  unfold fbX5_rank_56 at h
  refine lv_iadd hx hb dX5_rank_56 ?_
  refine lv_istore_n (lv' := [(2, .int (s1 + s0)), (0, .ref (ad E 8 0)), (1, .int a1), (3, .int a3)]) hx hb dX5_rank_57 rfl hl (by decide) rfl (fun ls hl => ?_)
  refine lv_iinc (v := (a3 + (1 : Int32))) (lv' := [(3, .int (a3 + (1 : Int32))), (2, .int (s1 + s0)), (0, .ref (ad E 8 0)), (1, .int a1)]) hx hb dX5_rank_58 hl (k := 3) rfl (congrArg (HAdd.hAdd _) (by decide)) (by decide) rfl (fun ls hl => ?_)
  refine lv_goto (tgt := 4) hx hb dX5_rank_61 (by decide) ?_
  exact hk4 _ _ _ _ _ _ h w (lv_sub hl [2, 3, 1, 0] rfl)
noncomputable def fbX5_rank_51 (F : Nat) (k4 : Int32 → Int32 → Int32 → Option Int32) (M : M2) (J : J2) (a1 : Int32) (a3 : Int32) (s0 : Int32)  : Option Int32 := fbX5_rank_56 F k4 M J a1 a3 (1 : Int32) s0
set_option maxRecDepth 20000 in
set_option maxHeartbeats 1000000 in
theorem TX5_rank_51 {rr : Int32}  {k4 : Int32 → Int32 → Int32 → Option Int32} (C : Cx E A p s m args meth c wdX5_rank cX5_rank 4 (some .int) RX5)  (hk4 : ∀ (a1 : Int32) (a2 : Int32) (a3 : Int32)   (ls : Array Slot) (H : Heap) (locs : List Loc), k4 a1 a2 a3 = some rr → Wd E A s (sg G 8 M) (sg K 8 J) H locs → lv_has ls 4 [(0, .ref (ad E 8 0)), (1, .int a1), (2, .int a2), (3, .int a3)] → W p l e rmX5_rank s m args below meth c H locs 0 0 (QI E A below args s rr (sg G 8 M) (sg K 8 J)) (F0 m 4 ls [])) (a1 : Int32) (a3 : Int32) (s0 : Int32)   (h : fbX5_rank_51 F k4 M J a1 a3 s0 = some rr) (w : Wd E A s (sg G 8 M) (sg K 8 J) H locs) (hl : lv_has ls 4 [(0, .ref (ad E 8 0)), (1, .int a1), (3, .int a3)]) : W p l e rmX5_rank s m args below meth c H locs 0 0 (QI E A below args s rr (sg G 8 M) (sg K 8 J)) (F0 m 51 ls [.int s0]) := by
  obtain ⟨hx, hb, hr, hml, hown, hts, hlocks, hKK, hA1, hA2⟩ := id C
  unfold fbX5_rank_51 at h
  refine lv_iconst (v := (1 : Int32)) hx hb dX5_rank_51 (by decide) ?_
  refine lv_goto (tgt := 56) hx hb dX5_rank_52 (by decide) ?_
  exact TX5_rank_56 C  hk4 _ _ _ _ h w (lv_sub hl [0, 1, 2] rfl)
noncomputable def fbX5_rank_55 (F : Nat) (k4 : Int32 → Int32 → Int32 → Option Int32) (M : M2) (J : J2) (a1 : Int32) (a3 : Int32) (s0 : Int32)  : Option Int32 := fbX5_rank_56 F k4 M J a1 a3 (0 : Int32) s0
set_option maxRecDepth 20000 in
set_option maxHeartbeats 1000000 in
theorem TX5_rank_55 {rr : Int32}  {k4 : Int32 → Int32 → Int32 → Option Int32} (C : Cx E A p s m args meth c wdX5_rank cX5_rank 4 (some .int) RX5)  (hk4 : ∀ (a1 : Int32) (a2 : Int32) (a3 : Int32)   (ls : Array Slot) (H : Heap) (locs : List Loc), k4 a1 a2 a3 = some rr → Wd E A s (sg G 8 M) (sg K 8 J) H locs → lv_has ls 4 [(0, .ref (ad E 8 0)), (1, .int a1), (2, .int a2), (3, .int a3)] → W p l e rmX5_rank s m args below meth c H locs 0 0 (QI E A below args s rr (sg G 8 M) (sg K 8 J)) (F0 m 4 ls [])) (a1 : Int32) (a3 : Int32) (s0 : Int32)   (h : fbX5_rank_55 F k4 M J a1 a3 s0 = some rr) (w : Wd E A s (sg G 8 M) (sg K 8 J) H locs) (hl : lv_has ls 4 [(0, .ref (ad E 8 0)), (1, .int a1), (3, .int a3)]) : W p l e rmX5_rank s m args below meth c H locs 0 0 (QI E A below args s rr (sg G 8 M) (sg K 8 J)) (F0 m 55 ls [.int s0]) := by
  obtain ⟨hx, hb, hr, hml, hown, hts, hlocks, hKK, hA1, hA2⟩ := id C
  unfold fbX5_rank_55 at h
  refine lv_iconst (v := (0 : Int32)) hx hb dX5_rank_55 (by decide) ?_
  exact TX5_rank_56 C  hk4 _ _ _ _ h w (lv_sub hl [0, 1, 2] rfl)
noncomputable def fsX5_rank_4 (F : Nat)  (M : M2) (J : J2) (k4 : Int32 → Int32 → Int32 → Option Int32) : Int32 → Int32 → Int32 → Option Int32 := fun a1 a2 a3 => (if (M 1 10) ≤ a3 then (some a2) else ((fX5_its M J a3 (2 : Int32)).bind (fun vv3 => (fX5_its M J a1 (2 : Int32)).bind (fun vv5 => (if vv3 < vv5 then (fbX5_rank_51 F k4 M J a1 a3 a2) else ((fX5_its M J a3 (2 : Int32)).bind (fun vv8 => (fX5_its M J a1 (2 : Int32)).bind (fun vv10 => (if ¬ vv8 = vv10 then (fbX5_rank_55 F k4 M J a1 a3 a2) else ((if a1 ≤ a3 then (fbX5_rank_55 F k4 M J a1 a3 a2) else (fbX5_rank_51 F k4 M J a1 a3 a2))))))))))))
noncomputable def fbX5_rank_4 (F : Nat)  (M : M2) (J : J2) (n : Nat) : Int32 → Int32 → Int32 → Option Int32 := itr (fsX5_rank_4 F M J) (fun _ _ _ => none) n
set_option maxRecDepth 20000 in
set_option maxHeartbeats 1000000 in
theorem SX5_rank_4 {rr : Int32}   {k4 : Int32 → Int32 → Int32 → Option Int32} (C : Cx E A p s m args meth c wdX5_rank cX5_rank 4 (some .int) RX5)   (hk4 : ∀ (a1 : Int32) (a2 : Int32) (a3 : Int32)   (ls : Array Slot) (H : Heap) (locs : List Loc), k4 a1 a2 a3 = some rr → Wd E A s (sg G 8 M) (sg K 8 J) H locs → lv_has ls 4 [(0, .ref (ad E 8 0)), (1, .int a1), (2, .int a2), (3, .int a3)] → W p l e rmX5_rank s m args below meth c H locs 0 0 (QI E A below args s rr (sg G 8 M) (sg K 8 J)) (F0 m 4 ls [])) (a1 : Int32) (a2 : Int32) (a3 : Int32)   (h : fsX5_rank_4 F M J k4 a1 a2 a3 = some rr) (w : Wd E A s (sg G 8 M) (sg K 8 J) H locs) (hl : lv_has ls 4 [(0, .ref (ad E 8 0)), (1, .int a1), (2, .int a2), (3, .int a3)]) : W p l e rmX5_rank s m args below meth c H locs 0 0 (QI E A below args s rr (sg G 8 M) (sg K 8 J)) (F0 m 4 ls []) := by
  obtain ⟨hx, hb, hr, hml, hown, hts, hlocks, hKK, hA1, hA2⟩ := id C
  unfold fsX5_rank_4 at h
  refine lv_iload_n hx hb dX5_rank_4 rfl (lv_at hl 3 rfl) ?_
  refine lv_aload_n hx hb dX5_rank_5 rfl (lv_at hl 0 rfl) ?_
  refine gR_X5_s C w q3_16 dX5_rank_6 ?_
  refine lv_bipush (v := (10 : Int32)) hx hb dX5_rank_9 (by decide) ?_
  refine x_aldI_L C w (v8 (by decide)) c8_1 (inb_k (k := 10) (by decide) (by decide)) cl_10 dX5_rank_11 ?_
  refine lv_icmp_ge (tgt := 64) hx hb dX5_rank_12 (by decide) (fun c1 => ?_) (fun c1 => ?_)
  · replace h := ite_t h c1
    refine lv_iload_n hx hb dX5_rank_64 rfl (lv_at hl 2 rfl) ?_
    have e1 := Option.some.inj h
    exact x_ri C w e1 rfl rfl dX5_rank_65
  · replace h := ite_f h c1
    refine lv_iload_n hx hb dX5_rank_15 rfl (lv_at hl 2 rfl) ?_
    refine lv_aload_n hx hb dX5_rank_16 rfl (lv_at hl 0 rfl) ?_
    refine lv_iload_n hx hb dX5_rank_17 rfl (lv_at hl 3 rfl) ?_
    refine lv_iconst (v := (2 : Int32)) hx hb dX5_rank_18 (by decide) ?_
    obtain ⟨vv3, hv2, h⟩ := bind_of h
    refine x_cVi (As := [.int a3, .int (2 : Int32)]) (rest := [.int a2]) C w (v8 (by decide)) cel_8 rfl (mtX5_its  hv2) q11_5 q11_6 q11_7 q1_5 q11_8 ydX5_its ⟨rfl, rfl⟩ ⟨by decide, by decide⟩ ⟨Nat.zero_le _, Nat.zero_le _⟩ hl.1 (Nat.le_of_ble_eq_true rfl) rfl dX5_rank_19 (fun H locs w => ?_)
    refine lv_aload_n hx hb dX5_rank_22 rfl (lv_at hl 0 rfl) ?_
    refine lv_iload_n hx hb dX5_rank_23 rfl (lv_at hl 1 rfl) ?_
    refine lv_iconst (v := (2 : Int32)) hx hb dX5_rank_24 (by decide) ?_
    obtain ⟨vv5, hv4, h⟩ := bind_of h
    refine x_cVi (As := [.int a1, .int (2 : Int32)]) (rest := [.int vv3, .int a2]) C w (v8 (by decide)) cel_8 rfl (mtX5_its  hv4) q11_5 q11_6 q11_7 q1_5 q11_8 ydX5_its ⟨rfl, rfl⟩ ⟨by decide, by decide⟩ ⟨Nat.zero_le _, Nat.zero_le _⟩ hl.1 (Nat.le_of_ble_eq_true rfl) rfl dX5_rank_25 (fun H locs w => ?_)
    refine lv_icmp_lt (tgt := 51) hx hb dX5_rank_28 (by decide) (fun c6 => ?_) (fun c6 => ?_)
    · replace h := ite_t h c6
      exact TX5_rank_51 C  hk4 _ _ _ h w (lv_sub hl [0, 1, 3] rfl)
    · replace h := ite_f h c6
      refine lv_aload_n hx hb dX5_rank_31 rfl (lv_at hl 0 rfl) ?_
      refine lv_iload_n hx hb dX5_rank_32 rfl (lv_at hl 3 rfl) ?_
      refine lv_iconst (v := (2 : Int32)) hx hb dX5_rank_33 (by decide) ?_
      obtain ⟨vv8, hv7, h⟩ := bind_of h
      refine x_cVi (As := [.int a3, .int (2 : Int32)]) (rest := [.int a2]) C w (v8 (by decide)) cel_8 rfl (mtX5_its  hv7) q11_5 q11_6 q11_7 q1_5 q11_8 ydX5_its ⟨rfl, rfl⟩ ⟨by decide, by decide⟩ ⟨Nat.zero_le _, Nat.zero_le _⟩ hl.1 (Nat.le_of_ble_eq_true rfl) rfl dX5_rank_34 (fun H locs w => ?_)
      refine lv_aload_n hx hb dX5_rank_37 rfl (lv_at hl 0 rfl) ?_
      refine lv_iload_n hx hb dX5_rank_38 rfl (lv_at hl 1 rfl) ?_
      refine lv_iconst (v := (2 : Int32)) hx hb dX5_rank_39 (by decide) ?_
      obtain ⟨vv10, hv9, h⟩ := bind_of h
      refine x_cVi (As := [.int a1, .int (2 : Int32)]) (rest := [.int vv8, .int a2]) C w (v8 (by decide)) cel_8 rfl (mtX5_its  hv9) q11_5 q11_6 q11_7 q1_5 q11_8 ydX5_its ⟨rfl, rfl⟩ ⟨by decide, by decide⟩ ⟨Nat.zero_le _, Nat.zero_le _⟩ hl.1 (Nat.le_of_ble_eq_true rfl) rfl dX5_rank_40 (fun H locs w => ?_)
      refine lv_icmp_ne (tgt := 55) hx hb dX5_rank_43 (by decide) (fun c11 => ?_) (fun c11 => ?_)
      · replace h := ite_t h c11
        exact TX5_rank_55 C  hk4 _ _ _ h w (lv_sub hl [0, 1, 3] rfl)
      · replace h := ite_f h (fun z => z c11)
        refine lv_iload_n hx hb dX5_rank_46 rfl (lv_at hl 3 rfl) ?_
        refine lv_iload_n hx hb dX5_rank_47 rfl (lv_at hl 1 rfl) ?_
        refine lv_icmp_ge (tgt := 55) hx hb dX5_rank_48 (by decide) (fun c12 => ?_) (fun c12 => ?_)
        · replace h := ite_t h c12
          exact TX5_rank_55 C  hk4 _ _ _ h w (lv_sub hl [0, 1, 3] rfl)
        · replace h := ite_f h c12
          exact TX5_rank_51 C  hk4 _ _ _ h w (lv_sub hl [0, 1, 3] rfl)
theorem TX5_rank_4 {rr : Int32}   (C : Cx E A p s m args meth c wdX5_rank cX5_rank 4 (some .int) RX5)   : ∀ (n : Nat) (a1 : Int32) (a2 : Int32) (a3 : Int32)   (ls : Array Slot) (H : Heap) (locs : List Loc), fbX5_rank_4 F M J n a1 a2 a3 = some rr → Wd E A s (sg G 8 M) (sg K 8 J) H locs → lv_has ls 4 [(0, .ref (ad E 8 0)), (1, .int a1), (2, .int a2), (3, .int a3)] → W p l e rmX5_rank s m args below meth c H locs 0 0 (QI E A below args s rr (sg G 8 M) (sg K 8 J)) (F0 m 4 ls []) := by
  intro n
  induction n with
  | zero => intro a1 a2 a3  ls H locs h; exact absurd (show none = _ from h) (fun z => nomatch z)
  | succ n ih => intro a1 a2 a3  ls H locs h w hl; exact SX5_rank_4 (F := F) C   ih a1 a2 a3  h w hl
noncomputable def fX5_rank (F : Nat) (M : M2) (J : J2) (x1 : Int32)  : Option Int32 := fbX5_rank_4 F M J F x1 (0 : Int32) (0 : Int32)
set_option maxRecDepth 20000 in
set_option maxHeartbeats 1000000 in
theorem TX5_rank {rr : Int32}  (C : Cx E A p s m args meth c wdX5_rank cX5_rank 4 (some .int) RX5)  {x1 : Int32}  (h : fX5_rank F M J x1 = some rr) (w : Wd E A s (sg G 8 M) (sg K 8 J) H locs) (hl : lv_has ls 4 [(0, .ref (ad E 8 0)), (1, .int x1)]) : W p l e rmX5_rank s m args below meth c H locs 0 0 (QI E A below args s rr (sg G 8 M) (sg K 8 J)) (F0 m 0 ls []) := by
  obtain ⟨hx, hb, hr, hml, hown, hts, hlocks, hKK, hA1, hA2⟩ := id C
  unfold fX5_rank at h
  refine lv_iconst (v := (0 : Int32)) hx hb dX5_rank_0 (by decide) ?_
  refine lv_istore_n (lv' := [(2, .int (0 : Int32)), (0, .ref (ad E 8 0)), (1, .int x1)]) hx hb dX5_rank_1 rfl hl (by decide) rfl (fun ls hl => ?_)
  refine lv_iconst (v := (0 : Int32)) hx hb dX5_rank_2 (by decide) ?_
  refine lv_istore_n (lv' := [(3, .int (0 : Int32)), (2, .int (0 : Int32)), (0, .ref (ad E 8 0)), (1, .int x1)]) hx hb dX5_rank_3 rfl hl (by decide) rfl (fun ls hl => ?_)
  exact TX5_rank_4 C   _ _ _ _ _ _ _ h w (lv_sub hl [2, 3, 1, 0] rfl)
theorem mtX5_rank {rr : Int32}   {x1 : Int32}  (h : fX5_rank F M J x1 = some rr) : MtI l yX5_rank wdX5_rank rmX5_rank E [.ref (ad E 8 0), .int x1] (sg G 8 M) (sg K 8 J) rr (sg G 8 M) (sg K 8 J) := by
  intro sz
  refine Met.ofW (cc := cX5_rank) (maxL := 4) (ret := (some .int)) (by decide) rfl ?_
  intro p e s m args below meth c s₁ B hml hv
  obtain ⟨rfl, C, w⟩ := Cx.of (own := RX5) B rfl hml hv
  have hl := lv_entry ([.ref (ad E 8 0), .int x1]) (n := 4) (by first | exact Nat.le_of_ble_eq_true rfl)
  rw [lg_entry_eq]
  generalize (lg_sl ([.ref (ad E 8 0), .int x1]) ++ List.replicate (4 - (lg_sl ([.ref (ad E 8 0), .int x1])).length) Slot.unset).toArray = ls at hl ⊢
  exact TX5_rank C   h w hl
theorem ydX5_rank : yX5_rank.cls = RX5 ∧ yX5_rank.cls ≠ "java/lang/invoke/MethodHandle" ∧ yX5_rank.cls ≠ "java/lang/invoke/VarHandle" ∧ (parseMethodDescriptor yX5_rank.desc).map (fun d => d.parameters.length) = some 1 := by decide +kernel
end XM1
