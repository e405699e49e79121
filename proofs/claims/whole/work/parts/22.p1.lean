section XP1
variable {E : WE} {A : Nat → Prop} {p : Program} {l : Launch} {e : Env} {s : State} {m : MethodId} {args : Array Value} {below : List Frame} {meth : Method} {c : Code} {H : Heap} {locs : List Loc} {ls : Array Slot} {G : M3} {K : J3} {M : M2} {J : J2} {F g q : Nat} {g' q' : Nat}

/-! X2.byteAt(I)I -/
abbrev rmX2_byteAt : Room := { frames := 1, cells := 0, slots := 0, locals := 12 }
abbrev wdX2_byteAt : Cond := Cond.code yX2_byteAt cX2_byteAt 2 (some .int)
noncomputable def fX2_byteAt (M : M2) (J : J2) (x1 : Int32)  : Option Int32 := (if x1 < 0 then (some (-1 : Int32)) else ((if (M 0 0) ≤ x1 then (some (-1 : Int32)) else ((if (100 : Int32) ≤ x1 then (some (-1 : Int32)) else (chk (inb x1 100) (some (M 1 x1.toNatClampNeg))))))))
set_option maxRecDepth 20000 in
set_option maxHeartbeats 1000000 in
theorem TX2_byteAt {rr : Int32}  (C : Cx E A p s m args meth c wdX2_byteAt cX2_byteAt 2 (some .int) RX2)  {x1 : Int32}  (h : fX2_byteAt M J x1 = some rr) (w : Wd E A s (sg G 7 M) (sg K 7 J) H locs) (hl : lv_has ls 2 [(0, .ref (ad E 7 0)), (1, .int x1)]) : W p l e rmX2_byteAt s m args below meth c H locs 0 0 (QI E A below args s rr (sg G 7 M) (sg K 7 J)) (F0 m 0 ls []) := by
  obtain ⟨hx, hb, hr, hml, hown, hts, hlocks, hKK, hA1, hA2⟩ := id C
  unfold fX2_byteAt at h
  refine lv_iload_n hx hb dX2_byteAt_0 rfl (lv_at hl 1 rfl) ?_
  refine lv_if_lt (tgt := 30) hx hb dX2_byteAt_1 (by decide) (fun c1 => ?_) (fun c1 => ?_)
  · replace h := ite_t h c1
    refine lv_iconst (v := (-1 : Int32)) hx hb dX2_byteAt_30 (by decide) ?_
    have e1 := Option.some.inj h
    exact x_ri C w e1 rfl rfl dX2_byteAt_31
  · replace h := ite_f h c1
    refine lv_iload_n hx hb dX2_byteAt_4 rfl (lv_at hl 1 rfl) ?_
    refine lv_aload_n hx hb dX2_byteAt_5 rfl (lv_at hl 0 rfl) ?_
    refine gL_X2_length C w q28_20 dX2_byteAt_6 ?_
    refine lv_icmp_ge (tgt := 30) hx hb dX2_byteAt_9 (by decide) (fun c2 => ?_) (fun c2 => ?_)
    · replace h := ite_t h c2
      refine lv_iconst (v := (-1 : Int32)) hx hb dX2_byteAt_30 (by decide) ?_
      have e1 := Option.some.inj h
      exact x_ri C w e1 rfl rfl dX2_byteAt_31
    · replace h := ite_f h c2
      refine lv_iload_n hx hb dX2_byteAt_12 rfl (lv_at hl 1 rfl) ?_
      refine lv_aload_n hx hb dX2_byteAt_13 rfl (lv_at hl 0 rfl) ?_
      refine gR_X2_bytes C w q3_9 dX2_byteAt_14 ?_
      refine x_alen (n := 100) (v := (100 : Int32)) (t0 := 0) C w (v7 (by decide)) (c7_1 _ _) rfl (by decide) dX2_byteAt_17 ?_
      refine lv_icmp_ge (tgt := 30) hx hb dX2_byteAt_18 (by decide) (fun c3 => ?_) (fun c3 => ?_)
      · replace h := ite_t h c3
        refine lv_iconst (v := (-1 : Int32)) hx hb dX2_byteAt_30 (by decide) ?_
        have e1 := Option.some.inj h
        exact x_ri C w e1 rfl rfl dX2_byteAt_31
      · replace h := ite_f h c3
        refine lv_aload_n hx hb dX2_byteAt_21 rfl (lv_at hl 0 rfl) ?_
        refine gR_X2_bytes C w q3_9 dX2_byteAt_22 ?_
        refine lv_iload_n hx hb dX2_byteAt_25 rfl (lv_at hl 1 rfl) ?_
        obtain ⟨ki4, h⟩ := chk_of h
        refine x_aldI_L C w (v7 (by decide)) c7_1 ki4 rfl dX2_byteAt_26 ?_
        refine lv_goto (tgt := 31) hx hb dX2_byteAt_27 (by decide) ?_
        have e1 := Option.some.inj h
        exact x_ri C w e1 rfl rfl dX2_byteAt_31
theorem mtX2_byteAt {rr : Int32}   {x1 : Int32}  (h : fX2_byteAt M J x1 = some rr) : MtI l yX2_byteAt wdX2_byteAt rmX2_byteAt E [.ref (ad E 7 0), .int x1] (sg G 7 M) (sg K 7 J) rr (sg G 7 M) (sg K 7 J) := by
  intro sz
  refine Met.ofW (cc := cX2_byteAt) (maxL := 2) (ret := (some .int)) (by decide) rfl ?_
  intro p e s m args below meth c s₁ B hml hv
  obtain ⟨rfl, C, w⟩ := Cx.of (own := RX2) B rfl hml hv
  have hl := lv_entry ([.ref (ad E 7 0), .int x1]) (n := 2) (by first | exact Nat.le_of_ble_eq_true rfl)
  rw [lg_entry_eq]
  generalize (lg_sl ([.ref (ad E 7 0), .int x1]) ++ List.replicate (2 - (lg_sl ([.ref (ad E 7 0), .int x1])).length) Slot.unset).toArray = ls at hl ⊢
  exact TX2_byteAt C   h w hl
theorem ydX2_byteAt : yX2_byteAt.cls = RX2 ∧ yX2_byteAt.cls ≠ "java/lang/invoke/MethodHandle" ∧ yX2_byteAt.cls ≠ "java/lang/invoke/VarHandle" ∧ (parseMethodDescriptor yX2_byteAt.desc).map (fun d => d.parameters.length) = some 1 := by decide +kernel
/-! X2.putByte(I)I -/
abbrev rmX2_putByte : Room := { frames := 1, cells := 0, slots := 0, locals := 12 }
abbrev wdX2_putByte : Cond := Cond.code yX2_putByte cX2_putByte 2 (some .int)
noncomputable def fX2_putByte  (x1 : Int32) (M : M2) (J : J2) : Option (Int32 × M2 × J2) := (if (100 : Int32) ≤ (M 0 0) then (some ((M 0 0), M, J)) else (chk (inb (M 0 0) 100) (bnd (up2 M 1 ((M 0 0).toNatClampNeg) x1) (fun M3 => bnd (up2 M3 0 0 ((M3 0 0) + (1 : Int32))) (fun M5 => some ((M5 0 0), M5, J))))))
set_option maxRecDepth 20000 in
set_option maxHeartbeats 1000000 in
theorem TX2_putByte {rr : Int32} {MR : M2} {JR : J2}  (C : Cx E A p s m args meth c wdX2_putByte cX2_putByte 2 (some .int) RX2)  {x1 : Int32}  (h : fX2_putByte  x1 M J = some (rr, MR, JR)) (w : Wd E A s (sg G 7 M) (sg K 7 J) H locs) (hl : lv_has ls 2 [(0, .ref (ad E 7 0)), (1, .int x1)]) : W p l e rmX2_putByte s m args below meth c H locs 0 0 (QI E A below args s rr (sg G 7 MR) (sg K 7 JR)) (F0 m 0 ls []) := by
  obtain ⟨hx, hb, hr, hml, hown, hts, hlocks, hKK, hA1, hA2⟩ := id C
  unfold fX2_putByte at h
  refine lv_aload_n hx hb dX2_putByte_0 rfl (lv_at hl 0 rfl) ?_
  refine gL_X2_length C w q28_20 dX2_putByte_1 ?_
  refine lv_aload_n hx hb dX2_putByte_4 rfl (lv_at hl 0 rfl) ?_
  refine gR_X2_bytes C w q3_9 dX2_putByte_5 ?_
  refine x_alen (n := 100) (v := (100 : Int32)) (t0 := 0) C w (v7 (by decide)) (c7_1 _ _) rfl (by decide) dX2_putByte_8 ?_
  refine lv_icmp_ge (tgt := 32) hx hb dX2_putByte_9 (by decide) (fun c1 => ?_) (fun c1 => ?_)
  · replace h := ite_t h c1
    refine lv_aload_n hx hb dX2_putByte_32 rfl (lv_at hl 0 rfl) ?_
    refine gL_X2_length C w q28_20 dX2_putByte_33 ?_
    obtain ⟨e1, e2, e3⟩ := rt3 h
    exact x_ri C w e1 (by rw [e2]) (by rw [e3]) dX2_putByte_36
  · replace h := ite_f h c1
    refine lv_aload_n hx hb dX2_putByte_12 rfl (lv_at hl 0 rfl) ?_
    refine gR_X2_bytes C w q3_9 dX2_putByte_13 ?_
    refine lv_aload_n hx hb dX2_putByte_16 rfl (lv_at hl 0 rfl) ?_
    refine gL_X2_length C w q28_20 dX2_putByte_17 ?_
    refine lv_iload_n hx hb dX2_putByte_20 rfl (lv_at hl 1 rfl) ?_
    obtain ⟨ki2, h⟩ := chk_of h
    refine x_astI_L C w (v7 (by decide)) c7_1 ki2 rfl dX2_putByte_21 (fun M3 H locs e4 w => ?_)
    replace h := bnd_of h e4
    refine lv_aload_n hx hb dX2_putByte_22 rfl (lv_at hl 0 rfl) ?_
    refine lv_dup hx hb dX2_putByte_23 rfl ?_
    refine gL_X2_length C w q28_20 dX2_putByte_24 ?_
    refine lv_iconst (v := (1 : Int32)) hx hb dX2_putByte_27 (by decide) ?_
    refine lv_iadd hx hb dX2_putByte_28 ?_
    refine pL_X2_length C w q28_20 dX2_putByte_29 (fun M5 H locs e6 w => ?_)
    replace h := bnd_of h e6
    refine lv_aload_n hx hb dX2_putByte_32 rfl (lv_at hl 0 rfl) ?_
    refine gL_X2_length C w q28_20 dX2_putByte_33 ?_
    obtain ⟨e1, e2, e3⟩ := rt3 h
    exact x_ri C w e1 (by rw [e2]) (by rw [e3]) dX2_putByte_36
theorem mtX2_putByte {rr : Int32} {MR : M2} {JR : J2}   {x1 : Int32}  (h : fX2_putByte  x1 M J = some (rr, MR, JR)) : MtI l yX2_putByte wdX2_putByte rmX2_putByte E [.ref (ad E 7 0), .int x1] (sg G 7 M) (sg K 7 J) rr (sg G 7 MR) (sg K 7 JR) := by
  intro sz
  refine Met.ofW (cc := cX2_putByte) (maxL := 2) (ret := (some .int)) (by decide) rfl ?_
  intro p e s m args below meth c s₁ B hml hv
  obtain ⟨rfl, C, w⟩ := Cx.of (own := RX2) B rfl hml hv
  have hl := lv_entry ([.ref (ad E 7 0), .int x1]) (n := 2) (by first | exact Nat.le_of_ble_eq_true rfl)
  rw [lg_entry_eq]
  generalize (lg_sl ([.ref (ad E 7 0), .int x1]) ++ List.replicate (2 - (lg_sl ([.ref (ad E 7 0), .int x1])).length) Slot.unset).toArray = ls at hl ⊢
  exact TX2_putByte C   h w hl
theorem ydX2_putByte : yX2_putByte.cls = RX2 ∧ yX2_putByte.cls ≠ "java/lang/invoke/MethodHandle" ∧ yX2_putByte.cls ≠ "java/lang/invoke/VarHandle" ∧ (parseMethodDescriptor yX2_putByte.desc).map (fun d => d.parameters.length) = some 1 := by decide +kernel
/-! X2.kindOf(I)I -/
abbrev rmX2_kindOf : Room := { frames := 1, cells := 0, slots := 0, locals := 12 }
abbrev wdX2_kindOf : Cond := Cond.code yX2_kindOf cX2_kindOf 2 (some .int)
noncomputable def fX2_kindOf (M : M2) (J : J2) (x1 : Int32)  : Option Int32 := (if x1 < 0 then (some (-1 : Int32)) else ((if (100 : Int32) ≤ x1 then (some (-1 : Int32)) else (chk (inb x1 100) (some (M 2 x1.toNatClampNeg))))))
set_option maxRecDepth 20000 in
set_option maxHeartbeats 1000000 in
theorem TX2_kindOf {rr : Int32}  (C : Cx E A p s m args meth c wdX2_kindOf cX2_kindOf 2 (some .int) RX2)  {x1 : Int32}  (h : fX2_kindOf M J x1 = some rr) (w : Wd E A s (sg G 7 M) (sg K 7 J) H locs) (hl : lv_has ls 2 [(0, .ref (ad E 7 0)), (1, .int x1)]) : W p l e rmX2_kindOf s m args below meth c H locs 0 0 (QI E A below args s rr (sg G 7 M) (sg K 7 J)) (F0 m 0 ls []) := by
  obtain ⟨hx, hb, hr, hml, hown, hts, hlocks, hKK, hA1, hA2⟩ := id C
  unfold fX2_kindOf at h
  refine lv_iload_n hx hb dX2_kindOf_0 rfl (lv_at hl 1 rfl) ?_
  refine lv_if_lt (tgt := 22) hx hb dX2_kindOf_1 (by decide) (fun c1 => ?_) (fun c1 => ?_)
  · replace h := ite_t h c1
    refine lv_iconst (v := (-1 : Int32)) hx hb dX2_kindOf_22 (by decide) ?_
    have e1 := Option.some.inj h
    exact x_ri C w e1 rfl rfl dX2_kindOf_23
  · replace h := ite_f h c1
    refine lv_iload_n hx hb dX2_kindOf_4 rfl (lv_at hl 1 rfl) ?_
    refine lv_aload_n hx hb dX2_kindOf_5 rfl (lv_at hl 0 rfl) ?_
    refine gR_X2_kinds C w q3_10 dX2_kindOf_6 ?_
    refine x_alen (n := 100) (v := (100 : Int32)) (t0 := 0) C w (v7 (by decide)) (c7_2 _ _) rfl (by decide) dX2_kindOf_9 ?_
    refine lv_icmp_ge (tgt := 22) hx hb dX2_kindOf_10 (by decide) (fun c2 => ?_) (fun c2 => ?_)
    · replace h := ite_t h c2
      refine lv_iconst (v := (-1 : Int32)) hx hb dX2_kindOf_22 (by decide) ?_
      have e1 := Option.some.inj h
      exact x_ri C w e1 rfl rfl dX2_kindOf_23
    · replace h := ite_f h c2
      refine lv_aload_n hx hb dX2_kindOf_13 rfl (lv_at hl 0 rfl) ?_
      refine gR_X2_kinds C w q3_10 dX2_kindOf_14 ?_
      refine lv_iload_n hx hb dX2_kindOf_17 rfl (lv_at hl 1 rfl) ?_
      obtain ⟨ki3, h⟩ := chk_of h
      refine x_aldI_L C w (v7 (by decide)) c7_2 ki3 rfl dX2_kindOf_18 ?_
      refine lv_goto (tgt := 23) hx hb dX2_kindOf_19 (by decide) ?_
      have e1 := Option.some.inj h
      exact x_ri C w e1 rfl rfl dX2_kindOf_23
theorem mtX2_kindOf {rr : Int32}   {x1 : Int32}  (h : fX2_kindOf M J x1 = some rr) : MtI l yX2_kindOf wdX2_kindOf rmX2_kindOf E [.ref (ad E 7 0), .int x1] (sg G 7 M) (sg K 7 J) rr (sg G 7 M) (sg K 7 J) := by
  intro sz
  refine Met.ofW (cc := cX2_kindOf) (maxL := 2) (ret := (some .int)) (by decide) rfl ?_
  intro p e s m args below meth c s₁ B hml hv
  obtain ⟨rfl, C, w⟩ := Cx.of (own := RX2) B rfl hml hv
  have hl := lv_entry ([.ref (ad E 7 0), .int x1]) (n := 2) (by first | exact Nat.le_of_ble_eq_true rfl)
  rw [lg_entry_eq]
  generalize (lg_sl ([.ref (ad E 7 0), .int x1]) ++ List.replicate (2 - (lg_sl ([.ref (ad E 7 0), .int x1])).length) Slot.unset).toArray = ls at hl ⊢
  exact TX2_kindOf C   h w hl
theorem ydX2_kindOf : yX2_kindOf.cls = RX2 ∧ yX2_kindOf.cls ≠ "java/lang/invoke/MethodHandle" ∧ yX2_kindOf.cls ≠ "java/lang/invoke/VarHandle" ∧ (parseMethodDescriptor yX2_kindOf.desc).map (fun d => d.parameters.length) = some 1 := by decide +kernel
/-! X2.numberIn(I)I -/
abbrev rmX2_numberIn : Room := { frames := 1, cells := 0, slots := 0, locals := 12 }
abbrev wdX2_numberIn : Cond := Cond.code yX2_numberIn cX2_numberIn 2 (some .int)
noncomputable def fX2_numberIn (M : M2) (J : J2) (x1 : Int32)  : Option Int32 := (if x1 < 0 then (some (-1 : Int32)) else ((if (100 : Int32) ≤ x1 then (some (-1 : Int32)) else (chk (inb x1 100) (some (M 3 x1.toNatClampNeg))))))
set_option maxRecDepth 20000 in
set_option maxHeartbeats 1000000 in
theorem TX2_numberIn {rr : Int32}  (C : Cx E A p s m args meth c wdX2_numberIn cX2_numberIn 2 (some .int) RX2)  {x1 : Int32}  (h : fX2_numberIn M J x1 = some rr) (w : Wd E A s (sg G 7 M) (sg K 7 J) H locs) (hl : lv_has ls 2 [(0, .ref (ad E 7 0)), (1, .int x1)]) : W p l e rmX2_numberIn s m args below meth c H locs 0 0 (QI E A below args s rr (sg G 7 M) (sg K 7 J)) (F0 m 0 ls []) := by
  obtain ⟨hx, hb, hr, hml, hown, hts, hlocks, hKK, hA1, hA2⟩ := id C
  unfold fX2_numberIn at h
  refine lv_iload_n hx hb dX2_numberIn_0 rfl (lv_at hl 1 rfl) ?_
  refine lv_if_lt (tgt := 22) hx hb dX2_numberIn_1 (by decide) (fun c1 => ?_) (fun c1 => ?_)
  · replace h := ite_t h c1
    refine lv_iconst (v := (-1 : Int32)) hx hb dX2_numberIn_22 (by decide) ?_
    have e1 := Option.some.inj h
    exact x_ri C w e1 rfl rfl dX2_numberIn_23
  · replace h := ite_f h c1
    refine lv_iload_n hx hb dX2_numberIn_4 rfl (lv_at hl 1 rfl) ?_
    refine lv_aload_n hx hb dX2_numberIn_5 rfl (lv_at hl 0 rfl) ?_
    refine gR_X2_numbers C w q3_11 dX2_numberIn_6 ?_
    refine x_alen (n := 100) (v := (100 : Int32)) (t0 := 0) C w (v7 (by decide)) (c7_3 _ _) rfl (by decide) dX2_numberIn_9 ?_
    refine lv_icmp_ge (tgt := 22) hx hb dX2_numberIn_10 (by decide) (fun c2 => ?_) (fun c2 => ?_)
    · replace h := ite_t h c2
      refine lv_iconst (v := (-1 : Int32)) hx hb dX2_numberIn_22 (by decide) ?_
      have e1 := Option.some.inj h
      exact x_ri C w e1 rfl rfl dX2_numberIn_23
    · replace h := ite_f h c2
      refine lv_aload_n hx hb dX2_numberIn_13 rfl (lv_at hl 0 rfl) ?_
      refine gR_X2_numbers C w q3_11 dX2_numberIn_14 ?_
      refine lv_iload_n hx hb dX2_numberIn_17 rfl (lv_at hl 1 rfl) ?_
      obtain ⟨ki3, h⟩ := chk_of h
      refine x_aldI_L C w (v7 (by decide)) c7_3 ki3 rfl dX2_numberIn_18 ?_
      refine lv_goto (tgt := 23) hx hb dX2_numberIn_19 (by decide) ?_
      have e1 := Option.some.inj h
      exact x_ri C w e1 rfl rfl dX2_numberIn_23
theorem mtX2_numberIn {rr : Int32}   {x1 : Int32}  (h : fX2_numberIn M J x1 = some rr) : MtI l yX2_numberIn wdX2_numberIn rmX2_numberIn E [.ref (ad E 7 0), .int x1] (sg G 7 M) (sg K 7 J) rr (sg G 7 M) (sg K 7 J) := by
  intro sz
  refine Met.ofW (cc := cX2_numberIn) (maxL := 2) (ret := (some .int)) (by decide) rfl ?_
  intro p e s m args below meth c s₁ B hml hv
  obtain ⟨rfl, C, w⟩ := Cx.of (own := RX2) B rfl hml hv
  have hl := lv_entry ([.ref (ad E 7 0), .int x1]) (n := 2) (by first | exact Nat.le_of_ble_eq_true rfl)
  rw [lg_entry_eq]
  generalize (lg_sl ([.ref (ad E 7 0), .int x1]) ++ List.replicate (2 - (lg_sl ([.ref (ad E 7 0), .int x1])).length) Slot.unset).toArray = ls at hl ⊢
  exact TX2_numberIn C   h w hl
theorem ydX2_numberIn : yX2_numberIn.cls = RX2 ∧ yX2_numberIn.cls ≠ "java/lang/invoke/MethodHandle" ∧ yX2_numberIn.cls ≠ "java/lang/invoke/VarHandle" ∧ (parseMethodDescriptor yX2_numberIn.desc).map (fun d => d.parameters.length) = some 1 := by decide +kernel
/-! X2.readSemicolon()V -/
abbrev rmX2_readSemicolon : Room := { frames := 2, cells := 0, slots := 0, locals := 33 }
abbrev wdX2_readSemicolon : Cond := Cond.code yX2_readSemicolon cX2_readSemicolon 1 none
noncomputable def fbX2_readSemicolon_29    (M : M2) (J : J2) : Option (M2 × J2) := bnd (up2 M 0 2 ((M 0 2) + (1 : Int32))) (fun M1 => some (M1, J))
set_option maxRecDepth 20000 in
set_option maxHeartbeats 1000000 in
theorem TX2_readSemicolon_29 {MR : M2} {JR : J2}   (C : Cx E A p s m args meth c wdX2_readSemicolon cX2_readSemicolon 1 none RX2)    (M : M2) (J : J2)  (h : fbX2_readSemicolon_29  M J = some (MR, JR)) (w : Wd E A s (sg G 7 M) (sg K 7 J) H locs) (hl : lv_has ls 1 [(0, .ref (ad E 7 0))]) : W p l e rmX2_readSemicolon s m args below meth c H locs 0 0 (QV E A below args s  (sg G 7 MR) (sg K 7 JR)) (F0 m 29 ls []) := by
  obtain ⟨hx, hb, hr, hml, hown, hts, hlocks, hKK, hA1, hA2⟩ := id C
  unfold fbX2_readSemicolon_29 at h
  refine lv_aload_n hx hb dX2_readSemicolon_29 rfl (lv_at hl 0 rfl) ?_
  refine lv_dup hx hb dX2_readSemicolon_30 rfl ?_
  refine gL_X2_position C w q29_20 dX2_readSemicolon_31 ?_
  refine lv_iconst (v := (1 : Int32)) hx hb dX2_readSemicolon_34 (by decide) ?_
  refine lv_iadd hx hb dX2_readSemicolon_35 ?_
  refine pL_X2_position C w q29_20 dX2_readSemicolon_36 (fun M1 H locs e2 w => ?_)
  replace h := bnd_of h e2
  obtain ⟨e2, e3⟩ := rt2 h
  exact x_rv C w (by rw [e2]) (by rw [e3]) dX2_readSemicolon_39
noncomputable def fX2_readSemicolon   (M : M2) (J : J2) : Option (M2 × J2) := (if ¬ (M 0 3) = (-1 : Int32) then (fbX2_readSemicolon_29  M J) else ((fX2_byteAt M J (M 0 2)).bind (fun vv3 => (if vv3 = (59 : Int32) then (fbX2_readSemicolon_29  M J) else (bnd (up2 M 0 3 (M 0 2)) (fun M5 => fbX2_readSemicolon_29  M5 J))))))
set_option maxRecDepth 20000 in
set_option maxHeartbeats 1000000 in
theorem TX2_readSemicolon {MR : M2} {JR : J2}  (C : Cx E A p s m args meth c wdX2_readSemicolon cX2_readSemicolon 1 none RX2)    (h : fX2_readSemicolon  M J = some (MR, JR)) (w : Wd E A s (sg G 7 M) (sg K 7 J) H locs) (hl : lv_has ls 1 [(0, .ref (ad E 7 0))]) : W p l e rmX2_readSemicolon s m args below meth c H locs 0 0 (QV E A below args s  (sg G 7 MR) (sg K 7 JR)) (F0 m 0 ls []) := by
  obtain ⟨hx, hb, hr, hml, hown, hts, hlocks, hKK, hA1, hA2⟩ := id C
  unfold fX2_readSemicolon at h
  refine lv_aload_n hx hb dX2_readSemicolon_0 rfl (lv_at hl 0 rfl) ?_
  refine gL_X2_error C w q29_21 dX2_readSemicolon_1 ?_
  refine lv_iconst (v := (-1 : Int32)) hx hb dX2_readSemicolon_4 (by decide) ?_
  refine lv_icmp_ne (tgt := 29) hx hb dX2_readSemicolon_5 (by decide) (fun c1 => ?_) (fun c1 => ?_)
  · replace h := ite_t h c1
    exact TX2_readSemicolon_29 C   _ _ h w (lv_sub hl [0] rfl)
  · replace h := ite_f h (fun z => z c1)
    refine lv_aload_n hx hb dX2_readSemicolon_8 rfl (lv_at hl 0 rfl) ?_
    refine lv_aload_n hx hb dX2_readSemicolon_9 rfl (lv_at hl 0 rfl) ?_
    refine gL_X2_position C w q29_20 dX2_readSemicolon_10 ?_
    obtain ⟨vv3, hv2, h⟩ := bind_of h
    refine x_cVi (As := [.int (M 0 2)]) (rest := []) C w (v7 (by decide)) cel_7 rfl (mtX2_byteAt  hv2) q29_22 q29_23 q30_0 q2_0 q30_1 ydX2_byteAt ⟨rfl, rfl⟩ ⟨by decide, by decide⟩ ⟨Nat.zero_le _, Nat.zero_le _⟩ hl.1 (Nat.le_of_ble_eq_true rfl) rfl dX2_readSemicolon_13 (fun H locs w => ?_)
    refine lv_bipush (v := (59 : Int32)) hx hb dX2_readSemicolon_16 (by decide) ?_
    refine lv_icmp_eq (tgt := 29) hx hb dX2_readSemicolon_18 (by decide) (fun c4 => ?_) (fun c4 => ?_)
    · replace h := ite_t h c4
      exact TX2_readSemicolon_29 C   _ _ h w (lv_sub hl [0] rfl)
    · replace h := ite_f h c4
      refine lv_aload_n hx hb dX2_readSemicolon_21 rfl (lv_at hl 0 rfl) ?_
      refine lv_aload_n hx hb dX2_readSemicolon_22 rfl (lv_at hl 0 rfl) ?_
      refine gL_X2_position C w q29_20 dX2_readSemicolon_23 ?_
      refine pL_X2_error C w q29_21 dX2_readSemicolon_26 (fun M5 H locs e6 w => ?_)
      replace h := bnd_of h e6
      exact TX2_readSemicolon_29 C   _ _ h w (lv_sub hl [0] rfl)
theorem mtX2_readSemicolon {MR : M2} {JR : J2}     (h : fX2_readSemicolon  M J = some (MR, JR)) : MtV l yX2_readSemicolon wdX2_readSemicolon rmX2_readSemicolon E [.ref (ad E 7 0)] (sg G 7 M) (sg K 7 J)  (sg G 7 MR) (sg K 7 JR) := by
  intro sz
  refine Met.ofW (cc := cX2_readSemicolon) (maxL := 1) (ret := none) (by decide) rfl ?_
  intro p e s m args below meth c s₁ B hml hv
  obtain ⟨rfl, C, w⟩ := Cx.of (own := RX2) B rfl hml hv
  have hl := lv_entry ([.ref (ad E 7 0)]) (n := 1) (by first | exact Nat.le_of_ble_eq_true rfl)
  rw [lg_entry_eq]
  generalize (lg_sl ([.ref (ad E 7 0)]) ++ List.replicate (1 - (lg_sl ([.ref (ad E 7 0)])).length) Slot.unset).toArray = ls at hl ⊢
  exact TX2_readSemicolon C   h w hl
theorem ydX2_readSemicolon : yX2_readSemicolon.cls = RX2 ∧ yX2_readSemicolon.cls ≠ "java/lang/invoke/MethodHandle" ∧ yX2_readSemicolon.cls ≠ "java/lang/invoke/VarHandle" ∧ (parseMethodDescriptor yX2_readSemicolon.desc).map (fun d => d.parameters.length) = some 0 := by decide +kernel
/-! X2.readCompressor()I -/
abbrev rmX2_readCompressor : Room := { frames := 2, cells := 0, slots := 0, locals := 34 }
abbrev wdX2_readCompressor : Cond := Cond.code yX2_readCompressor cX2_readCompressor 2 (some .int)
noncomputable def fbX2_readCompressor_29   (a1 : Int32) (M : M2) (J : J2) : Option (Int32 × M2 × J2) := bnd (up2 M 0 2 ((M 0 2) + (1 : Int32))) (fun M1 => some (a1, M1, J))
set_option maxRecDepth 20000 in
set_option maxHeartbeats 1000000 in
theorem TX2_readCompressor_29 {rr : Int32} {MR : M2} {JR : J2}   (C : Cx E A p s m args meth c wdX2_readCompressor cX2_readCompressor 2 (some .int) RX2)   (a1 : Int32) (M : M2) (J : J2)  (h : fbX2_readCompressor_29  a1 M J = some (rr, MR, JR)) (w : Wd E A s (sg G 7 M) (sg K 7 J) H locs) (hl : lv_has ls 2 [(0, .ref (ad E 7 0)), (1, .int a1)]) : W p l e rmX2_readCompressor s m args below meth c H locs 0 0 (QI E A below args s rr (sg G 7 MR) (sg K 7 JR)) (F0 m 29 ls []) := by
  obtain ⟨hx, hb, hr, hml, hown, hts, hlocks, hKK, hA1, hA2⟩ := id C
  unfold fbX2_readCompressor_29 at h
  refine lv_aload_n hx hb dX2_readCompressor_29 rfl (lv_at hl 0 rfl) ?_
  refine lv_dup hx hb dX2_readCompressor_30 rfl ?_
  refine gL_X2_position C w q29_20 dX2_readCompressor_31 ?_
  refine lv_iconst (v := (1 : Int32)) hx hb dX2_readCompressor_34 (by decide) ?_
  refine lv_iadd hx hb dX2_readCompressor_35 ?_
  refine pL_X2_position C w q29_20 dX2_readCompressor_36 (fun M1 H locs e2 w => ?_)
  replace h := bnd_of h e2
  refine lv_iload_n hx hb dX2_readCompressor_39 rfl (lv_at hl 1 rfl) ?_
  obtain ⟨e1, e2, e3⟩ := rt3 h
  exact x_ri C w e1 (by rw [e2]) (by rw [e3]) dX2_readCompressor_40
noncomputable def fX2_readCompressor   (M : M2) (J : J2) : Option (Int32 × M2 × J2) := (fX2_byteAt M J (M 0 2)).bind (fun vv2 => (if ¬ (fX4_isWithin (vv2 - (48 : Int32)) (0 : Int32) (4 : Int32)) = 0 then (fbX2_readCompressor_29 (vv2 - (48 : Int32)) M J) else (bnd (up2 M 0 3 (M 0 2)) (fun M4 => fbX2_readCompressor_29 (vv2 - (48 : Int32)) M4 J))))
set_option maxRecDepth 20000 in
set_option maxHeartbeats 1000000 in
theorem TX2_readCompressor {rr : Int32} {MR : M2} {JR : J2}  (C : Cx E A p s m args meth c wdX2_readCompressor cX2_readCompressor 2 (some .int) RX2)    (h : fX2_readCompressor  M J = some (rr, MR, JR)) (w : Wd E A s (sg G 7 M) (sg K 7 J) H locs) (hl : lv_has ls 2 [(0, .ref (ad E 7 0))]) : W p l e rmX2_readCompressor s m args below meth c H locs 0 0 (QI E A below args s rr (sg G 7 MR) (sg K 7 JR)) (F0 m 0 ls []) := by
  obtain ⟨hx, hb, hr, hml, hown, hts, hlocks, hKK, hA1, hA2⟩ := id C
  unfold fX2_readCompressor at h
  refine lv_aload_n hx hb dX2_readCompressor_0 rfl (lv_at hl 0 rfl) ?_
  refine lv_aload_n hx hb dX2_readCompressor_1 rfl (lv_at hl 0 rfl) ?_
  refine gL_X2_position C w q29_20 dX2_readCompressor_2 ?_
  obtain ⟨vv2, hv1, h⟩ := bind_of h
  refine x_cVi (As := [.int (M 0 2)]) (rest := []) C w (v7 (by decide)) cel_7 rfl (mtX2_byteAt  hv1) q29_22 q29_23 q30_0 q2_0 q30_1 ydX2_byteAt ⟨rfl, rfl⟩ ⟨by decide, by decide⟩ ⟨Nat.zero_le _, Nat.zero_le _⟩ hl.1 (Nat.le_of_ble_eq_true rfl) rfl dX2_readCompressor_5 (fun H locs w => ?_)
  refine lv_bipush (v := (48 : Int32)) hx hb dX2_readCompressor_8 (by decide) ?_
  refine lv_isub hx hb dX2_readCompressor_10 ?_
  refine lv_istore_n (lv' := [(1, .int (vv2 - (48 : Int32))), (0, .ref (ad E 7 0))]) hx hb dX2_readCompressor_11 rfl hl (by decide) rfl (fun ls hl => ?_)
  refine lv_iload_n hx hb dX2_readCompressor_12 rfl (lv_at hl 0 rfl) ?_
  refine lv_iconst (v := (0 : Int32)) hx hb dX2_readCompressor_13 (by decide) ?_
  refine lv_iconst (v := (4 : Int32)) hx hb dX2_readCompressor_14 (by decide) ?_
  refine x_cNi (As := [.int (vv2 - (48 : Int32)), .int (0 : Int32), .int (4 : Int32)]) (rest := []) C w (mtX4_isWithin ) (List.mem_of_getElem? (i := 2) rfl) q4_20 q1_2 q4_21 ynX4_isWithin ⟨rfl, rfl⟩ ⟨by decide, by decide⟩ ⟨Nat.zero_le _, Nat.zero_le _⟩ hl.1 (Nat.le_of_ble_eq_true rfl) rfl dX2_readCompressor_15 (fun H locs w => ?_)
  refine lv_if_ne (tgt := 29) hx hb dX2_readCompressor_18 (by decide) (fun c3 => ?_) (fun c3 => ?_)
  · replace h := ite_t h c3
    exact TX2_readCompressor_29 C   _ _ _ h w (lv_sub hl [1, 0] rfl)
  · replace h := ite_f h (fun z => z c3)
    refine lv_aload_n hx hb dX2_readCompressor_21 rfl (lv_at hl 1 rfl) ?_
    refine lv_aload_n hx hb dX2_readCompressor_22 rfl (lv_at hl 1 rfl) ?_
    refine gL_X2_position C w q29_20 dX2_readCompressor_23 ?_
    refine pL_X2_error C w q29_21 dX2_readCompressor_26 (fun M4 H locs e5 w => ?_)
    replace h := bnd_of h e5
    exact TX2_readCompressor_29 C   _ _ _ h w (lv_sub hl [1, 0] rfl)
theorem mtX2_readCompressor {rr : Int32} {MR : M2} {JR : J2}     (h : fX2_readCompressor  M J = some (rr, MR, JR)) : MtI l yX2_readCompressor wdX2_readCompressor rmX2_readCompressor E [.ref (ad E 7 0)] (sg G 7 M) (sg K 7 J) rr (sg G 7 MR) (sg K 7 JR) := by
  intro sz
  refine Met.ofW (cc := cX2_readCompressor) (maxL := 2) (ret := (some .int)) (by decide) rfl ?_
  intro p e s m args below meth c s₁ B hml hv
  obtain ⟨rfl, C, w⟩ := Cx.of (own := RX2) B rfl hml hv
  have hl := lv_entry ([.ref (ad E 7 0)]) (n := 2) (by first | exact Nat.le_of_ble_eq_true rfl)
  rw [lg_entry_eq]
  generalize (lg_sl ([.ref (ad E 7 0)]) ++ List.replicate (2 - (lg_sl ([.ref (ad E 7 0)])).length) Slot.unset).toArray = ls at hl ⊢
  exact TX2_readCompressor C   h w hl
theorem ydX2_readCompressor : yX2_readCompressor.cls = RX2 ∧ yX2_readCompressor.cls ≠ "java/lang/invoke/MethodHandle" ∧ yX2_readCompressor.cls ≠ "java/lang/invoke/VarHandle" ∧ (parseMethodDescriptor yX2_readCompressor.desc).map (fun d => d.parameters.length) = some 0 := by decide +kernel
/-! X2.readNumber(III)I -/
abbrev rmX2_readNumber : Room := { frames := 2, cells := 0, slots := 0, locals := 34 }
abbrev wdX2_readNumber : Cond := Cond.code yX2_readNumber cX2_readNumber 6 (some .int)
noncomputable def fbX2_readNumber_89 (F : Nat)   (a5 : Int32) (M : M2) (J : J2) : Option (Int32 × M2 × J2) := bnd (up2 M 0 3 (M 0 2)) (fun M1 => some (a5, M1, J))
set_option maxRecDepth 20000 in
set_option maxHeartbeats 1000000 in
theorem TX2_readNumber_89 {rr : Int32} {MR : M2} {JR : J2}   (C : Cx E A p s m args meth c wdX2_readNumber cX2_readNumber 6 (some .int) RX2)   (a5 : Int32) (M : M2) (J : J2)  (h : fbX2_readNumber_89 F  a5 M J = some (rr, MR, JR)) (w : Wd E A s (sg G 7 M) (sg K 7 J) H locs) (hl : lv_has ls 6 [(0, .ref (ad E 7 0)), (5, .int a5)]) : W p l e rmX2_readNumber s m args below meth c H locs 0 0 (QI E A below args s rr (sg G 7 MR) (sg K 7 JR)) (F0 m 89 ls []) := by
  obtain ⟨hx, hb, hr, hml, hown, hts, hlocks, hKK, hA1, hA2⟩ := id C
  unfold fbX2_readNumber_89 at h
  refine lv_aload_n hx hb dX2_readNumber_89 rfl (lv_at hl 0 rfl) ?_
  refine lv_aload_n hx hb dX2_readNumber_90 rfl (lv_at hl 0 rfl) ?_
  refine gL_X2_position C w q29_20 dX2_readNumber_91 ?_
  refine pL_X2_error C w q29_21 dX2_readNumber_94 (fun M1 H locs e2 w => ?_)
  replace h := bnd_of h e2
  refine lv_goto (tgt := 116) hx hb dX2_readNumber_97 (by decide) ?_
  refine lv_iload hx hb dX2_readNumber_116 (lv_at hl 1 rfl) ?_
  obtain ⟨e1, e2, e3⟩ := rt3 h
  exact x_ri C w e1 (by rw [e2]) (by rw [e3]) dX2_readNumber_118
noncomputable def fbX2_readNumber_66 (F : Nat)   (a2 : Int32) (a3 : Int32) (a4 : Int32) (a5 : Int32) (M : M2) (J : J2) : Option (Int32 × M2 × J2) := (if (M 0 2) = a4 then (fbX2_readNumber_89 F a5 M J) else ((fX2_byteAt M J (M 0 2)).bind (fun vv3 => (if (fX2_isDigit vv3) = 0 then ((if ¬ (fX4_isWithin a5 a2 a3) = 0 then (some (a5, M, J)) else (bnd (up2 M 0 3 a4) (fun M6 => some (a5, M6, J))))) else (fbX2_readNumber_89 F a5 M J)))))
set_option maxRecDepth 20000 in
set_option maxHeartbeats 1000000 in
theorem TX2_readNumber_66 {rr : Int32} {MR : M2} {JR : J2}   (C : Cx E A p s m args meth c wdX2_readNumber cX2_readNumber 6 (some .int) RX2)   (a2 : Int32) (a3 : Int32) (a4 : Int32) (a5 : Int32) (M : M2) (J : J2)  (h : fbX2_readNumber_66 F  a2 a3 a4 a5 M J = some (rr, MR, JR)) (w : Wd E A s (sg G 7 M) (sg K 7 J) H locs) (hl : lv_has ls 6 [(0, .ref (ad E 7 0)), (2, .int a2), (3, .int a3), (4, .int a4), (5, .int a5)]) : W p l e rmX2_readNumber s m args below meth c H locs 0 0 (QI E A below args s rr (sg G 7 MR) (sg K 7 JR)) (F0 m 66 ls []) := by
  obtain ⟨hx, hb, hr, hml, hown, hts, hlocks, hKK, hA1, hA2⟩ := id C
  unfold fbX2_readNumber_66 at h
  refine lv_aload_n hx hb dX2_readNumber_66 rfl (lv_at hl 0 rfl) ?_
  refine gL_X2_position C w q29_20 dX2_readNumber_67 ?_
  refine lv_iload hx hb dX2_readNumber_70 (lv_at hl 3 rfl) ?_
  refine lv_icmp_eq (tgt := 89) hx hb dX2_readNumber_72 (by decide) (fun c1 => ?_) (fun c1 => ?_)
  · replace h := ite_t h c1
    exact TX2_readNumber_89 C   _ _ _ h w (lv_sub hl [0, 4] rfl)
  · replace h := ite_f h c1
    refine lv_aload_n hx hb dX2_readNumber_75 rfl (lv_at hl 0 rfl) ?_
    refine lv_aload_n hx hb dX2_readNumber_76 rfl (lv_at hl 0 rfl) ?_
    refine gL_X2_position C w q29_20 dX2_readNumber_77 ?_
    obtain ⟨vv3, hv2, h⟩ := bind_of h
    refine x_cVi (As := [.int (M 0 2)]) (rest := []) C w (v7 (by decide)) cel_7 rfl (mtX2_byteAt  hv2) q29_22 q29_23 q30_0 q2_0 q30_1 ydX2_byteAt ⟨rfl, rfl⟩ ⟨by decide, by decide⟩ ⟨Nat.zero_le _, Nat.zero_le _⟩ hl.1 (Nat.le_of_ble_eq_true rfl) rfl dX2_readNumber_80 (fun H locs w => ?_)
    refine x_cSi (As := [.int vv3]) (rest := []) C w (mtX2_isDigit ) q30_10 q30_11 q2_0 q30_12 ydX2_isDigit ⟨rfl, rfl⟩ ⟨by decide, by decide⟩ ⟨Nat.zero_le _, Nat.zero_le _⟩ hl.1 (Nat.le_of_ble_eq_true rfl) rfl dX2_readNumber_83 (fun H locs w => ?_)
    refine lv_if_eq (tgt := 100) hx hb dX2_readNumber_86 (by decide) (fun c4 => ?_) (fun c4 => ?_)
    · replace h := ite_t h c4
      refine lv_iload hx hb dX2_readNumber_100 (lv_at hl 4 rfl) ?_
      refine lv_iload_n hx hb dX2_readNumber_102 rfl (lv_at hl 1 rfl) ?_
      refine lv_iload_n hx hb dX2_readNumber_103 rfl (lv_at hl 2 rfl) ?_
      refine x_cNi (As := [.int a5, .int a2, .int a3]) (rest := []) C w (mtX4_isWithin ) (List.mem_of_getElem? (i := 2) rfl) q4_20 q1_2 q4_21 ynX4_isWithin ⟨rfl, rfl⟩ ⟨by decide, by decide⟩ ⟨Nat.zero_le _, Nat.zero_le _⟩ hl.1 (Nat.le_of_ble_eq_true rfl) rfl dX2_readNumber_104 (fun H locs w => ?_)
      refine lv_if_ne (tgt := 116) hx hb dX2_readNumber_107 (by decide) (fun c5 => ?_) (fun c5 => ?_)
      · replace h := ite_t h c5
        refine lv_iload hx hb dX2_readNumber_116 (lv_at hl 4 rfl) ?_
        obtain ⟨e1, e2, e3⟩ := rt3 h
        exact x_ri C w e1 (by rw [e2]) (by rw [e3]) dX2_readNumber_118
      · replace h := ite_f h (fun z => z c5)
        refine lv_aload_n hx hb dX2_readNumber_110 rfl (lv_at hl 0 rfl) ?_
        refine lv_iload hx hb dX2_readNumber_111 (lv_at hl 3 rfl) ?_
        refine pL_X2_error C w q29_21 dX2_readNumber_113 (fun M6 H locs e7 w => ?_)
        replace h := bnd_of h e7
        refine lv_iload hx hb dX2_readNumber_116 (lv_at hl 4 rfl) ?_
        obtain ⟨e1, e2, e3⟩ := rt3 h
        exact x_ri C w e1 (by rw [e2]) (by rw [e3]) dX2_readNumber_118
    · replace h := ite_f h c4
      exact TX2_readNumber_89 C   _ _ _ h w (lv_sub hl [0, 4] rfl)
noncomputable def fsX2_readNumber_9 (F : Nat)   (k9 : Int32 → Int32 → Int32 → Int32 → Int32 → M2 → J2 → Option (Int32 × M2 × J2)) : Int32 → Int32 → Int32 → Int32 → Int32 → M2 → J2 → Option (Int32 × M2 × J2) := fun a1 a2 a3 a4 a5 M J => (if (a4 + a1) ≤ (M 0 2) then (fbX2_readNumber_66 F a2 a3 a4 a5 M J) else ((fX2_byteAt M J (M 0 2)).bind (fun vv3 => (if (fX2_isDigit vv3) = 0 then (fbX2_readNumber_66 F a2 a3 a4 a5 M J) else ((fX2_byteAt M J (M 0 2)).bind (fun vv6 => bnd (up2 M 0 2 ((M 0 2) + (1 : Int32))) (fun M7 => k9 a1 a2 a3 a4 ((((10 : Int32) * a5) + vv6) - (48 : Int32)) M7 J)))))))
noncomputable def fbX2_readNumber_9 (F : Nat)   (n : Nat) : Int32 → Int32 → Int32 → Int32 → Int32 → M2 → J2 → Option (Int32 × M2 × J2) := itr (fsX2_readNumber_9 F ) (fun _ _ _ _ _ _ _ => none) n
set_option maxRecDepth 20000 in
set_option maxHeartbeats 1000000 in
theorem SX2_readNumber_9 {rr : Int32} {MR : M2} {JR : J2}   {k9 : Int32 → Int32 → Int32 → Int32 → Int32 → M2 → J2 → Option (Int32 × M2 × J2)} (C : Cx E A p s m args meth c wdX2_readNumber cX2_readNumber 6 (some .int) RX2)   (hk9 : ∀ (a1 : Int32) (a2 : Int32) (a3 : Int32) (a4 : Int32) (a5 : Int32) (M : M2) (J : J2)  (ls : Array Slot) (H : Heap) (locs : List Loc), k9 a1 a2 a3 a4 a5 M J = some (rr, MR, JR) → Wd E A s (sg G 7 M) (sg K 7 J) H locs → lv_has ls 6 [(0, .ref (ad E 7 0)), (1, .int a1), (2, .int a2), (3, .int a3), (4, .int a4), (5, .int a5)] → W p l e rmX2_readNumber s m args below meth c H locs 0 0 (QI E A below args s rr (sg G 7 MR) (sg K 7 JR)) (F0 m 9 ls [])) (a1 : Int32) (a2 : Int32) (a3 : Int32) (a4 : Int32) (a5 : Int32) (M : M2) (J : J2)  (h : fsX2_readNumber_9 F  k9 a1 a2 a3 a4 a5 M J = some (rr, MR, JR)) (w : Wd E A s (sg G 7 M) (sg K 7 J) H locs) (hl : lv_has ls 6 [(0, .ref (ad E 7 0)), (1, .int a1), (2, .int a2), (3, .int a3), (4, .int a4), (5, .int a5)]) : W p l e rmX2_readNumber s m args below meth c H locs 0 0 (QI E A below args s rr (sg G 7 MR) (sg K 7 JR)) (F0 m 9 ls []) := by
  obtain ⟨hx, hb, hr, hml, hown, hts, hlocks, hKK, hA1, hA2⟩ := id C
  unfold fsX2_readNumber_9 at h
  refine lv_aload_n hx hb dX2_readNumber_9 rfl (lv_at hl 0 rfl) ?_
  refine gL_X2_position C w q29_20 dX2_readNumber_10 ?_
  refine lv_iload hx hb dX2_readNumber_13 (lv_at hl 4 rfl) ?_
  refine lv_iload_n hx hb dX2_readNumber_15 rfl (lv_at hl 1 rfl) ?_
  refine lv_iadd hx hb dX2_readNumber_16 ?_
  refine lv_icmp_ge (tgt := 66) hx hb dX2_readNumber_17 (by decide) (fun c1 => ?_) (fun c1 => ?_)
  · replace h := ite_t h c1
    exact TX2_readNumber_66 C   _ _ _ _ _ _ h w (lv_sub hl [0, 2, 3, 4, 5] rfl)
  · replace h := ite_f h c1
    refine lv_aload_n hx hb dX2_readNumber_20 rfl (lv_at hl 0 rfl) ?_
    refine lv_aload_n hx hb dX2_readNumber_21 rfl (lv_at hl 0 rfl) ?_
    refine gL_X2_position C w q29_20 dX2_readNumber_22 ?_
    obtain ⟨vv3, hv2, h⟩ := bind_of h
    refine x_cVi (As := [.int (M 0 2)]) (rest := []) C w (v7 (by decide)) cel_7 rfl (mtX2_byteAt  hv2) q29_22 q29_23 q30_0 q2_0 q30_1 ydX2_byteAt ⟨rfl, rfl⟩ ⟨by decide, by decide⟩ ⟨Nat.zero_le _, Nat.zero_le _⟩ hl.1 (Nat.le_of_ble_eq_true rfl) rfl dX2_readNumber_25 (fun H locs w => ?_)
    refine x_cSi (As := [.int vv3]) (rest := []) C w (mtX2_isDigit ) q30_10 q30_11 q2_0 q30_12 ydX2_isDigit ⟨rfl, rfl⟩ ⟨by decide, by decide⟩ ⟨Nat.zero_le _, Nat.zero_le _⟩ hl.1 (Nat.le_of_ble_eq_true rfl) rfl dX2_readNumber_28 (fun H locs w => ?_)
    refine lv_if_eq (tgt := 66) hx hb dX2_readNumber_31 (by decide) (fun c4 => ?_) (fun c4 => ?_)
    · replace h := ite_t h c4
      exact TX2_readNumber_66 C   _ _ _ _ _ _ h w (lv_sub hl [0, 2, 3, 4, 5] rfl)
    · replace h := ite_f h c4
      refine lv_bipush (v := (10 : Int32)) hx hb dX2_readNumber_34 (by decide) ?_
      refine lv_iload hx hb dX2_readNumber_36 (lv_at hl 5 rfl) ?_
      refine lv_imul hx hb dX2_readNumber_38 ?_
      refine lv_aload_n hx hb dX2_readNumber_39 rfl (lv_at hl 0 rfl) ?_
      refine lv_aload_n hx hb dX2_readNumber_40 rfl (lv_at hl 0 rfl) ?_
      refine gL_X2_position C w q29_20 dX2_readNumber_41 ?_
      obtain ⟨vv6, hv5, h⟩ := bind_of h
      refine x_cVi (As := [.int (M 0 2)]) (rest := [.int ((10 : Int32) * a5)]) C w (v7 (by decide)) cel_7 rfl (mtX2_byteAt  hv5) q29_22 q29_23 q30_0 q2_0 q30_1 ydX2_byteAt ⟨rfl, rfl⟩ ⟨by decide, by decide⟩ ⟨Nat.zero_le _, Nat.zero_le _⟩ hl.1 (Nat.le_of_ble_eq_true rfl) rfl dX2_readNumber_44 (fun H locs w => ?_)
      refine lv_iadd hx hb dX2_readNumber_47 ?_
      refine lv_bipush (v := (48 : Int32)) hx hb dX2_readNumber_48 (by decide) ?_
      refine lv_isub hx hb dX2_readNumber_50 ?_
      refine lv_istore (lv' := [(5, .int ((((10 : Int32) * a5) + vv6) - (48 : Int32))), (0, .ref (ad E 7 0)), (1, .int a1), (2, .int a2), (3, .int a3), (4, .int a4)]) hx hb dX2_readNumber_51 hl (by decide) rfl (fun ls hl => ?_)
      refine lv_aload_n hx hb dX2_readNumber_53 rfl (lv_at hl 1 rfl) ?_
      refine lv_dup hx hb dX2_readNumber_54 rfl ?_
      refine gL_X2_position C w q29_20 dX2_readNumber_55 ?_
      refine lv_iconst (v := (1 : Int32)) hx hb dX2_readNumber_58 (by decide) ?_
      refine lv_iadd hx hb dX2_readNumber_59 ?_
      refine pL_X2_position C w q29_20 dX2_readNumber_60 (fun M7 H locs e8 w => ?_)
      replace h := bnd_of h e8
      refine lv_goto (tgt := 9) hx hb dX2_readNumber_63 (by decide) ?_
      exact hk9 _ _ _ _ _ _ _ _ _ _ h w (lv_sub hl [1, 2, 3, 4, 5, 0] rfl)
theorem TX2_readNumber_9 {rr : Int32} {MR : M2} {JR : J2}   (C : Cx E A p s m args meth c wdX2_readNumber cX2_readNumber 6 (some .int) RX2)   : ∀ (n : Nat) (a1 : Int32) (a2 : Int32) (a3 : Int32) (a4 : Int32) (a5 : Int32) (M : M2) (J : J2)  (ls : Array Slot) (H : Heap) (locs : List Loc), fbX2_readNumber_9 F  n a1 a2 a3 a4 a5 M J = some (rr, MR, JR) → Wd E A s (sg G 7 M) (sg K 7 J) H locs → lv_has ls 6 [(0, .ref (ad E 7 0)), (1, .int a1), (2, .int a2), (3, .int a3), (4, .int a4), (5, .int a5)] → W p l e rmX2_readNumber s m args below meth c H locs 0 0 (QI E A below args s rr (sg G 7 MR) (sg K 7 JR)) (F0 m 9 ls []) := by
  intro n
  induction n with
  | zero => intro a1 a2 a3 a4 a5 M J  ls H locs h; exact absurd (show none = _ from h) (fun z => nomatch z)
  | succ n ih => intro a1 a2 a3 a4 a5 M J  ls H locs h w hl; exact SX2_readNumber_9 (F := F) C   ih a1 a2 a3 a4 a5 M J  h w hl
noncomputable def fX2_readNumber (F : Nat)  (x1 : Int32) (x2 : Int32) (x3 : Int32) (M : M2) (J : J2) : Option (Int32 × M2 × J2) := fbX2_readNumber_9 F F x1 x2 x3 (M 0 2) (0 : Int32) M J
set_option maxRecDepth 20000 in
set_option maxHeartbeats 1000000 in
theorem TX2_readNumber {rr : Int32} {MR : M2} {JR : J2}  (C : Cx E A p s m args meth c wdX2_readNumber cX2_readNumber 6 (some .int) RX2)  {x1 : Int32} {x2 : Int32} {x3 : Int32}  (h : fX2_readNumber F  x1 x2 x3 M J = some (rr, MR, JR)) (w : Wd E A s (sg G 7 M) (sg K 7 J) H locs) (hl : lv_has ls 6 [(0, .ref (ad E 7 0)), (1, .int x1), (2, .int x2), (3, .int x3)]) : W p l e rmX2_readNumber s m args below meth c H locs 0 0 (QI E A below args s rr (sg G 7 MR) (sg K 7 JR)) (F0 m 0 ls []) := by
  obtain ⟨hx, hb, hr, hml, hown, hts, hlocks, hKK, hA1, hA2⟩ := id C
  unfold fX2_readNumber at h
  refine lv_aload_n hx hb dX2_readNumber_0 rfl (lv_at hl 0 rfl) ?_
  refine gL_X2_position C w q29_20 dX2_readNumber_1 ?_
  refine lv_istore (lv' := [(4, .int (M 0 2)), (0, .ref (ad E 7 0)), (1, .int x1), (2, .int x2), (3, .int x3)]) hx hb dX2_readNumber_4 hl (by decide) rfl (fun ls hl => ?_)
  refine lv_iconst (v := (0 : Int32)) hx hb dX2_readNumber_6 (by decide) ?_
  refine lv_istore (lv' := [(5, .int (0 : Int32)), (4, .int (M 0 2)), (0, .ref (ad E 7 0)), (1, .int x1), (2, .int x2), (3, .int x3)]) hx hb dX2_readNumber_7 hl (by decide) rfl (fun ls hl => ?_)
  exact TX2_readNumber_9 C   _ _ _ _ _ _ _ _ _ _ _ h w (lv_sub hl [2, 3, 4, 5, 1, 0] rfl)
theorem mtX2_readNumber {rr : Int32} {MR : M2} {JR : J2}   {x1 : Int32} {x2 : Int32} {x3 : Int32}  (h : fX2_readNumber F  x1 x2 x3 M J = some (rr, MR, JR)) : MtI l yX2_readNumber wdX2_readNumber rmX2_readNumber E [.ref (ad E 7 0), .int x1, .int x2, .int x3] (sg G 7 M) (sg K 7 J) rr (sg G 7 MR) (sg K 7 JR) := by
  intro sz
  refine Met.ofW (cc := cX2_readNumber) (maxL := 6) (ret := (some .int)) (by decide) rfl ?_
  intro p e s m args below meth c s₁ B hml hv
  obtain ⟨rfl, C, w⟩ := Cx.of (own := RX2) B rfl hml hv
  have hl := lv_entry ([.ref (ad E 7 0), .int x1, .int x2, .int x3]) (n := 6) (by first | exact Nat.le_of_ble_eq_true rfl)
  rw [lg_entry_eq]
  generalize (lg_sl ([.ref (ad E 7 0), .int x1, .int x2, .int x3]) ++ List.replicate (6 - (lg_sl ([.ref (ad E 7 0), .int x1, .int x2, .int x3])).length) Slot.unset).toArray = ls at hl ⊢
  exact TX2_readNumber C   h w hl
theorem ydX2_readNumber : yX2_readNumber.cls = RX2 ∧ yX2_readNumber.cls ≠ "java/lang/invoke/MethodHandle" ∧ yX2_readNumber.cls ≠ "java/lang/invoke/VarHandle" ∧ (parseMethodDescriptor yX2_readNumber.desc).map (fun d => d.parameters.length) = some 3 := by decide +kernel
/-! X2.readOrder(I)I -/
abbrev rmX2_readOrder : Room := { frames := 3, cells := 0, slots := 0, locals := 59 }
abbrev wdX2_readOrder : Cond := Cond.code yX2_readOrder cX2_readOrder 4 (some .int)
noncomputable def fbX2_readOrder_113 (F : Nat)   (a3 : Int32) (M : M2) (J : J2) : Option (Int32 × M2 × J2) := bd2 (fX2_readSemicolon M J) (fun M2 J3 => some (a3, M2, J3))
set_option maxRecDepth 20000 in
set_option maxHeartbeats 1000000 in
theorem TX2_readOrder_113 {rr : Int32} {MR : M2} {JR : J2}   (C : Cx E A p s m args meth c wdX2_readOrder cX2_readOrder 4 (some .int) RX2)   (a3 : Int32) (M : M2) (J : J2)  (h : fbX2_readOrder_113 F  a3 M J = some (rr, MR, JR)) (w : Wd E A s (sg G 7 M) (sg K 7 J) H locs) (hl : lv_has ls 4 [(0, .ref (ad E 7 0)), (3, .int a3)]) : W p l e rmX2_readOrder s m args below meth c H locs 0 0 (QI E A below args s rr (sg G 7 MR) (sg K 7 JR)) (F0 m 113 ls []) := by
  obtain ⟨hx, hb, hr, hml, hown, hts, hlocks, hKK, hA1, hA2⟩ := id C
  unfold fbX2_readOrder_113 at h
  refine lv_aload_n hx hb dX2_readOrder_113 rfl (lv_at hl 0 rfl) ?_
  obtain ⟨M2, J3, hv1, h⟩ := bd2_of h
  refine x_cVv (As := []) (rest := []) C w (v7 (by decide)) cel_7 rfl (mtX2_readSemicolon  hv1) q30_17 q30_18 q30_19 q2_0 q30_20 ydX2_readSemicolon ⟨rfl, rfl⟩ ⟨by decide, by decide⟩ ⟨Nat.zero_le _, Nat.zero_le _⟩ hl.1 (Nat.le_of_ble_eq_true rfl) rfl dX2_readOrder_114 (fun H locs w => ?_)
  refine lv_iload_n hx hb dX2_readOrder_117 rfl (lv_at hl 1 rfl) ?_
  obtain ⟨e1, e2, e3⟩ := rt3 h
  exact x_ri C w e1 (by rw [e2]) (by rw [e3]) dX2_readOrder_118
noncomputable def fX2_readOrder (F : Nat)  (x1 : Int32) (M : M2) (J : J2) : Option (Int32 × M2 × J2) := bnd (up2 M 0 2 ((M 0 2) + (1 : Int32))) (fun M1 => (if x1 = (99 : Int32) then (bd3 (fX2_readCompressor M1 J) (fun vv11 M9 J10 => fbX2_readOrder_113 F vv11 M9 J10)) else if x1 = (100 : Int32) then (bd3 (fX2_readNumber F (4 : Int32) (0 : Int32) (rowMost 6) M1 J) (fun vv16 M14 J15 => fbX2_readOrder_113 F vv16 M14 J15)) else if x1 = (109 : Int32) then (bd3 (fX2_readNumber F (3 : Int32) (1 : Int32) (600 : Int32) M1 J) (fun vv20 M18 J19 => fbX2_readOrder_113 F vv20 M18 J19)) else if x1 = (114 : Int32) then (fbX2_readOrder_113 F (0 : Int32) M1 J) else if x1 = (116 : Int32) then (bd3 (fX2_readCompressor M1 J) (fun vv24 M22 J23 => fbX2_readOrder_113 F vv24 M22 J23)) else (bnd (up2 M1 0 3 (M 0 2)) (fun M25 => fbX2_readOrder_113 F (0 : Int32) M25 J))))
set_option maxRecDepth 20000 in
set_option maxHeartbeats 1000000 in
theorem TX2_readOrder {rr : Int32} {MR : M2} {JR : J2}  (C : Cx E A p s m args meth c wdX2_readOrder cX2_readOrder 4 (some .int) RX2)  {x1 : Int32}  (h : fX2_readOrder F  x1 M J = some (rr, MR, JR)) (w : Wd E A s (sg G 7 M) (sg K 7 J) H locs) (hl : lv_has ls 4 [(0, .ref (ad E 7 0)), (1, .int x1)]) : W p l e rmX2_readOrder s m args below meth c H locs 0 0 (QI E A below args s rr (sg G 7 MR) (sg K 7 JR)) (F0 m 0 ls []) := by
  obtain ⟨hx, hb, hr, hml, hown, hts, hlocks, hKK, hA1, hA2⟩ := id C
  unfold fX2_readOrder at h
  refine lv_aload_n hx hb dX2_readOrder_0 rfl (lv_at hl 0 rfl) ?_
  refine gL_X2_position C w q29_20 dX2_readOrder_1 ?_
  refine lv_istore_n (lv' := [(2, .int (M 0 2)), (0, .ref (ad E 7 0)), (1, .int x1)]) hx hb dX2_readOrder_4 rfl hl (by decide) rfl (fun ls hl => ?_)
  refine lv_iconst (v := (0 : Int32)) hx hb dX2_readOrder_5 (by decide) ?_
  refine lv_istore_n (lv' := [(3, .int (0 : Int32)), (2, .int (M 0 2)), (0, .ref (ad E 7 0)), (1, .int x1)]) hx hb dX2_readOrder_6 rfl hl (by decide) rfl (fun ls hl => ?_)
  refine lv_aload_n hx hb dX2_readOrder_7 rfl (lv_at hl 2 rfl) ?_
  refine lv_dup hx hb dX2_readOrder_8 rfl ?_
  refine gL_X2_position C w q29_20 dX2_readOrder_9 ?_
  refine lv_iconst (v := (1 : Int32)) hx hb dX2_readOrder_12 (by decide) ?_
  refine lv_iadd hx hb dX2_readOrder_13 ?_
  refine pL_X2_position C w q29_20 dX2_readOrder_14 (fun M1 H locs e2 w => ?_)
  replace h := bnd_of h e2
  refine lv_iload_n hx hb dX2_readOrder_17 rfl (lv_at hl 3 rfl) ?_
  by_cases c3 : x1 = (99 : Int32)
  · replace h := ite_t h c3
    refine lv_lookup (off := 79) (tgt := 97) hx hb dX2_readOrder_18 (by decide) (by rw [c3]; decide) (by decide) ?_
    refine lv_aload_n hx hb dX2_readOrder_97 rfl (lv_at hl 2 rfl) ?_
    obtain ⟨vv11, M9, J10, hv8, h⟩ := bd3_of h
    refine x_cVi (As := []) (rest := []) C w (v7 (by decide)) cel_7 rfl (mtX2_readCompressor  hv8) q30_13 q30_14 q30_15 q2_0 q30_16 ydX2_readCompressor ⟨rfl, rfl⟩ ⟨by decide, by decide⟩ ⟨Nat.zero_le _, Nat.zero_le _⟩ hl.1 (Nat.le_of_ble_eq_true rfl) rfl dX2_readOrder_98 (fun H locs w => ?_)
    refine lv_istore_n (lv' := [(3, .int vv11), (2, .int (M 0 2)), (0, .ref (ad E 7 0)), (1, .int x1)]) hx hb dX2_readOrder_101 rfl hl (by decide) rfl (fun ls hl => ?_)
    refine lv_goto (tgt := 113) hx hb dX2_readOrder_102 (by decide) ?_
    exact TX2_readOrder_113 C   _ _ _ h w (lv_sub hl [2, 0] rfl)
  replace h := ite_f h c3
  by_cases c4 : x1 = (100 : Int32)
  · replace h := ite_t h c4
    refine lv_lookup (off := 50) (tgt := 68) hx hb dX2_readOrder_18 (by decide) (by rw [c4]; decide) (by decide) ?_
    refine lv_aload_n hx hb dX2_readOrder_68 rfl (lv_at hl 2 rfl) ?_
    refine lv_iconst (v := (4 : Int32)) hx hb dX2_readOrder_69 (by decide) ?_
    refine lv_iconst (v := (0 : Int32)) hx hb dX2_readOrder_70 (by decide) ?_
    refine x_srowN C w hKK.2.2.2.1.2.1 (List.mem_of_getElem? (i := 3) rfl) dX2_readOrder_71 (fun b12 hXb12 hblb12 hbAb12 => ?_)
    refine lv_bipush (v := (6 : Int32)) hx hb dX2_readOrder_74 (by decide) ?_
    refine x_sld C w hXb12 hblb12 hbAb12 (inb_k (k := 6) (by decide) (by decide)) cl_6 dX2_readOrder_76 ?_
    obtain ⟨vv16, M14, J15, hv13, h⟩ := bd3_of h
    refine x_cVi (As := [.int (4 : Int32), .int (0 : Int32), .int (rowMost 6)]) (rest := []) C w (v7 (by decide)) cel_7 rfl (mtX2_readNumber  hv13) q30_6 q30_7 q30_8 q2_0 q30_9 ydX2_readNumber ⟨rfl, rfl⟩ ⟨by decide, by decide⟩ ⟨Nat.zero_le _, Nat.zero_le _⟩ hl.1 (Nat.le_of_ble_eq_true rfl) rfl dX2_readOrder_77 (fun H locs w => ?_)
    refine lv_istore_n (lv' := [(3, .int vv16), (2, .int (M 0 2)), (0, .ref (ad E 7 0)), (1, .int x1)]) hx hb dX2_readOrder_80 rfl hl (by decide) rfl (fun ls hl => ?_)
    refine lv_goto (tgt := 113) hx hb dX2_readOrder_81 (by decide) ?_
    exact TX2_readOrder_113 C   _ _ _ h w (lv_sub hl [2, 0] rfl)
  replace h := ite_f h c4
  by_cases c5 : x1 = (109 : Int32)
  · replace h := ite_t h c5
    refine lv_lookup (off := 66) (tgt := 84) hx hb dX2_readOrder_18 (by decide) (by rw [c5]; decide) (by decide) ?_
    refine lv_aload_n hx hb dX2_readOrder_84 rfl (lv_at hl 2 rfl) ?_
    refine lv_iconst (v := (3 : Int32)) hx hb dX2_readOrder_85 (by decide) ?_
    refine lv_iconst (v := (1 : Int32)) hx hb dX2_readOrder_86 (by decide) ?_
    refine lv_sipush (v := (600 : Int32)) hx hb dX2_readOrder_87 (by decide) ?_
    obtain ⟨vv20, M18, J19, hv17, h⟩ := bd3_of h
    refine x_cVi (As := [.int (3 : Int32), .int (1 : Int32), .int (600 : Int32)]) (rest := []) C w (v7 (by decide)) cel_7 rfl (mtX2_readNumber  hv17) q30_6 q30_7 q30_8 q2_0 q30_9 ydX2_readNumber ⟨rfl, rfl⟩ ⟨by decide, by decide⟩ ⟨Nat.zero_le _, Nat.zero_le _⟩ hl.1 (Nat.le_of_ble_eq_true rfl) rfl dX2_readOrder_90 (fun H locs w => ?_)
    refine lv_istore_n (lv' := [(3, .int vv20), (2, .int (M 0 2)), (0, .ref (ad E 7 0)), (1, .int x1)]) hx hb dX2_readOrder_93 rfl hl (by decide) rfl (fun ls hl => ?_)
    refine lv_goto (tgt := 113) hx hb dX2_readOrder_94 (by decide) ?_
    exact TX2_readOrder_113 C   _ _ _ h w (lv_sub hl [2, 0] rfl)
  replace h := ite_f h c5
  by_cases c6 : x1 = (114 : Int32)
  · replace h := ite_t h c6
    refine lv_lookup (off := 87) (tgt := 105) hx hb dX2_readOrder_18 (by decide) (by rw [c6]; decide) (by decide) ?_
    refine lv_goto (tgt := 113) hx hb dX2_readOrder_105 (by decide) ?_
    exact TX2_readOrder_113 C   _ _ _ h w (lv_sub hl [2, 0] rfl)
  replace h := ite_f h c6
  by_cases c7 : x1 = (116 : Int32)
  · replace h := ite_t h c7
    refine lv_lookup (off := 79) (tgt := 97) hx hb dX2_readOrder_18 (by decide) (by rw [c7]; decide) (by decide) ?_
    refine lv_aload_n hx hb dX2_readOrder_97 rfl (lv_at hl 2 rfl) ?_
    obtain ⟨vv24, M22, J23, hv21, h⟩ := bd3_of h
    refine x_cVi (As := []) (rest := []) C w (v7 (by decide)) cel_7 rfl (mtX2_readCompressor  hv21) q30_13 q30_14 q30_15 q2_0 q30_16 ydX2_readCompressor ⟨rfl, rfl⟩ ⟨by decide, by decide⟩ ⟨Nat.zero_le _, Nat.zero_le _⟩ hl.1 (Nat.le_of_ble_eq_true rfl) rfl dX2_readOrder_98 (fun H locs w => ?_)
    refine lv_istore_n (lv' := [(3, .int vv24), (2, .int (M 0 2)), (0, .ref (ad E 7 0)), (1, .int x1)]) hx hb dX2_readOrder_101 rfl hl (by decide) rfl (fun ls hl => ?_)
    refine lv_goto (tgt := 113) hx hb dX2_readOrder_102 (by decide) ?_
    exact TX2_readOrder_113 C   _ _ _ h w (lv_sub hl [2, 0] rfl)
  replace h := ite_f h c7
  have hsw : Op.lookupswitch.offset [(99, 79), (100, 50), (109, 66), (114, 87), (116, 79)] 90 x1.toInt = 90 := by
    have n0 := ne_toInt c3
    have n1 := ne_toInt c4
    have n2 := ne_toInt c5
    have n3 := ne_toInt c6
    have n4 := ne_toInt c7
    have e0 : (99 : Int32).toInt = 99 := by decide
    have e1 : (100 : Int32).toInt = 100 := by decide
    have e2 : (109 : Int32).toInt = 109 := by decide
    have e3 : (114 : Int32).toInt = 114 := by decide
    have e4 : (116 : Int32).toInt = 116 := by decide
    simp only [e0, e1, e2, e3, e4] at n0 n1 n2 n3 n4
    rw [Op.lookupswitch.offset_cons, if_neg (fun z => n0 z.symm), Op.lookupswitch.offset_cons, if_neg (fun z => n1 z.symm), Op.lookupswitch.offset_cons, if_neg (fun z => n2 z.symm), Op.lookupswitch.offset_cons, if_neg (fun z => n3 z.symm), Op.lookupswitch.offset_cons, if_neg (fun z => n4 z.symm), Op.lookupswitch.offset_nil]
  refine lv_lookup (off := 90) (tgt := 108) hx hb dX2_readOrder_18 (by decide) hsw (by decide) ?_
  refine lv_aload_n hx hb dX2_readOrder_108 rfl (lv_at hl 2 rfl) ?_
  refine lv_iload_n hx hb dX2_readOrder_109 rfl (lv_at hl 1 rfl) ?_
  refine pL_X2_error C w q29_21 dX2_readOrder_110 (fun M25 H locs e26 w => ?_)
  replace h := bnd_of h e26
  exact TX2_readOrder_113 C   _ _ _ h w (lv_sub hl [2, 0] rfl)
theorem mtX2_readOrder {rr : Int32} {MR : M2} {JR : J2}   {x1 : Int32}  (h : fX2_readOrder F  x1 M J = some (rr, MR, JR)) : MtI l yX2_readOrder wdX2_readOrder rmX2_readOrder E [.ref (ad E 7 0), .int x1] (sg G 7 M) (sg K 7 J) rr (sg G 7 MR) (sg K 7 JR) := by
  intro sz
  refine Met.ofW (cc := cX2_readOrder) (maxL := 4) (ret := (some .int)) (by decide) rfl ?_
  intro p e s m args below meth c s₁ B hml hv
  obtain ⟨rfl, C, w⟩ := Cx.of (own := RX2) B rfl hml hv
  have hl := lv_entry ([.ref (ad E 7 0), .int x1]) (n := 4) (by first | exact Nat.le_of_ble_eq_true rfl)
  rw [lg_entry_eq]
  generalize (lg_sl ([.ref (ad E 7 0), .int x1]) ++ List.replicate (4 - (lg_sl ([.ref (ad E 7 0), .int x1])).length) Slot.unset).toArray = ls at hl ⊢
  exact TX2_readOrder C   h w hl
theorem ydX2_readOrder : yX2_readOrder.cls = RX2 ∧ yX2_readOrder.cls ≠ "java/lang/invoke/MethodHandle" ∧ yX2_readOrder.cls ≠ "java/lang/invoke/VarHandle" ∧ (parseMethodDescriptor yX2_readOrder.desc).map (fun d => d.parameters.length) = some 1 := by decide +kernel
/-! X2.readOrdersOrError()I -/
abbrev rmX2_readOrdersOrError : Room := { frames := 4, cells := 0, slots := 0, locals := 82 }
abbrev wdX2_readOrdersOrError : Cond := Cond.code yX2_readOrdersOrError cX2_readOrdersOrError 2 (some .int)
noncomputable def fsX2_readOrdersOrError_17 (F : Nat)   (k17 : Int32 → M2 → J2 → Option (Int32 × M2 × J2)) : Int32 → M2 → J2 → Option (Int32 × M2 × J2) := fun a1 M J => (if (100 : Int32) ≤ a1 then (some ((M 0 3), M, J)) else ((if (M 0 0) ≤ (M 0 2) then (some ((M 0 3), M, J)) else ((if ¬ (M 0 3) = (-1 : Int32) then (some ((M 0 3), M, J)) else ((fX2_byteAt M J (M 0 2)).bind (fun vv5 => chk (inb a1 100) (bnd (up2 M 2 (a1.toNatClampNeg) vv5) (fun M7 => chk (inb a1 100) (bd3 (fX2_readOrder F (M7 2 a1.toNatClampNeg) M7 J) (fun vv13 M11 J12 => chk (inb a1 100) (bnd (up2 M11 3 (a1.toNatClampNeg) vv13) (fun M15 => bnd (up2 M15 0 1 ((M15 0 1) + (1 : Int32))) (fun M17 => k17 (a1 + (1 : Int32)) M17 J12))))))))))))))
noncomputable def fbX2_readOrdersOrError_17 (F : Nat)   (n : Nat) : Int32 → M2 → J2 → Option (Int32 × M2 × J2) := itr (fsX2_readOrdersOrError_17 F ) (fun _ _ _ => none) n
set_option maxRecDepth 20000 in
set_option maxHeartbeats 1000000 in
theorem SX2_readOrdersOrError_17 {rr : Int32} {MR : M2} {JR : J2}   {k17 : Int32 → M2 → J2 → Option (Int32 × M2 × J2)} (C : Cx E A p s m args meth c wdX2_readOrdersOrError cX2_readOrdersOrError 2 (some .int) RX2)   (hk17 : ∀ (a1 : Int32) (M : M2) (J : J2)  (ls : Array Slot) (H : Heap) (locs : List Loc), k17 a1 M J = some (rr, MR, JR) → Wd E A s (sg G 7 M) (sg K 7 J) H locs → lv_has ls 2 [(0, .ref (ad E 7 0)), (1, .int a1)] → W p l e rmX2_readOrdersOrError s m args below meth c H locs 0 0 (QI E A below args s rr (sg G 7 MR) (sg K 7 JR)) (F0 m 17 ls [])) (a1 : Int32) (M : M2) (J : J2)  (h : fsX2_readOrdersOrError_17 F  k17 a1 M J = some (rr, MR, JR)) (w : Wd E A s (sg G 7 M) (sg K 7 J) H locs) (hl : lv_has ls 2 [(0, .ref (ad E 7 0)), (1, .int a1)]) : W p l e rmX2_readOrdersOrError s m args below meth c H locs 0 0 (QI E A below args s rr (sg G 7 MR) (sg K 7 JR)) (F0 m 17 ls []) := by
  obtain ⟨hx, hb, hr, hml, hown, hts, hlocks, hKK, hA1, hA2⟩ := id C
  unfold fsX2_readOrdersOrError_17 at h
  refine lv_iload_n hx hb dX2_readOrdersOrError_17 rfl (lv_at hl 1 rfl) ?_
  refine lv_bipush (v := (100 : Int32)) hx hb dX2_readOrdersOrError_18 (by decide) ?_
  refine lv_icmp_ge (tgt := 88) hx hb dX2_readOrdersOrError_20 (by decide) (fun c1 => ?_) (fun c1 => ?_)
  · replace h := ite_t h c1
    refine lv_aload_n hx hb dX2_readOrdersOrError_88 rfl (lv_at hl 0 rfl) ?_
    refine gL_X2_error C w q29_21 dX2_readOrdersOrError_89 ?_
    obtain ⟨e1, e2, e3⟩ := rt3 h
    exact x_ri C w e1 (by rw [e2]) (by rw [e3]) dX2_readOrdersOrError_92
  · replace h := ite_f h c1
    refine lv_aload_n hx hb dX2_readOrdersOrError_23 rfl (lv_at hl 0 rfl) ?_
    refine gL_X2_position C w q29_20 dX2_readOrdersOrError_24 ?_
    refine lv_aload_n hx hb dX2_readOrdersOrError_27 rfl (lv_at hl 0 rfl) ?_
    refine gL_X2_length C w q28_20 dX2_readOrdersOrError_28 ?_
    refine lv_icmp_ge (tgt := 88) hx hb dX2_readOrdersOrError_31 (by decide) (fun c2 => ?_) (fun c2 => ?_)
    · replace h := ite_t h c2
      refine lv_aload_n hx hb dX2_readOrdersOrError_88 rfl (lv_at hl 0 rfl) ?_
      refine gL_X2_error C w q29_21 dX2_readOrdersOrError_89 ?_
      obtain ⟨e1, e2, e3⟩ := rt3 h
      exact x_ri C w e1 (by rw [e2]) (by rw [e3]) dX2_readOrdersOrError_92
    · replace h := ite_f h c2
      refine lv_aload_n hx hb dX2_readOrdersOrError_34 rfl (lv_at hl 0 rfl) ?_
      refine gL_X2_error C w q29_21 dX2_readOrdersOrError_35 ?_
      refine lv_iconst (v := (-1 : Int32)) hx hb dX2_readOrdersOrError_38 (by decide) ?_
      refine lv_icmp_ne (tgt := 88) hx hb dX2_readOrdersOrError_39 (by decide) (fun c3 => ?_) (fun c3 => ?_)
      · replace h := ite_t h c3
        refine lv_aload_n hx hb dX2_readOrdersOrError_88 rfl (lv_at hl 0 rfl) ?_
        refine gL_X2_error C w q29_21 dX2_readOrdersOrError_89 ?_
        obtain ⟨e1, e2, e3⟩ := rt3 h
        exact x_ri C w e1 (by rw [e2]) (by rw [e3]) dX2_readOrdersOrError_92
      · replace h := ite_f h (fun z => z c3)
        refine lv_aload_n hx hb dX2_readOrdersOrError_42 rfl (lv_at hl 0 rfl) ?_
        refine gR_X2_kinds C w q3_10 dX2_readOrdersOrError_43 ?_
        refine lv_iload_n hx hb dX2_readOrdersOrError_46 rfl (lv_at hl 1 rfl) ?_
        refine lv_aload_n hx hb dX2_readOrdersOrError_47 rfl (lv_at hl 0 rfl) ?_
        refine lv_aload_n hx hb dX2_readOrdersOrError_48 rfl (lv_at hl 0 rfl) ?_
        refine gL_X2_position C w q29_20 dX2_readOrdersOrError_49 ?_
        obtain ⟨vv5, hv4, h⟩ := bind_of h
        refine x_cVi (As := [.int (M 0 2)]) (rest := [.int a1, .ref (ad E 7 2)]) C w (v7 (by decide)) cel_7 rfl (mtX2_byteAt  hv4) q29_22 q29_23 q30_0 q2_0 q30_1 ydX2_byteAt ⟨rfl, rfl⟩ ⟨by decide, by decide⟩ ⟨Nat.zero_le _, Nat.zero_le _⟩ hl.1 (Nat.le_of_ble_eq_true rfl) rfl dX2_readOrdersOrError_52 (fun H locs w => ?_)
        obtain ⟨ki6, h⟩ := chk_of h
        refine x_astI_L C w (v7 (by decide)) c7_2 ki6 rfl dX2_readOrdersOrError_55 (fun M7 H locs e8 w => ?_)
        replace h := bnd_of h e8
        refine lv_aload_n hx hb dX2_readOrdersOrError_56 rfl (lv_at hl 0 rfl) ?_
        refine gR_X2_numbers C w q3_11 dX2_readOrdersOrError_57 ?_
        refine lv_iload_n hx hb dX2_readOrdersOrError_60 rfl (lv_at hl 1 rfl) ?_
        refine lv_aload_n hx hb dX2_readOrdersOrError_61 rfl (lv_at hl 0 rfl) ?_
        refine lv_aload_n hx hb dX2_readOrdersOrError_62 rfl (lv_at hl 0 rfl) ?_
        refine gR_X2_kinds C w q3_10 dX2_readOrdersOrError_63 ?_
        refine lv_iload_n hx hb dX2_readOrdersOrError_66 rfl (lv_at hl 1 rfl) ?_
        obtain ⟨ki9, h⟩ := chk_of h
        refine x_aldI_L C w (v7 (by decide)) c7_2 ki9 rfl dX2_readOrdersOrError_67 ?_
        obtain ⟨vv13, M11, J12, hv10, h⟩ := bd3_of h
        refine x_cVi (As := [.int (M7 2 a1.toNatClampNeg)]) (rest := [.int a1, .ref (ad E 7 3)]) C w (v7 (by decide)) cel_7 rfl (mtX2_readOrder  hv10) q30_2 q30_3 q30_4 q2_0 q30_5 ydX2_readOrder ⟨rfl, rfl⟩ ⟨by decide, by decide⟩ ⟨Nat.zero_le _, Nat.zero_le _⟩ hl.1 (Nat.le_of_ble_eq_true rfl) rfl dX2_readOrdersOrError_68 (fun H locs w => ?_)
        obtain ⟨ki14, h⟩ := chk_of h
        refine x_astI_L C w (v7 (by decide)) c7_3 ki14 rfl dX2_readOrdersOrError_71 (fun M15 H locs e16 w => ?_)
        replace h := bnd_of h e16
        refine lv_aload_n hx hb dX2_readOrdersOrError_72 rfl (lv_at hl 0 rfl) ?_
        refine lv_dup hx hb dX2_readOrdersOrError_73 rfl ?_
        refine gL_X2_orders C w q29_19 dX2_readOrdersOrError_74 ?_
        refine lv_iconst (v := (1 : Int32)) hx hb dX2_readOrdersOrError_77 (by decide) ?_
        refine lv_iadd hx hb dX2_readOrdersOrError_78 ?_
        refine pL_X2_orders C w q29_19 dX2_readOrdersOrError_79 (fun M17 H locs e18 w => ?_)
        replace h := bnd_of h e18
        refine lv_iinc (v := (a1 + (1 : Int32))) (lv' := [(1, .int (a1 + (1 : Int32))), (0, .ref (ad E 7 0))]) hx hb dX2_readOrdersOrError_82 hl (k := 1) rfl (congrArg (HAdd.hAdd _) (by decide)) (by decide) rfl (fun ls hl => ?_)
        refine lv_goto (tgt := 17) hx hb dX2_readOrdersOrError_85 (by decide) ?_
        exact hk17 _ _ _ _ _ _ h w (lv_sub hl [1, 0] rfl)
theorem TX2_readOrdersOrError_17 {rr : Int32} {MR : M2} {JR : J2}   (C : Cx E A p s m args meth c wdX2_readOrdersOrError cX2_readOrdersOrError 2 (some .int) RX2)   : ∀ (n : Nat) (a1 : Int32) (M : M2) (J : J2)  (ls : Array Slot) (H : Heap) (locs : List Loc), fbX2_readOrdersOrError_17 F  n a1 M J = some (rr, MR, JR) → Wd E A s (sg G 7 M) (sg K 7 J) H locs → lv_has ls 2 [(0, .ref (ad E 7 0)), (1, .int a1)] → W p l e rmX2_readOrdersOrError s m args below meth c H locs 0 0 (QI E A below args s rr (sg G 7 MR) (sg K 7 JR)) (F0 m 17 ls []) := by
  intro n
  induction n with
  | zero => intro a1 M J  ls H locs h; exact absurd (show none = _ from h) (fun z => nomatch z)
  | succ n ih => intro a1 M J  ls H locs h w hl; exact SX2_readOrdersOrError_17 (F := F) C   ih a1 M J  h w hl
noncomputable def fX2_readOrdersOrError (F : Nat)   (M : M2) (J : J2) : Option (Int32 × M2 × J2) := bnd (up2 M 0 1 (0 : Int32)) (fun M1 => bnd (up2 M1 0 2 (0 : Int32)) (fun M3 => bnd (up2 M3 0 3 (-1 : Int32)) (fun M5 => fbX2_readOrdersOrError_17 F F (0 : Int32) M5 J)))
set_option maxRecDepth 20000 in
set_option maxHeartbeats 1000000 in
theorem TX2_readOrdersOrError {rr : Int32} {MR : M2} {JR : J2}  (C : Cx E A p s m args meth c wdX2_readOrdersOrError cX2_readOrdersOrError 2 (some .int) RX2)    (h : fX2_readOrdersOrError F  M J = some (rr, MR, JR)) (w : Wd E A s (sg G 7 M) (sg K 7 J) H locs) (hl : lv_has ls 2 [(0, .ref (ad E 7 0))]) : W p l e rmX2_readOrdersOrError s m args below meth c H locs 0 0 (QI E A below args s rr (sg G 7 MR) (sg K 7 JR)) (F0 m 0 ls []) := by
  obtain ⟨hx, hb, hr, hml, hown, hts, hlocks, hKK, hA1, hA2⟩ := id C
  unfold fX2_readOrdersOrError at h
  refine lv_aload_n hx hb dX2_readOrdersOrError_0 rfl (lv_at hl 0 rfl) ?_
  refine lv_iconst (v := (0 : Int32)) hx hb dX2_readOrdersOrError_1 (by decide) ?_
  refine pL_X2_orders C w q29_19 dX2_readOrdersOrError_2 (fun M1 H locs e2 w => ?_)
  replace h := bnd_of h e2
  refine lv_aload_n hx hb dX2_readOrdersOrError_5 rfl (lv_at hl 0 rfl) ?_
  refine lv_iconst (v := (0 : Int32)) hx hb dX2_readOrdersOrError_6 (by decide) ?_
  refine pL_X2_position C w q29_20 dX2_readOrdersOrError_7 (fun M3 H locs e4 w => ?_)
  replace h := bnd_of h e4
  refine lv_aload_n hx hb dX2_readOrdersOrError_10 rfl (lv_at hl 0 rfl) ?_
  refine lv_iconst (v := (-1 : Int32)) hx hb dX2_readOrdersOrError_11 (by decide) ?_
  refine pL_X2_error C w q29_21 dX2_readOrdersOrError_12 (fun M5 H locs e6 w => ?_)
  replace h := bnd_of h e6
  refine lv_iconst (v := (0 : Int32)) hx hb dX2_readOrdersOrError_15 (by decide) ?_
  refine lv_istore_n (lv' := [(1, .int (0 : Int32)), (0, .ref (ad E 7 0))]) hx hb dX2_readOrdersOrError_16 rfl hl (by decide) rfl (fun ls hl => ?_)
  exact TX2_readOrdersOrError_17 C   _ _ _ _ _ _ _ h w (lv_sub hl [1, 0] rfl)
theorem mtX2_readOrdersOrError {rr : Int32} {MR : M2} {JR : J2}     (h : fX2_readOrdersOrError F  M J = some (rr, MR, JR)) : MtI l yX2_readOrdersOrError wdX2_readOrdersOrError rmX2_readOrdersOrError E [.ref (ad E 7 0)] (sg G 7 M) (sg K 7 J) rr (sg G 7 MR) (sg K 7 JR) := by
  intro sz
  refine Met.ofW (cc := cX2_readOrdersOrError) (maxL := 2) (ret := (some .int)) (by decide) rfl ?_
  intro p e s m args below meth c s₁ B hml hv
  obtain ⟨rfl, C, w⟩ := Cx.of (own := RX2) B rfl hml hv
  have hl := lv_entry ([.ref (ad E 7 0)]) (n := 2) (by first | exact Nat.le_of_ble_eq_true rfl)
  rw [lg_entry_eq]
  generalize (lg_sl ([.ref (ad E 7 0)]) ++ List.replicate (2 - (lg_sl ([.ref (ad E 7 0)])).length) Slot.unset).toArray = ls at hl ⊢
  exact TX2_readOrdersOrError C   h w hl
theorem ydX2_readOrdersOrError : yX2_readOrdersOrError.cls = RX2 ∧ yX2_readOrdersOrError.cls ≠ "java/lang/invoke/MethodHandle" ∧ yX2_readOrdersOrError.cls ≠ "java/lang/invoke/VarHandle" ∧ (parseMethodDescriptor yX2_readOrdersOrError.desc).map (fun d => d.parameters.length) = some 0 := by decide +kernel
/-! X1.savedAt(I)LAirStation$State; -/
abbrev rmX1_savedAt : Room := { frames := 1, cells := 0, slots := 0, locals := 12 }
abbrev wdX1_savedAt : Cond := Cond.code yX1_savedAt cX1_savedAt 2 (some (.object "AirStation$State"))
noncomputable def fX1_savedAt (G : M3) (K : J3) (x1 : Int32)  : Option (Option Nat) := (if x1 < 0 then (some none) else ((if (4 : Int32) ≤ x1 then (some none) else (chk (inb x1 4) (some (some (2 + x1.toNatClampNeg)))))))
set_option maxRecDepth 20000 in
set_option maxHeartbeats 1000000 in
theorem TX1_savedAt {rr : Option Nat}  (C : Cx E A p s m args meth c wdX1_savedAt cX1_savedAt 2 (some (.object "AirStation$State")) RX1)  {x1 : Int32}  (h : fX1_savedAt G K x1 = some rr) (w : Wd E A s G K H locs) (hl : lv_has ls 2 [(0, .ref (ad E 6 1)), (1, .int x1)]) : W p l e rmX1_savedAt s m args below meth c H locs 0 0 (QQ E A below args s (rr.map (fun z => ad E z 0)) G K) (F0 m 0 ls []) := by
  obtain ⟨hx, hb, hr, hml, hown, hts, hlocks, hKK, hA1, hA2⟩ := id C
  unfold fX1_savedAt at h
  refine lv_iload_n hx hb dX1_savedAt_0 rfl (lv_at hl 1 rfl) ?_
  refine lv_if_lt (tgt := 22) hx hb dX1_savedAt_1 (by decide) (fun c1 => ?_) (fun c1 => ?_)
  · replace h := ite_t h c1
    refine lv_null hx hb dX1_savedAt_22 ?_
    have e1 := Option.some.inj h
    exact x_rq C w (v := none) rfl (by rw [← e1]; rfl) rfl rfl dX1_savedAt_23
  · replace h := ite_f h c1
    refine lv_iload_n hx hb dX1_savedAt_4 rfl (lv_at hl 1 rfl) ?_
    refine lv_aload_n hx hb dX1_savedAt_5 rfl (lv_at hl 0 rfl) ?_
    refine gR_X1_saved C w q3_4 dX1_savedAt_6 ?_
    refine x_alen (n := 4) (v := (4 : Int32)) (t0 := 3) C w (v6 (by decide)) cel_6 rfl (by decide) dX1_savedAt_9 ?_
    refine lv_icmp_ge (tgt := 22) hx hb dX1_savedAt_10 (by decide) (fun c2 => ?_) (fun c2 => ?_)
    · replace h := ite_t h c2
      refine lv_null hx hb dX1_savedAt_22 ?_
      have e1 := Option.some.inj h
      exact x_rq C w (v := none) rfl (by rw [← e1]; rfl) rfl rfl dX1_savedAt_23
    · replace h := ite_f h c2
      refine lv_aload_n hx hb dX1_savedAt_13 rfl (lv_at hl 0 rfl) ?_
      refine gR_X1_saved C w q3_4 dX1_savedAt_14 ?_
      refine lv_iload_n hx hb dX1_savedAt_17 rfl (lv_at hl 1 rfl) ?_
      obtain ⟨ki3, h⟩ := chk_of h
      have hs4 := isS_ald ki3
      refine x_aldS C w ki3 dX1_savedAt_18 ?_
      refine lv_goto (tgt := 23) hx hb dX1_savedAt_19 (by decide) ?_
      have e1 := Option.some.inj h
      exact x_rq C w (v := (some (ad E (2 + x1.toNatClampNeg) 0))) rfl (by rw [← e1]; rfl) rfl rfl dX1_savedAt_23
theorem mtX1_savedAt {rr : Option Nat}   {x1 : Int32}  (h : fX1_savedAt G K x1 = some rr) : MtQ l yX1_savedAt wdX1_savedAt rmX1_savedAt E [.ref (ad E 6 1), .int x1] G K (rr.map (fun z => ad E z 0)) G K := by
  intro sz
  refine Met.ofW (cc := cX1_savedAt) (maxL := 2) (ret := (some (.object "AirStation$State"))) (by decide) rfl ?_
  intro p e s m args below meth c s₁ B hml hv
  obtain ⟨rfl, C, w⟩ := Cx.of (own := RX1) B rfl hml hv
  have hl := lv_entry ([.ref (ad E 6 1), .int x1]) (n := 2) (by first | exact Nat.le_of_ble_eq_true rfl)
  rw [lg_entry_eq]
  generalize (lg_sl ([.ref (ad E 6 1), .int x1]) ++ List.replicate (2 - (lg_sl ([.ref (ad E 6 1), .int x1])).length) Slot.unset).toArray = ls at hl ⊢
  exact TX1_savedAt C   h w hl
theorem ydX1_savedAt : yX1_savedAt.cls = RX1 ∧ yX1_savedAt.cls ≠ "java/lang/invoke/MethodHandle" ∧ yX1_savedAt.cls ≠ "java/lang/invoke/VarHandle" ∧ (parseMethodDescriptor yX1_savedAt.desc).map (fun d => d.parameters.length) = some 1 := by decide +kernel
/-! X1.save(LAirStation$State;)V -/
abbrev rmX1_save : Room := { frames := 3, cells := 0, slots := 0, locals := 64 }
abbrev wdX1_save : Cond := Cond.code yX1_save cX1_save 3 none
noncomputable def fbX1_save_42 (F : Nat)  (g' : Nat)  (G : M3) (K : J3) : Option (M3 × J3) := bnd (up3 G 6 1 0 (if (4 : Int32) < ((G 6 1 0) + (1 : Int32)) then (4 : Int32) else ((G 6 1 0) + (1 : Int32)))) (fun G1 => some (G1, K))
set_option maxRecDepth 20000 in
set_option maxHeartbeats 1000000 in
theorem TX1_save_42 {GR : M3} {KR : J3}   (C : Cx E A p s m args meth c wdX1_save cX1_save 3 none RX1) (hg' : g' < 6)   (G : M3) (K : J3)  (h : fbX1_save_42 F g' G K = some (GR, KR)) (w : Wd E A s G K H locs) (hl : lv_has ls 3 [(0, .ref (ad E 6 1))]) : W p l e rmX1_save s m args below meth c H locs 0 0 (QV E A below args s  GR KR) (F0 m 42 ls []) := by
  obtain ⟨hx, hb, hr, hml, hown, hts, hlocks, hKK, hA1, hA2⟩ := id C
  unfold fbX1_save_42 at h
  refine lv_aload_n hx hb dX1_save_42 rfl (lv_at hl 0 rfl) ?_
  refine lv_aload_n hx hb dX1_save_43 rfl (lv_at hl 0 rfl) ?_
  refine gG_X1_kept C w q5_6 dX1_save_44 ?_
  refine lv_iconst (v := (1 : Int32)) hx hb dX1_save_47 (by decide) ?_
  refine lv_iadd hx hb dX1_save_48 ?_
  refine lv_iconst (v := (4 : Int32)) hx hb dX1_save_49 (by decide) ?_
  refine x_min C hl.1 q5_7 q5_8 q5_9 q5_10 (by decide) (show _ ≤ _ from Nat.le_of_ble_eq_true rfl) (Nat.zero_le _) (Nat.zero_le _) dX1_save_50 ?_
  refine pG_X1_kept C w q5_6 dX1_save_53 (fun G1 H locs e2 w => ?_)
  replace h := bnd_of h e2
  obtain ⟨e2, e3⟩ := rt2 h
  exact x_rv C w (by rw [e2]) (by rw [e3]) dX1_save_56
noncomputable def fbX1_save_21 (F : Nat)  (g' : Nat) (s0 : Int32) (G : M3) (K : J3) : Option (M3 × J3) := bnd (up3 G 6 1 1 s0) (fun G1 => (fX1_savedAt G1 K (G1 6 1 1)).bind (fun vv4 => oc vv4 (fbX1_save_42 F g'  G1 K) (fun z5 => chk (isS z5) (bd2 (fX3_takeOver F z5 g' G1 K) (fun G7 K8 => fbX1_save_42 F g'  G7 K8)))))
set_option maxRecDepth 20000 in
set_option maxHeartbeats 1000000 in
theorem TX1_save_21 {GR : M3} {KR : J3}   (C : Cx E A p s m args meth c wdX1_save cX1_save 3 none RX1) (hg' : g' < 6)  (s0 : Int32) (G : M3) (K : J3)  (h : fbX1_save_21 F g' s0 G K = some (GR, KR)) (w : Wd E A s G K H locs) (hl : lv_has ls 3 [(0, .ref (ad E 6 1)), (1, .ref (ad E g' 0))]) : W p l e rmX1_save s m args below meth c H locs 0 0 (QV E A below args s  GR KR) (F0 m 21 ls [.int s0, .ref (ad E 6 1)]) := by
  obtain ⟨hx, hb, hr, hml, hown, hts, hlocks, hKK, hA1, hA2⟩ := id C
  unfold fbX1_save_21 at h
  refine pG_X1_newest C w q5_5 dX1_save_21 (fun G1 H locs e2 w => ?_)
  replace h := bnd_of h e2
  refine lv_aload_n hx hb dX1_save_24 rfl (lv_at hl 0 rfl) ?_
  refine lv_aload_n hx hb dX1_save_25 rfl (lv_at hl 0 rfl) ?_
  refine gG_X1_newest C w q5_5 dX1_save_26 ?_
  obtain ⟨vv4, hv3, h⟩ := bind_of h
  refine x_cVq (As := [.int (G1 6 1 1)]) (rest := []) C w (v6 (by decide)) cel_6 rfl (mtX1_savedAt  hv3) q5_11 q5_12 q5_13 q1_20 q5_14 ydX1_savedAt ⟨rfl, rfl⟩ ⟨by decide, by decide⟩ ⟨Nat.zero_le _, Nat.zero_le _⟩ hl.1 (Nat.le_of_ble_eq_true rfl) rfl dX1_save_29 (fun H locs w => ?_)
  cases vv4 with
  | none =>
    replace h := oc_n h
    refine lv_astore_nN (lv' := [(2, .null), (0, .ref (ad E 6 1)), (1, .ref (ad E g' 0))]) hx hb dX1_save_32 rfl hl (by decide) rfl (fun ls hl => ?_)
    refine lv_aload_nN hx hb dX1_save_33 rfl (lv_at hl 0 rfl) ?_
    refine lv_ifnullN (tgt := 42) hx hb dX1_save_34 (by decide) ?_
    exact TX1_save_42 C hg'  _ _ h w (lv_sub hl [1] rfl)
  | some z5 =>
    replace h := oc_s h
    obtain ⟨hz5, h⟩ := chk_of h
    refine lv_astore_n (lv' := [(2, .ref (ad E z5 0)), (0, .ref (ad E 6 1)), (1, .ref (ad E g' 0))]) hx hb dX1_save_32 rfl hl (by decide) rfl (fun ls hl => ?_)
    refine lv_aload_n hx hb dX1_save_33 rfl (lv_at hl 0 rfl) ?_
    refine lv_ifnull hx hb dX1_save_34 ?_
    refine lv_aload_n hx hb dX1_save_37 rfl (lv_at hl 0 rfl) ?_
    refine lv_aload_n hx hb dX1_save_38 rfl (lv_at hl 2 rfl) ?_
    obtain ⟨G7, K8, hv6, h⟩ := bd2_of h
    refine x_cVv (As := [.ref (ad E g' 0)]) (rest := []) C w (vS hz5 (by decide)) (cel_S hz5) rfl (mtX3_takeOver hz5 hg' hv6) q5_15 q5_16 q5_17 q1_15 q5_18 ydX3_takeOver ⟨rfl, rfl⟩ ⟨by decide, by decide⟩ ⟨Nat.zero_le _, Nat.zero_le _⟩ hl.1 (Nat.le_of_ble_eq_true rfl) rfl dX1_save_39 (fun H locs w => ?_)
    exact TX1_save_42 C hg'  _ _ h w (lv_sub hl [1] rfl)
noncomputable def fX1_save (F : Nat) (g' : Nat)  (G : M3) (K : J3) : Option (M3 × J3) := (if (4 : Int32) ≤ ((G 6 1 1) + (1 : Int32)) then (fbX1_save_21 F g' (0 : Int32) G K) else (fbX1_save_21 F g' ((G 6 1 1) + (1 : Int32)) G K))
set_option maxRecDepth 20000 in
set_option maxHeartbeats 1000000 in
theorem TX1_save {GR : M3} {KR : J3}  (C : Cx E A p s m args meth c wdX1_save cX1_save 3 none RX1) (hg' : g' < 6)   (h : fX1_save F g' G K = some (GR, KR)) (w : Wd E A s G K H locs) (hl : lv_has ls 3 [(0, .ref (ad E 6 1)), (1, .ref (ad E g' 0))]) : W p l e rmX1_save s m args below meth c H locs 0 0 (QV E A below args s  GR KR) (F0 m 0 ls []) := by
  obtain ⟨hx, hb, hr, hml, hown, hts, hlocks, hKK, hA1, hA2⟩ := id C
  unfold fX1_save at h
  refine lv_aload_n hx hb dX1_save_0 rfl (lv_at hl 0 rfl) ?_
  refine lv_aload_n hx hb dX1_save_1 rfl (lv_at hl 0 rfl) ?_
  refine gG_X1_newest C w q5_5 dX1_save_2 ?_
  refine lv_iconst (v := (1 : Int32)) hx hb dX1_save_5 (by decide) ?_
  refine lv_iadd hx hb dX1_save_6 ?_
  refine lv_iconst (v := (4 : Int32)) hx hb dX1_save_7 (by decide) ?_
  refine lv_icmp_ge (tgt := 20) hx hb dX1_save_8 (by decide) (fun c1 => ?_) (fun c1 => ?_)
  · replace h := ite_t h c1
    refine lv_iconst (v := (0 : Int32)) hx hb dX1_save_20 (by decide) ?_
    exact TX1_save_21 C hg'  _ _ _ h w (lv_sub hl [0, 1] rfl)
  · replace h := ite_f h c1
    refine lv_aload_n hx hb dX1_save_11 rfl (lv_at hl 0 rfl) ?_
    refine gG_X1_newest C w q5_5 dX1_save_12 ?_
    refine lv_iconst (v := (1 : Int32)) hx hb dX1_save_15 (by decide) ?_
    refine lv_iadd hx hb dX1_save_16 ?_
    refine lv_goto (tgt := 21) hx hb dX1_save_17 (by decide) ?_
    exact TX1_save_21 C hg'  _ _ _ h w (lv_sub hl [0, 1] rfl)
theorem mtX1_save {GR : M3} {KR : J3}  (hg' : g' < 6)   (h : fX1_save F g' G K = some (GR, KR)) : MtV l yX1_save wdX1_save rmX1_save E [.ref (ad E 6 1), .ref (ad E g' 0)] G K  GR KR := by
  intro sz
  refine Met.ofW (cc := cX1_save) (maxL := 3) (ret := none) (by decide) rfl ?_
  intro p e s m args below meth c s₁ B hml hv
  obtain ⟨rfl, C, w⟩ := Cx.of (own := RX1) B rfl hml hv
  have hl := lv_entry ([.ref (ad E 6 1), .ref (ad E g' 0)]) (n := 3) (by first | exact Nat.le_of_ble_eq_true rfl)
  rw [lg_entry_eq]
  generalize (lg_sl ([.ref (ad E 6 1), .ref (ad E g' 0)]) ++ List.replicate (3 - (lg_sl ([.ref (ad E 6 1), .ref (ad E g' 0)])).length) Slot.unset).toArray = ls at hl ⊢
  exact TX1_save C hg'  h w hl
theorem ydX1_save : yX1_save.cls = RX1 ∧ yX1_save.cls ≠ "java/lang/invoke/MethodHandle" ∧ yX1_save.cls ≠ "java/lang/invoke/VarHandle" ∧ (parseMethodDescriptor yX1_save.desc).map (fun d => d.parameters.length) = some 1 := by decide +kernel
/-! X1.restore(LAirStation$State;)V -/
abbrev rmX1_restore : Room := { frames := 3, cells := 0, slots := 0, locals := 64 }
abbrev wdX1_restore : Cond := Cond.code yX1_restore cX1_restore 3 none
noncomputable def fbX1_restore_36 (F : Nat)  (g' : Nat) (s0 : Int32) (G : M3) (K : J3) : Option (M3 × J3) := bnd (up3 G 6 1 1 s0) (fun G1 => bnd (up3 G1 6 1 0 (if ((G1 6 1 0) - (1 : Int32)) < (0 : Int32) then (0 : Int32) else ((G1 6 1 0) - (1 : Int32)))) (fun G3 => some (G3, K)))
set_option maxRecDepth 20000 in
set_option maxHeartbeats 1000000 in
theorem TX1_restore_36 {GR : M3} {KR : J3}   (C : Cx E A p s m args meth c wdX1_restore cX1_restore 3 none RX1) (hg' : g' < 6)  (s0 : Int32) (G : M3) (K : J3)  (h : fbX1_restore_36 F g' s0 G K = some (GR, KR)) (w : Wd E A s G K H locs) (hl : lv_has ls 3 [(0, .ref (ad E 6 1))]) : W p l e rmX1_restore s m args below meth c H locs 0 0 (QV E A below args s  GR KR) (F0 m 36 ls [.int s0, .ref (ad E 6 1)]) := by
  obtain ⟨hx, hb, hr, hml, hown, hts, hlocks, hKK, hA1, hA2⟩ := id C
  unfold fbX1_restore_36 at h
  refine pG_X1_newest C w q5_5 dX1_restore_36 (fun G1 H locs e2 w => ?_)
  replace h := bnd_of h e2
  refine lv_aload_n hx hb dX1_restore_39 rfl (lv_at hl 0 rfl) ?_
  refine lv_aload_n hx hb dX1_restore_40 rfl (lv_at hl 0 rfl) ?_
  refine gG_X1_kept C w q5_6 dX1_restore_41 ?_
  refine lv_iconst (v := (1 : Int32)) hx hb dX1_restore_44 (by decide) ?_
  refine lv_isub hx hb dX1_restore_45 ?_
  refine lv_iconst (v := (0 : Int32)) hx hb dX1_restore_46 (by decide) ?_
  refine x_max C hl.1 q33_7 q25_13 q5_9 q25_14 (by decide) (show _ ≤ _ from Nat.le_of_ble_eq_true rfl) (Nat.zero_le _) (Nat.zero_le _) dX1_restore_47 ?_
  refine pG_X1_kept C w q5_6 dX1_restore_50 (fun G3 H locs e4 w => ?_)
  replace h := bnd_of h e4
  obtain ⟨e2, e3⟩ := rt2 h
  exact x_rv C w (by rw [e2]) (by rw [e3]) dX1_restore_53
noncomputable def fbX1_restore_18 (F : Nat)  (g' : Nat)  (G : M3) (K : J3) : Option (M3 × J3) := (if (G 6 1 1) ≤ 0 then (fbX1_restore_36 F g' (3 : Int32) G K) else (fbX1_restore_36 F g' ((G 6 1 1) - (1 : Int32)) G K))
set_option maxRecDepth 20000 in
set_option maxHeartbeats 1000000 in
theorem TX1_restore_18 {GR : M3} {KR : J3}   (C : Cx E A p s m args meth c wdX1_restore cX1_restore 3 none RX1) (hg' : g' < 6)   (G : M3) (K : J3)  (h : fbX1_restore_18 F g' G K = some (GR, KR)) (w : Wd E A s G K H locs) (hl : lv_has ls 3 [(0, .ref (ad E 6 1))]) : W p l e rmX1_restore s m args below meth c H locs 0 0 (QV E A below args s  GR KR) (F0 m 18 ls []) := by
  obtain ⟨hx, hb, hr, hml, hown, hts, hlocks, hKK, hA1, hA2⟩ := id C
  unfold fbX1_restore_18 at h
  refine lv_aload_n hx hb dX1_restore_18 rfl (lv_at hl 0 rfl) ?_
  refine lv_aload_n hx hb dX1_restore_19 rfl (lv_at hl 0 rfl) ?_
  refine gG_X1_newest C w q5_5 dX1_restore_20 ?_
  refine lv_if_le (tgt := 35) hx hb dX1_restore_23 (by decide) (fun c1 => ?_) (fun c1 => ?_)
  · replace h := ite_t h c1
    refine lv_iconst (v := (3 : Int32)) hx hb dX1_restore_35 (by decide) ?_
    exact TX1_restore_36 C hg'  _ _ _ h w (lv_sub hl [0] rfl)
  · replace h := ite_f h c1
    refine lv_aload_n hx hb dX1_restore_26 rfl (lv_at hl 0 rfl) ?_
    refine gG_X1_newest C w q5_5 dX1_restore_27 ?_
    refine lv_iconst (v := (1 : Int32)) hx hb dX1_restore_30 (by decide) ?_
    refine lv_isub hx hb dX1_restore_31 ?_
    refine lv_goto (tgt := 36) hx hb dX1_restore_32 (by decide) ?_
    exact TX1_restore_36 C hg'  _ _ _ h w (lv_sub hl [0] rfl)
noncomputable def fX1_restore (F : Nat) (g' : Nat)  (G : M3) (K : J3) : Option (M3 × J3) := (fX1_savedAt G K (G 6 1 1)).bind (fun vv2 => oc vv2 (fbX1_restore_18 F g'  G K) (fun z3 => chk (isS z3) (bd2 (fX3_takeOver F g' z3 G K) (fun G5 K6 => fbX1_restore_18 F g'  G5 K6))))
set_option maxRecDepth 20000 in
set_option maxHeartbeats 1000000 in
theorem TX1_restore {GR : M3} {KR : J3}  (C : Cx E A p s m args meth c wdX1_restore cX1_restore 3 none RX1) (hg' : g' < 6)   (h : fX1_restore F g' G K = some (GR, KR)) (w : Wd E A s G K H locs) (hl : lv_has ls 3 [(0, .ref (ad E 6 1)), (1, .ref (ad E g' 0))]) : W p l e rmX1_restore s m args below meth c H locs 0 0 (QV E A below args s  GR KR) (F0 m 0 ls []) := by
  obtain ⟨hx, hb, hr, hml, hown, hts, hlocks, hKK, hA1, hA2⟩ := id C
  unfold fX1_restore at h
  refine lv_aload_n hx hb dX1_restore_0 rfl (lv_at hl 0 rfl) ?_
  refine lv_aload_n hx hb dX1_restore_1 rfl (lv_at hl 0 rfl) ?_
  refine gG_X1_newest C w q5_5 dX1_restore_2 ?_
  obtain ⟨vv2, hv1, h⟩ := bind_of h
  refine x_cVq (As := [.int (G 6 1 1)]) (rest := []) C w (v6 (by decide)) cel_6 rfl (mtX1_savedAt  hv1) q5_11 q5_12 q5_13 q1_20 q5_14 ydX1_savedAt ⟨rfl, rfl⟩ ⟨by decide, by decide⟩ ⟨Nat.zero_le _, Nat.zero_le _⟩ hl.1 (Nat.le_of_ble_eq_true rfl) rfl dX1_restore_5 (fun H locs w => ?_)
  cases vv2 with
  | none =>
    replace h := oc_n h
    refine lv_astore_nN (lv' := [(2, .null), (0, .ref (ad E 6 1)), (1, .ref (ad E g' 0))]) hx hb dX1_restore_8 rfl hl (by decide) rfl (fun ls hl => ?_)
    refine lv_aload_nN hx hb dX1_restore_9 rfl (lv_at hl 0 rfl) ?_
    refine lv_ifnullN (tgt := 18) hx hb dX1_restore_10 (by decide) ?_
    exact TX1_restore_18 C hg'  _ _ h w (lv_sub hl [1] rfl)
  | some z3 =>
    replace h := oc_s h
    obtain ⟨hz3, h⟩ := chk_of h
    refine lv_astore_n (lv' := [(2, .ref (ad E z3 0)), (0, .ref (ad E 6 1)), (1, .ref (ad E g' 0))]) hx hb dX1_restore_8 rfl hl (by decide) rfl (fun ls hl => ?_)
    refine lv_aload_n hx hb dX1_restore_9 rfl (lv_at hl 0 rfl) ?_
    refine lv_ifnull hx hb dX1_restore_10 ?_
    refine lv_aload_n hx hb dX1_restore_13 rfl (lv_at hl 2 rfl) ?_
    refine lv_aload_n hx hb dX1_restore_14 rfl (lv_at hl 0 rfl) ?_
    obtain ⟨G5, K6, hv4, h⟩ := bd2_of h
    refine x_cVv (As := [.ref (ad E z3 0)]) (rest := []) C w (vS hg' (by decide)) (cel_S hg') rfl (mtX3_takeOver hg' hz3 hv4) q5_15 q5_16 q5_17 q1_15 q5_18 ydX3_takeOver ⟨rfl, rfl⟩ ⟨by decide, by decide⟩ ⟨Nat.zero_le _, Nat.zero_le _⟩ hl.1 (Nat.le_of_ble_eq_true rfl) rfl dX1_restore_15 (fun H locs w => ?_)
    exact TX1_restore_18 C hg'  _ _ h w (lv_sub hl [1] rfl)
theorem mtX1_restore {GR : M3} {KR : J3}  (hg' : g' < 6)   (h : fX1_restore F g' G K = some (GR, KR)) : MtV l yX1_restore wdX1_restore rmX1_restore E [.ref (ad E 6 1), .ref (ad E g' 0)] G K  GR KR := by
  intro sz
  refine Met.ofW (cc := cX1_restore) (maxL := 3) (ret := none) (by decide) rfl ?_
  intro p e s m args below meth c s₁ B hml hv
  obtain ⟨rfl, C, w⟩ := Cx.of (own := RX1) B rfl hml hv
  have hl := lv_entry ([.ref (ad E 6 1), .ref (ad E g' 0)]) (n := 3) (by first | exact Nat.le_of_ble_eq_true rfl)
  rw [lg_entry_eq]
  generalize (lg_sl ([.ref (ad E 6 1), .ref (ad E g' 0)]) ++ List.replicate (3 - (lg_sl ([.ref (ad E 6 1), .ref (ad E g' 0)])).length) Slot.unset).toArray = ls at hl ⊢
  exact TX1_restore C hg'  h w hl
theorem ydX1_restore : yX1_restore.cls = RX1 ∧ yX1_restore.cls ≠ "java/lang/invoke/MethodHandle" ∧ yX1_restore.cls ≠ "java/lang/invoke/VarHandle" ∧ (parseMethodDescriptor yX1_restore.desc).map (fun d => d.parameters.length) = some 1 := by decide +kernel
end XP1
