section XS1
variable {E : WE} {A : Nat → Prop} {p : Program} {l : Launch} {e : Env} {s : State} {m : MethodId} {args : Array Value} {below : List Frame} {meth : Method} {c : Code} {H : Heap} {locs : List Loc} {ls : Array Slot} {G : M3} {K : J3} {M : M2} {J : J2} {F g q : Nat} {g' q' : Nat}

/-! X4.isWithin(III)Z -/
abbrev rmX4_isWithin : Room := { frames := 1, cells := 0, slots := 0, locals := 12 }
abbrev wdX4_isWithin : Cond := Cond.code yX4_isWithin cX4_isWithin 3 (some .boolean)
noncomputable def fX4_isWithin  (x1 : Int32) (x2 : Int32) (x3 : Int32)  : Int32 := (if x1 < x2 then ((0 : Int32)) else ((if x3 < x1 then ((0 : Int32)) else ((1 : Int32)))))
set_option maxRecDepth 20000 in
set_option maxHeartbeats 1000000 in
theorem TX4_isWithin {rr : Int32}  (C : Cx E A p s m args meth c wdX4_isWithin cX4_isWithin 3 (some .boolean) RX4)  {x1 : Int32} {x2 : Int32} {x3 : Int32}  (h : fX4_isWithin  x1 x2 x3 = rr) (w : Wd E A s G K H locs) (hl : lv_has ls 3 [(0, .int x1), (1, .int x2), (2, .int x3)]) : W p l e rmX4_isWithin s m args below meth c H locs 0 0 (QI E A below args s rr G K) (F0 m 0 ls []) := by
  obtain ⟨hx, hb, hr, hml, hown, hts, hlocks, hKK, hA1, hA2⟩ := id C
  unfold fX4_isWithin at h
  refine lv_iload_n hx hb dX4_isWithin_0 rfl (lv_at hl 0 rfl) ?_
  refine lv_iload_n hx hb dX4_isWithin_1 rfl (lv_at hl 1 rfl) ?_
  refine lv_icmp_lt (tgt := 14) hx hb dX4_isWithin_2 (by decide) (fun c1 => ?_) (fun c1 => ?_)
  · replace h := ite_t h c1
    refine lv_iconst (v := (0 : Int32)) hx hb dX4_isWithin_14 (by decide) ?_
    exact x_rz C w (Or.inl rfl) h rfl rfl dX4_isWithin_15
  · replace h := ite_f h c1
    refine lv_iload_n hx hb dX4_isWithin_5 rfl (lv_at hl 0 rfl) ?_
    refine lv_iload_n hx hb dX4_isWithin_6 rfl (lv_at hl 2 rfl) ?_
    refine lv_icmp_gt (tgt := 14) hx hb dX4_isWithin_7 (by decide) (fun c2 => ?_) (fun c2 => ?_)
    · replace h := ite_t h c2
      refine lv_iconst (v := (0 : Int32)) hx hb dX4_isWithin_14 (by decide) ?_
      exact x_rz C w (Or.inl rfl) h rfl rfl dX4_isWithin_15
    · replace h := ite_f h c2
      refine lv_iconst (v := (1 : Int32)) hx hb dX4_isWithin_10 (by decide) ?_
      refine lv_goto (tgt := 15) hx hb dX4_isWithin_11 (by decide) ?_
      exact x_rz C w (Or.inr rfl) h rfl rfl dX4_isWithin_15
theorem mtX4_isWithin   {x1 : Int32} {x2 : Int32} {x3 : Int32}   : MtI l yX4_isWithin wdX4_isWithin rmX4_isWithin E [.int x1, .int x2, .int x3] G K (fX4_isWithin  x1 x2 x3) G K := by
  intro sz
  refine Met.ofW (cc := cX4_isWithin) (maxL := 3) (ret := (some .boolean)) (by decide) rfl ?_
  intro p e s m args below meth c s₁ B hml hv
  obtain ⟨rfl, C, w⟩ := Cx.of (own := RX4) B rfl hml hv
  have hl := lv_entry ([.int x1, .int x2, .int x3]) (n := 3) (by first | exact Nat.le_of_ble_eq_true rfl)
  rw [lg_entry_eq]
  generalize (lg_sl ([.int x1, .int x2, .int x3]) ++ List.replicate (3 - (lg_sl ([.int x1, .int x2, .int x3])).length) Slot.unset).toArray = ls at hl ⊢
  exact TX4_isWithin C   rfl w hl
theorem ydX4_isWithin : yX4_isWithin.cls = RX4 ∧ yX4_isWithin.cls ≠ "java/lang/invoke/MethodHandle" ∧ yX4_isWithin.cls ≠ "java/lang/invoke/VarHandle" ∧ (parseMethodDescriptor yX4_isWithin.desc).map (fun d => d.parameters.length) = some 3 := by decide +kernel
theorem ynX4_isWithin : yX4_isWithin.cls ≠ "java/lang/invoke/MethodHandle" ∧ yX4_isWithin.cls ≠ "java/lang/invoke/VarHandle" ∧ (parseMethodDescriptor yX4_isWithin.desc).map (fun d => d.parameters.length) = some 3 := by decide +kernel
theorem zX4_isWithin  (x1 : Int32) (x2 : Int32) (x3 : Int32) : fX4_isWithin  x1 x2 x3 = 0 ∨ fX4_isWithin  x1 x2 x3 = 1 := by unfold fX4_isWithin; (repeat' split) <;> first | exact Or.inl rfl | exact Or.inr rfl
/-! X4.pressureOf(II)I -/
abbrev rmX4_pressureOf : Room := { frames := 1, cells := 0, slots := 0, locals := 12 }
abbrev wdX4_pressureOf : Cond := Cond.code yX4_pressureOf cX4_pressureOf 2 (some .int)
noncomputable def fX4_pressureOf  (x1 : Int32) (x2 : Int32)  : Option Int32 := (if 0 < x2 then (chk (¬ x2 = 0) (some ((x1 * (1000 : Int32)) / x2))) else (some (0 : Int32)))
set_option maxRecDepth 20000 in
set_option maxHeartbeats 1000000 in
theorem TX4_pressureOf {rr : Int32}  (C : Cx E A p s m args meth c wdX4_pressureOf cX4_pressureOf 2 (some .int) RX4)  {x1 : Int32} {x2 : Int32}  (h : fX4_pressureOf  x1 x2 = some rr) (w : Wd E A s G K H locs) (hl : lv_has ls 2 [(0, .int x1), (1, .int x2)]) : W p l e rmX4_pressureOf s m args below meth c H locs 0 0 (QI E A below args s rr G K) (F0 m 0 ls []) := by
  obtain ⟨hx, hb, hr, hml, hown, hts, hlocks, hKK, hA1, hA2⟩ := id C
  unfold fX4_pressureOf at h
  refine lv_iload_n hx hb dX4_pressureOf_0 rfl (lv_at hl 1 rfl) ?_
  refine lv_if_gt (tgt := 8) hx hb dX4_pressureOf_1 (by decide) (fun c1 => ?_) (fun c1 => ?_)
  · replace h := ite_t h c1
    refine lv_iload_n hx hb dX4_pressureOf_8 rfl (lv_at hl 0 rfl) ?_
    refine lv_sipush (v := (1000 : Int32)) hx hb dX4_pressureOf_9 (by decide) ?_
    refine lv_imul hx hb dX4_pressureOf_12 ?_
    refine lv_iload_n hx hb dX4_pressureOf_13 rfl (lv_at hl 1 rfl) ?_
    obtain ⟨kz2, h⟩ := chk_of h
    refine lv_idiv hx hb dX4_pressureOf_14 kz2 ?_
    have e1 := Option.some.inj h
    exact x_ri C w e1 rfl rfl dX4_pressureOf_15
  · replace h := ite_f h c1
    refine lv_iconst (v := (0 : Int32)) hx hb dX4_pressureOf_4 (by decide) ?_
    refine lv_goto (tgt := 15) hx hb dX4_pressureOf_5 (by decide) ?_
    have e1 := Option.some.inj h
    exact x_ri C w e1 rfl rfl dX4_pressureOf_15
theorem mtX4_pressureOf {rr : Int32}   {x1 : Int32} {x2 : Int32}  (h : fX4_pressureOf  x1 x2 = some rr) : MtI l yX4_pressureOf wdX4_pressureOf rmX4_pressureOf E [.int x1, .int x2] G K rr G K := by
  intro sz
  refine Met.ofW (cc := cX4_pressureOf) (maxL := 2) (ret := (some .int)) (by decide) rfl ?_
  intro p e s m args below meth c s₁ B hml hv
  obtain ⟨rfl, C, w⟩ := Cx.of (own := RX4) B rfl hml hv
  have hl := lv_entry ([.int x1, .int x2]) (n := 2) (by first | exact Nat.le_of_ble_eq_true rfl)
  rw [lg_entry_eq]
  generalize (lg_sl ([.int x1, .int x2]) ++ List.replicate (2 - (lg_sl ([.int x1, .int x2])).length) Slot.unset).toArray = ls at hl ⊢
  exact TX4_pressureOf C   h w hl
theorem ydX4_pressureOf : yX4_pressureOf.cls = RX4 ∧ yX4_pressureOf.cls ≠ "java/lang/invoke/MethodHandle" ∧ yX4_pressureOf.cls ≠ "java/lang/invoke/VarHandle" ∧ (parseMethodDescriptor yX4_pressureOf.desc).map (fun d => d.parameters.length) = some 2 := by decide +kernel
theorem ynX4_pressureOf : yX4_pressureOf.cls ≠ "java/lang/invoke/MethodHandle" ∧ yX4_pressureOf.cls ≠ "java/lang/invoke/VarHandle" ∧ (parseMethodDescriptor yX4_pressureOf.desc).map (fun d => d.parameters.length) = some 2 := by decide +kernel
/-! X0.load()V -/
abbrev rmX0_load : Room := { frames := 1, cells := 0, slots := 0, locals := 12 }
abbrev wdX0_load : Cond := Cond.code yX0_load cX0_load 1 none
noncomputable def fbX0_load_17  (q : Nat)  (M : M2) (J : J2) : Option (M2 × J2) := bnd (up2 M q 1 (1 : Int32)) (fun M1 => bnd (up2 M1 q 5 (0 : Int32)) (fun M3 => some (M3, J)))
set_option maxRecDepth 20000 in
set_option maxHeartbeats 1000000 in
theorem TX0_load_17 {MR : M2} {JR : J2}   (C : Cx E A p s m args meth c wdX0_load cX0_load 1 none RX0) (hg : g < 6) (hq : isC q)   (M : M2) (J : J2)  (h : fbX0_load_17 q M J = some (MR, JR)) (w : Wd E A s (sg G g M) (sg K g J) H locs) (hl : lv_has ls 1 [(0, .ref (ad E g q))]) : W p l e rmX0_load s m args below meth c H locs 0 0 (QV E A below args s  (sg G g MR) (sg K g JR)) (F0 m 17 ls []) := by
  obtain ⟨hx, hb, hr, hml, hown, hts, hlocks, hKK, hA1, hA2⟩ := id C
  unfold fbX0_load_17 at h
  refine lv_aload_n hx hb dX0_load_17 rfl (lv_at hl 0 rfl) ?_
  refine lv_iconst (v := (1 : Int32)) hx hb dX0_load_18 (by decide) ?_
  refine pL_X0_mode hg hq C w q10_0 dX0_load_19 (fun M1 H locs e2 w => ?_)
  replace h := bnd_of h e2
  refine lv_aload_n hx hb dX0_load_22 rfl (lv_at hl 0 rfl) ?_
  refine lv_iconst (v := (0 : Int32)) hx hb dX0_load_23 (by decide) ?_
  refine pL_X0_timer hg hq C w q10_4 dX0_load_24 (fun M3 H locs e4 w => ?_)
  replace h := bnd_of h e4
  obtain ⟨e2, e3⟩ := rt2 h
  exact x_rv C w (by rw [e2]) (by rw [e3]) dX0_load_27
noncomputable def fX0_load (q : Nat)  (M : M2) (J : J2) : Option (M2 × J2) := (if ¬ (M q 1) = 0 then (fbX0_load_17 q  M J) else (bnd (up2 M q 7 ((M q 7) + (1 : Int32))) (fun M2 => fbX0_load_17 q  M2 J)))
set_option maxRecDepth 20000 in
set_option maxHeartbeats 1000000 in
theorem TX0_load {MR : M2} {JR : J2}  (C : Cx E A p s m args meth c wdX0_load cX0_load 1 none RX0) (hg : g < 6) (hq : isC q)   (h : fX0_load q M J = some (MR, JR)) (w : Wd E A s (sg G g M) (sg K g J) H locs) (hl : lv_has ls 1 [(0, .ref (ad E g q))]) : W p l e rmX0_load s m args below meth c H locs 0 0 (QV E A below args s  (sg G g MR) (sg K g JR)) (F0 m 0 ls []) := by
  obtain ⟨hx, hb, hr, hml, hown, hts, hlocks, hKK, hA1, hA2⟩ := id C
  unfold fX0_load at h
  refine lv_aload_n hx hb dX0_load_0 rfl (lv_at hl 0 rfl) ?_
  refine gL_X0_mode hg hq C w q10_0 dX0_load_1 ?_
  refine lv_if_ne (tgt := 17) hx hb dX0_load_4 (by decide) (fun c1 => ?_) (fun c1 => ?_)
  · replace h := ite_t h c1
    exact TX0_load_17 C hg hq  _ _ h w (lv_sub hl [0] rfl)
  · replace h := ite_f h (fun z => z c1)
    refine lv_aload_n hx hb dX0_load_7 rfl (lv_at hl 0 rfl) ?_
    refine lv_dup hx hb dX0_load_8 rfl ?_
    refine gL_X0_starts hg hq C w q10_6 dX0_load_9 ?_
    refine lv_iconst (v := (1 : Int32)) hx hb dX0_load_12 (by decide) ?_
    refine lv_iadd hx hb dX0_load_13 ?_
    refine pL_X0_starts hg hq C w q10_6 dX0_load_14 (fun M2 H locs e3 w => ?_)
    replace h := bnd_of h e3
    exact TX0_load_17 C hg hq  _ _ h w (lv_sub hl [0] rfl)
theorem mtX0_load {MR : M2} {JR : J2}  (hg : g < 6) (hq : isC q)   (h : fX0_load q M J = some (MR, JR)) : MtV l yX0_load wdX0_load rmX0_load E [.ref (ad E g q)] (sg G g M) (sg K g J)  (sg G g MR) (sg K g JR) := by
  intro sz
  refine Met.ofW (cc := cX0_load) (maxL := 1) (ret := none) (by decide) rfl ?_
  intro p e s m args below meth c s₁ B hml hv
  obtain ⟨rfl, C, w⟩ := Cx.of (own := RX0) B rfl hml hv
  have hl := lv_entry ([.ref (ad E g q)]) (n := 1) (by first | exact Nat.le_of_ble_eq_true rfl)
  rw [lg_entry_eq]
  generalize (lg_sl ([.ref (ad E g q)]) ++ List.replicate (1 - (lg_sl ([.ref (ad E g q)])).length) Slot.unset).toArray = ls at hl ⊢
  exact TX0_load C hg hq  h w hl
theorem ydX0_load : yX0_load.cls = RX0 ∧ yX0_load.cls ≠ "java/lang/invoke/MethodHandle" ∧ yX0_load.cls ≠ "java/lang/invoke/VarHandle" ∧ (parseMethodDescriptor yX0_load.desc).map (fun d => d.parameters.length) = some 0 := by decide +kernel
/-! X0.unload()V -/
abbrev rmX0_unload : Room := { frames := 1, cells := 0, slots := 0, locals := 12 }
abbrev wdX0_unload : Cond := Cond.code yX0_unload cX0_unload 1 none
noncomputable def fX0_unload (q : Nat)  (M : M2) (J : J2) : Option (M2 × J2) := bnd (up2 M q 1 (2 : Int32)) (fun M1 => bnd (up2 M1 q 5 (0 : Int32)) (fun M3 => some (M3, J)))
set_option maxRecDepth 20000 in
set_option maxHeartbeats 1000000 in
theorem TX0_unload {MR : M2} {JR : J2}  (C : Cx E A p s m args meth c wdX0_unload cX0_unload 1 none RX0) (hg : g < 6) (hq : isC q)   (h : fX0_unload q M J = some (MR, JR)) (w : Wd E A s (sg G g M) (sg K g J) H locs) (hl : lv_has ls 1 [(0, .ref (ad E g q))]) : W p l e rmX0_unload s m args below meth c H locs 0 0 (QV E A below args s  (sg G g MR) (sg K g JR)) (F0 m 0 ls []) := by
  obtain ⟨hx, hb, hr, hml, hown, hts, hlocks, hKK, hA1, hA2⟩ := id C
  unfold fX0_unload at h
  refine lv_aload_n hx hb dX0_unload_0 rfl (lv_at hl 0 rfl) ?_
  refine lv_iconst (v := (2 : Int32)) hx hb dX0_unload_1 (by decide) ?_
  refine pL_X0_mode hg hq C w q10_0 dX0_unload_2 (fun M1 H locs e2 w => ?_)
  replace h := bnd_of h e2
  refine lv_aload_n hx hb dX0_unload_5 rfl (lv_at hl 0 rfl) ?_
  refine lv_iconst (v := (0 : Int32)) hx hb dX0_unload_6 (by decide) ?_
  refine pL_X0_timer hg hq C w q10_4 dX0_unload_7 (fun M3 H locs e4 w => ?_)
  replace h := bnd_of h e4
  obtain ⟨e2, e3⟩ := rt2 h
  exact x_rv C w (by rw [e2]) (by rw [e3]) dX0_unload_10
theorem mtX0_unload {MR : M2} {JR : J2}  (hg : g < 6) (hq : isC q)   (h : fX0_unload q M J = some (MR, JR)) : MtV l yX0_unload wdX0_unload rmX0_unload E [.ref (ad E g q)] (sg G g M) (sg K g J)  (sg G g MR) (sg K g JR) := by
  intro sz
  refine Met.ofW (cc := cX0_unload) (maxL := 1) (ret := none) (by decide) rfl ?_
  intro p e s m args below meth c s₁ B hml hv
  obtain ⟨rfl, C, w⟩ := Cx.of (own := RX0) B rfl hml hv
  have hl := lv_entry ([.ref (ad E g q)]) (n := 1) (by first | exact Nat.le_of_ble_eq_true rfl)
  rw [lg_entry_eq]
  generalize (lg_sl ([.ref (ad E g q)]) ++ List.replicate (1 - (lg_sl ([.ref (ad E g q)])).length) Slot.unset).toArray = ls at hl ⊢
  exact TX0_unload C hg hq  h w hl
theorem ydX0_unload : yX0_unload.cls = RX0 ∧ yX0_unload.cls ≠ "java/lang/invoke/MethodHandle" ∧ yX0_unload.cls ≠ "java/lang/invoke/VarHandle" ∧ (parseMethodDescriptor yX0_unload.desc).map (fun d => d.parameters.length) = some 0 := by decide +kernel
/-! X0.stop(I)V -/
abbrev rmX0_stop : Room := { frames := 1, cells := 0, slots := 0, locals := 12 }
abbrev wdX0_stop : Cond := Cond.code yX0_stop cX0_stop 2 none
noncomputable def fX0_stop (q : Nat) (x1 : Int32) (M : M2) (J : J2) : Option (M2 × J2) := bnd (up2 M q 1 (0 : Int32)) (fun M1 => bnd (up2 M1 q 5 (0 : Int32)) (fun M3 => bnd (up2 M3 q 6 x1) (fun M5 => some (M5, J))))
set_option maxRecDepth 20000 in
set_option maxHeartbeats 1000000 in
theorem TX0_stop {MR : M2} {JR : J2}  (C : Cx E A p s m args meth c wdX0_stop cX0_stop 2 none RX0) (hg : g < 6) (hq : isC q) {x1 : Int32}  (h : fX0_stop q x1 M J = some (MR, JR)) (w : Wd E A s (sg G g M) (sg K g J) H locs) (hl : lv_has ls 2 [(0, .ref (ad E g q)), (1, .int x1)]) : W p l e rmX0_stop s m args below meth c H locs 0 0 (QV E A below args s  (sg G g MR) (sg K g JR)) (F0 m 0 ls []) := by
  obtain ⟨hx, hb, hr, hml, hown, hts, hlocks, hKK, hA1, hA2⟩ := id C
  unfold fX0_stop at h
  refine lv_aload_n hx hb dX0_stop_0 rfl (lv_at hl 0 rfl) ?_
  refine lv_iconst (v := (0 : Int32)) hx hb dX0_stop_1 (by decide) ?_
  refine pL_X0_mode hg hq C w q10_0 dX0_stop_2 (fun M1 H locs e2 w => ?_)
  replace h := bnd_of h e2
  refine lv_aload_n hx hb dX0_stop_5 rfl (lv_at hl 0 rfl) ?_
  refine lv_iconst (v := (0 : Int32)) hx hb dX0_stop_6 (by decide) ?_
  refine pL_X0_timer hg hq C w q10_4 dX0_stop_7 (fun M3 H locs e4 w => ?_)
  replace h := bnd_of h e4
  refine lv_aload_n hx hb dX0_stop_10 rfl (lv_at hl 0 rfl) ?_
  refine lv_iload_n hx hb dX0_stop_11 rfl (lv_at hl 1 rfl) ?_
  refine pL_X0_rest hg hq C w q10_5 dX0_stop_12 (fun M5 H locs e6 w => ?_)
  replace h := bnd_of h e6
  obtain ⟨e2, e3⟩ := rt2 h
  exact x_rv C w (by rw [e2]) (by rw [e3]) dX0_stop_15
theorem mtX0_stop {MR : M2} {JR : J2}  (hg : g < 6) (hq : isC q) {x1 : Int32}  (h : fX0_stop q x1 M J = some (MR, JR)) : MtV l yX0_stop wdX0_stop rmX0_stop E [.ref (ad E g q), .int x1] (sg G g M) (sg K g J)  (sg G g MR) (sg K g JR) := by
  intro sz
  refine Met.ofW (cc := cX0_stop) (maxL := 2) (ret := none) (by decide) rfl ?_
  intro p e s m args below meth c s₁ B hml hv
  obtain ⟨rfl, C, w⟩ := Cx.of (own := RX0) B rfl hml hv
  have hl := lv_entry ([.ref (ad E g q), .int x1]) (n := 2) (by first | exact Nat.le_of_ble_eq_true rfl)
  rw [lg_entry_eq]
  generalize (lg_sl ([.ref (ad E g q), .int x1]) ++ List.replicate (2 - (lg_sl ([.ref (ad E g q), .int x1])).length) Slot.unset).toArray = ls at hl ⊢
  exact TX0_stop C hg hq  h w hl
theorem ydX0_stop : yX0_stop.cls = RX0 ∧ yX0_stop.cls ≠ "java/lang/invoke/MethodHandle" ∧ yX0_stop.cls ≠ "java/lang/invoke/VarHandle" ∧ (parseMethodDescriptor yX0_stop.desc).map (fun d => d.parameters.length) = some 1 := by decide +kernel
/-! X0.fail()V -/
abbrev rmX0_fail : Room := { frames := 1, cells := 0, slots := 0, locals := 12 }
abbrev wdX0_fail : Cond := Cond.code yX0_fail cX0_fail 1 none
noncomputable def fX0_fail (q : Nat)  (M : M2) (J : J2) : Option (M2 × J2) := bnd (up2 M q 1 (3 : Int32)) (fun M1 => bnd (up2 M1 q 5 (0 : Int32)) (fun M3 => bnd (up2 M3 q 6 (0 : Int32)) (fun M5 => some (M5, J))))
set_option maxRecDepth 20000 in
set_option maxHeartbeats 1000000 in
theorem TX0_fail {MR : M2} {JR : J2}  (C : Cx E A p s m args meth c wdX0_fail cX0_fail 1 none RX0) (hg : g < 6) (hq : isC q)   (h : fX0_fail q M J = some (MR, JR)) (w : Wd E A s (sg G g M) (sg K g J) H locs) (hl : lv_has ls 1 [(0, .ref (ad E g q))]) : W p l e rmX0_fail s m args below meth c H locs 0 0 (QV E A below args s  (sg G g MR) (sg K g JR)) (F0 m 0 ls []) := by
  obtain ⟨hx, hb, hr, hml, hown, hts, hlocks, hKK, hA1, hA2⟩ := id C
  unfold fX0_fail at h
  refine lv_aload_n hx hb dX0_fail_0 rfl (lv_at hl 0 rfl) ?_
  refine lv_iconst (v := (3 : Int32)) hx hb dX0_fail_1 (by decide) ?_
  refine pL_X0_mode hg hq C w q10_0 dX0_fail_2 (fun M1 H locs e2 w => ?_)
  replace h := bnd_of h e2
  refine lv_aload_n hx hb dX0_fail_5 rfl (lv_at hl 0 rfl) ?_
  refine lv_iconst (v := (0 : Int32)) hx hb dX0_fail_6 (by decide) ?_
  refine pL_X0_timer hg hq C w q10_4 dX0_fail_7 (fun M3 H locs e4 w => ?_)
  replace h := bnd_of h e4
  refine lv_aload_n hx hb dX0_fail_10 rfl (lv_at hl 0 rfl) ?_
  refine lv_iconst (v := (0 : Int32)) hx hb dX0_fail_11 (by decide) ?_
  refine pL_X0_rest hg hq C w q10_5 dX0_fail_12 (fun M5 H locs e6 w => ?_)
  replace h := bnd_of h e6
  obtain ⟨e2, e3⟩ := rt2 h
  exact x_rv C w (by rw [e2]) (by rw [e3]) dX0_fail_15
theorem mtX0_fail {MR : M2} {JR : J2}  (hg : g < 6) (hq : isC q)   (h : fX0_fail q M J = some (MR, JR)) : MtV l yX0_fail wdX0_fail rmX0_fail E [.ref (ad E g q)] (sg G g M) (sg K g J)  (sg G g MR) (sg K g JR) := by
  intro sz
  refine Met.ofW (cc := cX0_fail) (maxL := 1) (ret := none) (by decide) rfl ?_
  intro p e s m args below meth c s₁ B hml hv
  obtain ⟨rfl, C, w⟩ := Cx.of (own := RX0) B rfl hml hv
  have hl := lv_entry ([.ref (ad E g q)]) (n := 1) (by first | exact Nat.le_of_ble_eq_true rfl)
  rw [lg_entry_eq]
  generalize (lg_sl ([.ref (ad E g q)]) ++ List.replicate (1 - (lg_sl ([.ref (ad E g q)])).length) Slot.unset).toArray = ls at hl ⊢
  exact TX0_fail C hg hq  h w hl
theorem ydX0_fail : yX0_fail.cls = RX0 ∧ yX0_fail.cls ≠ "java/lang/invoke/MethodHandle" ∧ yX0_fail.cls ≠ "java/lang/invoke/VarHandle" ∧ (parseMethodDescriptor yX0_fail.desc).map (fun d => d.parameters.length) = some 0 := by decide +kernel
/-! X0.begin(II)V -/
abbrev rmX0_begin : Room := { frames := 1, cells := 0, slots := 0, locals := 12 }
abbrev wdX0_begin : Cond := Cond.code yX0_begin cX0_begin 3 none
noncomputable def fX0_begin (q : Nat) (x1 : Int32) (x2 : Int32) (M : M2) (J : J2) : Option (M2 × J2) := bnd (up2 M q 0 x1) (fun M1 => bnd (up2 M1 q 2 x2) (fun M3 => bnd (up2 M3 q 1 (0 : Int32)) (fun M5 => bnd (up2 M5 q 3 (0 : Int32)) (fun M7 => bnd (up2 M7 q 4 (0 : Int32)) (fun M9 => bnd (up2 M9 q 5 (0 : Int32)) (fun M11 => bnd (up2 M11 q 6 (0 : Int32)) (fun M13 => bnd (up2 M13 q 7 (0 : Int32)) (fun M15 => some (M15, J)))))))))
set_option maxRecDepth 20000 in
set_option maxHeartbeats 1000000 in
theorem TX0_begin {MR : M2} {JR : J2}  (C : Cx E A p s m args meth c wdX0_begin cX0_begin 3 none RX0) (hg : g < 6) (hq : isC q) {x1 : Int32} {x2 : Int32}  (h : fX0_begin q x1 x2 M J = some (MR, JR)) (w : Wd E A s (sg G g M) (sg K g J) H locs) (hl : lv_has ls 3 [(0, .ref (ad E g q)), (1, .int x1), (2, .int x2)]) : W p l e rmX0_begin s m args below meth c H locs 0 0 (QV E A below args s  (sg G g MR) (sg K g JR)) (F0 m 0 ls []) := by
  obtain ⟨hx, hb, hr, hml, hown, hts, hlocks, hKK, hA1, hA2⟩ := id C
  unfold fX0_begin at h
  refine lv_aload_n hx hb dX0_begin_0 rfl (lv_at hl 0 rfl) ?_
  refine lv_iload_n hx hb dX0_begin_1 rfl (lv_at hl 1 rfl) ?_
  refine pL_X0_capacity hg hq C w q9_23 dX0_begin_2 (fun M1 H locs e2 w => ?_)
  replace h := bnd_of h e2
  refine lv_aload_n hx hb dX0_begin_5 rfl (lv_at hl 0 rfl) ?_
  refine lv_iload_n hx hb dX0_begin_6 rfl (lv_at hl 2 rfl) ?_
  refine pL_X0_stage hg hq C w q10_1 dX0_begin_7 (fun M3 H locs e4 w => ?_)
  replace h := bnd_of h e4
  refine lv_aload_n hx hb dX0_begin_10 rfl (lv_at hl 0 rfl) ?_
  refine lv_iconst (v := (0 : Int32)) hx hb dX0_begin_11 (by decide) ?_
  refine pL_X0_mode hg hq C w q10_0 dX0_begin_12 (fun M5 H locs e6 w => ?_)
  replace h := bnd_of h e6
  refine lv_aload_n hx hb dX0_begin_15 rfl (lv_at hl 0 rfl) ?_
  refine lv_iconst (v := (0 : Int32)) hx hb dX0_begin_16 (by decide) ?_
  refine pL_X0_loadedMinutes hg hq C w q10_2 dX0_begin_17 (fun M7 H locs e8 w => ?_)
  replace h := bnd_of h e8
  refine lv_aload_n hx hb dX0_begin_20 rfl (lv_at hl 0 rfl) ?_
  refine lv_iconst (v := (0 : Int32)) hx hb dX0_begin_21 (by decide) ?_
  refine pL_X0_unloadedMinutes hg hq C w q10_3 dX0_begin_22 (fun M9 H locs e10 w => ?_)
  replace h := bnd_of h e10
  refine lv_aload_n hx hb dX0_begin_25 rfl (lv_at hl 0 rfl) ?_
  refine lv_iconst (v := (0 : Int32)) hx hb dX0_begin_26 (by decide) ?_
  refine pL_X0_timer hg hq C w q10_4 dX0_begin_27 (fun M11 H locs e12 w => ?_)
  replace h := bnd_of h e12
  refine lv_aload_n hx hb dX0_begin_30 rfl (lv_at hl 0 rfl) ?_
  refine lv_iconst (v := (0 : Int32)) hx hb dX0_begin_31 (by decide) ?_
  refine pL_X0_rest hg hq C w q10_5 dX0_begin_32 (fun M13 H locs e14 w => ?_)
  replace h := bnd_of h e14
  refine lv_aload_n hx hb dX0_begin_35 rfl (lv_at hl 0 rfl) ?_
  refine lv_iconst (v := (0 : Int32)) hx hb dX0_begin_36 (by decide) ?_
  refine pL_X0_starts hg hq C w q10_6 dX0_begin_37 (fun M15 H locs e16 w => ?_)
  replace h := bnd_of h e16
  obtain ⟨e2, e3⟩ := rt2 h
  exact x_rv C w (by rw [e2]) (by rw [e3]) dX0_begin_40
theorem mtX0_begin {MR : M2} {JR : J2}  (hg : g < 6) (hq : isC q) {x1 : Int32} {x2 : Int32}  (h : fX0_begin q x1 x2 M J = some (MR, JR)) : MtV l yX0_begin wdX0_begin rmX0_begin E [.ref (ad E g q), .int x1, .int x2] (sg G g M) (sg K g J)  (sg G g MR) (sg K g JR) := by
  intro sz
  refine Met.ofW (cc := cX0_begin) (maxL := 3) (ret := none) (by decide) rfl ?_
  intro p e s m args below meth c s₁ B hml hv
  obtain ⟨rfl, C, w⟩ := Cx.of (own := RX0) B rfl hml hv
  have hl := lv_entry ([.ref (ad E g q), .int x1, .int x2]) (n := 3) (by first | exact Nat.le_of_ble_eq_true rfl)
  rw [lg_entry_eq]
  generalize (lg_sl ([.ref (ad E g q), .int x1, .int x2]) ++ List.replicate (3 - (lg_sl ([.ref (ad E g q), .int x1, .int x2])).length) Slot.unset).toArray = ls at hl ⊢
  exact TX0_begin C hg hq  h w hl
theorem ydX0_begin : yX0_begin.cls = RX0 ∧ yX0_begin.cls ≠ "java/lang/invoke/MethodHandle" ∧ yX0_begin.cls ≠ "java/lang/invoke/VarHandle" ∧ (parseMethodDescriptor yX0_begin.desc).map (fun d => d.parameters.length) = some 2 := by decide +kernel
/-! X0.carryOn(II)V -/
abbrev rmX0_carryOn : Room := { frames := 2, cells := 0, slots := 0, locals := 33 }
abbrev wdX0_carryOn : Cond := Cond.code yX0_carryOn cX0_carryOn 3 none
noncomputable def fX0_carryOn (q : Nat) (x1 : Int32) (x2 : Int32) (M : M2) (J : J2) : Option (M2 × J2) := (if x1 = (1 : Int32) then (bnd (up2 M q 6 ((M q 6) - (1 : Int32))) (fun M7 => some (M7, J))) else if x1 = (2 : Int32) then (bd2 (fX0_load q M J) (fun M10 J11 => some (M10, J11))) else if x1 = (3 : Int32) then (some (M, J)) else if x1 = (4 : Int32) then (bd2 (fX0_unload q M J) (fun M13 J14 => some (M13, J14))) else if x1 = (5 : Int32) then (bnd (up2 M q 5 ((M q 5) + (1 : Int32))) (fun M15 => some (M15, J))) else if x1 = (6 : Int32) then (bd2 (fX0_stop q x2 M J) (fun M18 J19 => some (M18, J19))) else (some (M, J)))
set_option maxRecDepth 20000 in
set_option maxHeartbeats 1000000 in
theorem TX0_carryOn {MR : M2} {JR : J2}  (C : Cx E A p s m args meth c wdX0_carryOn cX0_carryOn 3 none RX0) (hg : g < 6) (hq : isC q) {x1 : Int32} {x2 : Int32}  (h : fX0_carryOn q x1 x2 M J = some (MR, JR)) (w : Wd E A s (sg G g M) (sg K g J) H locs) (hl : lv_has ls 3 [(0, .ref (ad E g q)), (1, .int x1), (2, .int x2)]) : W p l e rmX0_carryOn s m args below meth c H locs 0 0 (QV E A below args s  (sg G g MR) (sg K g JR)) (F0 m 0 ls []) := by
  obtain ⟨hx, hb, hr, hml, hown, hts, hlocks, hKK, hA1, hA2⟩ := id C
  unfold fX0_carryOn at h
  refine lv_iload_n hx hb dX0_carryOn_0 rfl (lv_at hl 1 rfl) ?_
  by_cases c1 : x1 = (1 : Int32)
  · replace h := ite_t h c1
    refine lv_tableIn (tgt := 40) hx hb dX0_carryOn_1 (by rw [c1]; decide) (by rw [c1]; decide) (by rw [c1]; rfl) (by decide) ?_
    refine lv_aload_n hx hb dX0_carryOn_40 rfl (lv_at hl 0 rfl) ?_
    refine lv_dup hx hb dX0_carryOn_41 rfl ?_
    refine gL_X0_rest hg hq C w q10_5 dX0_carryOn_42 ?_
    refine lv_iconst (v := (1 : Int32)) hx hb dX0_carryOn_45 (by decide) ?_
    refine lv_isub hx hb dX0_carryOn_46 ?_
    refine pL_X0_rest hg hq C w q10_5 dX0_carryOn_47 (fun M7 H locs e8 w => ?_)
    replace h := bnd_of h e8
    refine lv_goto (tgt := 88) hx hb dX0_carryOn_50 (by decide) ?_
    obtain ⟨e2, e3⟩ := rt2 h
    exact x_rv C w (by rw [e2]) (by rw [e3]) dX0_carryOn_88
  replace h := ite_f h c1
  by_cases c2 : x1 = (2 : Int32)
  · replace h := ite_t h c2
    refine lv_tableIn (tgt := 53) hx hb dX0_carryOn_1 (by rw [c2]; decide) (by rw [c2]; decide) (by rw [c2]; rfl) (by decide) ?_
    refine lv_aload_n hx hb dX0_carryOn_53 rfl (lv_at hl 0 rfl) ?_
    obtain ⟨M10, J11, hv9, h⟩ := bd2_of h
    refine x_cVv (As := []) (rest := []) C w (vC hg hq) (cel_C hg hq.1) rfl (mtX0_load hg hq hv9) q15_10 q15_11 q15_12 q2_17 q15_13 ydX0_load ⟨rfl, rfl⟩ ⟨by decide, by decide⟩ ⟨Nat.zero_le _, Nat.zero_le _⟩ hl.1 (Nat.le_of_ble_eq_true rfl) rfl dX0_carryOn_54 (fun H locs w => ?_)
    refine lv_goto (tgt := 88) hx hb dX0_carryOn_57 (by decide) ?_
    obtain ⟨e2, e3⟩ := rt2 h
    exact x_rv C w (by rw [e2]) (by rw [e3]) dX0_carryOn_88
  replace h := ite_f h c2
  by_cases c3 : x1 = (3 : Int32)
  · replace h := ite_t h c3
    refine lv_tableIn (tgt := 88) hx hb dX0_carryOn_1 (by rw [c3]; decide) (by rw [c3]; decide) (by rw [c3]; rfl) (by decide) ?_
    obtain ⟨e2, e3⟩ := rt2 h
    exact x_rv C w (by rw [e2]) (by rw [e3]) dX0_carryOn_88
  replace h := ite_f h c3
  by_cases c4 : x1 = (4 : Int32)
  · replace h := ite_t h c4
    refine lv_tableIn (tgt := 60) hx hb dX0_carryOn_1 (by rw [c4]; decide) (by rw [c4]; decide) (by rw [c4]; rfl) (by decide) ?_
    refine lv_aload_n hx hb dX0_carryOn_60 rfl (lv_at hl 0 rfl) ?_
    obtain ⟨M13, J14, hv12, h⟩ := bd2_of h
    refine x_cVv (As := []) (rest := []) C w (vC hg hq) (cel_C hg hq.1) rfl (mtX0_unload hg hq hv12) q15_14 q12_21 q12_22 q2_17 q12_23 ydX0_unload ⟨rfl, rfl⟩ ⟨by decide, by decide⟩ ⟨Nat.zero_le _, Nat.zero_le _⟩ hl.1 (Nat.le_of_ble_eq_true rfl) rfl dX0_carryOn_61 (fun H locs w => ?_)
    refine lv_goto (tgt := 88) hx hb dX0_carryOn_64 (by decide) ?_
    obtain ⟨e2, e3⟩ := rt2 h
    exact x_rv C w (by rw [e2]) (by rw [e3]) dX0_carryOn_88
  replace h := ite_f h c4
  by_cases c5 : x1 = (5 : Int32)
  · replace h := ite_t h c5
    refine lv_tableIn (tgt := 67) hx hb dX0_carryOn_1 (by rw [c5]; decide) (by rw [c5]; decide) (by rw [c5]; rfl) (by decide) ?_
    refine lv_aload_n hx hb dX0_carryOn_67 rfl (lv_at hl 0 rfl) ?_
    refine lv_dup hx hb dX0_carryOn_68 rfl ?_
    refine gL_X0_timer hg hq C w q10_4 dX0_carryOn_69 ?_
    refine lv_iconst (v := (1 : Int32)) hx hb dX0_carryOn_72 (by decide) ?_
    refine lv_iadd hx hb dX0_carryOn_73 ?_
    refine pL_X0_timer hg hq C w q10_4 dX0_carryOn_74 (fun M15 H locs e16 w => ?_)
    replace h := bnd_of h e16
    refine lv_goto (tgt := 88) hx hb dX0_carryOn_77 (by decide) ?_
    obtain ⟨e2, e3⟩ := rt2 h
    exact x_rv C w (by rw [e2]) (by rw [e3]) dX0_carryOn_88
  replace h := ite_f h c5
  by_cases c6 : x1 = (6 : Int32)
  · replace h := ite_t h c6
    refine lv_tableIn (tgt := 80) hx hb dX0_carryOn_1 (by rw [c6]; decide) (by rw [c6]; decide) (by rw [c6]; rfl) (by decide) ?_
    refine lv_aload_n hx hb dX0_carryOn_80 rfl (lv_at hl 0 rfl) ?_
    refine lv_iload_n hx hb dX0_carryOn_81 rfl (lv_at hl 2 rfl) ?_
    obtain ⟨M18, J19, hv17, h⟩ := bd2_of h
    refine x_cVv (As := [.int x2]) (rest := []) C w (vC hg hq) (cel_C hg hq.1) rfl (mtX0_stop hg hq hv17) q15_15 q11_10 q11_11 q2_17 q11_12 ydX0_stop ⟨rfl, rfl⟩ ⟨by decide, by decide⟩ ⟨Nat.zero_le _, Nat.zero_le _⟩ hl.1 (Nat.le_of_ble_eq_true rfl) rfl dX0_carryOn_82 (fun H locs w => ?_)
    refine lv_goto (tgt := 88) hx hb dX0_carryOn_85 (by decide) ?_
    obtain ⟨e2, e3⟩ := rt2 h
    exact x_rv C w (by rw [e2]) (by rw [e3]) dX0_carryOn_88
  replace h := ite_f h c6
  have hsw : x1.toInt < 1 ∨ 6 < x1.toInt := by
    have n0 := ne_toInt c1
    have n1 := ne_toInt c2
    have n2 := ne_toInt c3
    have n3 := ne_toInt c4
    have n4 := ne_toInt c5
    have n5 := ne_toInt c6
    have e0 : (1 : Int32).toInt = 1 := by decide
    have e1 : (2 : Int32).toInt = 2 := by decide
    have e2 : (3 : Int32).toInt = 3 := by decide
    have e3 : (4 : Int32).toInt = 4 := by decide
    have e4 : (5 : Int32).toInt = 5 := by decide
    have e5 : (6 : Int32).toInt = 6 := by decide
    simp only [e0, e1, e2, e3, e4, e5] at n0 n1 n2 n3 n4 n5
    omega
  refine lv_tableOut (tgt := 88) hx hb dX0_carryOn_1 hsw (by decide) ?_
  obtain ⟨e2, e3⟩ := rt2 h
  exact x_rv C w (by rw [e2]) (by rw [e3]) dX0_carryOn_88
theorem mtX0_carryOn {MR : M2} {JR : J2}  (hg : g < 6) (hq : isC q) {x1 : Int32} {x2 : Int32}  (h : fX0_carryOn q x1 x2 M J = some (MR, JR)) : MtV l yX0_carryOn wdX0_carryOn rmX0_carryOn E [.ref (ad E g q), .int x1, .int x2] (sg G g M) (sg K g J)  (sg G g MR) (sg K g JR) := by
  intro sz
  refine Met.ofW (cc := cX0_carryOn) (maxL := 3) (ret := none) (by decide) rfl ?_
  intro p e s m args below meth c s₁ B hml hv
  obtain ⟨rfl, C, w⟩ := Cx.of (own := RX0) B rfl hml hv
  have hl := lv_entry ([.ref (ad E g q), .int x1, .int x2]) (n := 3) (by first | exact Nat.le_of_ble_eq_true rfl)
  rw [lg_entry_eq]
  generalize (lg_sl ([.ref (ad E g q), .int x1, .int x2]) ++ List.replicate (3 - (lg_sl ([.ref (ad E g q), .int x1, .int x2])).length) Slot.unset).toArray = ls at hl ⊢
  exact TX0_carryOn C hg hq  h w hl
theorem ydX0_carryOn : yX0_carryOn.cls = RX0 ∧ yX0_carryOn.cls ≠ "java/lang/invoke/MethodHandle" ∧ yX0_carryOn.cls ≠ "java/lang/invoke/VarHandle" ∧ (parseMethodDescriptor yX0_carryOn.desc).map (fun d => d.parameters.length) = some 2 := by decide +kernel
/-! X0.takeOver(LAirStation$Compressor;)V -/
abbrev rmX0_takeOver : Room := { frames := 1, cells := 0, slots := 0, locals := 12 }
abbrev wdX0_takeOver : Cond := Cond.code yX0_takeOver cX0_takeOver 2 none
noncomputable def fX0_takeOver (g : Nat) (q : Nat) (g' : Nat) (q' : Nat)  (G : M3) (K : J3) : Option (M3 × J3) := bnd (up3 G g q 0 (G g' q' 0)) (fun G1 => bnd (up3 G1 g q 1 (G1 g' q' 1)) (fun G3 => bnd (up3 G3 g q 2 (G3 g' q' 2)) (fun G5 => bnd (up3 G5 g q 3 (G5 g' q' 3)) (fun G7 => bnd (up3 G7 g q 4 (G7 g' q' 4)) (fun G9 => bnd (up3 G9 g q 5 (G9 g' q' 5)) (fun G11 => bnd (up3 G11 g q 6 (G11 g' q' 6)) (fun G13 => bnd (up3 G13 g q 7 (G13 g' q' 7)) (fun G15 => some (G15, K)))))))))
set_option maxRecDepth 20000 in
set_option maxHeartbeats 1000000 in
theorem TX0_takeOver {GR : M3} {KR : J3}  (C : Cx E A p s m args meth c wdX0_takeOver cX0_takeOver 2 none RX0) (hg : g < 6) (hq : isC q) (hg' : g' < 6) (hq' : isC q')   (h : fX0_takeOver g q g' q' G K = some (GR, KR)) (w : Wd E A s G K H locs) (hl : lv_has ls 2 [(0, .ref (ad E g q)), (1, .ref (ad E g' q'))]) : W p l e rmX0_takeOver s m args below meth c H locs 0 0 (QV E A below args s  GR KR) (F0 m 0 ls []) := by
  obtain ⟨hx, hb, hr, hml, hown, hts, hlocks, hKK, hA1, hA2⟩ := id C
  unfold fX0_takeOver at h
  refine lv_aload_n hx hb dX0_takeOver_0 rfl (lv_at hl 0 rfl) ?_
  refine lv_aload_n hx hb dX0_takeOver_1 rfl (lv_at hl 1 rfl) ?_
  refine gG_X0_capacity hg' hq' C w q9_23 dX0_takeOver_2 ?_
  refine pG_X0_capacity hg hq C w q9_23 dX0_takeOver_5 (fun G1 H locs e2 w => ?_)
  replace h := bnd_of h e2
  refine lv_aload_n hx hb dX0_takeOver_8 rfl (lv_at hl 0 rfl) ?_
  refine lv_aload_n hx hb dX0_takeOver_9 rfl (lv_at hl 1 rfl) ?_
  refine gG_X0_mode hg' hq' C w q10_0 dX0_takeOver_10 ?_
  refine pG_X0_mode hg hq C w q10_0 dX0_takeOver_13 (fun G3 H locs e4 w => ?_)
  replace h := bnd_of h e4
  refine lv_aload_n hx hb dX0_takeOver_16 rfl (lv_at hl 0 rfl) ?_
  refine lv_aload_n hx hb dX0_takeOver_17 rfl (lv_at hl 1 rfl) ?_
  refine gG_X0_stage hg' hq' C w q10_1 dX0_takeOver_18 ?_
  refine pG_X0_stage hg hq C w q10_1 dX0_takeOver_21 (fun G5 H locs e6 w => ?_)
  replace h := bnd_of h e6
  refine lv_aload_n hx hb dX0_takeOver_24 rfl (lv_at hl 0 rfl) ?_
  refine lv_aload_n hx hb dX0_takeOver_25 rfl (lv_at hl 1 rfl) ?_
  refine gG_X0_loadedMinutes hg' hq' C w q10_2 dX0_takeOver_26 ?_
  refine pG_X0_loadedMinutes hg hq C w q10_2 dX0_takeOver_29 (fun G7 H locs e8 w => ?_)
  replace h := bnd_of h e8
  refine lv_aload_n hx hb dX0_takeOver_32 rfl (lv_at hl 0 rfl) ?_
  refine lv_aload_n hx hb dX0_takeOver_33 rfl (lv_at hl 1 rfl) ?_
  refine gG_X0_unloadedMinutes hg' hq' C w q10_3 dX0_takeOver_34 ?_
  refine pG_X0_unloadedMinutes hg hq C w q10_3 dX0_takeOver_37 (fun G9 H locs e10 w => ?_)
  replace h := bnd_of h e10
  refine lv_aload_n hx hb dX0_takeOver_40 rfl (lv_at hl 0 rfl) ?_
  refine lv_aload_n hx hb dX0_takeOver_41 rfl (lv_at hl 1 rfl) ?_
  refine gG_X0_timer hg' hq' C w q10_4 dX0_takeOver_42 ?_
  refine pG_X0_timer hg hq C w q10_4 dX0_takeOver_45 (fun G11 H locs e12 w => ?_)
  replace h := bnd_of h e12
  refine lv_aload_n hx hb dX0_takeOver_48 rfl (lv_at hl 0 rfl) ?_
  refine lv_aload_n hx hb dX0_takeOver_49 rfl (lv_at hl 1 rfl) ?_
  refine gG_X0_rest hg' hq' C w q10_5 dX0_takeOver_50 ?_
  refine pG_X0_rest hg hq C w q10_5 dX0_takeOver_53 (fun G13 H locs e14 w => ?_)
  replace h := bnd_of h e14
  refine lv_aload_n hx hb dX0_takeOver_56 rfl (lv_at hl 0 rfl) ?_
  refine lv_aload_n hx hb dX0_takeOver_57 rfl (lv_at hl 1 rfl) ?_
  refine gG_X0_starts hg' hq' C w q10_6 dX0_takeOver_58 ?_
  refine pG_X0_starts hg hq C w q10_6 dX0_takeOver_61 (fun G15 H locs e16 w => ?_)
  replace h := bnd_of h e16
  obtain ⟨e2, e3⟩ := rt2 h
  exact x_rv C w (by rw [e2]) (by rw [e3]) dX0_takeOver_64
theorem mtX0_takeOver {GR : M3} {KR : J3}  (hg : g < 6) (hq : isC q) (hg' : g' < 6) (hq' : isC q')   (h : fX0_takeOver g q g' q' G K = some (GR, KR)) : MtV l yX0_takeOver wdX0_takeOver rmX0_takeOver E [.ref (ad E g q), .ref (ad E g' q')] G K  GR KR := by
  intro sz
  refine Met.ofW (cc := cX0_takeOver) (maxL := 2) (ret := none) (by decide) rfl ?_
  intro p e s m args below meth c s₁ B hml hv
  obtain ⟨rfl, C, w⟩ := Cx.of (own := RX0) B rfl hml hv
  have hl := lv_entry ([.ref (ad E g q), .ref (ad E g' q')]) (n := 2) (by first | exact Nat.le_of_ble_eq_true rfl)
  rw [lg_entry_eq]
  generalize (lg_sl ([.ref (ad E g q), .ref (ad E g' q')]) ++ List.replicate (2 - (lg_sl ([.ref (ad E g q), .ref (ad E g' q')])).length) Slot.unset).toArray = ls at hl ⊢
  exact TX0_takeOver C hg hq hg' hq'  h w hl
theorem ydX0_takeOver : yX0_takeOver.cls = RX0 ∧ yX0_takeOver.cls ≠ "java/lang/invoke/MethodHandle" ∧ yX0_takeOver.cls ≠ "java/lang/invoke/VarHandle" ∧ (parseMethodDescriptor yX0_takeOver.desc).map (fun d => d.parameters.length) = some 1 := by decide +kernel
/-! X3.numbered(I)LAirStation$Compressor; -/
abbrev rmX3_numbered : Room := { frames := 1, cells := 0, slots := 0, locals := 12 }
abbrev wdX3_numbered : Cond := Cond.code yX3_numbered cX3_numbered 2 (some (.object "AirStation$Compressor"))
noncomputable def fX3_numbered (M : M2) (J : J2) (x1 : Int32)  : Option (Option Nat) := (if x1 < 0 then (some none) else ((if (M 0 5) ≤ x1 then (some none) else ((if x1 < (5 : Int32) then (chk (inb x1 5) (some (some (5 + x1.toNatClampNeg)))) else (some none))))))
set_option maxRecDepth 20000 in
set_option maxHeartbeats 1000000 in
theorem TX3_numbered {rr : Option Nat}  (C : Cx E A p s m args meth c wdX3_numbered cX3_numbered 2 (some (.object "AirStation$Compressor")) RX3) (hg : g < 6) {x1 : Int32}  (h : fX3_numbered M J x1 = some rr) (w : Wd E A s (sg G g M) (sg K g J) H locs) (hl : lv_has ls 2 [(0, .ref (ad E g 0)), (1, .int x1)]) : W p l e rmX3_numbered s m args below meth c H locs 0 0 (QQ E A below args s (rr.map (fun z => ad E g z)) (sg G g M) (sg K g J)) (F0 m 0 ls []) := by
  obtain ⟨hx, hb, hr, hml, hown, hts, hlocks, hKK, hA1, hA2⟩ := id C
  unfold fX3_numbered at h
  refine lv_iload_n hx hb dX3_numbered_0 rfl (lv_at hl 1 rfl) ?_
  refine lv_if_lt (tgt := 21) hx hb dX3_numbered_1 (by decide) (fun c1 => ?_) (fun c1 => ?_)
  · replace h := ite_t h c1
    refine lv_null hx hb dX3_numbered_21 ?_
    have e1 := Option.some.inj h
    exact x_rq C w (v := none) rfl (by rw [← e1]; rfl) rfl rfl dX3_numbered_22
  · replace h := ite_f h c1
    refine lv_iload_n hx hb dX3_numbered_4 rfl (lv_at hl 1 rfl) ?_
    refine lv_aload_n hx hb dX3_numbered_5 rfl (lv_at hl 0 rfl) ?_
    refine gL_X3_count hg C w q4_10 dX3_numbered_6 ?_
    refine lv_icmp_ge (tgt := 21) hx hb dX3_numbered_9 (by decide) (fun c2 => ?_) (fun c2 => ?_)
    · replace h := ite_t h c2
      refine lv_null hx hb dX3_numbered_21 ?_
      have e1 := Option.some.inj h
      exact x_rq C w (v := none) rfl (by rw [← e1]; rfl) rfl rfl dX3_numbered_22
    · replace h := ite_f h c2
      refine lv_iload_n hx hb dX3_numbered_12 rfl (lv_at hl 1 rfl) ?_
      refine lv_aload_n hx hb dX3_numbered_13 rfl (lv_at hl 0 rfl) ?_
      refine gR_X3_compressors hg C w q2_11 dX3_numbered_14 ?_
      refine x_alen (n := 5) (v := (5 : Int32)) (t0 := 2) C w (vS hg (by decide)) (cel_S hg) rfl (by decide) dX3_numbered_17 ?_
      refine lv_icmp_lt (tgt := 23) hx hb dX3_numbered_18 (by decide) (fun c3 => ?_) (fun c3 => ?_)
      · replace h := ite_t h c3
        refine lv_aload_n hx hb dX3_numbered_23 rfl (lv_at hl 0 rfl) ?_
        refine gR_X3_compressors hg C w q2_11 dX3_numbered_24 ?_
        refine lv_iload_n hx hb dX3_numbered_27 rfl (lv_at hl 1 rfl) ?_
        obtain ⟨ki4, h⟩ := chk_of h
        have hc5 := isC_ald ki4
        refine x_aldC C w hg ki4 dX3_numbered_28 ?_
        have e1 := Option.some.inj h
        exact x_rq C w (v := (some (ad E g (5 + x1.toNatClampNeg)))) rfl (by rw [← e1]; rfl) rfl rfl dX3_numbered_29
      · replace h := ite_f h c3
        refine lv_null hx hb dX3_numbered_21 ?_
        have e1 := Option.some.inj h
        exact x_rq C w (v := none) rfl (by rw [← e1]; rfl) rfl rfl dX3_numbered_22
theorem mtX3_numbered {rr : Option Nat}  (hg : g < 6) {x1 : Int32}  (h : fX3_numbered M J x1 = some rr) : MtQ l yX3_numbered wdX3_numbered rmX3_numbered E [.ref (ad E g 0), .int x1] (sg G g M) (sg K g J) (rr.map (fun z => ad E g z)) (sg G g M) (sg K g J) := by
  intro sz
  refine Met.ofW (cc := cX3_numbered) (maxL := 2) (ret := (some (.object "AirStation$Compressor"))) (by decide) rfl ?_
  intro p e s m args below meth c s₁ B hml hv
  obtain ⟨rfl, C, w⟩ := Cx.of (own := RX3) B rfl hml hv
  have hl := lv_entry ([.ref (ad E g 0), .int x1]) (n := 2) (by first | exact Nat.le_of_ble_eq_true rfl)
  rw [lg_entry_eq]
  generalize (lg_sl ([.ref (ad E g 0), .int x1]) ++ List.replicate (2 - (lg_sl ([.ref (ad E g 0), .int x1])).length) Slot.unset).toArray = ls at hl ⊢
  exact TX3_numbered C hg  h w hl
theorem ydX3_numbered : yX3_numbered.cls = RX3 ∧ yX3_numbered.cls ≠ "java/lang/invoke/MethodHandle" ∧ yX3_numbered.cls ≠ "java/lang/invoke/VarHandle" ∧ (parseMethodDescriptor yX3_numbered.desc).map (fun d => d.parameters.length) = some 1 := by decide +kernel
/-! X3.pressure()I -/
abbrev rmX3_pressure : Room := { frames := 2, cells := 0, slots := 0, locals := 33 }
abbrev wdX3_pressure : Cond := Cond.code yX3_pressure cX3_pressure 1 (some .int)
noncomputable def fX3_pressure (M : M2) (J : J2)   : Option Int32 := (fX4_pressureOf (M 0 1) (M 0 0)).bind (fun vv2 => some vv2)
set_option maxRecDepth 20000 in
set_option maxHeartbeats 1000000 in
theorem TX3_pressure {rr : Int32}  (C : Cx E A p s m args meth c wdX3_pressure cX3_pressure 1 (some .int) RX3) (hg : g < 6)   (h : fX3_pressure M J  = some rr) (w : Wd E A s (sg G g M) (sg K g J) H locs) (hl : lv_has ls 1 [(0, .ref (ad E g 0))]) : W p l e rmX3_pressure s m args below meth c H locs 0 0 (QI E A below args s rr (sg G g M) (sg K g J)) (F0 m 0 ls []) := by
  obtain ⟨hx, hb, hr, hml, hown, hts, hlocks, hKK, hA1, hA2⟩ := id C
  unfold fX3_pressure at h
  refine lv_aload_n hx hb dX3_pressure_0 rfl (lv_at hl 0 rfl) ?_
  refine gL_X3_air hg C w q2_4 dX3_pressure_1 ?_
  refine lv_aload_n hx hb dX3_pressure_4 rfl (lv_at hl 0 rfl) ?_
  refine gL_X3_volume hg C w q2_3 dX3_pressure_5 ?_
  obtain ⟨vv2, hv1, h⟩ := bind_of h
  refine x_cNi (As := [.int (M 0 1), .int (M 0 0)]) (rest := []) C w (mtX4_pressureOf  hv1) (List.mem_of_getElem? (i := 0) rfl) q4_19 q1_2 q4_20 ynX4_pressureOf ⟨rfl, rfl⟩ ⟨by decide, by decide⟩ ⟨Nat.zero_le _, Nat.zero_le _⟩ hl.1 (Nat.le_of_ble_eq_true rfl) rfl dX3_pressure_8 (fun H locs w => ?_)
  have e1 := Option.some.inj h
  exact x_ri C w e1 rfl rfl dX3_pressure_11
theorem mtX3_pressure {rr : Int32}  (hg : g < 6)   (h : fX3_pressure M J  = some rr) : MtI l yX3_pressure wdX3_pressure rmX3_pressure E [.ref (ad E g 0)] (sg G g M) (sg K g J) rr (sg G g M) (sg K g J) := by
  intro sz
  refine Met.ofW (cc := cX3_pressure) (maxL := 1) (ret := (some .int)) (by decide) rfl ?_
  intro p e s m args below meth c s₁ B hml hv
  obtain ⟨rfl, C, w⟩ := Cx.of (own := RX3) B rfl hml hv
  have hl := lv_entry ([.ref (ad E g 0)]) (n := 1) (by first | exact Nat.le_of_ble_eq_true rfl)
  rw [lg_entry_eq]
  generalize (lg_sl ([.ref (ad E g 0)]) ++ List.replicate (1 - (lg_sl ([.ref (ad E g 0)])).length) Slot.unset).toArray = ls at hl ⊢
  exact TX3_pressure C hg  h w hl
theorem ydX3_pressure : yX3_pressure.cls = RX3 ∧ yX3_pressure.cls ≠ "java/lang/invoke/MethodHandle" ∧ yX3_pressure.cls ≠ "java/lang/invoke/VarHandle" ∧ (parseMethodDescriptor yX3_pressure.desc).map (fun d => d.parameters.length) = some 0 := by decide +kernel
/-! X3.leakAt(I)I -/
abbrev rmX3_leakAt : Room := { frames := 1, cells := 0, slots := 0, locals := 12 }
abbrev wdX3_leakAt : Cond := Cond.code yX3_leakAt cX3_leakAt 2 (some .int)
noncomputable def fX3_leakAt (M : M2) (J : J2) (x1 : Int32)  : Int32 := ((x1 * (M 1 5)) / (1000 : Int32))
set_option maxRecDepth 20000 in
set_option maxHeartbeats 1000000 in
theorem TX3_leakAt {rr : Int32}  (C : Cx E A p s m args meth c wdX3_leakAt cX3_leakAt 2 (some .int) RX3) (hg : g < 6) {x1 : Int32}  (h : fX3_leakAt M J x1 = rr) (w : Wd E A s (sg G g M) (sg K g J) H locs) (hl : lv_has ls 2 [(0, .ref (ad E g 0)), (1, .int x1)]) : W p l e rmX3_leakAt s m args below meth c H locs 0 0 (QI E A below args s rr (sg G g M) (sg K g J)) (F0 m 0 ls []) := by
  obtain ⟨hx, hb, hr, hml, hown, hts, hlocks, hKK, hA1, hA2⟩ := id C
  unfold fX3_leakAt at h
  refine lv_iload_n hx hb dX3_leakAt_0 rfl (lv_at hl 1 rfl) ?_
  refine lv_aload_n hx hb dX3_leakAt_1 rfl (lv_at hl 0 rfl) ?_
  refine gR_X3_settings hg C w q2_6 dX3_leakAt_2 ?_
  refine lv_iconst (v := (5 : Int32)) hx hb dX3_leakAt_5 (by decide) ?_
  refine x_aldI_L C w (vS hg (by decide)) (cS1 hg) (inb_k (k := 5) (by decide) (by decide)) cl_5 dX3_leakAt_6 ?_
  refine lv_imul hx hb dX3_leakAt_7 ?_
  refine lv_sipush (v := (1000 : Int32)) hx hb dX3_leakAt_8 (by decide) ?_
  refine lv_idiv hx hb dX3_leakAt_11 (by decide) ?_
  exact x_ri C w h rfl rfl dX3_leakAt_12
theorem mtX3_leakAt  (hg : g < 6) {x1 : Int32}   : MtI l yX3_leakAt wdX3_leakAt rmX3_leakAt E [.ref (ad E g 0), .int x1] (sg G g M) (sg K g J) (fX3_leakAt M J x1) (sg G g M) (sg K g J) := by
  intro sz
  refine Met.ofW (cc := cX3_leakAt) (maxL := 2) (ret := (some .int)) (by decide) rfl ?_
  intro p e s m args below meth c s₁ B hml hv
  obtain ⟨rfl, C, w⟩ := Cx.of (own := RX3) B rfl hml hv
  have hl := lv_entry ([.ref (ad E g 0), .int x1]) (n := 2) (by first | exact Nat.le_of_ble_eq_true rfl)
  rw [lg_entry_eq]
  generalize (lg_sl ([.ref (ad E g 0), .int x1]) ++ List.replicate (2 - (lg_sl ([.ref (ad E g 0), .int x1])).length) Slot.unset).toArray = ls at hl ⊢
  exact TX3_leakAt C hg  rfl w hl
theorem ydX3_leakAt : yX3_leakAt.cls = RX3 ∧ yX3_leakAt.cls ≠ "java/lang/invoke/MethodHandle" ∧ yX3_leakAt.cls ≠ "java/lang/invoke/VarHandle" ∧ (parseMethodDescriptor yX3_leakAt.desc).map (fun d => d.parameters.length) = some 1 := by decide +kernel
/-! X3.limitForLoading(LAirStation$Compressor;)I -/
abbrev rmX3_limitForLoading : Room := { frames := 1, cells := 0, slots := 0, locals := 12 }
abbrev wdX3_limitForLoading : Cond := Cond.code yX3_limitForLoading cX3_limitForLoading 2 (some .int)
noncomputable def fX3_limitForLoading (M : M2) (J : J2) (q1 : Nat)  : Int32 := ((M 1 0) - (((M q1 2) + (1 : Int32)) * (M 1 1)))
set_option maxRecDepth 20000 in
set_option maxHeartbeats 1000000 in
theorem TX3_limitForLoading {rr : Int32}  (C : Cx E A p s m args meth c wdX3_limitForLoading cX3_limitForLoading 2 (some .int) RX3) (hg : g < 6) {q1 : Nat} (hq1 : isC q1) (h : fX3_limitForLoading M J q1 = rr) (w : Wd E A s (sg G g M) (sg K g J) H locs) (hl : lv_has ls 2 [(0, .ref (ad E g 0)), (1, .ref (ad E g q1))]) : W p l e rmX3_limitForLoading s m args below meth c H locs 0 0 (QI E A below args s rr (sg G g M) (sg K g J)) (F0 m 0 ls []) := by
  obtain ⟨hx, hb, hr, hml, hown, hts, hlocks, hKK, hA1, hA2⟩ := id C
  unfold fX3_limitForLoading at h
  refine lv_aload_n hx hb dX3_limitForLoading_0 rfl (lv_at hl 0 rfl) ?_
  refine gR_X3_settings hg C w q2_6 dX3_limitForLoading_1 ?_
  refine lv_iconst (v := (0 : Int32)) hx hb dX3_limitForLoading_4 (by decide) ?_
  refine x_aldI_L C w (vS hg (by decide)) (cS1 hg) (inb_k (k := 0) (by decide) (by decide)) cl_0 dX3_limitForLoading_5 ?_
  refine lv_aload_n hx hb dX3_limitForLoading_6 rfl (lv_at hl 1 rfl) ?_
  refine gL_X0_stage hg hq1 C w q6_12 dX3_limitForLoading_7 ?_
  refine lv_iconst (v := (1 : Int32)) hx hb dX3_limitForLoading_10 (by decide) ?_
  refine lv_iadd hx hb dX3_limitForLoading_11 ?_
  refine lv_aload_n hx hb dX3_limitForLoading_12 rfl (lv_at hl 0 rfl) ?_
  refine gR_X3_settings hg C w q2_6 dX3_limitForLoading_13 ?_
  refine lv_iconst (v := (1 : Int32)) hx hb dX3_limitForLoading_16 (by decide) ?_
  refine x_aldI_L C w (vS hg (by decide)) (cS1 hg) (inb_k (k := 1) (by decide) (by decide)) cl_1 dX3_limitForLoading_17 ?_
  refine lv_imul hx hb dX3_limitForLoading_18 ?_
  refine lv_isub hx hb dX3_limitForLoading_19 ?_
  exact x_ri C w h rfl rfl dX3_limitForLoading_20
theorem mtX3_limitForLoading  (hg : g < 6) {q1 : Nat} (hq1 : isC q1)  : MtI l yX3_limitForLoading wdX3_limitForLoading rmX3_limitForLoading E [.ref (ad E g 0), .ref (ad E g q1)] (sg G g M) (sg K g J) (fX3_limitForLoading M J q1) (sg G g M) (sg K g J) := by
  intro sz
  refine Met.ofW (cc := cX3_limitForLoading) (maxL := 2) (ret := (some .int)) (by decide) rfl ?_
  intro p e s m args below meth c s₁ B hml hv
  obtain ⟨rfl, C, w⟩ := Cx.of (own := RX3) B rfl hml hv
  have hl := lv_entry ([.ref (ad E g 0), .ref (ad E g q1)]) (n := 2) (by first | exact Nat.le_of_ble_eq_true rfl)
  rw [lg_entry_eq]
  generalize (lg_sl ([.ref (ad E g 0), .ref (ad E g q1)]) ++ List.replicate (2 - (lg_sl ([.ref (ad E g 0), .ref (ad E g q1)])).length) Slot.unset).toArray = ls at hl ⊢
  exact TX3_limitForLoading C hg hq1 rfl w hl
theorem ydX3_limitForLoading : yX3_limitForLoading.cls = RX3 ∧ yX3_limitForLoading.cls ≠ "java/lang/invoke/MethodHandle" ∧ yX3_limitForLoading.cls ≠ "java/lang/invoke/VarHandle" ∧ (parseMethodDescriptor yX3_limitForLoading.desc).map (fun d => d.parameters.length) = some 1 := by decide +kernel
/-! X3.limitForUnloading(LAirStation$Compressor;)I -/
abbrev rmX3_limitForUnloading : Room := { frames := 1, cells := 0, slots := 0, locals := 12 }
abbrev wdX3_limitForUnloading : Cond := Cond.code yX3_limitForUnloading cX3_limitForUnloading 2 (some .int)
noncomputable def fX3_limitForUnloading (M : M2) (J : J2) (q1 : Nat)  : Int32 := ((M 1 0) + (((M 0 5) - (M q1 2)) * (M 1 1)))
set_option maxRecDepth 20000 in
set_option maxHeartbeats 1000000 in
theorem TX3_limitForUnloading {rr : Int32}  (C : Cx E A p s m args meth c wdX3_limitForUnloading cX3_limitForUnloading 2 (some .int) RX3) (hg : g < 6) {q1 : Nat} (hq1 : isC q1) (h : fX3_limitForUnloading M J q1 = rr) (w : Wd E A s (sg G g M) (sg K g J) H locs) (hl : lv_has ls 2 [(0, .ref (ad E g 0)), (1, .ref (ad E g q1))]) : W p l e rmX3_limitForUnloading s m args below meth c H locs 0 0 (QI E A below args s rr (sg G g M) (sg K g J)) (F0 m 0 ls []) := by
  obtain ⟨hx, hb, hr, hml, hown, hts, hlocks, hKK, hA1, hA2⟩ := id C
  unfold fX3_limitForUnloading at h
  refine lv_aload_n hx hb dX3_limitForUnloading_0 rfl (lv_at hl 0 rfl) ?_
  refine gR_X3_settings hg C w q2_6 dX3_limitForUnloading_1 ?_
  refine lv_iconst (v := (0 : Int32)) hx hb dX3_limitForUnloading_4 (by decide) ?_
  refine x_aldI_L C w (vS hg (by decide)) (cS1 hg) (inb_k (k := 0) (by decide) (by decide)) cl_0 dX3_limitForUnloading_5 ?_
  refine lv_aload_n hx hb dX3_limitForUnloading_6 rfl (lv_at hl 0 rfl) ?_
  refine gL_X3_count hg C w q4_10 dX3_limitForUnloading_7 ?_
  refine lv_aload_n hx hb dX3_limitForUnloading_10 rfl (lv_at hl 1 rfl) ?_
  refine gL_X0_stage hg hq1 C w q6_12 dX3_limitForUnloading_11 ?_
  refine lv_isub hx hb dX3_limitForUnloading_14 ?_
  refine lv_aload_n hx hb dX3_limitForUnloading_15 rfl (lv_at hl 0 rfl) ?_
  refine gR_X3_settings hg C w q2_6 dX3_limitForUnloading_16 ?_
  refine lv_iconst (v := (1 : Int32)) hx hb dX3_limitForUnloading_19 (by decide) ?_
  refine x_aldI_L C w (vS hg (by decide)) (cS1 hg) (inb_k (k := 1) (by decide) (by decide)) cl_1 dX3_limitForUnloading_20 ?_
  refine lv_imul hx hb dX3_limitForUnloading_21 ?_
  refine lv_iadd hx hb dX3_limitForUnloading_22 ?_
  exact x_ri C w h rfl rfl dX3_limitForUnloading_23
theorem mtX3_limitForUnloading  (hg : g < 6) {q1 : Nat} (hq1 : isC q1)  : MtI l yX3_limitForUnloading wdX3_limitForUnloading rmX3_limitForUnloading E [.ref (ad E g 0), .ref (ad E g q1)] (sg G g M) (sg K g J) (fX3_limitForUnloading M J q1) (sg G g M) (sg K g J) := by
  intro sz
  refine Met.ofW (cc := cX3_limitForUnloading) (maxL := 2) (ret := (some .int)) (by decide) rfl ?_
  intro p e s m args below meth c s₁ B hml hv
  obtain ⟨rfl, C, w⟩ := Cx.of (own := RX3) B rfl hml hv
  have hl := lv_entry ([.ref (ad E g 0), .ref (ad E g q1)]) (n := 2) (by first | exact Nat.le_of_ble_eq_true rfl)
  rw [lg_entry_eq]
  generalize (lg_sl ([.ref (ad E g 0), .ref (ad E g q1)]) ++ List.replicate (2 - (lg_sl ([.ref (ad E g 0), .ref (ad E g q1)])).length) Slot.unset).toArray = ls at hl ⊢
  exact TX3_limitForUnloading C hg hq1 rfl w hl
theorem ydX3_limitForUnloading : yX3_limitForUnloading.cls = RX3 ∧ yX3_limitForUnloading.cls ≠ "java/lang/invoke/MethodHandle" ∧ yX3_limitForUnloading.cls ≠ "java/lang/invoke/VarHandle" ∧ (parseMethodDescriptor yX3_limitForUnloading.desc).map (fun d => d.parameters.length) = some 1 := by decide +kernel
/-! X3.hasTimeFor(I)Z -/
abbrev rmX3_hasTimeFor : Room := { frames := 1, cells := 0, slots := 0, locals := 12 }
abbrev wdX3_hasTimeFor : Cond := Cond.code yX3_hasTimeFor cX3_hasTimeFor 2 (some .boolean)
noncomputable def fX3_hasTimeFor (M : M2) (J : J2) (x1 : Int32)  : Int32 := (if (100000 : Int32) < ((M 0 2) + x1) then ((0 : Int32)) else ((1 : Int32)))
set_option maxRecDepth 20000 in
set_option maxHeartbeats 1000000 in
theorem TX3_hasTimeFor {rr : Int32}  (C : Cx E A p s m args meth c wdX3_hasTimeFor cX3_hasTimeFor 2 (some .boolean) RX3) (hg : g < 6) {x1 : Int32}  (h : fX3_hasTimeFor M J x1 = rr) (w : Wd E A s (sg G g M) (sg K g J) H locs) (hl : lv_has ls 2 [(0, .ref (ad E g 0)), (1, .int x1)]) : W p l e rmX3_hasTimeFor s m args below meth c H locs 0 0 (QI E A below args s rr (sg G g M) (sg K g J)) (F0 m 0 ls []) := by
  obtain ⟨hx, hb, hr, hml, hown, hts, hlocks, hKK, hA1, hA2⟩ := id C
  unfold fX3_hasTimeFor at h
  refine lv_aload_n hx hb dX3_hasTimeFor_0 rfl (lv_at hl 0 rfl) ?_
  refine gL_X3_time hg C w q4_11 dX3_hasTimeFor_1 ?_
  refine lv_iload_n hx hb dX3_hasTimeFor_4 rfl (lv_at hl 1 rfl) ?_
  refine lv_iadd hx hb dX3_hasTimeFor_5 ?_
  refine lv_ldc hx hb hown (x_hts C q12_11) dX3_hasTimeFor_6 ?_
  refine lv_icmp_gt (tgt := 15) hx hb dX3_hasTimeFor_8 (by decide) (fun c1 => ?_) (fun c1 => ?_)
  · replace h := ite_t h c1
    refine lv_iconst (v := (0 : Int32)) hx hb dX3_hasTimeFor_15 (by decide) ?_
    exact x_rz C w (Or.inl rfl) h rfl rfl dX3_hasTimeFor_16
  · replace h := ite_f h c1
    refine lv_iconst (v := (1 : Int32)) hx hb dX3_hasTimeFor_11 (by decide) ?_
    refine lv_goto (tgt := 16) hx hb dX3_hasTimeFor_12 (by decide) ?_
    exact x_rz C w (Or.inr rfl) h rfl rfl dX3_hasTimeFor_16
theorem mtX3_hasTimeFor  (hg : g < 6) {x1 : Int32}   : MtI l yX3_hasTimeFor wdX3_hasTimeFor rmX3_hasTimeFor E [.ref (ad E g 0), .int x1] (sg G g M) (sg K g J) (fX3_hasTimeFor M J x1) (sg G g M) (sg K g J) := by
  intro sz
  refine Met.ofW (cc := cX3_hasTimeFor) (maxL := 2) (ret := (some .boolean)) (by decide) rfl ?_
  intro p e s m args below meth c s₁ B hml hv
  obtain ⟨rfl, C, w⟩ := Cx.of (own := RX3) B rfl hml hv
  have hl := lv_entry ([.ref (ad E g 0), .int x1]) (n := 2) (by first | exact Nat.le_of_ble_eq_true rfl)
  rw [lg_entry_eq]
  generalize (lg_sl ([.ref (ad E g 0), .int x1]) ++ List.replicate (2 - (lg_sl ([.ref (ad E g 0), .int x1])).length) Slot.unset).toArray = ls at hl ⊢
  exact TX3_hasTimeFor C hg  rfl w hl
theorem ydX3_hasTimeFor : yX3_hasTimeFor.cls = RX3 ∧ yX3_hasTimeFor.cls ≠ "java/lang/invoke/MethodHandle" ∧ yX3_hasTimeFor.cls ≠ "java/lang/invoke/VarHandle" ∧ (parseMethodDescriptor yX3_hasTimeFor.desc).map (fun d => d.parameters.length) = some 1 := by decide +kernel
theorem zX3_hasTimeFor (M : M2) (J : J2) (x1 : Int32) : fX3_hasTimeFor M J x1 = 0 ∨ fX3_hasTimeFor M J x1 = 1 := by unfold fX3_hasTimeFor; (repeat' split) <;> first | exact Or.inl rfl | exact Or.inr rfl | apply zX4_isWithin
/-! X3.countOf(I)I -/
abbrev rmX3_countOf : Room := { frames := 2, cells := 0, slots := 0, locals := 33 }
abbrev wdX3_countOf : Cond := Cond.code yX3_countOf cX3_countOf 5 (some .int)
noncomputable def fbX3_countOf_33 (F : Nat) (k4 : Int32 → Int32 → Int32 → Option Int32) (M : M2) (J : J2) (a1 : Int32) (a2 : Int32) (a3 : Int32)  : Option Int32 := k4 a1 a2 (a3 + (1 : Int32))
set_option maxRecDepth 20000 in
set_option maxHeartbeats 1000000 in
theorem TX3_countOf_33 {rr : Int32}  {k4 : Int32 → Int32 → Int32 → Option Int32} (C : Cx E A p s m args meth c wdX3_countOf cX3_countOf 5 (some .int) RX3) (hg : g < 6) (hk4 : ∀ (a1 : Int32) (a2 : Int32) (a3 : Int32)   (ls : Array Slot) (H : Heap) (locs : List Loc), k4 a1 a2 a3 = some rr → Wd E A s (sg G g M) (sg K g J) H locs → lv_has ls 5 [(0, .ref (ad E g 0)), (1, .int a1), (2, .int a2), (3, .int a3)] → W p l e rmX3_countOf s m args below meth c H locs 0 0 (QI E A below args s rr (sg G g M) (sg K g J)) (F0 m 4 ls [])) (a1 : Int32) (a2 : Int32) (a3 : Int32)   (h : fbX3_countOf_33 F k4 M J a1 a2 a3 = some rr) (w : Wd E A s (sg G g M) (sg K g J) H locs) (hl : lv_has ls 5 [(0, .ref (ad E g 0)), (1, .int a1), (2, .int a2), (3, .int a3)]) : W p l e rmX3_countOf s m args below meth c H locs 0 0 (QI E A below args s rr (sg G g M) (sg K g J)) (F0 m 33 ls []) := by
  obtain ⟨hx, hb, hr, hml, hown, hts, hlocks, hKK, hA1, hA2⟩ := id C
  unfold fbX3_countOf_33 at h
  refine lv_iinc (v := (a3 + (1 : Int32))) (lv' := [(3, .int (a3 + (1 : Int32))), (0, .ref (ad E g 0)), (1, .int a1), (2, .int a2)]) hx hb dX3_countOf_33 hl (k := 3) rfl (congrArg (HAdd.hAdd _) (by decide)) (by decide) rfl (fun ls hl => ?_)
  refine lv_goto (tgt := 4) hx hb dX3_countOf_36 (by decide) ?_
  exact hk4 _ _ _ _ _ _ h w (lv_sub hl [1, 2, 3, 0] rfl)
noncomputable def fsX3_countOf_4 (F : Nat)  (M : M2) (J : J2) (k4 : Int32 → Int32 → Int32 → Option Int32) : Int32 → Int32 → Int32 → Option Int32 := fun a1 a2 a3 => (if (5 : Int32) ≤ a3 then (some a2) else ((fX3_numbered M J a3).bind (fun vv3 => oc vv3 (fbX3_countOf_33 F k4 M J a1 a2 a3) (fun z4 => chk (isC z4) ((if ¬ (M z4 1) = a1 then (fbX3_countOf_33 F k4 M J a1 a2 a3) else (fbX3_countOf_33 F k4 M J a1 (a2 + (1 : Int32)) a3)))))))
noncomputable def fbX3_countOf_4 (F : Nat)  (M : M2) (J : J2) (n : Nat) : Int32 → Int32 → Int32 → Option Int32 := itr (fsX3_countOf_4 F M J) (fun _ _ _ => none) n
set_option maxRecDepth 20000 in
set_option maxHeartbeats 1000000 in
theorem SX3_countOf_4 {rr : Int32}   {k4 : Int32 → Int32 → Int32 → Option Int32} (C : Cx E A p s m args meth c wdX3_countOf cX3_countOf 5 (some .int) RX3) (hg : g < 6)  (hk4 : ∀ (a1 : Int32) (a2 : Int32) (a3 : Int32)   (ls : Array Slot) (H : Heap) (locs : List Loc), k4 a1 a2 a3 = some rr → Wd E A s (sg G g M) (sg K g J) H locs → lv_has ls 5 [(0, .ref (ad E g 0)), (1, .int a1), (2, .int a2), (3, .int a3)] → W p l e rmX3_countOf s m args below meth c H locs 0 0 (QI E A below args s rr (sg G g M) (sg K g J)) (F0 m 4 ls [])) (a1 : Int32) (a2 : Int32) (a3 : Int32)   (h : fsX3_countOf_4 F M J k4 a1 a2 a3 = some rr) (w : Wd E A s (sg G g M) (sg K g J) H locs) (hl : lv_has ls 5 [(0, .ref (ad E g 0)), (1, .int a1), (2, .int a2), (3, .int a3)]) : W p l e rmX3_countOf s m args below meth c H locs 0 0 (QI E A below args s rr (sg G g M) (sg K g J)) (F0 m 4 ls []) := by
  obtain ⟨hx, hb, hr, hml, hown, hts, hlocks, hKK, hA1, hA2⟩ := id C
  unfold fsX3_countOf_4 at h
  refine lv_iload_n hx hb dX3_countOf_4 rfl (lv_at hl 3 rfl) ?_
  refine lv_iconst (v := (5 : Int32)) hx hb dX3_countOf_5 (by decide) ?_
  refine lv_icmp_ge (tgt := 39) hx hb dX3_countOf_6 (by decide) (fun c1 => ?_) (fun c1 => ?_)
  · replace h := ite_t h c1
    refine lv_iload_n hx hb dX3_countOf_39 rfl (lv_at hl 2 rfl) ?_
    have e1 := Option.some.inj h
    exact x_ri C w e1 rfl rfl dX3_countOf_40
  · replace h := ite_f h c1
    refine lv_aload_n hx hb dX3_countOf_9 rfl (lv_at hl 0 rfl) ?_
    refine lv_iload_n hx hb dX3_countOf_10 rfl (lv_at hl 3 rfl) ?_
    obtain ⟨vv3, hv2, h⟩ := bind_of h
    refine x_cVq (As := [.int a3]) (rest := []) C w (vS hg (by decide)) (cel_S hg) rfl (mtX3_numbered hg hv2) q5_2 q5_3 q5_4 q1_12 q5_5 ydX3_numbered ⟨rfl, rfl⟩ ⟨by decide, by decide⟩ ⟨Nat.zero_le _, Nat.zero_le _⟩ hl.1 (Nat.le_of_ble_eq_true rfl) rfl dX3_countOf_11 (fun H locs w => ?_)
    cases vv3 with
    | none =>
      replace h := oc_n h
      refine lv_astoreN (lv' := [(4, .null), (0, .ref (ad E g 0)), (1, .int a1), (2, .int a2), (3, .int a3)]) hx hb dX3_countOf_14 hl (by decide) rfl (fun ls hl => ?_)
      refine lv_aloadN hx hb dX3_countOf_16 (lv_at hl 0 rfl) ?_
      refine lv_ifnullN (tgt := 33) hx hb dX3_countOf_18 (by decide) ?_
      exact TX3_countOf_33 C hg hk4 _ _ _ h w (lv_sub hl [1, 2, 3, 4] rfl)
    | some z4 =>
      replace h := oc_s h
      obtain ⟨hz4, h⟩ := chk_of h
      refine lv_astore (lv' := [(4, .ref (ad E g z4)), (0, .ref (ad E g 0)), (1, .int a1), (2, .int a2), (3, .int a3)]) hx hb dX3_countOf_14 hl (by decide) rfl (fun ls hl => ?_)
      refine lv_aload hx hb dX3_countOf_16 (lv_at hl 0 rfl) ?_
      refine lv_ifnull hx hb dX3_countOf_18 ?_
      refine lv_aload hx hb dX3_countOf_21 (lv_at hl 0 rfl) ?_
      refine gL_X0_mode hg hz4 C w q5_1 dX3_countOf_23 ?_
      refine lv_iload_n hx hb dX3_countOf_26 rfl (lv_at hl 2 rfl) ?_
      refine lv_icmp_ne (tgt := 33) hx hb dX3_countOf_27 (by decide) (fun c5 => ?_) (fun c5 => ?_)
      · replace h := ite_t h c5
        exact TX3_countOf_33 C hg hk4 _ _ _ h w (lv_sub hl [1, 2, 3, 4] rfl)
      · replace h := ite_f h (fun z => z c5)
        refine lv_iinc (v := (a2 + (1 : Int32))) (lv' := [(2, .int (a2 + (1 : Int32))), (4, .ref (ad E g z4)), (0, .ref (ad E g 0)), (1, .int a1), (3, .int a3)]) hx hb dX3_countOf_30 hl (k := 3) rfl (congrArg (HAdd.hAdd _) (by decide)) (by decide) rfl (fun ls hl => ?_)
        exact TX3_countOf_33 C hg hk4 _ _ _ h w (lv_sub hl [2, 3, 0, 4] rfl)
theorem TX3_countOf_4 {rr : Int32}   (C : Cx E A p s m args meth c wdX3_countOf cX3_countOf 5 (some .int) RX3) (hg : g < 6)  : ∀ (n : Nat) (a1 : Int32) (a2 : Int32) (a3 : Int32)   (ls : Array Slot) (H : Heap) (locs : List Loc), fbX3_countOf_4 F M J n a1 a2 a3 = some rr → Wd E A s (sg G g M) (sg K g J) H locs → lv_has ls 5 [(0, .ref (ad E g 0)), (1, .int a1), (2, .int a2), (3, .int a3)] → W p l e rmX3_countOf s m args below meth c H locs 0 0 (QI E A below args s rr (sg G g M) (sg K g J)) (F0 m 4 ls []) := by
  intro n
  induction n with
  | zero => intro a1 a2 a3  ls H locs h; exact absurd (show none = _ from h) (fun z => nomatch z)
  | succ n ih => intro a1 a2 a3  ls H locs h w hl; exact SX3_countOf_4 (F := F) C hg  ih a1 a2 a3  h w hl
noncomputable def fX3_countOf (F : Nat) (M : M2) (J : J2) (x1 : Int32)  : Option Int32 := fbX3_countOf_4 F M J F x1 (0 : Int32) (0 : Int32)
set_option maxRecDepth 20000 in
set_option maxHeartbeats 1000000 in
theorem TX3_countOf {rr : Int32}  (C : Cx E A p s m args meth c wdX3_countOf cX3_countOf 5 (some .int) RX3) (hg : g < 6) {x1 : Int32}  (h : fX3_countOf F M J x1 = some rr) (w : Wd E A s (sg G g M) (sg K g J) H locs) (hl : lv_has ls 5 [(0, .ref (ad E g 0)), (1, .int x1)]) : W p l e rmX3_countOf s m args below meth c H locs 0 0 (QI E A below args s rr (sg G g M) (sg K g J)) (F0 m 0 ls []) := by
  obtain ⟨hx, hb, hr, hml, hown, hts, hlocks, hKK, hA1, hA2⟩ := id C
  unfold fX3_countOf at h
  refine lv_iconst (v := (0 : Int32)) hx hb dX3_countOf_0 (by decide) ?_
  refine lv_istore_n (lv' := [(2, .int (0 : Int32)), (0, .ref (ad E g 0)), (1, .int x1)]) hx hb dX3_countOf_1 rfl hl (by decide) rfl (fun ls hl => ?_)
  refine lv_iconst (v := (0 : Int32)) hx hb dX3_countOf_2 (by decide) ?_
  refine lv_istore_n (lv' := [(3, .int (0 : Int32)), (2, .int (0 : Int32)), (0, .ref (ad E g 0)), (1, .int x1)]) hx hb dX3_countOf_3 rfl hl (by decide) rfl (fun ls hl => ?_)
  exact TX3_countOf_4 C hg  _ _ _ _ _ _ _ h w (lv_sub hl [2, 3, 1, 0] rfl)
theorem mtX3_countOf {rr : Int32}  (hg : g < 6) {x1 : Int32}  (h : fX3_countOf F M J x1 = some rr) : MtI l yX3_countOf wdX3_countOf rmX3_countOf E [.ref (ad E g 0), .int x1] (sg G g M) (sg K g J) rr (sg G g M) (sg K g J) := by
  intro sz
  refine Met.ofW (cc := cX3_countOf) (maxL := 5) (ret := (some .int)) (by decide) rfl ?_
  intro p e s m args below meth c s₁ B hml hv
  obtain ⟨rfl, C, w⟩ := Cx.of (own := RX3) B rfl hml hv
  have hl := lv_entry ([.ref (ad E g 0), .int x1]) (n := 5) (by first | exact Nat.le_of_ble_eq_true rfl)
  rw [lg_entry_eq]
  generalize (lg_sl ([.ref (ad E g 0), .int x1]) ++ List.replicate (5 - (lg_sl ([.ref (ad E g 0), .int x1])).length) Slot.unset).toArray = ls at hl ⊢
  exact TX3_countOf C hg  h w hl
theorem ydX3_countOf : yX3_countOf.cls = RX3 ∧ yX3_countOf.cls ≠ "java/lang/invoke/MethodHandle" ∧ yX3_countOf.cls ≠ "java/lang/invoke/VarHandle" ∧ (parseMethodDescriptor yX3_countOf.desc).map (fun d => d.parameters.length) = some 1 := by decide +kernel
/-! X3.capacityOf(I)I -/
abbrev rmX3_capacityOf : Room := { frames := 2, cells := 0, slots := 0, locals := 33 }
abbrev wdX3_capacityOf : Cond := Cond.code yX3_capacityOf cX3_capacityOf 5 (some .int)
noncomputable def fbX3_capacityOf_38 (F : Nat) (k4 : Int32 → Int32 → Int32 → Option Int32) (M : M2) (J : J2) (a1 : Int32) (a2 : Int32) (a3 : Int32)  : Option Int32 := k4 a1 a2 (a3 + (1 : Int32))
set_option maxRecDepth 20000 in
set_option maxHeartbeats 1000000 in
theorem TX3_capacityOf_38 {rr : Int32}  {k4 : Int32 → Int32 → Int32 → Option Int32} (C : Cx E A p s m args meth c wdX3_capacityOf cX3_capacityOf 5 (some .int) RX3) (hg : g < 6) (hk4 : ∀ (a1 : Int32) (a2 : Int32) (a3 : Int32)   (ls : Array Slot) (H : Heap) (locs : List Loc), k4 a1 a2 a3 = some rr → Wd E A s (sg G g M) (sg K g J) H locs → lv_has ls 5 [(0, .ref (ad E g 0)), (1, .int a1), (2, .int a2), (3, .int a3)] → W p l e rmX3_capacityOf s m args below meth c H locs 0 0 (QI E A below args s rr (sg G g M) (sg K g J)) (F0 m 4 ls [])) (a1 : Int32) (a2 : Int32) (a3 : Int32)   (h : fbX3_capacityOf_38 F k4 M J a1 a2 a3 = some rr) (w : Wd E A s (sg G g M) (sg K g J) H locs) (hl : lv_has ls 5 [(0, .ref (ad E g 0)), (1, .int a1), (2, .int a2), (3, .int a3)]) : W p l e rmX3_capacityOf s m args below meth c H locs 0 0 (QI E A below args s rr (sg G g M) (sg K g J)) (F0 m 38 ls []) := by
  obtain ⟨hx, hb, hr, hml, hown, hts, hlocks, hKK, hA1, hA2⟩ := id C
  unfold fbX3_capacityOf_38 at h
  refine lv_iinc (v := (a3 + (1 : Int32))) (lv' := [(3, .int (a3 + (1 : Int32))), (0, .ref (ad E g 0)), (1, .int a1), (2, .int a2)]) hx hb dX3_capacityOf_38 hl (k := 3) rfl (congrArg (HAdd.hAdd _) (by decide)) (by decide) rfl (fun ls hl => ?_)
  refine lv_goto (tgt := 4) hx hb dX3_capacityOf_41 (by decide) ?_
  exact hk4 _ _ _ _ _ _ h w (lv_sub hl [1, 2, 3, 0] rfl)
noncomputable def fsX3_capacityOf_4 (F : Nat)  (M : M2) (J : J2) (k4 : Int32 → Int32 → Int32 → Option Int32) : Int32 → Int32 → Int32 → Option Int32 := fun a1 a2 a3 => (if (5 : Int32) ≤ a3 then (some a2) else ((fX3_numbered M J a3).bind (fun vv3 => oc vv3 (fbX3_capacityOf_38 F k4 M J a1 a2 a3) (fun z4 => chk (isC z4) ((if ¬ (M z4 1) = a1 then (fbX3_capacityOf_38 F k4 M J a1 a2 a3) else (fbX3_capacityOf_38 F k4 M J a1 (a2 + (M z4 0)) a3)))))))
noncomputable def fbX3_capacityOf_4 (F : Nat)  (M : M2) (J : J2) (n : Nat) : Int32 → Int32 → Int32 → Option Int32 := itr (fsX3_capacityOf_4 F M J) (fun _ _ _ => none) n
set_option maxRecDepth 20000 in
set_option maxHeartbeats 1000000 in
theorem SX3_capacityOf_4 {rr : Int32}   {k4 : Int32 → Int32 → Int32 → Option Int32} (C : Cx E A p s m args meth c wdX3_capacityOf cX3_capacityOf 5 (some .int) RX3) (hg : g < 6)  (hk4 : ∀ (a1 : Int32) (a2 : Int32) (a3 : Int32)   (ls : Array Slot) (H : Heap) (locs : List Loc), k4 a1 a2 a3 = some rr → Wd E A s (sg G g M) (sg K g J) H locs → lv_has ls 5 [(0, .ref (ad E g 0)), (1, .int a1), (2, .int a2), (3, .int a3)] → W p l e rmX3_capacityOf s m args below meth c H locs 0 0 (QI E A below args s rr (sg G g M) (sg K g J)) (F0 m 4 ls [])) (a1 : Int32) (a2 : Int32) (a3 : Int32)   (h : fsX3_capacityOf_4 F M J k4 a1 a2 a3 = some rr) (w : Wd E A s (sg G g M) (sg K g J) H locs) (hl : lv_has ls 5 [(0, .ref (ad E g 0)), (1, .int a1), (2, .int a2), (3, .int a3)]) : W p l e rmX3_capacityOf s m args below meth c H locs 0 0 (QI E A below args s rr (sg G g M) (sg K g J)) (F0 m 4 ls []) := by
  obtain ⟨hx, hb, hr, hml, hown, hts, hlocks, hKK, hA1, hA2⟩ := id C
  unfold fsX3_capacityOf_4 at h
  refine lv_iload_n hx hb dX3_capacityOf_4 rfl (lv_at hl 3 rfl) ?_
  refine lv_iconst (v := (5 : Int32)) hx hb dX3_capacityOf_5 (by decide) ?_
  refine lv_icmp_ge (tgt := 44) hx hb dX3_capacityOf_6 (by decide) (fun c1 => ?_) (fun c1 => ?_)
  · replace h := ite_t h c1
    refine lv_iload_n hx hb dX3_capacityOf_44 rfl (lv_at hl 2 rfl) ?_
    have e1 := Option.some.inj h
    exact x_ri C w e1 rfl rfl dX3_capacityOf_45
  · replace h := ite_f h c1
    refine lv_aload_n hx hb dX3_capacityOf_9 rfl (lv_at hl 0 rfl) ?_
    refine lv_iload_n hx hb dX3_capacityOf_10 rfl (lv_at hl 3 rfl) ?_
    obtain ⟨vv3, hv2, h⟩ := bind_of h
    refine x_cVq (As := [.int a3]) (rest := []) C w (vS hg (by decide)) (cel_S hg) rfl (mtX3_numbered hg hv2) q5_2 q5_3 q5_4 q1_12 q5_5 ydX3_numbered ⟨rfl, rfl⟩ ⟨by decide, by decide⟩ ⟨Nat.zero_le _, Nat.zero_le _⟩ hl.1 (Nat.le_of_ble_eq_true rfl) rfl dX3_capacityOf_11 (fun H locs w => ?_)
    cases vv3 with
    | none =>
      replace h := oc_n h
      refine lv_astoreN (lv' := [(4, .null), (0, .ref (ad E g 0)), (1, .int a1), (2, .int a2), (3, .int a3)]) hx hb dX3_capacityOf_14 hl (by decide) rfl (fun ls hl => ?_)
      refine lv_aloadN hx hb dX3_capacityOf_16 (lv_at hl 0 rfl) ?_
      refine lv_ifnullN (tgt := 38) hx hb dX3_capacityOf_18 (by decide) ?_
      exact TX3_capacityOf_38 C hg hk4 _ _ _ h w (lv_sub hl [1, 2, 3, 4] rfl)
    | some z4 =>
      replace h := oc_s h
      obtain ⟨hz4, h⟩ := chk_of h
      refine lv_astore (lv' := [(4, .ref (ad E g z4)), (0, .ref (ad E g 0)), (1, .int a1), (2, .int a2), (3, .int a3)]) hx hb dX3_capacityOf_14 hl (by decide) rfl (fun ls hl => ?_)
      refine lv_aload hx hb dX3_capacityOf_16 (lv_at hl 0 rfl) ?_
      refine lv_ifnull hx hb dX3_capacityOf_18 ?_
      refine lv_aload hx hb dX3_capacityOf_21 (lv_at hl 0 rfl) ?_
      refine gL_X0_mode hg hz4 C w q5_1 dX3_capacityOf_23 ?_
      refine lv_iload_n hx hb dX3_capacityOf_26 rfl (lv_at hl 2 rfl) ?_
      refine lv_icmp_ne (tgt := 38) hx hb dX3_capacityOf_27 (by decide) (fun c5 => ?_) (fun c5 => ?_)
      · replace h := ite_t h c5
        exact TX3_capacityOf_38 C hg hk4 _ _ _ h w (lv_sub hl [1, 2, 3, 4] rfl)
      · replace h := ite_f h (fun z => z c5)
        refine lv_iload_n hx hb dX3_capacityOf_30 rfl (lv_at hl 3 rfl) ?_
        refine lv_aload hx hb dX3_capacityOf_31 (lv_at hl 0 rfl) ?_
        refine gL_X0_capacity hg hz4 C w q5_10 dX3_capacityOf_33 ?_
        refine lv_iadd hx hb dX3_capacityOf_36 ?_
        refine lv_istore_n (lv' := [(2, .int (a2 + (M z4 0))), (4, .ref (ad E g z4)), (0, .ref (ad E g 0)), (1, .int a1), (3, .int a3)]) hx hb dX3_capacityOf_37 rfl hl (by decide) rfl (fun ls hl => ?_)
        exact TX3_capacityOf_38 C hg hk4 _ _ _ h w (lv_sub hl [2, 3, 0, 4] rfl)
theorem TX3_capacityOf_4 {rr : Int32}   (C : Cx E A p s m args meth c wdX3_capacityOf cX3_capacityOf 5 (some .int) RX3) (hg : g < 6)  : ∀ (n : Nat) (a1 : Int32) (a2 : Int32) (a3 : Int32)   (ls : Array Slot) (H : Heap) (locs : List Loc), fbX3_capacityOf_4 F M J n a1 a2 a3 = some rr → Wd E A s (sg G g M) (sg K g J) H locs → lv_has ls 5 [(0, .ref (ad E g 0)), (1, .int a1), (2, .int a2), (3, .int a3)] → W p l e rmX3_capacityOf s m args below meth c H locs 0 0 (QI E A below args s rr (sg G g M) (sg K g J)) (F0 m 4 ls []) := by
  intro n
  induction n with
  | zero => intro a1 a2 a3  ls H locs h; exact absurd (show none = _ from h) (fun z => nomatch z)
  | succ n ih => intro a1 a2 a3  ls H locs h w hl; exact SX3_capacityOf_4 (F := F) C hg  ih a1 a2 a3  h w hl
noncomputable def fX3_capacityOf (F : Nat) (M : M2) (J : J2) (x1 : Int32)  : Option Int32 := fbX3_capacityOf_4 F M J F x1 (0 : Int32) (0 : Int32)
set_option maxRecDepth 20000 in
set_option maxHeartbeats 1000000 in
theorem TX3_capacityOf {rr : Int32}  (C : Cx E A p s m args meth c wdX3_capacityOf cX3_capacityOf 5 (some .int) RX3) (hg : g < 6) {x1 : Int32}  (h : fX3_capacityOf F M J x1 = some rr) (w : Wd E A s (sg G g M) (sg K g J) H locs) (hl : lv_has ls 5 [(0, .ref (ad E g 0)), (1, .int x1)]) : W p l e rmX3_capacityOf s m args below meth c H locs 0 0 (QI E A below args s rr (sg G g M) (sg K g J)) (F0 m 0 ls []) := by
  obtain ⟨hx, hb, hr, hml, hown, hts, hlocks, hKK, hA1, hA2⟩ := id C
  unfold fX3_capacityOf at h
  refine lv_iconst (v := (0 : Int32)) hx hb dX3_capacityOf_0 (by decide) ?_
  refine lv_istore_n (lv' := [(2, .int (0 : Int32)), (0, .ref (ad E g 0)), (1, .int x1)]) hx hb dX3_capacityOf_1 rfl hl (by decide) rfl (fun ls hl => ?_)
  refine lv_iconst (v := (0 : Int32)) hx hb dX3_capacityOf_2 (by decide) ?_
  refine lv_istore_n (lv' := [(3, .int (0 : Int32)), (2, .int (0 : Int32)), (0, .ref (ad E g 0)), (1, .int x1)]) hx hb dX3_capacityOf_3 rfl hl (by decide) rfl (fun ls hl => ?_)
  exact TX3_capacityOf_4 C hg  _ _ _ _ _ _ _ h w (lv_sub hl [2, 3, 1, 0] rfl)
theorem mtX3_capacityOf {rr : Int32}  (hg : g < 6) {x1 : Int32}  (h : fX3_capacityOf F M J x1 = some rr) : MtI l yX3_capacityOf wdX3_capacityOf rmX3_capacityOf E [.ref (ad E g 0), .int x1] (sg G g M) (sg K g J) rr (sg G g M) (sg K g J) := by
  intro sz
  refine Met.ofW (cc := cX3_capacityOf) (maxL := 5) (ret := (some .int)) (by decide) rfl ?_
  intro p e s m args below meth c s₁ B hml hv
  obtain ⟨rfl, C, w⟩ := Cx.of (own := RX3) B rfl hml hv
  have hl := lv_entry ([.ref (ad E g 0), .int x1]) (n := 5) (by first | exact Nat.le_of_ble_eq_true rfl)
  rw [lg_entry_eq]
  generalize (lg_sl ([.ref (ad E g 0), .int x1]) ++ List.replicate (5 - (lg_sl ([.ref (ad E g 0), .int x1])).length) Slot.unset).toArray = ls at hl ⊢
  exact TX3_capacityOf C hg  h w hl
theorem ydX3_capacityOf : yX3_capacityOf.cls = RX3 ∧ yX3_capacityOf.cls ≠ "java/lang/invoke/MethodHandle" ∧ yX3_capacityOf.cls ≠ "java/lang/invoke/VarHandle" ∧ (parseMethodDescriptor yX3_capacityOf.desc).map (fun d => d.parameters.length) = some 1 := by decide +kernel
/-! X3.numberAtStage(I)I -/
abbrev rmX3_numberAtStage : Room := { frames := 2, cells := 0, slots := 0, locals := 33 }
abbrev wdX3_numberAtStage : Cond := Cond.code yX3_numberAtStage cX3_numberAtStage 4 (some .int)
noncomputable def fbX3_numberAtStage_27 (F : Nat) (k2 : Int32 → Int32 → Option Int32) (M : M2) (J : J2) (a1 : Int32) (a2 : Int32)  : Option Int32 := k2 a1 (a2 + (1 : Int32))
set_option maxRecDepth 20000 in
set_option maxHeartbeats 1000000 in
theorem TX3_numberAtStage_27 {rr : Int32}  {k2 : Int32 → Int32 → Option Int32} (C : Cx E A p s m args meth c wdX3_numberAtStage cX3_numberAtStage 4 (some .int) RX3) (hg : g < 6) (hk2 : ∀ (a1 : Int32) (a2 : Int32)   (ls : Array Slot) (H : Heap) (locs : List Loc), k2 a1 a2 = some rr → Wd E A s (sg G g M) (sg K g J) H locs → lv_has ls 4 [(0, .ref (ad E g 0)), (1, .int a1), (2, .int a2)] → W p l e rmX3_numberAtStage s m args below meth c H locs 0 0 (QI E A below args s rr (sg G g M) (sg K g J)) (F0 m 2 ls [])) (a1 : Int32) (a2 : Int32)   (h : fbX3_numberAtStage_27 F k2 M J a1 a2 = some rr) (w : Wd E A s (sg G g M) (sg K g J) H locs) (hl : lv_has ls 4 [(0, .ref (ad E g 0)), (1, .int a1), (2, .int a2)]) : W p l e rmX3_numberAtStage s m args below meth c H locs 0 0 (QI E A below args s rr (sg G g M) (sg K g J)) (F0 m 27 ls []) := by
  obtain ⟨hx, hb, hr, hml, hown, hts, hlocks, hKK, hA1, hA2⟩ := id C
  unfold fbX3_numberAtStage_27 at h
  refine lv_iinc (v := (a2 + (1 : Int32))) (lv' := [(2, .int (a2 + (1 : Int32))), (0, .ref (ad E g 0)), (1, .int a1)]) hx hb dX3_numberAtStage_27 hl (k := 2) rfl (congrArg (HAdd.hAdd _) (by decide)) (by decide) rfl (fun ls hl => ?_)
  refine lv_goto (tgt := 2) hx hb dX3_numberAtStage_30 (by decide) ?_
  exact hk2 _ _ _ _ _ h w (lv_sub hl [1, 2, 0] rfl)
noncomputable def fsX3_numberAtStage_2 (F : Nat)  (M : M2) (J : J2) (k2 : Int32 → Int32 → Option Int32) : Int32 → Int32 → Option Int32 := fun a1 a2 => (if (5 : Int32) ≤ a2 then (some (-1 : Int32)) else ((fX3_numbered M J a2).bind (fun vv3 => oc vv3 (fbX3_numberAtStage_27 F k2 M J a1 a2) (fun z4 => chk (isC z4) ((if ¬ (M z4 2) = a1 then (fbX3_numberAtStage_27 F k2 M J a1 a2) else (some a2)))))))
noncomputable def fbX3_numberAtStage_2 (F : Nat)  (M : M2) (J : J2) (n : Nat) : Int32 → Int32 → Option Int32 := itr (fsX3_numberAtStage_2 F M J) (fun _ _ => none) n
set_option maxRecDepth 20000 in
set_option maxHeartbeats 1000000 in
theorem SX3_numberAtStage_2 {rr : Int32}   {k2 : Int32 → Int32 → Option Int32} (C : Cx E A p s m args meth c wdX3_numberAtStage cX3_numberAtStage 4 (some .int) RX3) (hg : g < 6)  (hk2 : ∀ (a1 : Int32) (a2 : Int32)   (ls : Array Slot) (H : Heap) (locs : List Loc), k2 a1 a2 = some rr → Wd E A s (sg G g M) (sg K g J) H locs → lv_has ls 4 [(0, .ref (ad E g 0)), (1, .int a1), (2, .int a2)] → W p l e rmX3_numberAtStage s m args below meth c H locs 0 0 (QI E A below args s rr (sg G g M) (sg K g J)) (F0 m 2 ls [])) (a1 : Int32) (a2 : Int32)   (h : fsX3_numberAtStage_2 F M J k2 a1 a2 = some rr) (w : Wd E A s (sg G g M) (sg K g J) H locs) (hl : lv_has ls 4 [(0, .ref (ad E g 0)), (1, .int a1), (2, .int a2)]) : W p l e rmX3_numberAtStage s m args below meth c H locs 0 0 (QI E A below args s rr (sg G g M) (sg K g J)) (F0 m 2 ls []) := by
  obtain ⟨hx, hb, hr, hml, hown, hts, hlocks, hKK, hA1, hA2⟩ := id C
  unfold fsX3_numberAtStage_2 at h
  refine lv_iload_n hx hb dX3_numberAtStage_2 rfl (lv_at hl 2 rfl) ?_
  refine lv_iconst (v := (5 : Int32)) hx hb dX3_numberAtStage_3 (by decide) ?_
  refine lv_icmp_ge (tgt := 33) hx hb dX3_numberAtStage_4 (by decide) (fun c1 => ?_) (fun c1 => ?_)
  · replace h := ite_t h c1
    refine lv_iconst (v := (-1 : Int32)) hx hb dX3_numberAtStage_33 (by decide) ?_
    have e1 := Option.some.inj h
    exact x_ri C w e1 rfl rfl dX3_numberAtStage_34
  · replace h := ite_f h c1
    refine lv_aload_n hx hb dX3_numberAtStage_7 rfl (lv_at hl 0 rfl) ?_
    refine lv_iload_n hx hb dX3_numberAtStage_8 rfl (lv_at hl 2 rfl) ?_
    obtain ⟨vv3, hv2, h⟩ := bind_of h
    refine x_cVq (As := [.int a2]) (rest := []) C w (vS hg (by decide)) (cel_S hg) rfl (mtX3_numbered hg hv2) q5_2 q5_3 q5_4 q1_12 q5_5 ydX3_numbered ⟨rfl, rfl⟩ ⟨by decide, by decide⟩ ⟨Nat.zero_le _, Nat.zero_le _⟩ hl.1 (Nat.le_of_ble_eq_true rfl) rfl dX3_numberAtStage_9 (fun H locs w => ?_)
    cases vv3 with
    | none =>
      replace h := oc_n h
      refine lv_astore_nN (lv' := [(3, .null), (0, .ref (ad E g 0)), (1, .int a1), (2, .int a2)]) hx hb dX3_numberAtStage_12 rfl hl (by decide) rfl (fun ls hl => ?_)
      refine lv_aload_nN hx hb dX3_numberAtStage_13 rfl (lv_at hl 0 rfl) ?_
      refine lv_ifnullN (tgt := 27) hx hb dX3_numberAtStage_14 (by decide) ?_
      exact TX3_numberAtStage_27 C hg hk2 _ _ h w (lv_sub hl [1, 2, 3] rfl)
    | some z4 =>
      replace h := oc_s h
      obtain ⟨hz4, h⟩ := chk_of h
      refine lv_astore_n (lv' := [(3, .ref (ad E g z4)), (0, .ref (ad E g 0)), (1, .int a1), (2, .int a2)]) hx hb dX3_numberAtStage_12 rfl hl (by decide) rfl (fun ls hl => ?_)
      refine lv_aload_n hx hb dX3_numberAtStage_13 rfl (lv_at hl 0 rfl) ?_
      refine lv_ifnull hx hb dX3_numberAtStage_14 ?_
      refine lv_aload_n hx hb dX3_numberAtStage_17 rfl (lv_at hl 0 rfl) ?_
      refine gL_X0_stage hg hz4 C w q6_12 dX3_numberAtStage_18 ?_
      refine lv_iload_n hx hb dX3_numberAtStage_21 rfl (lv_at hl 2 rfl) ?_
      refine lv_icmp_ne (tgt := 27) hx hb dX3_numberAtStage_22 (by decide) (fun c5 => ?_) (fun c5 => ?_)
      · replace h := ite_t h c5
        exact TX3_numberAtStage_27 C hg hk2 _ _ h w (lv_sub hl [1, 2, 3] rfl)
      · replace h := ite_f h (fun z => z c5)
        refine lv_iload_n hx hb dX3_numberAtStage_25 rfl (lv_at hl 3 rfl) ?_
        have e1 := Option.some.inj h
        exact x_ri C w e1 rfl rfl dX3_numberAtStage_26
theorem TX3_numberAtStage_2 {rr : Int32}   (C : Cx E A p s m args meth c wdX3_numberAtStage cX3_numberAtStage 4 (some .int) RX3) (hg : g < 6)  : ∀ (n : Nat) (a1 : Int32) (a2 : Int32)   (ls : Array Slot) (H : Heap) (locs : List Loc), fbX3_numberAtStage_2 F M J n a1 a2 = some rr → Wd E A s (sg G g M) (sg K g J) H locs → lv_has ls 4 [(0, .ref (ad E g 0)), (1, .int a1), (2, .int a2)] → W p l e rmX3_numberAtStage s m args below meth c H locs 0 0 (QI E A below args s rr (sg G g M) (sg K g J)) (F0 m 2 ls []) := by
  intro n
  induction n with
  | zero => intro a1 a2  ls H locs h; exact absurd (show none = _ from h) (fun z => nomatch z)
  | succ n ih => intro a1 a2  ls H locs h w hl; exact SX3_numberAtStage_2 (F := F) C hg  ih a1 a2  h w hl
noncomputable def fX3_numberAtStage (F : Nat) (M : M2) (J : J2) (x1 : Int32)  : Option Int32 := fbX3_numberAtStage_2 F M J F x1 (0 : Int32)
set_option maxRecDepth 20000 in
set_option maxHeartbeats 1000000 in
theorem TX3_numberAtStage {rr : Int32}  (C : Cx E A p s m args meth c wdX3_numberAtStage cX3_numberAtStage 4 (some .int) RX3) (hg : g < 6) {x1 : Int32}  (h : fX3_numberAtStage F M J x1 = some rr) (w : Wd E A s (sg G g M) (sg K g J) H locs) (hl : lv_has ls 4 [(0, .ref (ad E g 0)), (1, .int x1)]) : W p l e rmX3_numberAtStage s m args below meth c H locs 0 0 (QI E A below args s rr (sg G g M) (sg K g J)) (F0 m 0 ls []) := by
  obtain ⟨hx, hb, hr, hml, hown, hts, hlocks, hKK, hA1, hA2⟩ := id C
  unfold fX3_numberAtStage at h
  refine lv_iconst (v := (0 : Int32)) hx hb dX3_numberAtStage_0 (by decide) ?_
  refine lv_istore_n (lv' := [(2, .int (0 : Int32)), (0, .ref (ad E g 0)), (1, .int x1)]) hx hb dX3_numberAtStage_1 rfl hl (by decide) rfl (fun ls hl => ?_)
  exact TX3_numberAtStage_2 C hg  _ _ _ _ _ _ h w (lv_sub hl [1, 2, 0] rfl)
theorem mtX3_numberAtStage {rr : Int32}  (hg : g < 6) {x1 : Int32}  (h : fX3_numberAtStage F M J x1 = some rr) : MtI l yX3_numberAtStage wdX3_numberAtStage rmX3_numberAtStage E [.ref (ad E g 0), .int x1] (sg G g M) (sg K g J) rr (sg G g M) (sg K g J) := by
  intro sz
  refine Met.ofW (cc := cX3_numberAtStage) (maxL := 4) (ret := (some .int)) (by decide) rfl ?_
  intro p e s m args below meth c s₁ B hml hv
  obtain ⟨rfl, C, w⟩ := Cx.of (own := RX3) B rfl hml hv
  have hl := lv_entry ([.ref (ad E g 0), .int x1]) (n := 4) (by first | exact Nat.le_of_ble_eq_true rfl)
  rw [lg_entry_eq]
  generalize (lg_sl ([.ref (ad E g 0), .int x1]) ++ List.replicate (4 - (lg_sl ([.ref (ad E g 0), .int x1])).length) Slot.unset).toArray = ls at hl ⊢
  exact TX3_numberAtStage C hg  h w hl
theorem ydX3_numberAtStage : yX3_numberAtStage.cls = RX3 ∧ yX3_numberAtStage.cls ≠ "java/lang/invoke/MethodHandle" ∧ yX3_numberAtStage.cls ≠ "java/lang/invoke/VarHandle" ∧ (parseMethodDescriptor yX3_numberAtStage.desc).map (fun d => d.parameters.length) = some 1 := by decide +kernel
/-! X3.stageByMinutes(II)I -/
abbrev rmX3_stageByMinutes : Room := { frames := 2, cells := 0, slots := 0, locals := 33 }
abbrev wdX3_stageByMinutes : Cond := Cond.code yX3_stageByMinutes cX3_stageByMinutes 6 (some .int)
noncomputable def fbX3_stageByMinutes_51 (F : Nat) (k5 : Int32 → Int32 → Int32 → Int32 → Option Int32) (M : M2) (J : J2) (a1 : Int32) (a2 : Int32) (a3 : Int32) (a4 : Int32)  : Option Int32 := k5 a1 a2 a3 (a4 + (1 : Int32))
set_option maxRecDepth 20000 in
set_option maxHeartbeats 1000000 in
theorem TX3_stageByMinutes_51 {rr : Int32}  {k5 : Int32 → Int32 → Int32 → Int32 → Option Int32} (C : Cx E A p s m args meth c wdX3_stageByMinutes cX3_stageByMinutes 6 (some .int) RX3) (hg : g < 6) (hk5 : ∀ (a1 : Int32) (a2 : Int32) (a3 : Int32) (a4 : Int32)   (ls : Array Slot) (H : Heap) (locs : List Loc), k5 a1 a2 a3 a4 = some rr → Wd E A s (sg G g M) (sg K g J) H locs → lv_has ls 6 [(0, .ref (ad E g 0)), (1, .int a1), (2, .int a2), (3, .int a3), (4, .int a4)] → W p l e rmX3_stageByMinutes s m args below meth c H locs 0 0 (QI E A below args s rr (sg G g M) (sg K g J)) (F0 m 5 ls [])) (a1 : Int32) (a2 : Int32) (a3 : Int32) (a4 : Int32)   (h : fbX3_stageByMinutes_51 F k5 M J a1 a2 a3 a4 = some rr) (w : Wd E A s (sg G g M) (sg K g J) H locs) (hl : lv_has ls 6 [(0, .ref (ad E g 0)), (1, .int a1), (2, .int a2), (3, .int a3), (4, .int a4)]) : W p l e rmX3_stageByMinutes s m args below meth c H locs 0 0 (QI E A below args s rr (sg G g M) (sg K g J)) (F0 m 51 ls []) := by
  obtain ⟨hx, hb, hr, hml, hown, hts, hlocks, hKK, hA1, hA2⟩ := id C
  unfold fbX3_stageByMinutes_51 at h
  refine lv_iinc (v := (a4 + (1 : Int32))) (lv' := [(4, .int (a4 + (1 : Int32))), (0, .ref (ad E g 0)), (1, .int a1), (2, .int a2), (3, .int a3)]) hx hb dX3_stageByMinutes_51 hl (k := 4) rfl (congrArg (HAdd.hAdd _) (by decide)) (by decide) rfl (fun ls hl => ?_)
  refine lv_goto (tgt := 5) hx hb dX3_stageByMinutes_54 (by decide) ?_
  exact hk5 _ _ _ _ _ _ _ h w (lv_sub hl [1, 2, 3, 4, 0] rfl)
noncomputable def fbX3_stageByMinutes_48 (F : Nat) (k5 : Int32 → Int32 → Int32 → Int32 → Option Int32) (M : M2) (J : J2) (a1 : Int32) (a2 : Int32) (a3 : Int32) (a4 : Int32)  : Option Int32 := fbX3_stageByMinutes_51 F k5 M J a1 a2 (a3 + (1 : Int32)) a4
set_option maxRecDepth 20000 in
set_option maxHeartbeats 1000000 in
theorem TX3_stageByMinutes_48 {rr : Int32}  {k5 : Int32 → Int32 → Int32 → Int32 → Option Int32} (C : Cx E A p s m args meth c wdX3_stageByMinutes cX3_stageByMinutes 6 (some .int) RX3) (hg : g < 6) (hk5 : ∀ (a1 : Int32) (a2 : Int32) (a3 : Int32) (a4 : Int32)   (ls : Array Slot) (H : Heap) (locs : List Loc), k5 a1 a2 a3 a4 = some rr → Wd E A s (sg G g M) (sg K g J) H locs → lv_has ls 6 [(0, .ref (ad E g 0)), (1, .int a1), (2, .int a2), (3, .int a3), (4, .int a4)] → W p l e rmX3_stageByMinutes s m args below meth c H locs 0 0 (QI E A below args s rr (sg G g M) (sg K g J)) (F0 m 5 ls [])) (a1 : Int32) (a2 : Int32) (a3 : Int32) (a4 : Int32)   (h : fbX3_stageByMinutes_48 F k5 M J a1 a2 a3 a4 = some rr) (w : Wd E A s (sg G g M) (sg K g J) H locs) (hl : lv_has ls 6 [(0, .ref (ad E g 0)), (1, .int a1), (2, .int a2), (3, .int a3), (4, .int a4)]) : W p l e rmX3_stageByMinutes s m args below meth c H locs 0 0 (QI E A below args s rr (sg G g M) (sg K g J)) (F0 m 48 ls []) := by
  obtain ⟨hx, hb, hr, hml, hown, hts, hlocks, hKK, hA1, hA2⟩ := id C
  unfold fbX3_stageByMinutes_48 at h
  refine lv_iinc (v := (a3 + (1 : Int32))) (lv' := [(3, .int (a3 + (1 : Int32))), (0, .ref (ad E g 0)), (1, .int a1), (2, .int a2), (4, .int a4)]) hx hb dX3_stageByMinutes_48 hl (k := 3) rfl (congrArg (HAdd.hAdd _) (by decide)) (by decide) rfl (fun ls hl => ?_)
  exact TX3_stageByMinutes_51 C hg hk5 _ _ _ _ h w (lv_sub hl [1, 2, 3, 0, 4] rfl)
noncomputable def fsX3_stageByMinutes_5 (F : Nat)  (M : M2) (J : J2) (k5 : Int32 → Int32 → Int32 → Int32 → Option Int32) : Int32 → Int32 → Int32 → Int32 → Option Int32 := fun a1 a2 a3 a4 => (if (5 : Int32) ≤ a4 then (some a3) else ((fX3_numbered M J a4).bind (fun vv3 => oc vv3 (fbX3_stageByMinutes_51 F k5 M J a1 a2 a3 a4) (fun z4 => chk (isC z4) ((if (M z4 3) < a2 then (fbX3_stageByMinutes_48 F k5 M J a1 a2 a3 a4) else ((if ¬ (M z4 3) = a2 then (fbX3_stageByMinutes_51 F k5 M J a1 a2 a3 a4) else ((if a1 ≤ a4 then (fbX3_stageByMinutes_51 F k5 M J a1 a2 a3 a4) else (fbX3_stageByMinutes_48 F k5 M J a1 a2 a3 a4)))))))))))
noncomputable def fbX3_stageByMinutes_5 (F : Nat)  (M : M2) (J : J2) (n : Nat) : Int32 → Int32 → Int32 → Int32 → Option Int32 := itr (fsX3_stageByMinutes_5 F M J) (fun _ _ _ _ => none) n
set_option maxRecDepth 20000 in
set_option maxHeartbeats 1000000 in
theorem SX3_stageByMinutes_5 {rr : Int32}   {k5 : Int32 → Int32 → Int32 → Int32 → Option Int32} (C : Cx E A p s m args meth c wdX3_stageByMinutes cX3_stageByMinutes 6 (some .int) RX3) (hg : g < 6)  (hk5 : ∀ (a1 : Int32) (a2 : Int32) (a3 : Int32) (a4 : Int32)   (ls : Array Slot) (H : Heap) (locs : List Loc), k5 a1 a2 a3 a4 = some rr → Wd E A s (sg G g M) (sg K g J) H locs → lv_has ls 6 [(0, .ref (ad E g 0)), (1, .int a1), (2, .int a2), (3, .int a3), (4, .int a4)] → W p l e rmX3_stageByMinutes s m args below meth c H locs 0 0 (QI E A below args s rr (sg G g M) (sg K g J)) (F0 m 5 ls [])) (a1 : Int32) (a2 : Int32) (a3 : Int32) (a4 : Int32)   (h : fsX3_stageByMinutes_5 F M J k5 a1 a2 a3 a4 = some rr) (w : Wd E A s (sg G g M) (sg K g J) H locs) (hl : lv_has ls 6 [(0, .ref (ad E g 0)), (1, .int a1), (2, .int a2), (3, .int a3), (4, .int a4)]) : W p l e rmX3_stageByMinutes s m args below meth c H locs 0 0 (QI E A below args s rr (sg G g M) (sg K g J)) (F0 m 5 ls []) := by
  obtain ⟨hx, hb, hr, hml, hown, hts, hlocks, hKK, hA1, hA2⟩ := id C
  unfold fsX3_stageByMinutes_5 at h
  refine lv_iload hx hb dX3_stageByMinutes_5 (lv_at hl 4 rfl) ?_
  refine lv_iconst (v := (5 : Int32)) hx hb dX3_stageByMinutes_7 (by decide) ?_
  refine lv_icmp_ge (tgt := 57) hx hb dX3_stageByMinutes_8 (by decide) (fun c1 => ?_) (fun c1 => ?_)
  · replace h := ite_t h c1
    refine lv_iload_n hx hb dX3_stageByMinutes_57 rfl (lv_at hl 3 rfl) ?_
    have e1 := Option.some.inj h
    exact x_ri C w e1 rfl rfl dX3_stageByMinutes_58
  · replace h := ite_f h c1
    refine lv_aload_n hx hb dX3_stageByMinutes_11 rfl (lv_at hl 0 rfl) ?_
    refine lv_iload hx hb dX3_stageByMinutes_12 (lv_at hl 4 rfl) ?_
    obtain ⟨vv3, hv2, h⟩ := bind_of h
    refine x_cVq (As := [.int a4]) (rest := []) C w (vS hg (by decide)) (cel_S hg) rfl (mtX3_numbered hg hv2) q5_2 q5_3 q5_4 q1_12 q5_5 ydX3_numbered ⟨rfl, rfl⟩ ⟨by decide, by decide⟩ ⟨Nat.zero_le _, Nat.zero_le _⟩ hl.1 (Nat.le_of_ble_eq_true rfl) rfl dX3_stageByMinutes_14 (fun H locs w => ?_)
    cases vv3 with
    | none =>
      replace h := oc_n h
      refine lv_astoreN (lv' := [(5, .null), (0, .ref (ad E g 0)), (1, .int a1), (2, .int a2), (3, .int a3), (4, .int a4)]) hx hb dX3_stageByMinutes_17 hl (by decide) rfl (fun ls hl => ?_)
      refine lv_aloadN hx hb dX3_stageByMinutes_19 (lv_at hl 0 rfl) ?_
      refine lv_ifnullN (tgt := 51) hx hb dX3_stageByMinutes_21 (by decide) ?_
      exact TX3_stageByMinutes_51 C hg hk5 _ _ _ _ h w (lv_sub hl [1, 2, 3, 4, 5] rfl)
    | some z4 =>
      replace h := oc_s h
      obtain ⟨hz4, h⟩ := chk_of h
      refine lv_astore (lv' := [(5, .ref (ad E g z4)), (0, .ref (ad E g 0)), (1, .int a1), (2, .int a2), (3, .int a3), (4, .int a4)]) hx hb dX3_stageByMinutes_17 hl (by decide) rfl (fun ls hl => ?_)
      refine lv_aload hx hb dX3_stageByMinutes_19 (lv_at hl 0 rfl) ?_
      refine lv_ifnull hx hb dX3_stageByMinutes_21 ?_
      refine lv_aload hx hb dX3_stageByMinutes_24 (lv_at hl 0 rfl) ?_
      refine gL_X0_loadedMinutes hg hz4 C w q6_13 dX3_stageByMinutes_26 ?_
      refine lv_iload_n hx hb dX3_stageByMinutes_29 rfl (lv_at hl 3 rfl) ?_
      refine lv_icmp_lt (tgt := 48) hx hb dX3_stageByMinutes_30 (by decide) (fun c5 => ?_) (fun c5 => ?_)
      · replace h := ite_t h c5
        exact TX3_stageByMinutes_48 C hg hk5 _ _ _ _ h w (lv_sub hl [1, 2, 3, 4, 5] rfl)
      · replace h := ite_f h c5
        refine lv_aload hx hb dX3_stageByMinutes_33 (lv_at hl 0 rfl) ?_
        refine gL_X0_loadedMinutes hg hz4 C w q6_13 dX3_stageByMinutes_35 ?_
        refine lv_iload_n hx hb dX3_stageByMinutes_38 rfl (lv_at hl 3 rfl) ?_
        refine lv_icmp_ne (tgt := 51) hx hb dX3_stageByMinutes_39 (by decide) (fun c6 => ?_) (fun c6 => ?_)
        · replace h := ite_t h c6
          exact TX3_stageByMinutes_51 C hg hk5 _ _ _ _ h w (lv_sub hl [1, 2, 3, 4, 5] rfl)
        · replace h := ite_f h (fun z => z c6)
          refine lv_iload hx hb dX3_stageByMinutes_42 (lv_at hl 5 rfl) ?_
          refine lv_iload_n hx hb dX3_stageByMinutes_44 rfl (lv_at hl 2 rfl) ?_
          refine lv_icmp_ge (tgt := 51) hx hb dX3_stageByMinutes_45 (by decide) (fun c7 => ?_) (fun c7 => ?_)
          · replace h := ite_t h c7
            exact TX3_stageByMinutes_51 C hg hk5 _ _ _ _ h w (lv_sub hl [1, 2, 3, 4, 5] rfl)
          · replace h := ite_f h c7
            exact TX3_stageByMinutes_48 C hg hk5 _ _ _ _ h w (lv_sub hl [1, 2, 3, 4, 5] rfl)
theorem TX3_stageByMinutes_5 {rr : Int32}   (C : Cx E A p s m args meth c wdX3_stageByMinutes cX3_stageByMinutes 6 (some .int) RX3) (hg : g < 6)  : ∀ (n : Nat) (a1 : Int32) (a2 : Int32) (a3 : Int32) (a4 : Int32)   (ls : Array Slot) (H : Heap) (locs : List Loc), fbX3_stageByMinutes_5 F M J n a1 a2 a3 a4 = some rr → Wd E A s (sg G g M) (sg K g J) H locs → lv_has ls 6 [(0, .ref (ad E g 0)), (1, .int a1), (2, .int a2), (3, .int a3), (4, .int a4)] → W p l e rmX3_stageByMinutes s m args below meth c H locs 0 0 (QI E A below args s rr (sg G g M) (sg K g J)) (F0 m 5 ls []) := by
  intro n
  induction n with
  | zero => intro a1 a2 a3 a4  ls H locs h; exact absurd (show none = _ from h) (fun z => nomatch z)
  | succ n ih => intro a1 a2 a3 a4  ls H locs h w hl; exact SX3_stageByMinutes_5 (F := F) C hg  ih a1 a2 a3 a4  h w hl
noncomputable def fX3_stageByMinutes (F : Nat) (M : M2) (J : J2) (x1 : Int32) (x2 : Int32)  : Option Int32 := fbX3_stageByMinutes_5 F M J F x1 x2 (0 : Int32) (0 : Int32)
set_option maxRecDepth 20000 in
set_option maxHeartbeats 1000000 in
theorem TX3_stageByMinutes {rr : Int32}  (C : Cx E A p s m args meth c wdX3_stageByMinutes cX3_stageByMinutes 6 (some .int) RX3) (hg : g < 6) {x1 : Int32} {x2 : Int32}  (h : fX3_stageByMinutes F M J x1 x2 = some rr) (w : Wd E A s (sg G g M) (sg K g J) H locs) (hl : lv_has ls 6 [(0, .ref (ad E g 0)), (1, .int x1), (2, .int x2)]) : W p l e rmX3_stageByMinutes s m args below meth c H locs 0 0 (QI E A below args s rr (sg G g M) (sg K g J)) (F0 m 0 ls []) := by
  obtain ⟨hx, hb, hr, hml, hown, hts, hlocks, hKK, hA1, hA2⟩ := id C
  unfold fX3_stageByMinutes at h
  refine lv_iconst (v := (0 : Int32)) hx hb dX3_stageByMinutes_0 (by decide) ?_
  refine lv_istore_n (lv' := [(3, .int (0 : Int32)), (0, .ref (ad E g 0)), (1, .int x1), (2, .int x2)]) hx hb dX3_stageByMinutes_1 rfl hl (by decide) rfl (fun ls hl => ?_)
  refine lv_iconst (v := (0 : Int32)) hx hb dX3_stageByMinutes_2 (by decide) ?_
  refine lv_istore (lv' := [(4, .int (0 : Int32)), (3, .int (0 : Int32)), (0, .ref (ad E g 0)), (1, .int x1), (2, .int x2)]) hx hb dX3_stageByMinutes_3 hl (by decide) rfl (fun ls hl => ?_)
  exact TX3_stageByMinutes_5 C hg  _ _ _ _ _ _ _ _ h w (lv_sub hl [2, 3, 4, 1, 0] rfl)
theorem mtX3_stageByMinutes {rr : Int32}  (hg : g < 6) {x1 : Int32} {x2 : Int32}  (h : fX3_stageByMinutes F M J x1 x2 = some rr) : MtI l yX3_stageByMinutes wdX3_stageByMinutes rmX3_stageByMinutes E [.ref (ad E g 0), .int x1, .int x2] (sg G g M) (sg K g J) rr (sg G g M) (sg K g J) := by
  intro sz
  refine Met.ofW (cc := cX3_stageByMinutes) (maxL := 6) (ret := (some .int)) (by decide) rfl ?_
  intro p e s m args below meth c s₁ B hml hv
  obtain ⟨rfl, C, w⟩ := Cx.of (own := RX3) B rfl hml hv
  have hl := lv_entry ([.ref (ad E g 0), .int x1, .int x2]) (n := 6) (by first | exact Nat.le_of_ble_eq_true rfl)
  rw [lg_entry_eq]
  generalize (lg_sl ([.ref (ad E g 0), .int x1, .int x2]) ++ List.replicate (6 - (lg_sl ([.ref (ad E g 0), .int x1, .int x2])).length) Slot.unset).toArray = ls at hl ⊢
  exact TX3_stageByMinutes C hg  h w hl
theorem ydX3_stageByMinutes : yX3_stageByMinutes.cls = RX3 ∧ yX3_stageByMinutes.cls ≠ "java/lang/invoke/MethodHandle" ∧ yX3_stageByMinutes.cls ≠ "java/lang/invoke/VarHandle" ∧ (parseMethodDescriptor yX3_stageByMinutes.desc).map (fun d => d.parameters.length) = some 2 := by decide +kernel
/-! X3.reorder()I -/
abbrev rmX3_reorder : Room := { frames := 3, cells := 0, slots := 0, locals := 58 }
abbrev wdX3_reorder : Cond := Cond.code yX3_reorder cX3_reorder 5 (some .int)
noncomputable def fbX3_reorder_48 (F : Nat) (k4 : Int32 → Int32 → M2 → J2 → Option (Int32 × M2 × J2))  (a1 : Int32) (a2 : Int32) (M : M2) (J : J2) : Option (Int32 × M2 × J2) := k4 a1 (a2 + (1 : Int32)) M J
set_option maxRecDepth 20000 in
set_option maxHeartbeats 1000000 in
theorem TX3_reorder_48 {rr : Int32} {MR : M2} {JR : J2}  {k4 : Int32 → Int32 → M2 → J2 → Option (Int32 × M2 × J2)} (C : Cx E A p s m args meth c wdX3_reorder cX3_reorder 5 (some .int) RX3) (hg : g < 6) (hk4 : ∀ (a1 : Int32) (a2 : Int32) (M : M2) (J : J2)  (ls : Array Slot) (H : Heap) (locs : List Loc), k4 a1 a2 M J = some (rr, MR, JR) → Wd E A s (sg G g M) (sg K g J) H locs → lv_has ls 5 [(0, .ref (ad E g 0)), (1, .int a1), (2, .int a2)] → W p l e rmX3_reorder s m args below meth c H locs 0 0 (QI E A below args s rr (sg G g MR) (sg K g JR)) (F0 m 4 ls [])) (a1 : Int32) (a2 : Int32) (M : M2) (J : J2)  (h : fbX3_reorder_48 F k4 a1 a2 M J = some (rr, MR, JR)) (w : Wd E A s (sg G g M) (sg K g J) H locs) (hl : lv_has ls 5 [(0, .ref (ad E g 0)), (1, .int a1), (2, .int a2)]) : W p l e rmX3_reorder s m args below meth c H locs 0 0 (QI E A below args s rr (sg G g MR) (sg K g JR)) (F0 m 48 ls []) := by
  obtain ⟨hx, hb, hr, hml, hown, hts, hlocks, hKK, hA1, hA2⟩ := id C
  unfold fbX3_reorder_48 at h
  refine lv_iinc (v := (a2 + (1 : Int32))) (lv' := [(2, .int (a2 + (1 : Int32))), (0, .ref (ad E g 0)), (1, .int a1)]) hx hb dX3_reorder_48 hl (k := 2) rfl (congrArg (HAdd.hAdd _) (by decide)) (by decide) rfl (fun ls hl => ?_)
  refine lv_goto (tgt := 4) hx hb dX3_reorder_51 (by decide) ?_
  exact hk4 _ _ _ _ _ _ _ h w (lv_sub hl [1, 2, 0] rfl)
noncomputable def fbX3_reorder_42 (F : Nat) (k4 : Int32 → Int32 → M2 → J2 → Option (Int32 × M2 × J2))  (a1 : Int32) (a2 : Int32) (a3 : Nat) (a4 : Int32) (M : M2) (J : J2) : Option (Int32 × M2 × J2) := bnd (up2 M a3 2 a4) (fun M1 => fbX3_reorder_48 F k4 a1 a2 M1 J)
set_option maxRecDepth 20000 in
set_option maxHeartbeats 1000000 in
theorem TX3_reorder_42 {rr : Int32} {MR : M2} {JR : J2}  {k4 : Int32 → Int32 → M2 → J2 → Option (Int32 × M2 × J2)} (C : Cx E A p s m args meth c wdX3_reorder cX3_reorder 5 (some .int) RX3) (hg : g < 6) (hk4 : ∀ (a1 : Int32) (a2 : Int32) (M : M2) (J : J2)  (ls : Array Slot) (H : Heap) (locs : List Loc), k4 a1 a2 M J = some (rr, MR, JR) → Wd E A s (sg G g M) (sg K g J) H locs → lv_has ls 5 [(0, .ref (ad E g 0)), (1, .int a1), (2, .int a2)] → W p l e rmX3_reorder s m args below meth c H locs 0 0 (QI E A below args s rr (sg G g MR) (sg K g JR)) (F0 m 4 ls [])) (a1 : Int32) (a2 : Int32) (a3 : Nat) (a4 : Int32) (M : M2) (J : J2) (ha3 : isC a3) (h : fbX3_reorder_42 F k4 a1 a2 a3 a4 M J = some (rr, MR, JR)) (w : Wd E A s (sg G g M) (sg K g J) H locs) (hl : lv_has ls 5 [(0, .ref (ad E g 0)), (1, .int a1), (2, .int a2), (3, .ref (ad E g a3)), (4, .int a4)]) : W p l e rmX3_reorder s m args below meth c H locs 0 0 (QI E A below args s rr (sg G g MR) (sg K g JR)) (F0 m 42 ls []) := by
  obtain ⟨hx, hb, hr, hml, hown, hts, hlocks, hKK, hA1, hA2⟩ := id C
  unfold fbX3_reorder_42 at h
  refine lv_aload_n hx hb dX3_reorder_42 rfl (lv_at hl 3 rfl) ?_
  refine lv_iload hx hb dX3_reorder_43 (lv_at hl 4 rfl) ?_
  refine pL_X0_stage hg ha3 C w q6_12 dX3_reorder_45 (fun M1 H locs e2 w => ?_)
  replace h := bnd_of h e2
  exact TX3_reorder_48 C hg hk4 _ _ _ _ h w (lv_sub hl [0, 1, 2] rfl)
noncomputable def fsX3_reorder_4 (F : Nat)   (k4 : Int32 → Int32 → M2 → J2 → Option (Int32 × M2 × J2)) : Int32 → Int32 → M2 → J2 → Option (Int32 × M2 × J2) := fun a1 a2 M J => (if (5 : Int32) ≤ a2 then (bnd (up2 M 0 4 ((M 0 4) + (1 : Int32))) (fun M2 => bnd (up2 M2 0 3 (0 : Int32)) (fun M4 => some (a1, M4, J)))) else ((fX3_numbered M J a2).bind (fun vv7 => oc vv7 (fbX3_reorder_48 F k4 a1 a2 M J) (fun z8 => chk (isC z8) ((fX3_stageByMinutes F M J a2 (M z8 3)).bind (fun vv10 => (if vv10 = (M z8 2) then (fbX3_reorder_42 F k4 a1 a2 z8 vv10 M J) else (fbX3_reorder_42 F k4 (a1 + (1 : Int32)) a2 z8 vv10 M J))))))))
noncomputable def fbX3_reorder_4 (F : Nat)   (n : Nat) : Int32 → Int32 → M2 → J2 → Option (Int32 × M2 × J2) := itr (fsX3_reorder_4 F ) (fun _ _ _ _ => none) n
set_option maxRecDepth 20000 in
set_option maxHeartbeats 1000000 in
theorem SX3_reorder_4 {rr : Int32} {MR : M2} {JR : J2}   {k4 : Int32 → Int32 → M2 → J2 → Option (Int32 × M2 × J2)} (C : Cx E A p s m args meth c wdX3_reorder cX3_reorder 5 (some .int) RX3) (hg : g < 6)  (hk4 : ∀ (a1 : Int32) (a2 : Int32) (M : M2) (J : J2)  (ls : Array Slot) (H : Heap) (locs : List Loc), k4 a1 a2 M J = some (rr, MR, JR) → Wd E A s (sg G g M) (sg K g J) H locs → lv_has ls 5 [(0, .ref (ad E g 0)), (1, .int a1), (2, .int a2)] → W p l e rmX3_reorder s m args below meth c H locs 0 0 (QI E A below args s rr (sg G g MR) (sg K g JR)) (F0 m 4 ls [])) (a1 : Int32) (a2 : Int32) (M : M2) (J : J2)  (h : fsX3_reorder_4 F  k4 a1 a2 M J = some (rr, MR, JR)) (w : Wd E A s (sg G g M) (sg K g J) H locs) (hl : lv_has ls 5 [(0, .ref (ad E g 0)), (1, .int a1), (2, .int a2)]) : W p l e rmX3_reorder s m args below meth c H locs 0 0 (QI E A below args s rr (sg G g MR) (sg K g JR)) (F0 m 4 ls []) := by
  obtain ⟨hx, hb, hr, hml, hown, hts, hlocks, hKK, hA1, hA2⟩ := id C
  unfold fsX3_reorder_4 at h
  refine lv_iload_n hx hb dX3_reorder_4 rfl (lv_at hl 2 rfl) ?_
  refine lv_iconst (v := (5 : Int32)) hx hb dX3_reorder_5 (by decide) ?_
  refine lv_icmp_ge (tgt := 54) hx hb dX3_reorder_6 (by decide) (fun c1 => ?_) (fun c1 => ?_)
  · replace h := ite_t h c1
    refine lv_aload_n hx hb dX3_reorder_54 rfl (lv_at hl 0 rfl) ?_
    refine lv_dup hx hb dX3_reorder_55 rfl ?_
    refine gL_X3_rotations hg C w q4_13 dX3_reorder_56 ?_
    refine lv_iconst (v := (1 : Int32)) hx hb dX3_reorder_59 (by decide) ?_
    refine lv_iadd hx hb dX3_reorder_60 ?_
    refine pL_X3_rotations hg C w q4_13 dX3_reorder_61 (fun M2 H locs e3 w => ?_)
    replace h := bnd_of h e3
    refine lv_aload_n hx hb dX3_reorder_64 rfl (lv_at hl 0 rfl) ?_
    refine lv_iconst (v := (0 : Int32)) hx hb dX3_reorder_65 (by decide) ?_
    refine pL_X3_sinceRotation hg C w q4_12 dX3_reorder_66 (fun M4 H locs e5 w => ?_)
    replace h := bnd_of h e5
    refine lv_iload_n hx hb dX3_reorder_69 rfl (lv_at hl 1 rfl) ?_
    obtain ⟨e1, e2, e3⟩ := rt3 h
    exact x_ri C w e1 (by rw [e2]) (by rw [e3]) dX3_reorder_70
  · replace h := ite_f h c1
    refine lv_aload_n hx hb dX3_reorder_9 rfl (lv_at hl 0 rfl) ?_
    refine lv_iload_n hx hb dX3_reorder_10 rfl (lv_at hl 2 rfl) ?_
    obtain ⟨vv7, hv6, h⟩ := bind_of h
    refine x_cVq (As := [.int a2]) (rest := []) C w (vS hg (by decide)) (cel_S hg) rfl (mtX3_numbered hg hv6) q5_2 q5_3 q5_4 q1_12 q5_5 ydX3_numbered ⟨rfl, rfl⟩ ⟨by decide, by decide⟩ ⟨Nat.zero_le _, Nat.zero_le _⟩ hl.1 (Nat.le_of_ble_eq_true rfl) rfl dX3_reorder_11 (fun H locs w => ?_)
    cases vv7 with
    | none =>
      replace h := oc_n h
      refine lv_astore_nN (lv' := [(3, .null), (0, .ref (ad E g 0)), (1, .int a1), (2, .int a2)]) hx hb dX3_reorder_14 rfl hl (by decide) rfl (fun ls hl => ?_)
      refine lv_aload_nN hx hb dX3_reorder_15 rfl (lv_at hl 0 rfl) ?_
      refine lv_ifnullN (tgt := 48) hx hb dX3_reorder_16 (by decide) ?_
      exact TX3_reorder_48 C hg hk4 _ _ _ _ h w (lv_sub hl [1, 2, 3] rfl)
    | some z8 =>
      replace h := oc_s h
      obtain ⟨hz8, h⟩ := chk_of h
      refine lv_astore_n (lv' := [(3, .ref (ad E g z8)), (0, .ref (ad E g 0)), (1, .int a1), (2, .int a2)]) hx hb dX3_reorder_14 rfl hl (by decide) rfl (fun ls hl => ?_)
      refine lv_aload_n hx hb dX3_reorder_15 rfl (lv_at hl 0 rfl) ?_
      refine lv_ifnull hx hb dX3_reorder_16 ?_
      refine lv_aload_n hx hb dX3_reorder_19 rfl (lv_at hl 1 rfl) ?_
      refine lv_iload_n hx hb dX3_reorder_20 rfl (lv_at hl 3 rfl) ?_
      refine lv_aload_n hx hb dX3_reorder_21 rfl (lv_at hl 0 rfl) ?_
      refine gL_X0_loadedMinutes hg hz8 C w q6_13 dX3_reorder_22 ?_
      obtain ⟨vv10, hv9, h⟩ := bind_of h
      refine x_cVi (As := [.int a2, .int (M z8 3)]) (rest := []) C w (vS hg (by decide)) (cel_S hg) rfl (mtX3_stageByMinutes hg hv9) q13_4 q13_5 q13_6 q1_12 q13_7 ydX3_stageByMinutes ⟨rfl, rfl⟩ ⟨by decide, by decide⟩ ⟨Nat.zero_le _, Nat.zero_le _⟩ hl.1 (Nat.le_of_ble_eq_true rfl) rfl dX3_reorder_25 (fun H locs w => ?_)
      refine lv_istore (lv' := [(4, .int vv10), (3, .ref (ad E g z8)), (0, .ref (ad E g 0)), (1, .int a1), (2, .int a2)]) hx hb dX3_reorder_28 hl (by decide) rfl (fun ls hl => ?_)
      refine lv_iload hx hb dX3_reorder_30 (lv_at hl 0 rfl) ?_
      refine lv_aload_n hx hb dX3_reorder_32 rfl (lv_at hl 1 rfl) ?_
      refine gL_X0_stage hg hz8 C w q6_12 dX3_reorder_33 ?_
      refine lv_icmp_eq (tgt := 42) hx hb dX3_reorder_36 (by decide) (fun c11 => ?_) (fun c11 => ?_)
      · replace h := ite_t h c11
        exact TX3_reorder_42 C hg hk4 _ _ _ _ _ _ hz8 h w (lv_sub hl [2, 3, 4, 1, 0] rfl)
      · replace h := ite_f h c11
        refine lv_iinc (v := (a1 + (1 : Int32))) (lv' := [(1, .int (a1 + (1 : Int32))), (4, .int vv10), (3, .ref (ad E g z8)), (0, .ref (ad E g 0)), (2, .int a2)]) hx hb dX3_reorder_39 hl (k := 3) rfl (congrArg (HAdd.hAdd _) (by decide)) (by decide) rfl (fun ls hl => ?_)
        exact TX3_reorder_42 C hg hk4 _ _ _ _ _ _ hz8 h w (lv_sub hl [3, 0, 4, 2, 1] rfl)
theorem TX3_reorder_4 {rr : Int32} {MR : M2} {JR : J2}   (C : Cx E A p s m args meth c wdX3_reorder cX3_reorder 5 (some .int) RX3) (hg : g < 6)  : ∀ (n : Nat) (a1 : Int32) (a2 : Int32) (M : M2) (J : J2)  (ls : Array Slot) (H : Heap) (locs : List Loc), fbX3_reorder_4 F  n a1 a2 M J = some (rr, MR, JR) → Wd E A s (sg G g M) (sg K g J) H locs → lv_has ls 5 [(0, .ref (ad E g 0)), (1, .int a1), (2, .int a2)] → W p l e rmX3_reorder s m args below meth c H locs 0 0 (QI E A below args s rr (sg G g MR) (sg K g JR)) (F0 m 4 ls []) := by
  intro n
  induction n with
  | zero => intro a1 a2 M J  ls H locs h; exact absurd (show none = _ from h) (fun z => nomatch z)
  | succ n ih => intro a1 a2 M J  ls H locs h w hl; exact SX3_reorder_4 (F := F) C hg  ih a1 a2 M J  h w hl
noncomputable def fX3_reorder (F : Nat)   (M : M2) (J : J2) : Option (Int32 × M2 × J2) := fbX3_reorder_4 F F (0 : Int32) (0 : Int32) M J
set_option maxRecDepth 20000 in
set_option maxHeartbeats 1000000 in
theorem TX3_reorder {rr : Int32} {MR : M2} {JR : J2}  (C : Cx E A p s m args meth c wdX3_reorder cX3_reorder 5 (some .int) RX3) (hg : g < 6)   (h : fX3_reorder F  M J = some (rr, MR, JR)) (w : Wd E A s (sg G g M) (sg K g J) H locs) (hl : lv_has ls 5 [(0, .ref (ad E g 0))]) : W p l e rmX3_reorder s m args below meth c H locs 0 0 (QI E A below args s rr (sg G g MR) (sg K g JR)) (F0 m 0 ls []) := by
  obtain ⟨hx, hb, hr, hml, hown, hts, hlocks, hKK, hA1, hA2⟩ := id C
  unfold fX3_reorder at h
  refine lv_iconst (v := (0 : Int32)) hx hb dX3_reorder_0 (by decide) ?_
  refine lv_istore_n (lv' := [(1, .int (0 : Int32)), (0, .ref (ad E g 0))]) hx hb dX3_reorder_1 rfl hl (by decide) rfl (fun ls hl => ?_)
  refine lv_iconst (v := (0 : Int32)) hx hb dX3_reorder_2 (by decide) ?_
  refine lv_istore_n (lv' := [(2, .int (0 : Int32)), (1, .int (0 : Int32)), (0, .ref (ad E g 0))]) hx hb dX3_reorder_3 rfl hl (by decide) rfl (fun ls hl => ?_)
  exact TX3_reorder_4 C hg  _ _ _ _ _ _ _ _ h w (lv_sub hl [2, 1, 0] rfl)
theorem mtX3_reorder {rr : Int32} {MR : M2} {JR : J2}  (hg : g < 6)   (h : fX3_reorder F  M J = some (rr, MR, JR)) : MtI l yX3_reorder wdX3_reorder rmX3_reorder E [.ref (ad E g 0)] (sg G g M) (sg K g J) rr (sg G g MR) (sg K g JR) := by
  intro sz
  refine Met.ofW (cc := cX3_reorder) (maxL := 5) (ret := (some .int)) (by decide) rfl ?_
  intro p e s m args below meth c s₁ B hml hv
  obtain ⟨rfl, C, w⟩ := Cx.of (own := RX3) B rfl hml hv
  have hl := lv_entry ([.ref (ad E g 0)]) (n := 5) (by first | exact Nat.le_of_ble_eq_true rfl)
  rw [lg_entry_eq]
  generalize (lg_sl ([.ref (ad E g 0)]) ++ List.replicate (5 - (lg_sl ([.ref (ad E g 0)])).length) Slot.unset).toArray = ls at hl ⊢
  exact TX3_reorder C hg  h w hl
theorem ydX3_reorder : yX3_reorder.cls = RX3 ∧ yX3_reorder.cls ≠ "java/lang/invoke/MethodHandle" ∧ yX3_reorder.cls ≠ "java/lang/invoke/VarHandle" ∧ (parseMethodDescriptor yX3_reorder.desc).map (fun d => d.parameters.length) = some 0 := by decide +kernel
end XS1
