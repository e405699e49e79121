section XA2
variable {E : WE} {A : Nat → Prop} {p : Program} {l : Launch} {e : Env} {s : State} {m : MethodId} {args : Array Value} {below : List Frame} {meth : Method} {c : Code} {H : Heap} {locs : List Loc} {ls : Array Slot} {G : M3} {K : J3} {M : M2} {J : J2} {F g q : Nat} {g' q' : Nat}

/-! X4.set(II)I -/
abbrev rmX4_set (tg : Nat) : Room := { frames := 6, cells := mcT tg, slots := msT tg, locals := 86 }
abbrev wdX4_set : Cond := Cond.code yX4_set cX4_set 4 (some .int)
noncomputable def fX4_set (F : Nat)  (x1 : Int32) (x2 : Int32) (G : M3) (K : J3) : Option (Nat × Int32 × M3 × J3) := (if ¬ (fX4_isWithin x1 (0 : Int32) (7 : Int32)) = 0 then (chk (inb x1 8) (chk (inb x1 8) ((if ¬ (fX4_isWithin x2 (rowLeast x1.toNatClampNeg) (rowMost x1.toNatClampNeg)) = 0 then (bd2 (fX1_save F 0 G K) (fun G8 K9 => chk (inb x1 8) (chk (inb x1 8) (bnd (up3 G8 0 1 (x1.toNatClampNeg) x2) (fun G12 => some (0, (G8 0 1 x1.toNatClampNeg), G12, K9)))))) else (some (1, (0 : Int32), G, K)))))) else (some (1, (0 : Int32), G, K)))
set_option maxRecDepth 20000 in
set_option maxHeartbeats 1000000 in
theorem TX4_set {tg : Nat} {rr : Int32} {GR : M3} {KR : J3}  (C : Cx E A p s m args meth c wdX4_set cX4_set 4 (some .int) RX4) (hst : l.stackTraces = false) (hno : ∀ x ∈ c.exceptionTable.toList, False) {x1 : Int32} {x2 : Int32}  (h : fX4_set F  x1 x2 G K = some (tg, rr, GR, KR)) (w : Wd E A s G K H locs) (hl : lv_has ls 4 [(0, .ref (ad E 6 0)), (1, .int x1), (2, .int x2)]) : W p l e (rmX4_set tg) s m args below meth c H locs 0 0 (QTi E A below args s tg rr GR KR) (F0 m 0 ls []) := by
  obtain ⟨hx, hb, hr, hml, hown, hts, hlocks, hKK, hA1, hA2⟩ := id C
  unfold fX4_set at h
  refine lv_iload_n hx hb dX4_set_0 rfl (lv_at hl 1 rfl) ?_
  refine lv_iconst (v := (0 : Int32)) hx hb dX4_set_1 (by decide) ?_
  refine lv_bipush (v := (7 : Int32)) hx hb dX4_set_2 (by decide) ?_
  refine x_cSi (As := [.int x1, .int (0 : Int32), .int (7 : Int32)]) (rest := []) C w (mtX4_isWithin ) q4_3 q4_4 q1_2 q4_5 ydX4_isWithin ⟨rfl, rfl⟩ ⟨by exact Nat.le_of_ble_eq_true rfl, by exact Nat.le_of_ble_eq_true rfl⟩ ⟨Nat.zero_le _, Nat.zero_le _⟩ hl.1 (Nat.le_of_ble_eq_true rfl) rfl dX4_set_4 (fun H locs w => ?_)
  refine lv_if_ne (tgt := 20) hx hb dX4_set_7 (by decide) (fun c1 => ?_) (fun c1 => ?_)
  · replace h := ite_t h c1
    refine lv_iload_n hx hb dX4_set_20 rfl (lv_at hl 2 rfl) ?_
    refine x_srow C w hKK.2.2.2.1.1 q10_22 dX4_set_21 (fun b2 hXb2 hblb2 hbAb2 => ?_)
    refine lv_iload_n hx hb dX4_set_24 rfl (lv_at hl 1 rfl) ?_
    obtain ⟨ki3, h⟩ := chk_of h
    refine x_sld C w hXb2 hblb2 hbAb2 ki3 rfl dX4_set_25 ?_
    refine x_srow C w hKK.2.2.2.1.2.1 q10_23 dX4_set_26 (fun b4 hXb4 hblb4 hbAb4 => ?_)
    refine lv_iload_n hx hb dX4_set_29 rfl (lv_at hl 1 rfl) ?_
    obtain ⟨ki5, h⟩ := chk_of h
    refine x_sld C w hXb4 hblb4 hbAb4 ki5 rfl dX4_set_30 ?_
    refine x_cSi (As := [.int x2, .int (rowLeast x1.toNatClampNeg), .int (rowMost x1.toNatClampNeg)]) (rest := []) C w (mtX4_isWithin ) q4_3 q4_4 q1_2 q4_5 ydX4_isWithin ⟨rfl, rfl⟩ ⟨by exact Nat.le_of_ble_eq_true rfl, by exact Nat.le_of_ble_eq_true rfl⟩ ⟨Nat.zero_le _, Nat.zero_le _⟩ hl.1 (Nat.le_of_ble_eq_true rfl) rfl dX4_set_31 (fun H locs w => ?_)
    refine lv_if_ne (tgt := 47) hx hb dX4_set_34 (by decide) (fun c6 => ?_) (fun c6 => ?_)
    · replace h := ite_t h c6
      refine lv_aload_n hx hb dX4_set_47 rfl (lv_at hl 0 rfl) ?_
      refine gR_X4_history C w q1_18 dX4_set_48 ?_
      refine lv_aload_n hx hb dX4_set_51 rfl (lv_at hl 0 rfl) ?_
      refine gR_X4_state C w q1_13 dX4_set_52 ?_
      obtain ⟨G8, K9, hv7, h⟩ := bd2_of h
      refine x_cVv (As := [.ref (ad E 0 0)]) (rest := []) C w (v6 (by decide)) cel_6 rfl (mtX1_save (show (0 : Nat) < 6 by decide) hv7) q9_1 q9_2 q9_3 q1_17 q9_4 ydX1_save ⟨rfl, rfl⟩ ⟨by exact Nat.le_of_ble_eq_true rfl, by exact Nat.le_of_ble_eq_true rfl⟩ ⟨Nat.zero_le _, Nat.zero_le _⟩ hl.1 (Nat.le_of_ble_eq_true rfl) rfl dX4_set_55 (fun H locs w => ?_)
      refine lv_aload_n hx hb dX4_set_58 rfl (lv_at hl 0 rfl) ?_
      refine gR_X4_state C w q1_13 dX4_set_59 ?_
      refine gR_X3_settings (show (0 : Nat) < 6 by decide) C w q7_21 dX4_set_62 ?_
      refine lv_iload_n hx hb dX4_set_65 rfl (lv_at hl 1 rfl) ?_
      obtain ⟨ki10, h⟩ := chk_of h
      refine x_aldI C w (vS (show (0 : Nat) < 6 by decide) (by decide)) (cS1 (show (0 : Nat) < 6 by decide)) ki10 rfl dX4_set_66 ?_
      refine lv_istore_n (lv' := [(3, .int (G8 0 1 x1.toNatClampNeg)), (0, .ref (ad E 6 0)), (1, .int x1), (2, .int x2)]) hx hb dX4_set_67 rfl hl (by decide) rfl (fun ls hl => ?_)
      refine lv_aload_n hx hb dX4_set_68 rfl (lv_at hl 1 rfl) ?_
      refine gR_X4_state C w q1_13 dX4_set_69 ?_
      refine gR_X3_settings (show (0 : Nat) < 6 by decide) C w q7_21 dX4_set_72 ?_
      refine lv_iload_n hx hb dX4_set_75 rfl (lv_at hl 2 rfl) ?_
      refine lv_iload_n hx hb dX4_set_76 rfl (lv_at hl 3 rfl) ?_
      obtain ⟨ki11, h⟩ := chk_of h
      refine x_astI_G C w (vS (show (0 : Nat) < 6 by decide) (by decide)) (cS1 (show (0 : Nat) < 6 by decide)) ki11 rfl dX4_set_77 (fun G12 H locs e13 w => ?_)
      replace h := bnd_of h e13
      refine lv_iload_n hx hb dX4_set_78 rfl (lv_at hl 0 rfl) ?_
      obtain ⟨e0, e1, e2, e3⟩ := rt4 h
      exact x_ti C w e0.symm e1 (by rw [e2]) (by rw [e3]) dX4_set_79
    · replace h := ite_f h (fun z => z c6)
      obtain ⟨e0, e1, e2, e3⟩ := rt4 h
      exact x_thrG C w hst hno hl.1 (by rw [← e0]; decide) (by rw [← e0]; rfl) e2 e3 (by decide +kernel) q4_1 q4_2 (List.mem_of_getElem? (i := 1) rfl) thr_w1 thr_in1 thr_g1 dX4_set_37 dX4_set_40 dX4_set_41 dX4_set_43 dX4_set_46 (by exact Nat.le_of_ble_eq_true rfl) (by exact Nat.le_of_ble_eq_true rfl) rfl rfl rfl rfl
  · replace h := ite_f h (fun z => z c1)
    obtain ⟨e0, e1, e2, e3⟩ := rt4 h
    exact x_thrG C w hst hno hl.1 (by rw [← e0]; decide) (by rw [← e0]; rfl) e2 e3 (by decide +kernel) q4_1 q4_2 (List.mem_of_getElem? (i := 0) rfl) thr_w1 thr_in1 thr_g1 dX4_set_10 dX4_set_13 dX4_set_14 dX4_set_16 dX4_set_19 (by exact Nat.le_of_ble_eq_true rfl) (by exact Nat.le_of_ble_eq_true rfl) rfl rfl rfl rfl
theorem mtX4_set {tg : Nat} {rr : Int32} {GR : M3} {KR : J3}  (hst : l.stackTraces = false) {x1 : Int32} {x2 : Int32}  (h : fX4_set F  x1 x2 G K = some (tg, rr, GR, KR)) : XtI l yX4_set wdX4_set (rmX4_set tg) E [.ref (ad E 6 0), .int x1, .int x2] G K tg rr GR KR := by
  intro sz
  refine vx_ofW (cc := cX4_set) (maxL := 4) (ret := (some .int)) (by decide) rfl ?_
  intro p e s m args below meth c s₁ B hml hno hv
  obtain ⟨rfl, C, w⟩ := Cx.of (own := RX4) B rfl hml hv
  have hl := lv_entry ([.ref (ad E 6 0), .int x1, .int x2]) (n := 4) (by first | exact Nat.le_of_ble_eq_true rfl)
  rw [lg_entry_eq]
  generalize (lg_sl ([.ref (ad E 6 0), .int x1, .int x2]) ++ List.replicate (4 - (lg_sl ([.ref (ad E 6 0), .int x1, .int x2])).length) Slot.unset).toArray = ls at hl ⊢
  exact TX4_set C hst hno  h w hl
theorem ydX4_set : yX4_set.cls = RX4 ∧ yX4_set.cls ≠ "java/lang/invoke/MethodHandle" ∧ yX4_set.cls ≠ "java/lang/invoke/VarHandle" ∧ (parseMethodDescriptor yX4_set.desc).map (fun d => d.parameters.length) = some 2 := by decide +kernel
/-! X4.addCompressor(I)I -/
abbrev rmX4_addCompressor (tg : Nat) : Room := { frames := 6, cells := mcT tg, slots := msT tg, locals := 86 }
abbrev wdX4_addCompressor : Cond := Cond.code yX4_addCompressor cX4_addCompressor 2 (some .int)
noncomputable def fX4_addCompressor (F : Nat)  (x1 : Int32) (G : M3) (K : J3) : Option (Nat × Int32 × M3 × J3) := (if ¬ (fX4_isWithin x1 (10 : Int32) (500 : Int32)) = 0 then ((if (G 0 0 5) < (5 : Int32) then (bd2 (fX1_save F 0 G K) (fun G4 K5 => bd3 (fX3_install x1 (G4 0) (K5 0)) (fun vv13 M7 J8 => bnd (sg G4 0 M7) (fun G9 => bnd (sg K5 0 J8) (fun K10 => some (0, vv13, G9, K10)))))) else (some (2, (0 : Int32), G, K)))) else (some (1, (0 : Int32), G, K)))
set_option maxRecDepth 20000 in
set_option maxHeartbeats 1000000 in
theorem TX4_addCompressor {tg : Nat} {rr : Int32} {GR : M3} {KR : J3}  (C : Cx E A p s m args meth c wdX4_addCompressor cX4_addCompressor 2 (some .int) RX4) (hst : l.stackTraces = false) (hno : ∀ x ∈ c.exceptionTable.toList, False) {x1 : Int32}  (h : fX4_addCompressor F  x1 G K = some (tg, rr, GR, KR)) (w : Wd E A s G K H locs) (hl : lv_has ls 2 [(0, .ref (ad E 6 0)), (1, .int x1)]) : W p l e (rmX4_addCompressor tg) s m args below meth c H locs 0 0 (QTi E A below args s tg rr GR KR) (F0 m 0 ls []) := by
  obtain ⟨hx, hb, hr, hml, hown, hts, hlocks, hKK, hA1, hA2⟩ := id C
  unfold fX4_addCompressor at h
  refine lv_iload_n hx hb dX4_addCompressor_0 rfl (lv_at hl 1 rfl) ?_
  refine lv_bipush (v := (10 : Int32)) hx hb dX4_addCompressor_1 (by decide) ?_
  refine lv_sipush (v := (500 : Int32)) hx hb dX4_addCompressor_3 (by decide) ?_
  refine x_cSi (As := [.int x1, .int (10 : Int32), .int (500 : Int32)]) (rest := []) C w (mtX4_isWithin ) q4_3 q4_4 q1_2 q4_5 ydX4_isWithin ⟨rfl, rfl⟩ ⟨by exact Nat.le_of_ble_eq_true rfl, by exact Nat.le_of_ble_eq_true rfl⟩ ⟨Nat.zero_le _, Nat.zero_le _⟩ hl.1 (Nat.le_of_ble_eq_true rfl) rfl dX4_addCompressor_6 (fun H locs w => ?_)
  refine lv_if_ne (tgt := 22) hx hb dX4_addCompressor_9 (by decide) (fun c1 => ?_) (fun c1 => ?_)
  · replace h := ite_t h c1
    refine lv_aload_n hx hb dX4_addCompressor_22 rfl (lv_at hl 0 rfl) ?_
    refine gR_X4_state C w q1_13 dX4_addCompressor_23 ?_
    refine gG_X3_count (show (0 : Nat) < 6 by decide) C w q7_9 dX4_addCompressor_26 ?_
    refine lv_iconst (v := (5 : Int32)) hx hb dX4_addCompressor_29 (by decide) ?_
    refine lv_icmp_lt (tgt := 43) hx hb dX4_addCompressor_30 (by decide) (fun c2 => ?_) (fun c2 => ?_)
    · replace h := ite_t h c2
      refine lv_aload_n hx hb dX4_addCompressor_43 rfl (lv_at hl 0 rfl) ?_
      refine gR_X4_history C w q1_18 dX4_addCompressor_44 ?_
      refine lv_aload_n hx hb dX4_addCompressor_47 rfl (lv_at hl 0 rfl) ?_
      refine gR_X4_state C w q1_13 dX4_addCompressor_48 ?_
      obtain ⟨G4, K5, hv3, h⟩ := bd2_of h
      refine x_cVv (As := [.ref (ad E 0 0)]) (rest := []) C w (v6 (by decide)) cel_6 rfl (mtX1_save (show (0 : Nat) < 6 by decide) hv3) q9_1 q9_2 q9_3 q1_17 q9_4 ydX1_save ⟨rfl, rfl⟩ ⟨by exact Nat.le_of_ble_eq_true rfl, by exact Nat.le_of_ble_eq_true rfl⟩ ⟨Nat.zero_le _, Nat.zero_le _⟩ hl.1 (Nat.le_of_ble_eq_true rfl) rfl dX4_addCompressor_51 (fun H locs w => ?_)
      refine lv_aload_n hx hb dX4_addCompressor_54 rfl (lv_at hl 0 rfl) ?_
      refine gR_X4_state C w q1_13 dX4_addCompressor_55 ?_
      refine lv_iload_n hx hb dX4_addCompressor_58 rfl (lv_at hl 1 rfl) ?_
      obtain ⟨vv13, M7, J8, hv6, h⟩ := bd3_of h
      refine x_cVi (As := [.int x1]) (rest := []) C (Wd.ofS 0 w) (vS (show (0 : Nat) < 6 by decide) (by decide)) (cel_S (show (0 : Nat) < 6 by decide)) rfl (mtX3_install (show (0 : Nat) < 6 by decide) hv6) q10_7 q10_8 q10_9 q1_12 q10_10 ydX3_install ⟨rfl, rfl⟩ ⟨by exact Nat.le_of_ble_eq_true rfl, by exact Nat.le_of_ble_eq_true rfl⟩ ⟨Nat.zero_le _, Nat.zero_le _⟩ hl.1 (Nat.le_of_ble_eq_true rfl) rfl dX4_addCompressor_59 (fun H locs w => ?_)
      obtain ⟨G9, e11⟩ : ∃ z, z = sg G4 0 M7 := ⟨_, rfl⟩
      obtain ⟨K10, e12⟩ : ∃ z, z = sg K5 0 J8 := ⟨_, rfl⟩
      rw [← e11, ← e12] at w
      replace h := bnd_of h e11
      replace h := bnd_of h e12
      obtain ⟨e0, e1, e2, e3⟩ := rt4 h
      exact x_ti C w e0.symm e1 (by rw [e2]) (by rw [e3]) dX4_addCompressor_62
    · replace h := ite_f h c2
      obtain ⟨e0, e1, e2, e3⟩ := rt4 h
      exact x_thrG C w hst hno hl.1 (by rw [← e0]; decide) (by rw [← e0]; rfl) e2 e3 (by decide +kernel) q8_23 q9_0 (List.mem_of_getElem? (i := 3) rfl) thr_w2 thr_in2 thr_g2 dX4_addCompressor_33 dX4_addCompressor_36 dX4_addCompressor_37 dX4_addCompressor_39 dX4_addCompressor_42 (by exact Nat.le_of_ble_eq_true rfl) (by exact Nat.le_of_ble_eq_true rfl) rfl rfl rfl rfl
  · replace h := ite_f h (fun z => z c1)
    obtain ⟨e0, e1, e2, e3⟩ := rt4 h
    exact x_thrG C w hst hno hl.1 (by rw [← e0]; decide) (by rw [← e0]; rfl) e2 e3 (by decide +kernel) q4_1 q4_2 (List.mem_of_getElem? (i := 2) rfl) thr_w1 thr_in1 thr_g1 dX4_addCompressor_12 dX4_addCompressor_15 dX4_addCompressor_16 dX4_addCompressor_18 dX4_addCompressor_21 (by exact Nat.le_of_ble_eq_true rfl) (by exact Nat.le_of_ble_eq_true rfl) rfl rfl rfl rfl
theorem mtX4_addCompressor {tg : Nat} {rr : Int32} {GR : M3} {KR : J3}  (hst : l.stackTraces = false) {x1 : Int32}  (h : fX4_addCompressor F  x1 G K = some (tg, rr, GR, KR)) : XtI l yX4_addCompressor wdX4_addCompressor (rmX4_addCompressor tg) E [.ref (ad E 6 0), .int x1] G K tg rr GR KR := by
  intro sz
  refine vx_ofW (cc := cX4_addCompressor) (maxL := 2) (ret := (some .int)) (by decide) rfl ?_
  intro p e s m args below meth c s₁ B hml hno hv
  obtain ⟨rfl, C, w⟩ := Cx.of (own := RX4) B rfl hml hv
  have hl := lv_entry ([.ref (ad E 6 0), .int x1]) (n := 2) (by first | exact Nat.le_of_ble_eq_true rfl)
  rw [lg_entry_eq]
  generalize (lg_sl ([.ref (ad E 6 0), .int x1]) ++ List.replicate (2 - (lg_sl ([.ref (ad E 6 0), .int x1])).length) Slot.unset).toArray = ls at hl ⊢
  exact TX4_addCompressor C hst hno  h w hl
theorem ydX4_addCompressor : yX4_addCompressor.cls = RX4 ∧ yX4_addCompressor.cls ≠ "java/lang/invoke/MethodHandle" ∧ yX4_addCompressor.cls ≠ "java/lang/invoke/VarHandle" ∧ (parseMethodDescriptor yX4_addCompressor.desc).map (fun d => d.parameters.length) = some 1 := by decide +kernel
/-! X4.trip(I)I -/
abbrev rmX4_trip (tg : Nat) : Room := { frames := 6, cells := mcT tg, slots := msT tg, locals := 86 }
abbrev wdX4_trip : Cond := Cond.code yX4_trip cX4_trip 4 (some .int)
noncomputable def fX4_trip (F : Nat)  (x1 : Int32) (G : M3) (K : J3) : Option (Nat × Int32 × M3 × J3) := (fX3_numbered (G 0) (K 0) x1).bind (fun vv2 => oc vv2 (some (3, (0 : Int32), G, K)) (fun z3 => chk (isC z3) ((if ¬ (G 0 z3 1) = (3 : Int32) then (bd2 (fX1_save F 0 G K) (fun G6 K7 => bd2 (fX0_fail z3 (G6 0) (K7 0)) (fun M9 J10 => bnd (sg G6 0 M9) (fun G11 => bnd (sg K7 0 J10) (fun K12 => some (0, (G6 0 z3 1), G11, K12)))))) else (some (2, (0 : Int32), G, K))))))
set_option maxRecDepth 20000 in
set_option maxHeartbeats 1000000 in
theorem TX4_trip {tg : Nat} {rr : Int32} {GR : M3} {KR : J3}  (C : Cx E A p s m args meth c wdX4_trip cX4_trip 4 (some .int) RX4) (hst : l.stackTraces = false) (hno : ∀ x ∈ c.exceptionTable.toList, False) {x1 : Int32}  (h : fX4_trip F  x1 G K = some (tg, rr, GR, KR)) (w : Wd E A s G K H locs) (hl : lv_has ls 4 [(0, .ref (ad E 6 0)), (1, .int x1)]) : W p l e (rmX4_trip tg) s m args below meth c H locs 0 0 (QTi E A below args s tg rr GR KR) (F0 m 0 ls []) := by
  obtain ⟨hx, hb, hr, hml, hown, hts, hlocks, hKK, hA1, hA2⟩ := id C
  unfold fX4_trip at h
  refine lv_aload_n hx hb dX4_trip_0 rfl (lv_at hl 0 rfl) ?_
  refine gR_X4_state C w q1_13 dX4_trip_1 ?_
  refine lv_iload_n hx hb dX4_trip_4 rfl (lv_at hl 1 rfl) ?_
  obtain ⟨vv2, hv1, h⟩ := bind_of h
  refine x_cVq (As := [.int x1]) (rest := []) C (Wd.ofS 0 w) (vS (show (0 : Nat) < 6 by decide) (by decide)) (cel_S (show (0 : Nat) < 6 by decide)) rfl (mtX3_numbered (show (0 : Nat) < 6 by decide) hv1) q6_7 q5_3 q5_4 q1_12 q5_5 ydX3_numbered ⟨rfl, rfl⟩ ⟨by exact Nat.le_of_ble_eq_true rfl, by exact Nat.le_of_ble_eq_true rfl⟩ ⟨Nat.zero_le _, Nat.zero_le _⟩ hl.1 (Nat.le_of_ble_eq_true rfl) rfl dX4_trip_5 (fun H locs w => ?_)
  have w := Wd.back w
  cases vv2 with
  | none =>
    replace h := oc_n h
    refine lv_astore_nN (lv' := [(2, .null), (0, .ref (ad E 6 0)), (1, .int x1)]) hx hb dX4_trip_8 rfl hl (by decide) rfl (fun ls hl => ?_)
    refine lv_aload_nN hx hb dX4_trip_9 rfl (lv_at hl 0 rfl) ?_
    refine lv_ifnonnullN hx hb dX4_trip_10 ?_
    obtain ⟨e0, e1, e2, e3⟩ := rt4 h
    exact x_thrG C w hst hno hl.1 (by rw [← e0]; decide) (by rw [← e0]; rfl) e2 e3 (by decide +kernel) q6_5 q6_6 (List.mem_of_getElem? (i := 4) rfl) thr_w3 thr_in3 thr_g3 dX4_trip_13 dX4_trip_16 dX4_trip_17 dX4_trip_19 dX4_trip_22 (by exact Nat.le_of_ble_eq_true rfl) (by exact Nat.le_of_ble_eq_true rfl) rfl rfl rfl rfl
  | some z3 =>
    replace h := oc_s h
    obtain ⟨hz3, h⟩ := chk_of h
    refine lv_astore_n (lv' := [(2, .ref (ad E 0 z3)), (0, .ref (ad E 6 0)), (1, .int x1)]) hx hb dX4_trip_8 rfl hl (by decide) rfl (fun ls hl => ?_)
    refine lv_aload_n hx hb dX4_trip_9 rfl (lv_at hl 0 rfl) ?_
    refine lv_ifnonnull (tgt := 23) hx hb dX4_trip_10 (by decide) ?_
    refine lv_aload_n hx hb dX4_trip_23 rfl (lv_at hl 0 rfl) ?_
    refine gG_X0_mode (show (0 : Nat) < 6 by decide) hz3 C w q11_7 dX4_trip_24 ?_
    refine lv_iconst (v := (3 : Int32)) hx hb dX4_trip_27 (by decide) ?_
    refine lv_icmp_ne (tgt := 41) hx hb dX4_trip_28 (by decide) (fun c4 => ?_) (fun c4 => ?_)
    · replace h := ite_t h c4
      refine lv_aload_n hx hb dX4_trip_41 rfl (lv_at hl 1 rfl) ?_
      refine gR_X4_history C w q1_18 dX4_trip_42 ?_
      refine lv_aload_n hx hb dX4_trip_45 rfl (lv_at hl 1 rfl) ?_
      refine gR_X4_state C w q1_13 dX4_trip_46 ?_
      obtain ⟨G6, K7, hv5, h⟩ := bd2_of h
      refine x_cVv (As := [.ref (ad E 0 0)]) (rest := []) C w (v6 (by decide)) cel_6 rfl (mtX1_save (show (0 : Nat) < 6 by decide) hv5) q9_1 q9_2 q9_3 q1_17 q9_4 ydX1_save ⟨rfl, rfl⟩ ⟨by exact Nat.le_of_ble_eq_true rfl, by exact Nat.le_of_ble_eq_true rfl⟩ ⟨Nat.zero_le _, Nat.zero_le _⟩ hl.1 (Nat.le_of_ble_eq_true rfl) rfl dX4_trip_49 (fun H locs w => ?_)
      refine lv_aload_n hx hb dX4_trip_52 rfl (lv_at hl 0 rfl) ?_
      refine gG_X0_mode (show (0 : Nat) < 6 by decide) hz3 C w q11_7 dX4_trip_53 ?_
      refine lv_istore_n (lv' := [(3, .int (G6 0 z3 1)), (2, .ref (ad E 0 z3)), (0, .ref (ad E 6 0)), (1, .int x1)]) hx hb dX4_trip_56 rfl hl (by decide) rfl (fun ls hl => ?_)
      refine lv_aload_n hx hb dX4_trip_57 rfl (lv_at hl 1 rfl) ?_
      obtain ⟨M9, J10, hv8, h⟩ := bd2_of h
      refine x_cVv (As := []) (rest := []) C (Wd.ofS 0 w) (vC (show (0 : Nat) < 6 by decide) hz3) (cel_C (show (0 : Nat) < 6 by decide) hz3.1) rfl (mtX0_fail (show (0 : Nat) < 6 by decide) hz3 hv8) q11_20 q11_21 q11_22 q2_17 q11_23 ydX0_fail ⟨rfl, rfl⟩ ⟨by exact Nat.le_of_ble_eq_true rfl, by exact Nat.le_of_ble_eq_true rfl⟩ ⟨Nat.zero_le _, Nat.zero_le _⟩ hl.1 (Nat.le_of_ble_eq_true rfl) rfl dX4_trip_58 (fun H locs w => ?_)
      obtain ⟨G11, e13⟩ : ∃ z, z = sg G6 0 M9 := ⟨_, rfl⟩
      obtain ⟨K12, e14⟩ : ∃ z, z = sg K7 0 J10 := ⟨_, rfl⟩
      rw [← e13, ← e14] at w
      replace h := bnd_of h e13
      replace h := bnd_of h e14
      refine lv_iload_n hx hb dX4_trip_61 rfl (lv_at hl 0 rfl) ?_
      obtain ⟨e0, e1, e2, e3⟩ := rt4 h
      exact x_ti C w e0.symm e1 (by rw [e2]) (by rw [e3]) dX4_trip_62
    · replace h := ite_f h (fun z => z c4)
      obtain ⟨e0, e1, e2, e3⟩ := rt4 h
      exact x_thrG C w hst hno hl.1 (by rw [← e0]; decide) (by rw [← e0]; rfl) e2 e3 (by decide +kernel) q8_23 q9_0 (List.mem_of_getElem? (i := 5) rfl) thr_w2 thr_in2 thr_g2 dX4_trip_31 dX4_trip_34 dX4_trip_35 dX4_trip_37 dX4_trip_40 (by exact Nat.le_of_ble_eq_true rfl) (by exact Nat.le_of_ble_eq_true rfl) rfl rfl rfl rfl
theorem mtX4_trip {tg : Nat} {rr : Int32} {GR : M3} {KR : J3}  (hst : l.stackTraces = false) {x1 : Int32}  (h : fX4_trip F  x1 G K = some (tg, rr, GR, KR)) : XtI l yX4_trip wdX4_trip (rmX4_trip tg) E [.ref (ad E 6 0), .int x1] G K tg rr GR KR := by
  intro sz
  refine vx_ofW (cc := cX4_trip) (maxL := 4) (ret := (some .int)) (by decide) rfl ?_
  intro p e s m args below meth c s₁ B hml hno hv
  obtain ⟨rfl, C, w⟩ := Cx.of (own := RX4) B rfl hml hv
  have hl := lv_entry ([.ref (ad E 6 0), .int x1]) (n := 4) (by first | exact Nat.le_of_ble_eq_true rfl)
  rw [lg_entry_eq]
  generalize (lg_sl ([.ref (ad E 6 0), .int x1]) ++ List.replicate (4 - (lg_sl ([.ref (ad E 6 0), .int x1])).length) Slot.unset).toArray = ls at hl ⊢
  exact TX4_trip C hst hno  h w hl
theorem ydX4_trip : yX4_trip.cls = RX4 ∧ yX4_trip.cls ≠ "java/lang/invoke/MethodHandle" ∧ yX4_trip.cls ≠ "java/lang/invoke/VarHandle" ∧ (parseMethodDescriptor yX4_trip.desc).map (fun d => d.parameters.length) = some 1 := by decide +kernel
/-! X4.clear(I)I -/
abbrev rmX4_clear (tg : Nat) : Room := { frames := 6, cells := mcT tg, slots := msT tg, locals := 86 }
abbrev wdX4_clear : Cond := Cond.code yX4_clear cX4_clear 3 (some .int)
noncomputable def fX4_clear (F : Nat)  (x1 : Int32) (G : M3) (K : J3) : Option (Nat × Int32 × M3 × J3) := (fX3_numbered (G 0) (K 0) x1).bind (fun vv2 => oc vv2 (some (3, (0 : Int32), G, K)) (fun z3 => chk (isC z3) ((if (G 0 z3 1) = (3 : Int32) then (bd2 (fX1_save F 0 G K) (fun G6 K7 => bd2 (fX0_stop z3 (G6 0 1 4) (G6 0) (K7 0)) (fun M9 J10 => bnd (sg G6 0 M9) (fun G11 => bnd (sg K7 0 J10) (fun K12 => some (0, (G11 0 z3 2), G11, K12)))))) else (some (2, (0 : Int32), G, K))))))
set_option maxRecDepth 20000 in
set_option maxHeartbeats 1000000 in
theorem TX4_clear {tg : Nat} {rr : Int32} {GR : M3} {KR : J3}  (C : Cx E A p s m args meth c wdX4_clear cX4_clear 3 (some .int) RX4) (hst : l.stackTraces = false) (hno : ∀ x ∈ c.exceptionTable.toList, False) {x1 : Int32}  (h : fX4_clear F  x1 G K = some (tg, rr, GR, KR)) (w : Wd E A s G K H locs) (hl : lv_has ls 3 [(0, .ref (ad E 6 0)), (1, .int x1)]) : W p l e (rmX4_clear tg) s m args below meth c H locs 0 0 (QTi E A below args s tg rr GR KR) (F0 m 0 ls []) := by
  obtain ⟨hx, hb, hr, hml, hown, hts, hlocks, hKK, hA1, hA2⟩ := id C
  unfold fX4_clear at h
  refine lv_aload_n hx hb dX4_clear_0 rfl (lv_at hl 0 rfl) ?_
  refine gR_X4_state C w q1_13 dX4_clear_1 ?_
  refine lv_iload_n hx hb dX4_clear_4 rfl (lv_at hl 1 rfl) ?_
  obtain ⟨vv2, hv1, h⟩ := bind_of h
  refine x_cVq (As := [.int x1]) (rest := []) C (Wd.ofS 0 w) (vS (show (0 : Nat) < 6 by decide) (by decide)) (cel_S (show (0 : Nat) < 6 by decide)) rfl (mtX3_numbered (show (0 : Nat) < 6 by decide) hv1) q6_7 q5_3 q5_4 q1_12 q5_5 ydX3_numbered ⟨rfl, rfl⟩ ⟨by exact Nat.le_of_ble_eq_true rfl, by exact Nat.le_of_ble_eq_true rfl⟩ ⟨Nat.zero_le _, Nat.zero_le _⟩ hl.1 (Nat.le_of_ble_eq_true rfl) rfl dX4_clear_5 (fun H locs w => ?_)
  have w := Wd.back w
  cases vv2 with
  | none =>
    replace h := oc_n h
    refine lv_astore_nN (lv' := [(2, .null), (0, .ref (ad E 6 0)), (1, .int x1)]) hx hb dX4_clear_8 rfl hl (by decide) rfl (fun ls hl => ?_)
    refine lv_aload_nN hx hb dX4_clear_9 rfl (lv_at hl 0 rfl) ?_
    refine lv_ifnonnullN hx hb dX4_clear_10 ?_
    obtain ⟨e0, e1, e2, e3⟩ := rt4 h
    exact x_thrG C w hst hno hl.1 (by rw [← e0]; decide) (by rw [← e0]; rfl) e2 e3 (by decide +kernel) q6_5 q6_6 (List.mem_of_getElem? (i := 4) rfl) thr_w3 thr_in3 thr_g3 dX4_clear_13 dX4_clear_16 dX4_clear_17 dX4_clear_19 dX4_clear_22 (by exact Nat.le_of_ble_eq_true rfl) (by exact Nat.le_of_ble_eq_true rfl) rfl rfl rfl rfl
  | some z3 =>
    replace h := oc_s h
    obtain ⟨hz3, h⟩ := chk_of h
    refine lv_astore_n (lv' := [(2, .ref (ad E 0 z3)), (0, .ref (ad E 6 0)), (1, .int x1)]) hx hb dX4_clear_8 rfl hl (by decide) rfl (fun ls hl => ?_)
    refine lv_aload_n hx hb dX4_clear_9 rfl (lv_at hl 0 rfl) ?_
    refine lv_ifnonnull (tgt := 23) hx hb dX4_clear_10 (by decide) ?_
    refine lv_aload_n hx hb dX4_clear_23 rfl (lv_at hl 0 rfl) ?_
    refine gG_X0_mode (show (0 : Nat) < 6 by decide) hz3 C w q11_7 dX4_clear_24 ?_
    refine lv_iconst (v := (3 : Int32)) hx hb dX4_clear_27 (by decide) ?_
    refine lv_icmp_eq (tgt := 41) hx hb dX4_clear_28 (by decide) (fun c4 => ?_) (fun c4 => ?_)
    · replace h := ite_t h c4
      refine lv_aload_n hx hb dX4_clear_41 rfl (lv_at hl 1 rfl) ?_
      refine gR_X4_history C w q1_18 dX4_clear_42 ?_
      refine lv_aload_n hx hb dX4_clear_45 rfl (lv_at hl 1 rfl) ?_
      refine gR_X4_state C w q1_13 dX4_clear_46 ?_
      obtain ⟨G6, K7, hv5, h⟩ := bd2_of h
      refine x_cVv (As := [.ref (ad E 0 0)]) (rest := []) C w (v6 (by decide)) cel_6 rfl (mtX1_save (show (0 : Nat) < 6 by decide) hv5) q9_1 q9_2 q9_3 q1_17 q9_4 ydX1_save ⟨rfl, rfl⟩ ⟨by exact Nat.le_of_ble_eq_true rfl, by exact Nat.le_of_ble_eq_true rfl⟩ ⟨Nat.zero_le _, Nat.zero_le _⟩ hl.1 (Nat.le_of_ble_eq_true rfl) rfl dX4_clear_49 (fun H locs w => ?_)
      refine lv_aload_n hx hb dX4_clear_52 rfl (lv_at hl 0 rfl) ?_
      refine lv_aload_n hx hb dX4_clear_53 rfl (lv_at hl 1 rfl) ?_
      refine gR_X4_state C w q1_13 dX4_clear_54 ?_
      refine gR_X3_settings (show (0 : Nat) < 6 by decide) C w q7_21 dX4_clear_57 ?_
      refine lv_iconst (v := (4 : Int32)) hx hb dX4_clear_60 (by decide) ?_
      refine x_aldI C w (vS (show (0 : Nat) < 6 by decide) (by decide)) (cS1 (show (0 : Nat) < 6 by decide)) (inb_k (k := 4) (by decide) (by decide)) cl_4 dX4_clear_61 ?_
      obtain ⟨M9, J10, hv8, h⟩ := bd2_of h
      refine x_cVv (As := [.int (G6 0 1 4)]) (rest := []) C (Wd.ofS 0 w) (vC (show (0 : Nat) < 6 by decide) hz3) (cel_C (show (0 : Nat) < 6 by decide) hz3.1) rfl (mtX0_stop (show (0 : Nat) < 6 by decide) hz3 hv8) q11_9 q11_10 q11_11 q2_17 q11_12 ydX0_stop ⟨rfl, rfl⟩ ⟨by exact Nat.le_of_ble_eq_true rfl, by exact Nat.le_of_ble_eq_true rfl⟩ ⟨Nat.zero_le _, Nat.zero_le _⟩ hl.1 (Nat.le_of_ble_eq_true rfl) rfl dX4_clear_62 (fun H locs w => ?_)
      obtain ⟨G11, e13⟩ : ∃ z, z = sg G6 0 M9 := ⟨_, rfl⟩
      obtain ⟨K12, e14⟩ : ∃ z, z = sg K7 0 J10 := ⟨_, rfl⟩
      rw [← e13, ← e14] at w
      replace h := bnd_of h e13
      replace h := bnd_of h e14
      refine lv_aload_n hx hb dX4_clear_65 rfl (lv_at hl 0 rfl) ?_
      refine gG_X0_stage (show (0 : Nat) < 6 by decide) hz3 C w q11_8 dX4_clear_66 ?_
      obtain ⟨e0, e1, e2, e3⟩ := rt4 h
      exact x_ti C w e0.symm e1 (by rw [e2]) (by rw [e3]) dX4_clear_69
    · replace h := ite_f h c4
      obtain ⟨e0, e1, e2, e3⟩ := rt4 h
      exact x_thrG C w hst hno hl.1 (by rw [← e0]; decide) (by rw [← e0]; rfl) e2 e3 (by decide +kernel) q8_23 q9_0 (List.mem_of_getElem? (i := 6) rfl) thr_w2 thr_in2 thr_g2 dX4_clear_31 dX4_clear_34 dX4_clear_35 dX4_clear_37 dX4_clear_40 (by exact Nat.le_of_ble_eq_true rfl) (by exact Nat.le_of_ble_eq_true rfl) rfl rfl rfl rfl
theorem mtX4_clear {tg : Nat} {rr : Int32} {GR : M3} {KR : J3}  (hst : l.stackTraces = false) {x1 : Int32}  (h : fX4_clear F  x1 G K = some (tg, rr, GR, KR)) : XtI l yX4_clear wdX4_clear (rmX4_clear tg) E [.ref (ad E 6 0), .int x1] G K tg rr GR KR := by
  intro sz
  refine vx_ofW (cc := cX4_clear) (maxL := 3) (ret := (some .int)) (by decide) rfl ?_
  intro p e s m args below meth c s₁ B hml hno hv
  obtain ⟨rfl, C, w⟩ := Cx.of (own := RX4) B rfl hml hv
  have hl := lv_entry ([.ref (ad E 6 0), .int x1]) (n := 3) (by first | exact Nat.le_of_ble_eq_true rfl)
  rw [lg_entry_eq]
  generalize (lg_sl ([.ref (ad E 6 0), .int x1]) ++ List.replicate (3 - (lg_sl ([.ref (ad E 6 0), .int x1])).length) Slot.unset).toArray = ls at hl ⊢
  exact TX4_clear C hst hno  h w hl
theorem ydX4_clear : yX4_clear.cls = RX4 ∧ yX4_clear.cls ≠ "java/lang/invoke/MethodHandle" ∧ yX4_clear.cls ≠ "java/lang/invoke/VarHandle" ∧ (parseMethodDescriptor yX4_clear.desc).map (fun d => d.parameters.length) = some 1 := by decide +kernel
/-! X4.pass(I)I -/
abbrev rmX4_pass (tg : Nat) : Room := { frames := 6, cells := mcT tg, slots := msT tg, locals := 126 }
abbrev wdX4_pass : Cond := Cond.code yX4_pass cX4_pass 2 (some .int)
noncomputable def fX4_pass (F : Nat)  (x1 : Int32) (G : M3) (K : J3) : Option (Nat × Int32 × M3 × J3) := (if ¬ (fX4_isWithin x1 (1 : Int32) (600 : Int32)) = 0 then ((if ¬ (fX3_hasTimeFor (G 0) (K 0) x1) = 0 then (bd2 (fX1_save F 0 G K) (fun G4 K5 => bd2 (fX3_runMinutes F x1 (G4 0) (K5 0)) (fun M7 J8 => bnd (sg G4 0 M7) (fun G9 => bnd (sg K5 0 J8) (fun K10 => (fX3_pressure (G9 0) (K10 0)).bind (fun vv14 => some (0, vv14, G9, K10))))))) else (some (2, (0 : Int32), G, K)))) else (some (1, (0 : Int32), G, K)))
set_option maxRecDepth 20000 in
set_option maxHeartbeats 1000000 in
theorem TX4_pass {tg : Nat} {rr : Int32} {GR : M3} {KR : J3}  (C : Cx E A p s m args meth c wdX4_pass cX4_pass 2 (some .int) RX4) (hst : l.stackTraces = false) (hno : ∀ x ∈ c.exceptionTable.toList, False) {x1 : Int32}  (h : fX4_pass F  x1 G K = some (tg, rr, GR, KR)) (w : Wd E A s G K H locs) (hl : lv_has ls 2 [(0, .ref (ad E 6 0)), (1, .int x1)]) : W p l e (rmX4_pass tg) s m args below meth c H locs 0 0 (QTi E A below args s tg rr GR KR) (F0 m 0 ls []) := by
  obtain ⟨hx, hb, hr, hml, hown, hts, hlocks, hKK, hA1, hA2⟩ := id C
  unfold fX4_pass at h
  refine lv_iload_n hx hb dX4_pass_0 rfl (lv_at hl 1 rfl) ?_
  refine lv_iconst (v := (1 : Int32)) hx hb dX4_pass_1 (by decide) ?_
  refine lv_sipush (v := (600 : Int32)) hx hb dX4_pass_2 (by decide) ?_
  refine x_cSi (As := [.int x1, .int (1 : Int32), .int (600 : Int32)]) (rest := []) C w (mtX4_isWithin ) q4_3 q4_4 q1_2 q4_5 ydX4_isWithin ⟨rfl, rfl⟩ ⟨by exact Nat.le_of_ble_eq_true rfl, by exact Nat.le_of_ble_eq_true rfl⟩ ⟨Nat.zero_le _, Nat.zero_le _⟩ hl.1 (Nat.le_of_ble_eq_true rfl) rfl dX4_pass_5 (fun H locs w => ?_)
  refine lv_if_ne (tgt := 21) hx hb dX4_pass_8 (by decide) (fun c1 => ?_) (fun c1 => ?_)
  · replace h := ite_t h c1
    refine lv_aload_n hx hb dX4_pass_21 rfl (lv_at hl 0 rfl) ?_
    refine gR_X4_state C w q1_13 dX4_pass_22 ?_
    refine lv_iload_n hx hb dX4_pass_25 rfl (lv_at hl 1 rfl) ?_
    refine x_cVi (As := [.int x1]) (rest := []) C (Wd.ofS 0 w) (vS (show (0 : Nat) < 6 by decide) (by decide)) (cel_S (show (0 : Nat) < 6 by decide)) rfl (mtX3_hasTimeFor (show (0 : Nat) < 6 by decide)) q12_7 q12_8 q12_9 q1_12 q12_10 ydX3_hasTimeFor ⟨rfl, rfl⟩ ⟨by exact Nat.le_of_ble_eq_true rfl, by exact Nat.le_of_ble_eq_true rfl⟩ ⟨Nat.zero_le _, Nat.zero_le _⟩ hl.1 (Nat.le_of_ble_eq_true rfl) rfl dX4_pass_26 (fun H locs w => ?_)
    have w := Wd.back w
    refine lv_if_ne (tgt := 42) hx hb dX4_pass_29 (by decide) (fun c2 => ?_) (fun c2 => ?_)
    · replace h := ite_t h c2
      refine lv_aload_n hx hb dX4_pass_42 rfl (lv_at hl 0 rfl) ?_
      refine gR_X4_history C w q1_18 dX4_pass_43 ?_
      refine lv_aload_n hx hb dX4_pass_46 rfl (lv_at hl 0 rfl) ?_
      refine gR_X4_state C w q1_13 dX4_pass_47 ?_
      obtain ⟨G4, K5, hv3, h⟩ := bd2_of h
      refine x_cVv (As := [.ref (ad E 0 0)]) (rest := []) C w (v6 (by decide)) cel_6 rfl (mtX1_save (show (0 : Nat) < 6 by decide) hv3) q9_1 q9_2 q9_3 q1_17 q9_4 ydX1_save ⟨rfl, rfl⟩ ⟨by exact Nat.le_of_ble_eq_true rfl, by exact Nat.le_of_ble_eq_true rfl⟩ ⟨Nat.zero_le _, Nat.zero_le _⟩ hl.1 (Nat.le_of_ble_eq_true rfl) rfl dX4_pass_50 (fun H locs w => ?_)
      refine lv_aload_n hx hb dX4_pass_53 rfl (lv_at hl 0 rfl) ?_
      refine gR_X4_state C w q1_13 dX4_pass_54 ?_
      refine lv_iload_n hx hb dX4_pass_57 rfl (lv_at hl 1 rfl) ?_
      obtain ⟨M7, J8, hv6, h⟩ := bd2_of h
      refine x_cVv (As := [.int x1]) (rest := []) C (Wd.ofS 0 w) (vS (show (0 : Nat) < 6 by decide) (by decide)) (cel_S (show (0 : Nat) < 6 by decide)) rfl (mtX3_runMinutes (show (0 : Nat) < 6 by decide) hv6) q14_17 q14_18 q14_19 q1_12 q14_20 ydX3_runMinutes ⟨rfl, rfl⟩ ⟨by exact Nat.le_of_ble_eq_true rfl, by exact Nat.le_of_ble_eq_true rfl⟩ ⟨Nat.zero_le _, Nat.zero_le _⟩ hl.1 (Nat.le_of_ble_eq_true rfl) rfl dX4_pass_58 (fun H locs w => ?_)
      obtain ⟨G9, e11⟩ : ∃ z, z = sg G4 0 M7 := ⟨_, rfl⟩
      obtain ⟨K10, e12⟩ : ∃ z, z = sg K5 0 J8 := ⟨_, rfl⟩
      rw [← e11, ← e12] at w
      replace h := bnd_of h e11
      replace h := bnd_of h e12
      refine lv_aload_n hx hb dX4_pass_61 rfl (lv_at hl 0 rfl) ?_
      refine gR_X4_state C w q1_13 dX4_pass_62 ?_
      obtain ⟨vv14, hv13, h⟩ := bind_of h
      refine x_cVi (As := []) (rest := []) C (Wd.ofS 0 w) (vS (show (0 : Nat) < 6 by decide) (by decide)) (cel_S (show (0 : Nat) < 6 by decide)) rfl (mtX3_pressure (show (0 : Nat) < 6 by decide) hv13) q8_5 q4_16 q4_17 q1_12 q4_18 ydX3_pressure ⟨rfl, rfl⟩ ⟨by exact Nat.le_of_ble_eq_true rfl, by exact Nat.le_of_ble_eq_true rfl⟩ ⟨Nat.zero_le _, Nat.zero_le _⟩ hl.1 (Nat.le_of_ble_eq_true rfl) rfl dX4_pass_65 (fun H locs w => ?_)
      have w := Wd.back w
      obtain ⟨e0, e1, e2, e3⟩ := rt4 h
      exact x_ti C w e0.symm e1 (by rw [e2]) (by rw [e3]) dX4_pass_68
    · replace h := ite_f h (fun z => z c2)
      obtain ⟨e0, e1, e2, e3⟩ := rt4 h
      exact x_thrG C w hst hno hl.1 (by rw [← e0]; decide) (by rw [← e0]; rfl) e2 e3 (by decide +kernel) q8_23 q9_0 (List.mem_of_getElem? (i := 8) rfl) thr_w2 thr_in2 thr_g2 dX4_pass_32 dX4_pass_35 dX4_pass_36 dX4_pass_38 dX4_pass_41 (by exact Nat.le_of_ble_eq_true rfl) (by exact Nat.le_of_ble_eq_true rfl) rfl rfl rfl rfl
  · replace h := ite_f h (fun z => z c1)
    obtain ⟨e0, e1, e2, e3⟩ := rt4 h
    exact x_thrG C w hst hno hl.1 (by rw [← e0]; decide) (by rw [← e0]; rfl) e2 e3 (by decide +kernel) q4_1 q4_2 (List.mem_of_getElem? (i := 7) rfl) thr_w1 thr_in1 thr_g1 dX4_pass_11 dX4_pass_14 dX4_pass_15 dX4_pass_17 dX4_pass_20 (by exact Nat.le_of_ble_eq_true rfl) (by exact Nat.le_of_ble_eq_true rfl) rfl rfl rfl rfl
theorem mtX4_pass {tg : Nat} {rr : Int32} {GR : M3} {KR : J3}  (hst : l.stackTraces = false) {x1 : Int32}  (h : fX4_pass F  x1 G K = some (tg, rr, GR, KR)) : XtI l yX4_pass wdX4_pass (rmX4_pass tg) E [.ref (ad E 6 0), .int x1] G K tg rr GR KR := by
  intro sz
  refine vx_ofW (cc := cX4_pass) (maxL := 2) (ret := (some .int)) (by decide) rfl ?_
  intro p e s m args below meth c s₁ B hml hno hv
  obtain ⟨rfl, C, w⟩ := Cx.of (own := RX4) B rfl hml hv
  have hl := lv_entry ([.ref (ad E 6 0), .int x1]) (n := 2) (by first | exact Nat.le_of_ble_eq_true rfl)
  rw [lg_entry_eq]
  generalize (lg_sl ([.ref (ad E 6 0), .int x1]) ++ List.replicate (2 - (lg_sl ([.ref (ad E 6 0), .int x1])).length) Slot.unset).toArray = ls at hl ⊢
  exact TX4_pass C hst hno  h w hl
theorem ydX4_pass : yX4_pass.cls = RX4 ∧ yX4_pass.cls ≠ "java/lang/invoke/MethodHandle" ∧ yX4_pass.cls ≠ "java/lang/invoke/VarHandle" ∧ (parseMethodDescriptor yX4_pass.desc).map (fun d => d.parameters.length) = some 1 := by decide +kernel
/-! X4.leakTest(I)I -/
abbrev rmX4_leakTest (tg : Nat) : Room := { frames := 6, cells := mcT tg, slots := msT tg, locals := 105 }
abbrev wdX4_leakTest : Cond := Cond.code yX4_leakTest cX4_leakTest 2 (some .int)
noncomputable def fX4_leakTest (F : Nat)  (x1 : Int32) (G : M3) (K : J3) : Option (Nat × Int32 × M3 × J3) := (if ¬ (fX4_isWithin x1 (1 : Int32) (60 : Int32)) = 0 then ((if ¬ (fX3_hasTimeFor (G 0) (K 0) x1) = 0 then (bd2 (fX1_save F 0 G K) (fun G4 K5 => bd3 (fX3_runLeakTest F x1 (G4 0) (K5 0)) (fun vv13 M7 J8 => bnd (sg G4 0 M7) (fun G9 => bnd (sg K5 0 J8) (fun K10 => some (0, vv13, G9, K10)))))) else (some (2, (0 : Int32), G, K)))) else (some (1, (0 : Int32), G, K)))
set_option maxRecDepth 20000 in
set_option maxHeartbeats 1000000 in
theorem TX4_leakTest {tg : Nat} {rr : Int32} {GR : M3} {KR : J3}  (C : Cx E A p s m args meth c wdX4_leakTest cX4_leakTest 2 (some .int) RX4) (hst : l.stackTraces = false) (hno : ∀ x ∈ c.exceptionTable.toList, False) {x1 : Int32}  (h : fX4_leakTest F  x1 G K = some (tg, rr, GR, KR)) (w : Wd E A s G K H locs) (hl : lv_has ls 2 [(0, .ref (ad E 6 0)), (1, .int x1)]) : W p l e (rmX4_leakTest tg) s m args below meth c H locs 0 0 (QTi E A below args s tg rr GR KR) (F0 m 0 ls []) := by
  obtain ⟨hx, hb, hr, hml, hown, hts, hlocks, hKK, hA1, hA2⟩ := id C
  unfold fX4_leakTest at h
  refine lv_iload_n hx hb dX4_leakTest_0 rfl (lv_at hl 1 rfl) ?_
  refine lv_iconst (v := (1 : Int32)) hx hb dX4_leakTest_1 (by decide) ?_
  refine lv_bipush (v := (60 : Int32)) hx hb dX4_leakTest_2 (by decide) ?_
  refine x_cSi (As := [.int x1, .int (1 : Int32), .int (60 : Int32)]) (rest := []) C w (mtX4_isWithin ) q4_3 q4_4 q1_2 q4_5 ydX4_isWithin ⟨rfl, rfl⟩ ⟨by exact Nat.le_of_ble_eq_true rfl, by exact Nat.le_of_ble_eq_true rfl⟩ ⟨Nat.zero_le _, Nat.zero_le _⟩ hl.1 (Nat.le_of_ble_eq_true rfl) rfl dX4_leakTest_4 (fun H locs w => ?_)
  refine lv_if_ne (tgt := 20) hx hb dX4_leakTest_7 (by decide) (fun c1 => ?_) (fun c1 => ?_)
  · replace h := ite_t h c1
    refine lv_aload_n hx hb dX4_leakTest_20 rfl (lv_at hl 0 rfl) ?_
    refine gR_X4_state C w q1_13 dX4_leakTest_21 ?_
    refine lv_iload_n hx hb dX4_leakTest_24 rfl (lv_at hl 1 rfl) ?_
    refine x_cVi (As := [.int x1]) (rest := []) C (Wd.ofS 0 w) (vS (show (0 : Nat) < 6 by decide) (by decide)) (cel_S (show (0 : Nat) < 6 by decide)) rfl (mtX3_hasTimeFor (show (0 : Nat) < 6 by decide)) q12_7 q12_8 q12_9 q1_12 q12_10 ydX3_hasTimeFor ⟨rfl, rfl⟩ ⟨by exact Nat.le_of_ble_eq_true rfl, by exact Nat.le_of_ble_eq_true rfl⟩ ⟨Nat.zero_le _, Nat.zero_le _⟩ hl.1 (Nat.le_of_ble_eq_true rfl) rfl dX4_leakTest_25 (fun H locs w => ?_)
    have w := Wd.back w
    refine lv_if_ne (tgt := 41) hx hb dX4_leakTest_28 (by decide) (fun c2 => ?_) (fun c2 => ?_)
    · replace h := ite_t h c2
      refine lv_aload_n hx hb dX4_leakTest_41 rfl (lv_at hl 0 rfl) ?_
      refine gR_X4_history C w q1_18 dX4_leakTest_42 ?_
      refine lv_aload_n hx hb dX4_leakTest_45 rfl (lv_at hl 0 rfl) ?_
      refine gR_X4_state C w q1_13 dX4_leakTest_46 ?_
      obtain ⟨G4, K5, hv3, h⟩ := bd2_of h
      refine x_cVv (As := [.ref (ad E 0 0)]) (rest := []) C w (v6 (by decide)) cel_6 rfl (mtX1_save (show (0 : Nat) < 6 by decide) hv3) q9_1 q9_2 q9_3 q1_17 q9_4 ydX1_save ⟨rfl, rfl⟩ ⟨by exact Nat.le_of_ble_eq_true rfl, by exact Nat.le_of_ble_eq_true rfl⟩ ⟨Nat.zero_le _, Nat.zero_le _⟩ hl.1 (Nat.le_of_ble_eq_true rfl) rfl dX4_leakTest_49 (fun H locs w => ?_)
      refine lv_aload_n hx hb dX4_leakTest_52 rfl (lv_at hl 0 rfl) ?_
      refine gR_X4_state C w q1_13 dX4_leakTest_53 ?_
      refine lv_iload_n hx hb dX4_leakTest_56 rfl (lv_at hl 1 rfl) ?_
      obtain ⟨vv13, M7, J8, hv6, h⟩ := bd3_of h
      refine x_cVi (As := [.int x1]) (rest := []) C (Wd.ofS 0 w) (vS (show (0 : Nat) < 6 by decide) (by decide)) (cel_S (show (0 : Nat) < 6 by decide)) rfl (mtX3_runLeakTest (show (0 : Nat) < 6 by decide) hv6) q12_12 q12_13 q12_14 q1_12 q12_15 ydX3_runLeakTest ⟨rfl, rfl⟩ ⟨by exact Nat.le_of_ble_eq_true rfl, by exact Nat.le_of_ble_eq_true rfl⟩ ⟨Nat.zero_le _, Nat.zero_le _⟩ hl.1 (Nat.le_of_ble_eq_true rfl) rfl dX4_leakTest_57 (fun H locs w => ?_)
      obtain ⟨G9, e11⟩ : ∃ z, z = sg G4 0 M7 := ⟨_, rfl⟩
      obtain ⟨K10, e12⟩ : ∃ z, z = sg K5 0 J8 := ⟨_, rfl⟩
      rw [← e11, ← e12] at w
      replace h := bnd_of h e11
      replace h := bnd_of h e12
      obtain ⟨e0, e1, e2, e3⟩ := rt4 h
      exact x_ti C w e0.symm e1 (by rw [e2]) (by rw [e3]) dX4_leakTest_60
    · replace h := ite_f h (fun z => z c2)
      obtain ⟨e0, e1, e2, e3⟩ := rt4 h
      exact x_thrG C w hst hno hl.1 (by rw [← e0]; decide) (by rw [← e0]; rfl) e2 e3 (by decide +kernel) q8_23 q9_0 (List.mem_of_getElem? (i := 8) rfl) thr_w2 thr_in2 thr_g2 dX4_leakTest_31 dX4_leakTest_34 dX4_leakTest_35 dX4_leakTest_37 dX4_leakTest_40 (by exact Nat.le_of_ble_eq_true rfl) (by exact Nat.le_of_ble_eq_true rfl) rfl rfl rfl rfl
  · replace h := ite_f h (fun z => z c1)
    obtain ⟨e0, e1, e2, e3⟩ := rt4 h
    exact x_thrG C w hst hno hl.1 (by rw [← e0]; decide) (by rw [← e0]; rfl) e2 e3 (by decide +kernel) q4_1 q4_2 (List.mem_of_getElem? (i := 7) rfl) thr_w1 thr_in1 thr_g1 dX4_leakTest_10 dX4_leakTest_13 dX4_leakTest_14 dX4_leakTest_16 dX4_leakTest_19 (by exact Nat.le_of_ble_eq_true rfl) (by exact Nat.le_of_ble_eq_true rfl) rfl rfl rfl rfl
theorem mtX4_leakTest {tg : Nat} {rr : Int32} {GR : M3} {KR : J3}  (hst : l.stackTraces = false) {x1 : Int32}  (h : fX4_leakTest F  x1 G K = some (tg, rr, GR, KR)) : XtI l yX4_leakTest wdX4_leakTest (rmX4_leakTest tg) E [.ref (ad E 6 0), .int x1] G K tg rr GR KR := by
  intro sz
  refine vx_ofW (cc := cX4_leakTest) (maxL := 2) (ret := (some .int)) (by decide) rfl ?_
  intro p e s m args below meth c s₁ B hml hno hv
  obtain ⟨rfl, C, w⟩ := Cx.of (own := RX4) B rfl hml hv
  have hl := lv_entry ([.ref (ad E 6 0), .int x1]) (n := 2) (by first | exact Nat.le_of_ble_eq_true rfl)
  rw [lg_entry_eq]
  generalize (lg_sl ([.ref (ad E 6 0), .int x1]) ++ List.replicate (2 - (lg_sl ([.ref (ad E 6 0), .int x1])).length) Slot.unset).toArray = ls at hl ⊢
  exact TX4_leakTest C hst hno  h w hl
theorem ydX4_leakTest : yX4_leakTest.cls = RX4 ∧ yX4_leakTest.cls ≠ "java/lang/invoke/MethodHandle" ∧ yX4_leakTest.cls ≠ "java/lang/invoke/VarHandle" ∧ (parseMethodDescriptor yX4_leakTest.desc).map (fun d => d.parameters.length) = some 1 := by decide +kernel
/-! X4.compressor(II)I -/
abbrev rmX4_compressor (tg : Nat) : Room := { frames := 6, cells := mcT tg, slots := msT tg, locals := 82 }
abbrev wdX4_compressor : Cond := Cond.code yX4_compressor cX4_compressor 4 (some .int)
noncomputable def fX4_compressor  (x1 : Int32) (x2 : Int32) (G : M3) (K : J3) : Option (Nat × Int32 × M3 × J3) := (fX3_numbered (G 0) (K 0) x1).bind (fun vv2 => oc vv2 (some (3, (0 : Int32), G, K)) (fun z3 => chk (isC z3) ((if ¬ (fX4_isWithin x2 (0 : Int32) (9 : Int32)) = 0 then (some (0, (fX3_numberAbout (G 0) (K 0) z3 x2), G, K)) else (some (1, (0 : Int32), G, K))))))
set_option maxRecDepth 20000 in
set_option maxHeartbeats 1000000 in
theorem TX4_compressor {tg : Nat} {rr : Int32} {GR : M3} {KR : J3}  (C : Cx E A p s m args meth c wdX4_compressor cX4_compressor 4 (some .int) RX4) (hst : l.stackTraces = false) (hno : ∀ x ∈ c.exceptionTable.toList, False) {x1 : Int32} {x2 : Int32}  (h : fX4_compressor  x1 x2 G K = some (tg, rr, GR, KR)) (w : Wd E A s G K H locs) (hl : lv_has ls 4 [(0, .ref (ad E 6 0)), (1, .int x1), (2, .int x2)]) : W p l e (rmX4_compressor tg) s m args below meth c H locs 0 0 (QTi E A below args s tg rr GR KR) (F0 m 0 ls []) := by
  obtain ⟨hx, hb, hr, hml, hown, hts, hlocks, hKK, hA1, hA2⟩ := id C
  unfold fX4_compressor at h
  refine lv_aload_n hx hb dX4_compressor_0 rfl (lv_at hl 0 rfl) ?_
  refine gR_X4_state C w q1_13 dX4_compressor_1 ?_
  refine lv_iload_n hx hb dX4_compressor_4 rfl (lv_at hl 1 rfl) ?_
  obtain ⟨vv2, hv1, h⟩ := bind_of h
  refine x_cVq (As := [.int x1]) (rest := []) C (Wd.ofS 0 w) (vS (show (0 : Nat) < 6 by decide) (by decide)) (cel_S (show (0 : Nat) < 6 by decide)) rfl (mtX3_numbered (show (0 : Nat) < 6 by decide) hv1) q6_7 q5_3 q5_4 q1_12 q5_5 ydX3_numbered ⟨rfl, rfl⟩ ⟨by exact Nat.le_of_ble_eq_true rfl, by exact Nat.le_of_ble_eq_true rfl⟩ ⟨Nat.zero_le _, Nat.zero_le _⟩ hl.1 (Nat.le_of_ble_eq_true rfl) rfl dX4_compressor_5 (fun H locs w => ?_)
  have w := Wd.back w
  cases vv2 with
  | none =>
    replace h := oc_n h
    refine lv_astore_nN (lv' := [(3, .null), (0, .ref (ad E 6 0)), (1, .int x1), (2, .int x2)]) hx hb dX4_compressor_8 rfl hl (by decide) rfl (fun ls hl => ?_)
    refine lv_aload_nN hx hb dX4_compressor_9 rfl (lv_at hl 0 rfl) ?_
    refine lv_ifnonnullN hx hb dX4_compressor_10 ?_
    obtain ⟨e0, e1, e2, e3⟩ := rt4 h
    exact x_thrG C w hst hno hl.1 (by rw [← e0]; decide) (by rw [← e0]; rfl) e2 e3 (by decide +kernel) q6_5 q6_6 (List.mem_of_getElem? (i := 4) rfl) thr_w3 thr_in3 thr_g3 dX4_compressor_13 dX4_compressor_16 dX4_compressor_17 dX4_compressor_19 dX4_compressor_22 (by exact Nat.le_of_ble_eq_true rfl) (by exact Nat.le_of_ble_eq_true rfl) rfl rfl rfl rfl
  | some z3 =>
    replace h := oc_s h
    obtain ⟨hz3, h⟩ := chk_of h
    refine lv_astore_n (lv' := [(3, .ref (ad E 0 z3)), (0, .ref (ad E 6 0)), (1, .int x1), (2, .int x2)]) hx hb dX4_compressor_8 rfl hl (by decide) rfl (fun ls hl => ?_)
    refine lv_aload_n hx hb dX4_compressor_9 rfl (lv_at hl 0 rfl) ?_
    refine lv_ifnonnull (tgt := 23) hx hb dX4_compressor_10 (by decide) ?_
    refine lv_iload_n hx hb dX4_compressor_23 rfl (lv_at hl 3 rfl) ?_
    refine lv_iconst (v := (0 : Int32)) hx hb dX4_compressor_24 (by decide) ?_
    refine lv_bipush (v := (9 : Int32)) hx hb dX4_compressor_25 (by decide) ?_
    refine x_cSi (As := [.int x2, .int (0 : Int32), .int (9 : Int32)]) (rest := []) C w (mtX4_isWithin ) q4_3 q4_4 q1_2 q4_5 ydX4_isWithin ⟨rfl, rfl⟩ ⟨by exact Nat.le_of_ble_eq_true rfl, by exact Nat.le_of_ble_eq_true rfl⟩ ⟨Nat.zero_le _, Nat.zero_le _⟩ hl.1 (Nat.le_of_ble_eq_true rfl) rfl dX4_compressor_27 (fun H locs w => ?_)
    refine lv_if_ne (tgt := 43) hx hb dX4_compressor_30 (by decide) (fun c4 => ?_) (fun c4 => ?_)
    · replace h := ite_t h c4
      refine lv_aload_n hx hb dX4_compressor_43 rfl (lv_at hl 1 rfl) ?_
      refine gR_X4_state C w q1_13 dX4_compressor_44 ?_
      refine lv_aload_n hx hb dX4_compressor_47 rfl (lv_at hl 0 rfl) ?_
      refine lv_iload_n hx hb dX4_compressor_48 rfl (lv_at hl 3 rfl) ?_
      refine x_cVi (As := [.ref (ad E 0 z3), .int x2]) (rest := []) C (Wd.ofS 0 w) (vS (show (0 : Nat) < 6 by decide) (by decide)) (cel_S (show (0 : Nat) < 6 by decide)) rfl (mtX3_numberAbout (show (0 : Nat) < 6 by decide) hz3) q6_8 q6_9 q6_10 q1_12 q6_11 ydX3_numberAbout ⟨rfl, rfl⟩ ⟨by exact Nat.le_of_ble_eq_true rfl, by exact Nat.le_of_ble_eq_true rfl⟩ ⟨Nat.zero_le _, Nat.zero_le _⟩ hl.1 (Nat.le_of_ble_eq_true rfl) rfl dX4_compressor_49 (fun H locs w => ?_)
      have w := Wd.back w
      obtain ⟨e0, e1, e2, e3⟩ := rt4 h
      exact x_ti C w e0.symm e1 (by rw [e2]) (by rw [e3]) dX4_compressor_52
    · replace h := ite_f h (fun z => z c4)
      obtain ⟨e0, e1, e2, e3⟩ := rt4 h
      exact x_thrG C w hst hno hl.1 (by rw [← e0]; decide) (by rw [← e0]; rfl) e2 e3 (by decide +kernel) q4_1 q4_2 (List.mem_of_getElem? (i := 9) rfl) thr_w1 thr_in1 thr_g1 dX4_compressor_33 dX4_compressor_36 dX4_compressor_37 dX4_compressor_39 dX4_compressor_42 (by exact Nat.le_of_ble_eq_true rfl) (by exact Nat.le_of_ble_eq_true rfl) rfl rfl rfl rfl
theorem mtX4_compressor {tg : Nat} {rr : Int32} {GR : M3} {KR : J3}  (hst : l.stackTraces = false) {x1 : Int32} {x2 : Int32}  (h : fX4_compressor  x1 x2 G K = some (tg, rr, GR, KR)) : XtI l yX4_compressor wdX4_compressor (rmX4_compressor tg) E [.ref (ad E 6 0), .int x1, .int x2] G K tg rr GR KR := by
  intro sz
  refine vx_ofW (cc := cX4_compressor) (maxL := 4) (ret := (some .int)) (by decide) rfl ?_
  intro p e s m args below meth c s₁ B hml hno hv
  obtain ⟨rfl, C, w⟩ := Cx.of (own := RX4) B rfl hml hv
  have hl := lv_entry ([.ref (ad E 6 0), .int x1, .int x2]) (n := 4) (by first | exact Nat.le_of_ble_eq_true rfl)
  rw [lg_entry_eq]
  generalize (lg_sl ([.ref (ad E 6 0), .int x1, .int x2]) ++ List.replicate (4 - (lg_sl ([.ref (ad E 6 0), .int x1, .int x2])).length) Slot.unset).toArray = ls at hl ⊢
  exact TX4_compressor C hst hno  h w hl
theorem ydX4_compressor : yX4_compressor.cls = RX4 ∧ yX4_compressor.cls ≠ "java/lang/invoke/MethodHandle" ∧ yX4_compressor.cls ≠ "java/lang/invoke/VarHandle" ∧ (parseMethodDescriptor yX4_compressor.desc).map (fun d => d.parameters.length) = some 2 := by decide +kernel
/-! X4.atStage(I)I -/
abbrev rmX4_atStage (tg : Nat) : Room := { frames := 6, cells := mcT tg, slots := msT tg, locals := 82 }
abbrev wdX4_atStage : Cond := Cond.code yX4_atStage cX4_atStage 2 (some .int)
noncomputable def fX4_atStage (F : Nat)  (x1 : Int32) (G : M3) (K : J3) : Option (Nat × Int32 × M3 × J3) := (if ¬ (fX4_isWithin x1 (0 : Int32) ((G 0 0 5) - (1 : Int32))) = 0 then ((fX3_numberAtStage F (G 0) (K 0) x1).bind (fun vv3 => some (0, vv3, G, K))) else (some (3, (0 : Int32), G, K)))
set_option maxRecDepth 20000 in
set_option maxHeartbeats 1000000 in
theorem TX4_atStage {tg : Nat} {rr : Int32} {GR : M3} {KR : J3}  (C : Cx E A p s m args meth c wdX4_atStage cX4_atStage 2 (some .int) RX4) (hst : l.stackTraces = false) (hno : ∀ x ∈ c.exceptionTable.toList, False) {x1 : Int32}  (h : fX4_atStage F  x1 G K = some (tg, rr, GR, KR)) (w : Wd E A s G K H locs) (hl : lv_has ls 2 [(0, .ref (ad E 6 0)), (1, .int x1)]) : W p l e (rmX4_atStage tg) s m args below meth c H locs 0 0 (QTi E A below args s tg rr GR KR) (F0 m 0 ls []) := by
  obtain ⟨hx, hb, hr, hml, hown, hts, hlocks, hKK, hA1, hA2⟩ := id C
  unfold fX4_atStage at h
  refine lv_iload_n hx hb dX4_atStage_0 rfl (lv_at hl 1 rfl) ?_
  refine lv_iconst (v := (0 : Int32)) hx hb dX4_atStage_1 (by decide) ?_
  refine lv_aload_n hx hb dX4_atStage_2 rfl (lv_at hl 0 rfl) ?_
  refine gR_X4_state C w q1_13 dX4_atStage_3 ?_
  refine gG_X3_count (show (0 : Nat) < 6 by decide) C w q7_9 dX4_atStage_6 ?_
  refine lv_iconst (v := (1 : Int32)) hx hb dX4_atStage_9 (by decide) ?_
  refine lv_isub hx hb dX4_atStage_10 ?_
  refine x_cSi (As := [.int x1, .int (0 : Int32), .int ((G 0 0 5) - (1 : Int32))]) (rest := []) C w (mtX4_isWithin ) q4_3 q4_4 q1_2 q4_5 ydX4_isWithin ⟨rfl, rfl⟩ ⟨by exact Nat.le_of_ble_eq_true rfl, by exact Nat.le_of_ble_eq_true rfl⟩ ⟨Nat.zero_le _, Nat.zero_le _⟩ hl.1 (Nat.le_of_ble_eq_true rfl) rfl dX4_atStage_11 (fun H locs w => ?_)
  refine lv_if_ne (tgt := 27) hx hb dX4_atStage_14 (by decide) (fun c1 => ?_) (fun c1 => ?_)
  · replace h := ite_t h c1
    refine lv_aload_n hx hb dX4_atStage_27 rfl (lv_at hl 0 rfl) ?_
    refine gR_X4_state C w q1_13 dX4_atStage_28 ?_
    refine lv_iload_n hx hb dX4_atStage_31 rfl (lv_at hl 1 rfl) ?_
    obtain ⟨vv3, hv2, h⟩ := bind_of h
    refine x_cVi (As := [.int x1]) (rest := []) C (Wd.ofS 0 w) (vS (show (0 : Nat) < 6 by decide) (by decide)) (cel_S (show (0 : Nat) < 6 by decide)) rfl (mtX3_numberAtStage (show (0 : Nat) < 6 by decide) hv2) q7_10 q7_11 q7_12 q1_12 q7_13 ydX3_numberAtStage ⟨rfl, rfl⟩ ⟨by exact Nat.le_of_ble_eq_true rfl, by exact Nat.le_of_ble_eq_true rfl⟩ ⟨Nat.zero_le _, Nat.zero_le _⟩ hl.1 (Nat.le_of_ble_eq_true rfl) rfl dX4_atStage_32 (fun H locs w => ?_)
    have w := Wd.back w
    obtain ⟨e0, e1, e2, e3⟩ := rt4 h
    exact x_ti C w e0.symm e1 (by rw [e2]) (by rw [e3]) dX4_atStage_35
  · replace h := ite_f h (fun z => z c1)
    obtain ⟨e0, e1, e2, e3⟩ := rt4 h
    exact x_thrG C w hst hno hl.1 (by rw [← e0]; decide) (by rw [← e0]; rfl) e2 e3 (by decide +kernel) q6_5 q6_6 (List.mem_of_getElem? (i := 10) rfl) thr_w3 thr_in3 thr_g3 dX4_atStage_17 dX4_atStage_20 dX4_atStage_21 dX4_atStage_23 dX4_atStage_26 (by exact Nat.le_of_ble_eq_true rfl) (by exact Nat.le_of_ble_eq_true rfl) rfl rfl rfl rfl
theorem mtX4_atStage {tg : Nat} {rr : Int32} {GR : M3} {KR : J3}  (hst : l.stackTraces = false) {x1 : Int32}  (h : fX4_atStage F  x1 G K = some (tg, rr, GR, KR)) : XtI l yX4_atStage wdX4_atStage (rmX4_atStage tg) E [.ref (ad E 6 0), .int x1] G K tg rr GR KR := by
  intro sz
  refine vx_ofW (cc := cX4_atStage) (maxL := 2) (ret := (some .int)) (by decide) rfl ?_
  intro p e s m args below meth c s₁ B hml hno hv
  obtain ⟨rfl, C, w⟩ := Cx.of (own := RX4) B rfl hml hv
  have hl := lv_entry ([.ref (ad E 6 0), .int x1]) (n := 2) (by first | exact Nat.le_of_ble_eq_true rfl)
  rw [lg_entry_eq]
  generalize (lg_sl ([.ref (ad E 6 0), .int x1]) ++ List.replicate (2 - (lg_sl ([.ref (ad E 6 0), .int x1])).length) Slot.unset).toArray = ls at hl ⊢
  exact TX4_atStage C hst hno  h w hl
theorem ydX4_atStage : yX4_atStage.cls = RX4 ∧ yX4_atStage.cls ≠ "java/lang/invoke/MethodHandle" ∧ yX4_atStage.cls ≠ "java/lang/invoke/VarHandle" ∧ (parseMethodDescriptor yX4_atStage.desc).map (fun d => d.parameters.length) = some 1 := by decide +kernel
/-! X4.value(I)I -/
abbrev rmX4_value (tg : Nat) : Room := { frames := 6, cells := mcT tg, slots := msT tg, locals := 82 }
abbrev wdX4_value : Cond := Cond.code yX4_value cX4_value 2 (some .int)
noncomputable def fX4_value (F : Nat)  (x1 : Int32) (G : M3) (K : J3) : Option (Nat × Int32 × M3 × J3) := (if ¬ (fX4_isWithin x1 (0 : Int32) (11 : Int32)) = 0 then ((fX3_numberOf F (G 0) (K 0) x1).bind (fun vv3 => some (0, vv3, G, K))) else (some (1, (0 : Int32), G, K)))
set_option maxRecDepth 20000 in
set_option maxHeartbeats 1000000 in
theorem TX4_value {tg : Nat} {rr : Int32} {GR : M3} {KR : J3}  (C : Cx E A p s m args meth c wdX4_value cX4_value 2 (some .int) RX4) (hst : l.stackTraces = false) (hno : ∀ x ∈ c.exceptionTable.toList, False) {x1 : Int32}  (h : fX4_value F  x1 G K = some (tg, rr, GR, KR)) (w : Wd E A s G K H locs) (hl : lv_has ls 2 [(0, .ref (ad E 6 0)), (1, .int x1)]) : W p l e (rmX4_value tg) s m args below meth c H locs 0 0 (QTi E A below args s tg rr GR KR) (F0 m 0 ls []) := by
  obtain ⟨hx, hb, hr, hml, hown, hts, hlocks, hKK, hA1, hA2⟩ := id C
  unfold fX4_value at h
  refine lv_iload_n hx hb dX4_value_0 rfl (lv_at hl 1 rfl) ?_
  refine lv_iconst (v := (0 : Int32)) hx hb dX4_value_1 (by decide) ?_
  refine lv_bipush (v := (11 : Int32)) hx hb dX4_value_2 (by decide) ?_
  refine x_cSi (As := [.int x1, .int (0 : Int32), .int (11 : Int32)]) (rest := []) C w (mtX4_isWithin ) q4_3 q4_4 q1_2 q4_5 ydX4_isWithin ⟨rfl, rfl⟩ ⟨by exact Nat.le_of_ble_eq_true rfl, by exact Nat.le_of_ble_eq_true rfl⟩ ⟨Nat.zero_le _, Nat.zero_le _⟩ hl.1 (Nat.le_of_ble_eq_true rfl) rfl dX4_value_4 (fun H locs w => ?_)
  refine lv_if_ne (tgt := 20) hx hb dX4_value_7 (by decide) (fun c1 => ?_) (fun c1 => ?_)
  · replace h := ite_t h c1
    refine lv_aload_n hx hb dX4_value_20 rfl (lv_at hl 0 rfl) ?_
    refine gR_X4_state C w q1_13 dX4_value_21 ?_
    refine lv_iload_n hx hb dX4_value_24 rfl (lv_at hl 1 rfl) ?_
    obtain ⟨vv3, hv2, h⟩ := bind_of h
    refine x_cVi (As := [.int x1]) (rest := []) C (Wd.ofS 0 w) (vS (show (0 : Nat) < 6 by decide) (by decide)) (cel_S (show (0 : Nat) < 6 by decide)) rfl (mtX3_numberOf (show (0 : Nat) < 6 by decide) hv2) q4_6 q4_7 q4_8 q1_12 q4_9 ydX3_numberOf ⟨rfl, rfl⟩ ⟨by exact Nat.le_of_ble_eq_true rfl, by exact Nat.le_of_ble_eq_true rfl⟩ ⟨Nat.zero_le _, Nat.zero_le _⟩ hl.1 (Nat.le_of_ble_eq_true rfl) rfl dX4_value_25 (fun H locs w => ?_)
    have w := Wd.back w
    obtain ⟨e0, e1, e2, e3⟩ := rt4 h
    exact x_ti C w e0.symm e1 (by rw [e2]) (by rw [e3]) dX4_value_28
  · replace h := ite_f h (fun z => z c1)
    obtain ⟨e0, e1, e2, e3⟩ := rt4 h
    exact x_thrG C w hst hno hl.1 (by rw [← e0]; decide) (by rw [← e0]; rfl) e2 e3 (by decide +kernel) q4_1 q4_2 (List.mem_of_getElem? (i := 11) rfl) thr_w1 thr_in1 thr_g1 dX4_value_10 dX4_value_13 dX4_value_14 dX4_value_16 dX4_value_19 (by exact Nat.le_of_ble_eq_true rfl) (by exact Nat.le_of_ble_eq_true rfl) rfl rfl rfl rfl
theorem mtX4_value {tg : Nat} {rr : Int32} {GR : M3} {KR : J3}  (hst : l.stackTraces = false) {x1 : Int32}  (h : fX4_value F  x1 G K = some (tg, rr, GR, KR)) : XtI l yX4_value wdX4_value (rmX4_value tg) E [.ref (ad E 6 0), .int x1] G K tg rr GR KR := by
  intro sz
  refine vx_ofW (cc := cX4_value) (maxL := 2) (ret := (some .int)) (by decide) rfl ?_
  intro p e s m args below meth c s₁ B hml hno hv
  obtain ⟨rfl, C, w⟩ := Cx.of (own := RX4) B rfl hml hv
  have hl := lv_entry ([.ref (ad E 6 0), .int x1]) (n := 2) (by first | exact Nat.le_of_ble_eq_true rfl)
  rw [lg_entry_eq]
  generalize (lg_sl ([.ref (ad E 6 0), .int x1]) ++ List.replicate (2 - (lg_sl ([.ref (ad E 6 0), .int x1])).length) Slot.unset).toArray = ls at hl ⊢
  exact TX4_value C hst hno  h w hl
theorem ydX4_value : yX4_value.cls = RX4 ∧ yX4_value.cls ≠ "java/lang/invoke/MethodHandle" ∧ yX4_value.cls ≠ "java/lang/invoke/VarHandle" ∧ (parseMethodDescriptor yX4_value.desc).map (fun d => d.parameters.length) = some 1 := by decide +kernel
/-! X4.setting(I)I -/
abbrev rmX4_setting (tg : Nat) : Room := { frames := 6, cells := mcT tg, slots := msT tg, locals := 82 }
abbrev wdX4_setting : Cond := Cond.code yX4_setting cX4_setting 2 (some .int)
noncomputable def fX4_setting  (x1 : Int32) (G : M3) (K : J3) : Option (Nat × Int32 × M3 × J3) := (if ¬ (fX4_isWithin x1 (0 : Int32) (7 : Int32)) = 0 then (chk (inb x1 8) (some (0, (G 0 1 x1.toNatClampNeg), G, K))) else (some (1, (0 : Int32), G, K)))
set_option maxRecDepth 20000 in
set_option maxHeartbeats 1000000 in
theorem TX4_setting {tg : Nat} {rr : Int32} {GR : M3} {KR : J3}  (C : Cx E A p s m args meth c wdX4_setting cX4_setting 2 (some .int) RX4) (hst : l.stackTraces = false) (hno : ∀ x ∈ c.exceptionTable.toList, False) {x1 : Int32}  (h : fX4_setting  x1 G K = some (tg, rr, GR, KR)) (w : Wd E A s G K H locs) (hl : lv_has ls 2 [(0, .ref (ad E 6 0)), (1, .int x1)]) : W p l e (rmX4_setting tg) s m args below meth c H locs 0 0 (QTi E A below args s tg rr GR KR) (F0 m 0 ls []) := by
  obtain ⟨hx, hb, hr, hml, hown, hts, hlocks, hKK, hA1, hA2⟩ := id C
  unfold fX4_setting at h
  refine lv_iload_n hx hb dX4_setting_0 rfl (lv_at hl 1 rfl) ?_
  refine lv_iconst (v := (0 : Int32)) hx hb dX4_setting_1 (by decide) ?_
  refine lv_bipush (v := (7 : Int32)) hx hb dX4_setting_2 (by decide) ?_
  refine x_cSi (As := [.int x1, .int (0 : Int32), .int (7 : Int32)]) (rest := []) C w (mtX4_isWithin ) q4_3 q4_4 q1_2 q4_5 ydX4_isWithin ⟨rfl, rfl⟩ ⟨by exact Nat.le_of_ble_eq_true rfl, by exact Nat.le_of_ble_eq_true rfl⟩ ⟨Nat.zero_le _, Nat.zero_le _⟩ hl.1 (Nat.le_of_ble_eq_true rfl) rfl dX4_setting_4 (fun H locs w => ?_)
  refine lv_if_ne (tgt := 20) hx hb dX4_setting_7 (by decide) (fun c1 => ?_) (fun c1 => ?_)
  · replace h := ite_t h c1
    refine lv_aload_n hx hb dX4_setting_20 rfl (lv_at hl 0 rfl) ?_
    refine gR_X4_state C w q1_13 dX4_setting_21 ?_
    refine gR_X3_settings (show (0 : Nat) < 6 by decide) C w q7_21 dX4_setting_24 ?_
    refine lv_iload_n hx hb dX4_setting_27 rfl (lv_at hl 1 rfl) ?_
    obtain ⟨ki2, h⟩ := chk_of h
    refine x_aldI C w (vS (show (0 : Nat) < 6 by decide) (by decide)) (cS1 (show (0 : Nat) < 6 by decide)) ki2 rfl dX4_setting_28 ?_
    obtain ⟨e0, e1, e2, e3⟩ := rt4 h
    exact x_ti C w e0.symm e1 (by rw [e2]) (by rw [e3]) dX4_setting_29
  · replace h := ite_f h (fun z => z c1)
    obtain ⟨e0, e1, e2, e3⟩ := rt4 h
    exact x_thrG C w hst hno hl.1 (by rw [← e0]; decide) (by rw [← e0]; rfl) e2 e3 (by decide +kernel) q4_1 q4_2 (List.mem_of_getElem? (i := 0) rfl) thr_w1 thr_in1 thr_g1 dX4_setting_10 dX4_setting_13 dX4_setting_14 dX4_setting_16 dX4_setting_19 (by exact Nat.le_of_ble_eq_true rfl) (by exact Nat.le_of_ble_eq_true rfl) rfl rfl rfl rfl
theorem mtX4_setting {tg : Nat} {rr : Int32} {GR : M3} {KR : J3}  (hst : l.stackTraces = false) {x1 : Int32}  (h : fX4_setting  x1 G K = some (tg, rr, GR, KR)) : XtI l yX4_setting wdX4_setting (rmX4_setting tg) E [.ref (ad E 6 0), .int x1] G K tg rr GR KR := by
  intro sz
  refine vx_ofW (cc := cX4_setting) (maxL := 2) (ret := (some .int)) (by decide) rfl ?_
  intro p e s m args below meth c s₁ B hml hno hv
  obtain ⟨rfl, C, w⟩ := Cx.of (own := RX4) B rfl hml hv
  have hl := lv_entry ([.ref (ad E 6 0), .int x1]) (n := 2) (by first | exact Nat.le_of_ble_eq_true rfl)
  rw [lg_entry_eq]
  generalize (lg_sl ([.ref (ad E 6 0), .int x1]) ++ List.replicate (2 - (lg_sl ([.ref (ad E 6 0), .int x1])).length) Slot.unset).toArray = ls at hl ⊢
  exact TX4_setting C hst hno  h w hl
theorem ydX4_setting : yX4_setting.cls = RX4 ∧ yX4_setting.cls ≠ "java/lang/invoke/MethodHandle" ∧ yX4_setting.cls ≠ "java/lang/invoke/VarHandle" ∧ (parseMethodDescriptor yX4_setting.desc).map (fun d => d.parameters.length) = some 1 := by decide +kernel
/-! X4.booked(I)J -/
abbrev rmX4_booked (tg : Nat) : Room := { frames := 6, cells := mcT tg, slots := msT tg, locals := 82 }
abbrev wdX4_booked : Cond := Cond.code yX4_booked cX4_booked 2 (some .long)
noncomputable def fX4_booked  (x1 : Int32) (G : M3) (K : J3) : Option (Nat × Int64 × M3 × J3) := (if ¬ (fX4_isWithin x1 (0 : Int32) (5 : Int32)) = 0 then (chk (inb x1 6) (some (0, (K 0 2 x1.toNatClampNeg), G, K))) else (some (1, (0 : Int64), G, K)))
set_option maxRecDepth 20000 in
set_option maxHeartbeats 1000000 in
theorem TX4_booked {tg : Nat} {rr : Int64} {GR : M3} {KR : J3}  (C : Cx E A p s m args meth c wdX4_booked cX4_booked 2 (some .long) RX4) (hst : l.stackTraces = false) (hno : ∀ x ∈ c.exceptionTable.toList, False) {x1 : Int32}  (h : fX4_booked  x1 G K = some (tg, rr, GR, KR)) (w : Wd E A s G K H locs) (hl : lv_has ls 2 [(0, .ref (ad E 6 0)), (1, .int x1)]) : W p l e (rmX4_booked tg) s m args below meth c H locs 0 0 (QTl E A below args s tg rr GR KR) (F0 m 0 ls []) := by
  obtain ⟨hx, hb, hr, hml, hown, hts, hlocks, hKK, hA1, hA2⟩ := id C
  unfold fX4_booked at h
  refine lv_iload_n hx hb dX4_booked_0 rfl (lv_at hl 1 rfl) ?_
  refine lv_iconst (v := (0 : Int32)) hx hb dX4_booked_1 (by decide) ?_
  refine lv_iconst (v := (5 : Int32)) hx hb dX4_booked_2 (by decide) ?_
  refine x_cSi (As := [.int x1, .int (0 : Int32), .int (5 : Int32)]) (rest := []) C w (mtX4_isWithin ) q4_3 q4_4 q1_2 q4_5 ydX4_isWithin ⟨rfl, rfl⟩ ⟨by exact Nat.le_of_ble_eq_true rfl, by exact Nat.le_of_ble_eq_true rfl⟩ ⟨Nat.zero_le _, Nat.zero_le _⟩ hl.1 (Nat.le_of_ble_eq_true rfl) rfl dX4_booked_3 (fun H locs w => ?_)
  refine lv_if_ne (tgt := 19) hx hb dX4_booked_6 (by decide) (fun c1 => ?_) (fun c1 => ?_)
  · replace h := ite_t h c1
    refine lv_aload_n hx hb dX4_booked_19 rfl (lv_at hl 0 rfl) ?_
    refine gR_X4_state C w q1_13 dX4_booked_20 ?_
    refine gR_X3_amounts (show (0 : Nat) < 6 by decide) C w q5_19 dX4_booked_23 ?_
    refine lv_iload_n hx hb dX4_booked_26 rfl (lv_at hl 1 rfl) ?_
    obtain ⟨ki2, h⟩ := chk_of h
    refine x_aldJ C w (vS (show (0 : Nat) < 6 by decide) (by decide)) (cS2 (show (0 : Nat) < 6 by decide)) ki2 rfl dX4_booked_27 ?_
    obtain ⟨e0, e1, e2, e3⟩ := rt4 h
    exact x_tl C w e0.symm e1 (by rw [e2]) (by rw [e3]) dX4_booked_28
  · replace h := ite_f h (fun z => z c1)
    obtain ⟨e0, e1, e2, e3⟩ := rt4 h
    exact x_thrG C w hst hno hl.1 (by rw [← e0]; decide) (by rw [← e0]; rfl) e2 e3 (by decide +kernel) q4_1 q4_2 (List.mem_of_getElem? (i := 12) rfl) thr_w1 thr_in1 thr_g1 dX4_booked_9 dX4_booked_12 dX4_booked_13 dX4_booked_15 dX4_booked_18 (by exact Nat.le_of_ble_eq_true rfl) (by exact Nat.le_of_ble_eq_true rfl) rfl rfl rfl rfl
theorem mtX4_booked {tg : Nat} {rr : Int64} {GR : M3} {KR : J3}  (hst : l.stackTraces = false) {x1 : Int32}  (h : fX4_booked  x1 G K = some (tg, rr, GR, KR)) : XtL l yX4_booked wdX4_booked (rmX4_booked tg) E [.ref (ad E 6 0), .int x1] G K tg rr GR KR := by
  intro sz
  refine vx_ofW (cc := cX4_booked) (maxL := 2) (ret := (some .long)) (by decide) rfl ?_
  intro p e s m args below meth c s₁ B hml hno hv
  obtain ⟨rfl, C, w⟩ := Cx.of (own := RX4) B rfl hml hv
  have hl := lv_entry ([.ref (ad E 6 0), .int x1]) (n := 2) (by first | exact Nat.le_of_ble_eq_true rfl)
  rw [lg_entry_eq]
  generalize (lg_sl ([.ref (ad E 6 0), .int x1]) ++ List.replicate (2 - (lg_sl ([.ref (ad E 6 0), .int x1])).length) Slot.unset).toArray = ls at hl ⊢
  exact TX4_booked C hst hno  h w hl
theorem ydX4_booked : yX4_booked.cls = RX4 ∧ yX4_booked.cls ≠ "java/lang/invoke/MethodHandle" ∧ yX4_booked.cls ≠ "java/lang/invoke/VarHandle" ∧ (parseMethodDescriptor yX4_booked.desc).map (fun d => d.parameters.length) = some 1 := by decide +kernel
/-! X4.next(I)I -/
abbrev rmX4_next (tg : Nat) : Room := { frames := 6, cells := mcT tg, slots := msT tg, locals := 82 }
abbrev wdX4_next : Cond := Cond.code yX4_next cX4_next 3 (some .int)
noncomputable def fX4_next  (x1 : Int32) (G : M3) (K : J3) : Option (Nat × Int32 × M3 × J3) := (fX3_numbered (G 0) (K 0) x1).bind (fun vv2 => oc vv2 (some (3, (0 : Int32), G, K)) (fun z3 => chk (isC z3) ((fX3_pressure (G 0) (K 0)).bind (fun vv5 => some (0, (fX3_doingOf (G 0) (K 0) z3 vv5), G, K)))))
set_option maxRecDepth 20000 in
set_option maxHeartbeats 1000000 in
theorem TX4_next {tg : Nat} {rr : Int32} {GR : M3} {KR : J3}  (C : Cx E A p s m args meth c wdX4_next cX4_next 3 (some .int) RX4) (hst : l.stackTraces = false) (hno : ∀ x ∈ c.exceptionTable.toList, False) {x1 : Int32}  (h : fX4_next  x1 G K = some (tg, rr, GR, KR)) (w : Wd E A s G K H locs) (hl : lv_has ls 3 [(0, .ref (ad E 6 0)), (1, .int x1)]) : W p l e (rmX4_next tg) s m args below meth c H locs 0 0 (QTi E A below args s tg rr GR KR) (F0 m 0 ls []) := by
  obtain ⟨hx, hb, hr, hml, hown, hts, hlocks, hKK, hA1, hA2⟩ := id C
  unfold fX4_next at h
  refine lv_aload_n hx hb dX4_next_0 rfl (lv_at hl 0 rfl) ?_
  refine gR_X4_state C w q1_13 dX4_next_1 ?_
  refine lv_iload_n hx hb dX4_next_4 rfl (lv_at hl 1 rfl) ?_
  obtain ⟨vv2, hv1, h⟩ := bind_of h
  refine x_cVq (As := [.int x1]) (rest := []) C (Wd.ofS 0 w) (vS (show (0 : Nat) < 6 by decide) (by decide)) (cel_S (show (0 : Nat) < 6 by decide)) rfl (mtX3_numbered (show (0 : Nat) < 6 by decide) hv1) q6_7 q5_3 q5_4 q1_12 q5_5 ydX3_numbered ⟨rfl, rfl⟩ ⟨by exact Nat.le_of_ble_eq_true rfl, by exact Nat.le_of_ble_eq_true rfl⟩ ⟨Nat.zero_le _, Nat.zero_le _⟩ hl.1 (Nat.le_of_ble_eq_true rfl) rfl dX4_next_5 (fun H locs w => ?_)
  have w := Wd.back w
  cases vv2 with
  | none =>
    replace h := oc_n h
    refine lv_astore_nN (lv' := [(2, .null), (0, .ref (ad E 6 0)), (1, .int x1)]) hx hb dX4_next_8 rfl hl (by decide) rfl (fun ls hl => ?_)
    refine lv_aload_nN hx hb dX4_next_9 rfl (lv_at hl 0 rfl) ?_
    refine lv_ifnonnullN hx hb dX4_next_10 ?_
    obtain ⟨e0, e1, e2, e3⟩ := rt4 h
    exact x_thrG C w hst hno hl.1 (by rw [← e0]; decide) (by rw [← e0]; rfl) e2 e3 (by decide +kernel) q6_5 q6_6 (List.mem_of_getElem? (i := 4) rfl) thr_w3 thr_in3 thr_g3 dX4_next_13 dX4_next_16 dX4_next_17 dX4_next_19 dX4_next_22 (by exact Nat.le_of_ble_eq_true rfl) (by exact Nat.le_of_ble_eq_true rfl) rfl rfl rfl rfl
  | some z3 =>
    replace h := oc_s h
    obtain ⟨hz3, h⟩ := chk_of h
    refine lv_astore_n (lv' := [(2, .ref (ad E 0 z3)), (0, .ref (ad E 6 0)), (1, .int x1)]) hx hb dX4_next_8 rfl hl (by decide) rfl (fun ls hl => ?_)
    refine lv_aload_n hx hb dX4_next_9 rfl (lv_at hl 0 rfl) ?_
    refine lv_ifnonnull (tgt := 23) hx hb dX4_next_10 (by decide) ?_
    refine lv_aload_n hx hb dX4_next_23 rfl (lv_at hl 1 rfl) ?_
    refine gR_X4_state C w q1_13 dX4_next_24 ?_
    refine lv_aload_n hx hb dX4_next_27 rfl (lv_at hl 0 rfl) ?_
    refine lv_aload_n hx hb dX4_next_28 rfl (lv_at hl 1 rfl) ?_
    refine gR_X4_state C w q1_13 dX4_next_29 ?_
    obtain ⟨vv5, hv4, h⟩ := bind_of h
    refine x_cVi (As := []) (rest := [.ref (ad E 0 z3), .ref (ad E 0 0)]) C (Wd.ofS 0 w) (vS (show (0 : Nat) < 6 by decide) (by decide)) (cel_S (show (0 : Nat) < 6 by decide)) rfl (mtX3_pressure (show (0 : Nat) < 6 by decide) hv4) q8_5 q4_16 q4_17 q1_12 q4_18 ydX3_pressure ⟨rfl, rfl⟩ ⟨by exact Nat.le_of_ble_eq_true rfl, by exact Nat.le_of_ble_eq_true rfl⟩ ⟨Nat.zero_le _, Nat.zero_le _⟩ hl.1 (Nat.le_of_ble_eq_true rfl) rfl dX4_next_32 (fun H locs w => ?_)
    have w := Wd.back w
    refine x_cVi (As := [.ref (ad E 0 z3), .int vv5]) (rest := []) C (Wd.ofS 0 w) (vS (show (0 : Nat) < 6 by decide) (by decide)) (cel_S (show (0 : Nat) < 6 by decide)) rfl (mtX3_doingOf (show (0 : Nat) < 6 by decide) hz3) q8_6 q8_7 q8_8 q1_12 q8_9 ydX3_doingOf ⟨rfl, rfl⟩ ⟨by exact Nat.le_of_ble_eq_true rfl, by exact Nat.le_of_ble_eq_true rfl⟩ ⟨Nat.zero_le _, Nat.zero_le _⟩ hl.1 (Nat.le_of_ble_eq_true rfl) rfl dX4_next_35 (fun H locs w => ?_)
    have w := Wd.back w
    obtain ⟨e0, e1, e2, e3⟩ := rt4 h
    exact x_ti C w e0.symm e1 (by rw [e2]) (by rw [e3]) dX4_next_38
theorem mtX4_next {tg : Nat} {rr : Int32} {GR : M3} {KR : J3}  (hst : l.stackTraces = false) {x1 : Int32}  (h : fX4_next  x1 G K = some (tg, rr, GR, KR)) : XtI l yX4_next wdX4_next (rmX4_next tg) E [.ref (ad E 6 0), .int x1] G K tg rr GR KR := by
  intro sz
  refine vx_ofW (cc := cX4_next) (maxL := 3) (ret := (some .int)) (by decide) rfl ?_
  intro p e s m args below meth c s₁ B hml hno hv
  obtain ⟨rfl, C, w⟩ := Cx.of (own := RX4) B rfl hml hv
  have hl := lv_entry ([.ref (ad E 6 0), .int x1]) (n := 3) (by first | exact Nat.le_of_ble_eq_true rfl)
  rw [lg_entry_eq]
  generalize (lg_sl ([.ref (ad E 6 0), .int x1]) ++ List.replicate (3 - (lg_sl ([.ref (ad E 6 0), .int x1])).length) Slot.unset).toArray = ls at hl ⊢
  exact TX4_next C hst hno  h w hl
theorem ydX4_next : yX4_next.cls = RX4 ∧ yX4_next.cls ≠ "java/lang/invoke/MethodHandle" ∧ yX4_next.cls ≠ "java/lang/invoke/VarHandle" ∧ (parseMethodDescriptor yX4_next.desc).map (fun d => d.parameters.length) = some 1 := by decide +kernel
/-! X4.undo()I -/
abbrev rmX4_undo (tg : Nat) : Room := { frames := 6, cells := mcT tg, slots := msT tg, locals := 86 }
abbrev wdX4_undo : Cond := Cond.code yX4_undo cX4_undo 1 (some .int)
noncomputable def fX4_undo (F : Nat)   (G : M3) (K : J3) : Option (Nat × Int32 × M3 × J3) := (if ¬ (G 6 1 0) = 0 then (bd2 (fX1_restore F 0 G K) (fun G3 K4 => some (0, (G3 6 1 0), G3, K4))) else (some (2, (0 : Int32), G, K)))
set_option maxRecDepth 20000 in
set_option maxHeartbeats 1000000 in
theorem TX4_undo {tg : Nat} {rr : Int32} {GR : M3} {KR : J3}  (C : Cx E A p s m args meth c wdX4_undo cX4_undo 1 (some .int) RX4) (hst : l.stackTraces = false) (hno : ∀ x ∈ c.exceptionTable.toList, False)   (h : fX4_undo F  G K = some (tg, rr, GR, KR)) (w : Wd E A s G K H locs) (hl : lv_has ls 1 [(0, .ref (ad E 6 0))]) : W p l e (rmX4_undo tg) s m args below meth c H locs 0 0 (QTi E A below args s tg rr GR KR) (F0 m 0 ls []) := by
  obtain ⟨hx, hb, hr, hml, hown, hts, hlocks, hKK, hA1, hA2⟩ := id C
  unfold fX4_undo at h
  refine lv_aload_n hx hb dX4_undo_0 rfl (lv_at hl 0 rfl) ?_
  refine gR_X4_history C w q1_18 dX4_undo_1 ?_
  refine gG_X1_kept C w q16_1 dX4_undo_4 ?_
  refine lv_if_ne (tgt := 20) hx hb dX4_undo_7 (by decide) (fun c1 => ?_) (fun c1 => ?_)
  · replace h := ite_t h c1
    refine lv_aload_n hx hb dX4_undo_20 rfl (lv_at hl 0 rfl) ?_
    refine gR_X4_history C w q1_18 dX4_undo_21 ?_
    refine lv_aload_n hx hb dX4_undo_24 rfl (lv_at hl 0 rfl) ?_
    refine gR_X4_state C w q1_13 dX4_undo_25 ?_
    obtain ⟨G3, K4, hv2, h⟩ := bd2_of h
    refine x_cVv (As := [.ref (ad E 0 0)]) (rest := []) C w (v6 (by decide)) cel_6 rfl (mtX1_restore (show (0 : Nat) < 6 by decide) hv2) q16_19 q16_20 q16_21 q1_17 q16_22 ydX1_restore ⟨rfl, rfl⟩ ⟨by exact Nat.le_of_ble_eq_true rfl, by exact Nat.le_of_ble_eq_true rfl⟩ ⟨Nat.zero_le _, Nat.zero_le _⟩ hl.1 (Nat.le_of_ble_eq_true rfl) rfl dX4_undo_28 (fun H locs w => ?_)
    refine lv_aload_n hx hb dX4_undo_31 rfl (lv_at hl 0 rfl) ?_
    refine gR_X4_history C w q1_18 dX4_undo_32 ?_
    refine gG_X1_kept C w q16_1 dX4_undo_35 ?_
    obtain ⟨e0, e1, e2, e3⟩ := rt4 h
    exact x_ti C w e0.symm e1 (by rw [e2]) (by rw [e3]) dX4_undo_38
  · replace h := ite_f h (fun z => z c1)
    obtain ⟨e0, e1, e2, e3⟩ := rt4 h
    exact x_thrG C w hst hno hl.1 (by rw [← e0]; decide) (by rw [← e0]; rfl) e2 e3 (by decide +kernel) q8_23 q9_0 (List.mem_of_getElem? (i := 13) rfl) thr_w2 thr_in2 thr_g2 dX4_undo_10 dX4_undo_13 dX4_undo_14 dX4_undo_16 dX4_undo_19 (by exact Nat.le_of_ble_eq_true rfl) (by exact Nat.le_of_ble_eq_true rfl) rfl rfl rfl rfl
theorem mtX4_undo {tg : Nat} {rr : Int32} {GR : M3} {KR : J3}  (hst : l.stackTraces = false)   (h : fX4_undo F  G K = some (tg, rr, GR, KR)) : XtI l yX4_undo wdX4_undo (rmX4_undo tg) E [.ref (ad E 6 0)] G K tg rr GR KR := by
  intro sz
  refine vx_ofW (cc := cX4_undo) (maxL := 1) (ret := (some .int)) (by decide) rfl ?_
  intro p e s m args below meth c s₁ B hml hno hv
  obtain ⟨rfl, C, w⟩ := Cx.of (own := RX4) B rfl hml hv
  have hl := lv_entry ([.ref (ad E 6 0)]) (n := 1) (by first | exact Nat.le_of_ble_eq_true rfl)
  rw [lg_entry_eq]
  generalize (lg_sl ([.ref (ad E 6 0)]) ++ List.replicate (1 - (lg_sl ([.ref (ad E 6 0)])).length) Slot.unset).toArray = ls at hl ⊢
  exact TX4_undo C hst hno  h w hl
theorem ydX4_undo : yX4_undo.cls = RX4 ∧ yX4_undo.cls ≠ "java/lang/invoke/MethodHandle" ∧ yX4_undo.cls ≠ "java/lang/invoke/VarHandle" ∧ (parseMethodDescriptor yX4_undo.desc).map (fun d => d.parameters.length) = some 0 := by decide +kernel
end XA2
