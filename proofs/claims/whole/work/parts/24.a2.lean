section XA2
variable {E : WE} {A : Nat → Prop} {p : Program} {l : Launch} {e : Env} {s : State} {m : MethodId} {args : Array Value} {below : List Frame} {meth : Method} {c : Code} {H : Heap} {locs : List Loc} {ls : Array Slot} {G : M3} {K : J3} {M : M2} {J : J2} {F g q : Nat} {g' q' : Nat}

/-! X4.setVolume(I)I -/
abbrev rmX4_setVolume : Room := { frames := 6, cells := 1, slots := 6, locals := 86 }
abbrev wdX4_setVolume : Cond := Cond.code yX4_setVolume cX4_setVolume 2 (some .int)
noncomputable def fX4_setVolume (F : Nat)  (x1 : Int32) (G : M3) (K : J3) : Option (Nat × Int32 × M3 × J3) := (if ¬ (fX4_isWithin x1 (100 : Int32) (5000 : Int32)) = 0 then ((fX4_pressureOf (G 0 0 1) x1).bind (fun vv3 => (if vv3 ≤ (G 0 1 2) then (bd2 (fX1_save F 0 G K) (fun G6 K7 => bnd (up3 G6 0 0 0 x1) (fun G8 => (fX3_pressure (G8 0) (K7 0)).bind (fun vv11 => some (0, vv11, G8, K7))))) else (some (2, (0 : Int32), G, K))))) else (some (1, (0 : Int32), G, K)))
set_option maxRecDepth 20000 in
set_option maxHeartbeats 1000000 in
theorem TX4_setVolume {tg : Nat} {rr : Int32} {GR : M3} {KR : J3}  (C : Cx E A p s m args meth c wdX4_setVolume cX4_setVolume 2 (some .int) RX4) (hst : l.stackTraces = false) (hno : ∀ x ∈ c.exceptionTable.toList, False) {x1 : Int32}  (h : fX4_setVolume F  x1 G K = some (tg, rr, GR, KR)) (w : Wd E A s G K H locs) (hl : lv_has ls 2 [(0, .ref (ad E 6 0)), (1, .int x1)]) : W p l e rmX4_setVolume s m args below meth c H locs 0 0 (QTi E A below args s tg rr GR KR) (F0 m 0 ls []) := by
  obtain ⟨hx, hb, hr, hml, hown, hts, hlocks, hKK, hA1, hA2⟩ := id C
  unfold fX4_setVolume at h
  refine lv_iload_n hx hb dX4_setVolume_0 rfl (lv_at hl 1 rfl) ?_
  refine lv_bipush (v := (100 : Int32)) hx hb dX4_setVolume_1 (by decide) ?_
  refine lv_sipush (v := (5000 : Int32)) hx hb dX4_setVolume_3 (by decide) ?_
  refine x_cSi (As := [.int x1, .int (100 : Int32), .int (5000 : Int32)]) (rest := []) C w (mtX4_isWithin ) q4_19 q4_20 q1_2 q4_21 ydX4_isWithin ⟨rfl, rfl⟩ ⟨by decide, by decide⟩ ⟨Nat.zero_le _, Nat.zero_le _⟩ hl.1 (Nat.le_of_ble_eq_true rfl) rfl dX4_setVolume_6 (fun H locs w => ?_)
  refine lv_if_ne (tgt := 22) hx hb dX4_setVolume_9 (by decide) (fun c1 => ?_) (fun c1 => ?_)
  · replace h := ite_t h c1
    refine lv_aload_n hx hb dX4_setVolume_22 rfl (lv_at hl 0 rfl) ?_
    refine gR_X4_state C w q1_16 dX4_setVolume_23 ?_
    refine gG_X3_air (show (0 : Nat) < 6 by decide) C w q4_16 dX4_setVolume_26 ?_
    refine lv_iload_n hx hb dX4_setVolume_29 rfl (lv_at hl 1 rfl) ?_
    obtain ⟨vv3, hv2, h⟩ := bind_of h
    refine x_cSi (As := [.int (G 0 0 1), .int x1]) (rest := []) C w (mtX4_pressureOf  hv2) q4_22 q4_23 q1_2 q5_0 ydX4_pressureOf ⟨rfl, rfl⟩ ⟨by decide, by decide⟩ ⟨Nat.zero_le _, Nat.zero_le _⟩ hl.1 (Nat.le_of_ble_eq_true rfl) rfl dX4_setVolume_30 (fun H locs w => ?_)
    refine lv_aload_n hx hb dX4_setVolume_33 rfl (lv_at hl 0 rfl) ?_
    refine gR_X4_state C w q1_16 dX4_setVolume_34 ?_
    refine gR_X3_settings (show (0 : Nat) < 6 by decide) C w q4_17 dX4_setVolume_37 ?_
    refine lv_iconst (v := (2 : Int32)) hx hb dX4_setVolume_40 (by decide) ?_
    refine x_aldI C w (vS (show (0 : Nat) < 6 by decide) (by decide)) (cS1 (show (0 : Nat) < 6 by decide)) (inb_k (k := 2) (by decide) (by decide)) cl_2 dX4_setVolume_41 ?_
    refine lv_icmp_le (tgt := 55) hx hb dX4_setVolume_42 (by decide) (fun c4 => ?_) (fun c4 => ?_)
    · replace h := ite_t h c4
      refine lv_aload_n hx hb dX4_setVolume_55 rfl (lv_at hl 0 rfl) ?_
      refine gR_X4_history C w q1_21 dX4_setVolume_56 ?_
      refine lv_aload_n hx hb dX4_setVolume_59 rfl (lv_at hl 0 rfl) ?_
      refine gR_X4_state C w q1_16 dX4_setVolume_60 ?_
      obtain ⟨G6, K7, hv5, h⟩ := bd2_of h
      refine x_cVv (As := [.ref (ad E 0 0)]) (rest := []) C w (v6 (by decide)) cel_6 rfl (mtX1_save (show (0 : Nat) < 6 by decide) hv5) q5_1 q5_2 q5_3 q1_20 q5_4 ydX1_save ⟨rfl, rfl⟩ ⟨by decide, by decide⟩ ⟨Nat.zero_le _, Nat.zero_le _⟩ hl.1 (Nat.le_of_ble_eq_true rfl) rfl dX4_setVolume_63 (fun H locs w => ?_)
      refine lv_aload_n hx hb dX4_setVolume_66 rfl (lv_at hl 0 rfl) ?_
      refine gR_X4_state C w q1_16 dX4_setVolume_67 ?_
      refine lv_iload_n hx hb dX4_setVolume_70 rfl (lv_at hl 1 rfl) ?_
      refine pG_X3_volume (show (0 : Nat) < 6 by decide) C w q4_18 dX4_setVolume_71 (fun G8 H locs e9 w => ?_)
      replace h := bnd_of h e9
      refine lv_aload_n hx hb dX4_setVolume_74 rfl (lv_at hl 0 rfl) ?_
      refine gR_X4_state C w q1_16 dX4_setVolume_75 ?_
      obtain ⟨vv11, hv10, h⟩ := bind_of h
      refine x_cVi (As := []) (rest := []) C (Wd.ofS 0 w) (vS (show (0 : Nat) < 6 by decide) (by decide)) (cel_S (show (0 : Nat) < 6 by decide)) rfl (mtX3_pressure (show (0 : Nat) < 6 by decide) hv10) q6_16 q6_17 q6_18 q1_15 q6_19 ydX3_pressure ⟨rfl, rfl⟩ ⟨by decide, by decide⟩ ⟨Nat.zero_le _, Nat.zero_le _⟩ hl.1 (Nat.le_of_ble_eq_true rfl) rfl dX4_setVolume_78 (fun H locs w => ?_)
      have w := Wd.back w
      obtain ⟨e0, e1, e2, e3⟩ := rt4 h
      exact x_ti C w e0.symm e1 (by rw [e2]) (by rw [e3]) dX4_setVolume_81
    · replace h := ite_f h c4
      obtain ⟨e0, e1, e2, e3⟩ := rt4 h
      exact x_thrG C w hst hno hl.1 (by rw [← e0]; decide) (by rw [← e0]; rfl) e2 e3 (by decide +kernel) q4_14 q4_15 (List.mem_of_getElem? (i := 1) rfl) thr_w2 thr_in2 thr_g2 dX4_setVolume_45 dX4_setVolume_48 dX4_setVolume_49 dX4_setVolume_51 dX4_setVolume_54 (by decide) (by decide) (by decide) (by decide) (by decide) (by decide)
  · replace h := ite_f h (fun z => z c1)
    obtain ⟨e0, e1, e2, e3⟩ := rt4 h
    exact x_thrG C w hst hno hl.1 (by rw [← e0]; decide) (by rw [← e0]; rfl) e2 e3 (by decide +kernel) q4_12 q4_13 (List.mem_of_getElem? (i := 0) rfl) thr_w1 thr_in1 thr_g1 dX4_setVolume_12 dX4_setVolume_15 dX4_setVolume_16 dX4_setVolume_18 dX4_setVolume_21 (by decide) (by decide) (by decide) (by decide) (by decide) (by decide)
theorem mtX4_setVolume {tg : Nat} {rr : Int32} {GR : M3} {KR : J3}  (hst : l.stackTraces = false) {x1 : Int32}  (h : fX4_setVolume F  x1 G K = some (tg, rr, GR, KR)) : XtI l yX4_setVolume wdX4_setVolume rmX4_setVolume E [.ref (ad E 6 0), .int x1] G K tg rr GR KR := by
  intro sz
  refine vx_ofW (cc := cX4_setVolume) (maxL := 2) (ret := (some .int)) (by decide) rfl ?_
  intro p e s m args below meth c s₁ B hml hno hv
  obtain ⟨rfl, C, w⟩ := Cx.of (own := RX4) B rfl hml hv
  have hl := lv_entry ([.ref (ad E 6 0), .int x1]) (n := 2) (by first | exact Nat.le_of_ble_eq_true rfl)
  rw [lg_entry_eq]
  generalize (lg_sl ([.ref (ad E 6 0), .int x1]) ++ List.replicate (2 - (lg_sl ([.ref (ad E 6 0), .int x1])).length) Slot.unset).toArray = ls at hl ⊢
  exact TX4_setVolume C hst hno  h w hl
theorem ydX4_setVolume : yX4_setVolume.cls = RX4 ∧ yX4_setVolume.cls ≠ "java/lang/invoke/MethodHandle" ∧ yX4_setVolume.cls ≠ "java/lang/invoke/VarHandle" ∧ (parseMethodDescriptor yX4_setVolume.desc).map (fun d => d.parameters.length) = some 1 := by decide +kernel
/-! X4.set(II)I -/
abbrev rmX4_set : Room := { frames := 6, cells := 1, slots := 6, locals := 86 }
abbrev wdX4_set : Cond := Cond.code yX4_set cX4_set 4 (some .int)
noncomputable def fX4_set (F : Nat)  (x1 : Int32) (x2 : Int32) (G : M3) (K : J3) : Option (Nat × Int32 × M3 × J3) := (if ¬ (fX4_isWithin x1 (0 : Int32) (7 : Int32)) = 0 then (chk (inb x1 8) (chk (inb x1 8) ((if ¬ (fX4_isWithin x2 (rowLeast x1.toNatClampNeg) (rowMost x1.toNatClampNeg)) = 0 then (bd2 (fX1_save F 0 G K) (fun G8 K9 => chk (inb x1 8) (chk (inb x1 8) (bnd (up3 G8 0 1 (x1.toNatClampNeg) x2) (fun G12 => some (0, (G8 0 1 x1.toNatClampNeg), G12, K9)))))) else (some (1, (0 : Int32), G, K)))))) else (some (1, (0 : Int32), G, K)))
set_option maxRecDepth 20000 in
set_option maxHeartbeats 1000000 in
theorem TX4_set {tg : Nat} {rr : Int32} {GR : M3} {KR : J3}  (C : Cx E A p s m args meth c wdX4_set cX4_set 4 (some .int) RX4) (hst : l.stackTraces = false) (hno : ∀ x ∈ c.exceptionTable.toList, False) {x1 : Int32} {x2 : Int32}  (h : fX4_set F  x1 x2 G K = some (tg, rr, GR, KR)) (w : Wd E A s G K H locs) (hl : lv_has ls 4 [(0, .ref (ad E 6 0)), (1, .int x1), (2, .int x2)]) : W p l e rmX4_set s m args below meth c H locs 0 0 (QTi E A below args s tg rr GR KR) (F0 m 0 ls []) := by
  obtain ⟨hx, hb, hr, hml, hown, hts, hlocks, hKK, hA1, hA2⟩ := id C
  unfold fX4_set at h
  refine lv_iload_n hx hb dX4_set_0 rfl (lv_at hl 1 rfl) ?_
  refine lv_iconst (v := (0 : Int32)) hx hb dX4_set_1 (by decide) ?_
  refine lv_bipush (v := (7 : Int32)) hx hb dX4_set_2 (by decide) ?_
  refine x_cSi (As := [.int x1, .int (0 : Int32), .int (7 : Int32)]) (rest := []) C w (mtX4_isWithin ) q4_19 q4_20 q1_2 q4_21 ydX4_isWithin ⟨rfl, rfl⟩ ⟨by decide, by decide⟩ ⟨Nat.zero_le _, Nat.zero_le _⟩ hl.1 (Nat.le_of_ble_eq_true rfl) rfl dX4_set_4 (fun H locs w => ?_)
  refine lv_if_ne (tgt := 20) hx hb dX4_set_7 (by decide) (fun c1 => ?_) (fun c1 => ?_)
  · replace h := ite_t h c1
    refine lv_iload_n hx hb dX4_set_20 rfl (lv_at hl 2 rfl) ?_
    refine x_srow C w hKK.2.2.2.1.1 q8_12 dX4_set_21 (fun b2 hXb2 hblb2 hbAb2 => ?_)
    refine lv_iload_n hx hb dX4_set_24 rfl (lv_at hl 1 rfl) ?_
    obtain ⟨ki3, h⟩ := chk_of h
    refine x_sld C w hXb2 hblb2 hbAb2 ki3 rfl dX4_set_25 ?_
    refine x_srow C w hKK.2.2.2.1.2.1 q8_13 dX4_set_26 (fun b4 hXb4 hblb4 hbAb4 => ?_)
    refine lv_iload_n hx hb dX4_set_29 rfl (lv_at hl 1 rfl) ?_
    obtain ⟨ki5, h⟩ := chk_of h
    refine x_sld C w hXb4 hblb4 hbAb4 ki5 rfl dX4_set_30 ?_
    refine x_cSi (As := [.int x2, .int (rowLeast x1.toNatClampNeg), .int (rowMost x1.toNatClampNeg)]) (rest := []) C w (mtX4_isWithin ) q4_19 q4_20 q1_2 q4_21 ydX4_isWithin ⟨rfl, rfl⟩ ⟨by decide, by decide⟩ ⟨Nat.zero_le _, Nat.zero_le _⟩ hl.1 (Nat.le_of_ble_eq_true rfl) rfl dX4_set_31 (fun H locs w => ?_)
    refine lv_if_ne (tgt := 47) hx hb dX4_set_34 (by decide) (fun c6 => ?_) (fun c6 => ?_)
    · replace h := ite_t h c6
      refine lv_aload_n hx hb dX4_set_47 rfl (lv_at hl 0 rfl) ?_
      refine gR_X4_history C w q1_21 dX4_set_48 ?_
      refine lv_aload_n hx hb dX4_set_51 rfl (lv_at hl 0 rfl) ?_
      refine gR_X4_state C w q1_16 dX4_set_52 ?_
      obtain ⟨G8, K9, hv7, h⟩ := bd2_of h
      refine x_cVv (As := [.ref (ad E 0 0)]) (rest := []) C w (v6 (by decide)) cel_6 rfl (mtX1_save (show (0 : Nat) < 6 by decide) hv7) q5_1 q5_2 q5_3 q1_20 q5_4 ydX1_save ⟨rfl, rfl⟩ ⟨by decide, by decide⟩ ⟨Nat.zero_le _, Nat.zero_le _⟩ hl.1 (Nat.le_of_ble_eq_true rfl) rfl dX4_set_55 (fun H locs w => ?_)
      refine lv_aload_n hx hb dX4_set_58 rfl (lv_at hl 0 rfl) ?_
      refine gR_X4_state C w q1_16 dX4_set_59 ?_
      refine gR_X3_settings (show (0 : Nat) < 6 by decide) C w q4_17 dX4_set_62 ?_
      refine lv_iload_n hx hb dX4_set_65 rfl (lv_at hl 1 rfl) ?_
      obtain ⟨ki10, h⟩ := chk_of h
      refine x_aldI C w (vS (show (0 : Nat) < 6 by decide) (by decide)) (cS1 (show (0 : Nat) < 6 by decide)) ki10 rfl dX4_set_66 ?_
      refine lv_istore_n (lv' := [(3, .int (G8 0 1 x1.toNatClampNeg)), (0, .ref (ad E 6 0)), (1, .int x1), (2, .int x2)]) hx hb dX4_set_67 rfl hl (by decide) rfl (fun ls hl => ?_)
      refine lv_aload_n hx hb dX4_set_68 rfl (lv_at hl 1 rfl) ?_
      refine gR_X4_state C w q1_16 dX4_set_69 ?_
      refine gR_X3_settings (show (0 : Nat) < 6 by decide) C w q4_17 dX4_set_72 ?_
      refine lv_iload_n hx hb dX4_set_75 rfl (lv_at hl 2 rfl) ?_
      refine lv_iload_n hx hb dX4_set_76 rfl (lv_at hl 3 rfl) ?_
      obtain ⟨ki11, h⟩ := chk_of h
      refine x_astI_G C w (vS (show (0 : Nat) < 6 by decide) (by decide)) (cS1 (show (0 : Nat) < 6 by decide)) ki11 rfl dX4_set_77 (fun G12 H locs e13 w => ?_)
      replace h := bnd_of h e13
      refine lv_iload_n hx hb dX4_set_78 rfl (lv_at hl 0 rfl) ?_
      obtain ⟨e0, e1, e2, e3⟩ := rt4 h
      exact x_ti C w e0.symm e1 (by rw [e2]) (by rw [e3]) dX4_set_79
    · replace h := ite_f h (fun z => z c6)
      obtain ⟨e0, e1, e2, e3⟩ := rt4 h
      exact x_thrG C w hst hno hl.1 (by rw [← e0]; decide) (by rw [← e0]; rfl) e2 e3 (by decide +kernel) q4_12 q4_13 (List.mem_of_getElem? (i := 3) rfl) thr_w1 thr_in1 thr_g1 dX4_set_37 dX4_set_40 dX4_set_41 dX4_set_43 dX4_set_46 (by decide) (by decide) (by decide) (by decide) (by decide) (by decide)
  · replace h := ite_f h (fun z => z c1)
    obtain ⟨e0, e1, e2, e3⟩ := rt4 h
    exact x_thrG C w hst hno hl.1 (by rw [← e0]; decide) (by rw [← e0]; rfl) e2 e3 (by decide +kernel) q4_12 q4_13 (List.mem_of_getElem? (i := 2) rfl) thr_w1 thr_in1 thr_g1 dX4_set_10 dX4_set_13 dX4_set_14 dX4_set_16 dX4_set_19 (by decide) (by decide) (by decide) (by decide) (by decide) (by decide)
theorem mtX4_set {tg : Nat} {rr : Int32} {GR : M3} {KR : J3}  (hst : l.stackTraces = false) {x1 : Int32} {x2 : Int32}  (h : fX4_set F  x1 x2 G K = some (tg, rr, GR, KR)) : XtI l yX4_set wdX4_set rmX4_set E [.ref (ad E 6 0), .int x1, .int x2] G K tg rr GR KR := by
  intro sz
  refine vx_ofW (cc := cX4_set) (maxL := 4) (ret := (some .int)) (by decide) rfl ?_
  intro p e s m args below meth c s₁ B hml hno hv
  obtain ⟨rfl, C, w⟩ := Cx.of (own := RX4) B rfl hml hv
  have hl := lv_entry ([.ref (ad E 6 0), .int x1, .int x2]) (n := 4) (by first | exact Nat.le_of_ble_eq_true rfl)
  rw [lg_entry_eq]
  generalize (lg_sl ([.ref (ad E 6 0), .int x1, .int x2]) ++ List.replicate (4 - (lg_sl ([.ref (ad E 6 0), .int x1, .int x2])).length) Slot.unset).toArray = ls at hl ⊢
  exact TX4_set C hst hno  h w hl
theorem ydX4_set : yX4_set.cls = RX4 ∧ yX4_set.cls ≠ "java/lang/invoke/MethodHandle" ∧ yX4_set.cls ≠ "java/lang/invoke/VarHandle" ∧ (parseMethodDescriptor yX4_set.desc).map (fun d => d.parameters.length) = some 2 := by decide +kernel
/-! X4.addCompressor(I)I -/
abbrev rmX4_addCompressor : Room := { frames := 6, cells := 1, slots := 6, locals := 86 }
abbrev wdX4_addCompressor : Cond := Cond.code yX4_addCompressor cX4_addCompressor 2 (some .int)
noncomputable def fX4_addCompressor (F : Nat)  (x1 : Int32) (G : M3) (K : J3) : Option (Nat × Int32 × M3 × J3) := (if ¬ (fX4_isWithin x1 (10 : Int32) (500 : Int32)) = 0 then ((if (G 0 0 5) < (5 : Int32) then (bd2 (fX1_save F 0 G K) (fun G4 K5 => bd3 (fX3_install x1 (G4 0) (K5 0)) (fun vv13 M7 J8 => bnd (sg G4 0 M7) (fun G9 => bnd (sg K5 0 J8) (fun K10 => some (0, vv13, G9, K10)))))) else (some (2, (0 : Int32), G, K)))) else (some (1, (0 : Int32), G, K)))
set_option maxRecDepth 20000 in
set_option maxHeartbeats 1000000 in
theorem TX4_addCompressor {tg : Nat} {rr : Int32} {GR : M3} {KR : J3}  (C : Cx E A p s m args meth c wdX4_addCompressor cX4_addCompressor 2 (some .int) RX4) (hst : l.stackTraces = false) (hno : ∀ x ∈ c.exceptionTable.toList, False) {x1 : Int32}  (h : fX4_addCompressor F  x1 G K = some (tg, rr, GR, KR)) (w : Wd E A s G K H locs) (hl : lv_has ls 2 [(0, .ref (ad E 6 0)), (1, .int x1)]) : W p l e rmX4_addCompressor s m args below meth c H locs 0 0 (QTi E A below args s tg rr GR KR) (F0 m 0 ls []) := by
  obtain ⟨hx, hb, hr, hml, hown, hts, hlocks, hKK, hA1, hA2⟩ := id C
  unfold fX4_addCompressor at h
  refine lv_iload_n hx hb dX4_addCompressor_0 rfl (lv_at hl 1 rfl) ?_
  refine lv_bipush (v := (10 : Int32)) hx hb dX4_addCompressor_1 (by decide) ?_
  refine lv_sipush (v := (500 : Int32)) hx hb dX4_addCompressor_3 (by decide) ?_
  refine x_cSi (As := [.int x1, .int (10 : Int32), .int (500 : Int32)]) (rest := []) C w (mtX4_isWithin ) q4_19 q4_20 q1_2 q4_21 ydX4_isWithin ⟨rfl, rfl⟩ ⟨by decide, by decide⟩ ⟨Nat.zero_le _, Nat.zero_le _⟩ hl.1 (Nat.le_of_ble_eq_true rfl) rfl dX4_addCompressor_6 (fun H locs w => ?_)
  refine lv_if_ne (tgt := 22) hx hb dX4_addCompressor_9 (by decide) (fun c1 => ?_) (fun c1 => ?_)
  · replace h := ite_t h c1
    refine lv_aload_n hx hb dX4_addCompressor_22 rfl (lv_at hl 0 rfl) ?_
    refine gR_X4_state C w q1_16 dX4_addCompressor_23 ?_
    refine gG_X3_count (show (0 : Nat) < 6 by decide) C w q9_7 dX4_addCompressor_26 ?_
    refine lv_iconst (v := (5 : Int32)) hx hb dX4_addCompressor_29 (by decide) ?_
    refine lv_icmp_lt (tgt := 43) hx hb dX4_addCompressor_30 (by decide) (fun c2 => ?_) (fun c2 => ?_)
    · replace h := ite_t h c2
      refine lv_aload_n hx hb dX4_addCompressor_43 rfl (lv_at hl 0 rfl) ?_
      refine gR_X4_history C w q1_21 dX4_addCompressor_44 ?_
      refine lv_aload_n hx hb dX4_addCompressor_47 rfl (lv_at hl 0 rfl) ?_
      refine gR_X4_state C w q1_16 dX4_addCompressor_48 ?_
      obtain ⟨G4, K5, hv3, h⟩ := bd2_of h
      refine x_cVv (As := [.ref (ad E 0 0)]) (rest := []) C w (v6 (by decide)) cel_6 rfl (mtX1_save (show (0 : Nat) < 6 by decide) hv3) q5_1 q5_2 q5_3 q1_20 q5_4 ydX1_save ⟨rfl, rfl⟩ ⟨by decide, by decide⟩ ⟨Nat.zero_le _, Nat.zero_le _⟩ hl.1 (Nat.le_of_ble_eq_true rfl) rfl dX4_addCompressor_51 (fun H locs w => ?_)
      refine lv_aload_n hx hb dX4_addCompressor_54 rfl (lv_at hl 0 rfl) ?_
      refine gR_X4_state C w q1_16 dX4_addCompressor_55 ?_
      refine lv_iload_n hx hb dX4_addCompressor_58 rfl (lv_at hl 1 rfl) ?_
      obtain ⟨vv13, M7, J8, hv6, h⟩ := bd3_of h
      refine x_cVi (As := [.int x1]) (rest := []) C (Wd.ofS 0 w) (vS (show (0 : Nat) < 6 by decide) (by decide)) (cel_S (show (0 : Nat) < 6 by decide)) rfl (mtX3_install (show (0 : Nat) < 6 by decide) hv6) q9_8 q9_9 q9_10 q1_15 q9_11 ydX3_install ⟨rfl, rfl⟩ ⟨by decide, by decide⟩ ⟨Nat.zero_le _, Nat.zero_le _⟩ hl.1 (Nat.le_of_ble_eq_true rfl) rfl dX4_addCompressor_59 (fun H locs w => ?_)
      obtain ⟨G9, e11⟩ : ∃ z, z = sg G4 0 M7 := ⟨_, rfl⟩
      obtain ⟨K10, e12⟩ : ∃ z, z = sg K5 0 J8 := ⟨_, rfl⟩
      rw [← e11, ← e12] at w
      replace h := bnd_of h e11
      replace h := bnd_of h e12
      obtain ⟨e0, e1, e2, e3⟩ := rt4 h
      exact x_ti C w e0.symm e1 (by rw [e2]) (by rw [e3]) dX4_addCompressor_62
    · replace h := ite_f h c2
      obtain ⟨e0, e1, e2, e3⟩ := rt4 h
      exact x_thrG C w hst hno hl.1 (by rw [← e0]; decide) (by rw [← e0]; rfl) e2 e3 (by decide +kernel) q4_14 q4_15 (List.mem_of_getElem? (i := 5) rfl) thr_w2 thr_in2 thr_g2 dX4_addCompressor_33 dX4_addCompressor_36 dX4_addCompressor_37 dX4_addCompressor_39 dX4_addCompressor_42 (by decide) (by decide) (by decide) (by decide) (by decide) (by decide)
  · replace h := ite_f h (fun z => z c1)
    obtain ⟨e0, e1, e2, e3⟩ := rt4 h
    exact x_thrG C w hst hno hl.1 (by rw [← e0]; decide) (by rw [← e0]; rfl) e2 e3 (by decide +kernel) q4_12 q4_13 (List.mem_of_getElem? (i := 4) rfl) thr_w1 thr_in1 thr_g1 dX4_addCompressor_12 dX4_addCompressor_15 dX4_addCompressor_16 dX4_addCompressor_18 dX4_addCompressor_21 (by decide) (by decide) (by decide) (by decide) (by decide) (by decide)
theorem mtX4_addCompressor {tg : Nat} {rr : Int32} {GR : M3} {KR : J3}  (hst : l.stackTraces = false) {x1 : Int32}  (h : fX4_addCompressor F  x1 G K = some (tg, rr, GR, KR)) : XtI l yX4_addCompressor wdX4_addCompressor rmX4_addCompressor E [.ref (ad E 6 0), .int x1] G K tg rr GR KR := by
  intro sz
  refine vx_ofW (cc := cX4_addCompressor) (maxL := 2) (ret := (some .int)) (by decide) rfl ?_
  intro p e s m args below meth c s₁ B hml hno hv
  obtain ⟨rfl, C, w⟩ := Cx.of (own := RX4) B rfl hml hv
  have hl := lv_entry ([.ref (ad E 6 0), .int x1]) (n := 2) (by first | exact Nat.le_of_ble_eq_true rfl)
  rw [lg_entry_eq]
  generalize (lg_sl ([.ref (ad E 6 0), .int x1]) ++ List.replicate (2 - (lg_sl ([.ref (ad E 6 0), .int x1])).length) Slot.unset).toArray = ls at hl ⊢
  exact TX4_addCompressor C hst hno  h w hl
theorem ydX4_addCompressor : yX4_addCompressor.cls = RX4 ∧ yX4_addCompressor.cls ≠ "java/lang/invoke/MethodHandle" ∧ yX4_addCompressor.cls ≠ "java/lang/invoke/VarHandle" ∧ (parseMethodDescriptor yX4_addCompressor.desc).map (fun d => d.parameters.length) = some 1 := by decide +kernel
/-! X4.trip(I)I -/
abbrev rmX4_trip : Room := { frames := 6, cells := 1, slots := 6, locals := 86 }
abbrev wdX4_trip : Cond := Cond.code yX4_trip cX4_trip 4 (some .int)
noncomputable def fX4_trip (F : Nat)  (x1 : Int32) (G : M3) (K : J3) : Option (Nat × Int32 × M3 × J3) := (fX3_numbered (G 0) (K 0) x1).bind (fun vv2 => oc vv2 (some (3, (0 : Int32), G, K)) (fun z3 => chk (isC z3) ((if ¬ (G 0 z3 1) = (3 : Int32) then (bd2 (fX1_save F 0 G K) (fun G6 K7 => bd2 (fX0_fail z3 (G6 0) (K7 0)) (fun M9 J10 => bnd (sg G6 0 M9) (fun G11 => bnd (sg K7 0 J10) (fun K12 => some (0, (G6 0 z3 1), G11, K12)))))) else (some (2, (0 : Int32), G, K))))))
set_option maxRecDepth 20000 in
set_option maxHeartbeats 1000000 in
theorem TX4_trip {tg : Nat} {rr : Int32} {GR : M3} {KR : J3}  (C : Cx E A p s m args meth c wdX4_trip cX4_trip 4 (some .int) RX4) (hst : l.stackTraces = false) (hno : ∀ x ∈ c.exceptionTable.toList, False) {x1 : Int32}  (h : fX4_trip F  x1 G K = some (tg, rr, GR, KR)) (w : Wd E A s G K H locs) (hl : lv_has ls 4 [(0, .ref (ad E 6 0)), (1, .int x1)]) : W p l e rmX4_trip s m args below meth c H locs 0 0 (QTi E A below args s tg rr GR KR) (F0 m 0 ls []) := by
  obtain ⟨hx, hb, hr, hml, hown, hts, hlocks, hKK, hA1, hA2⟩ := id C
  unfold fX4_trip at h
  refine lv_aload_n hx hb dX4_trip_0 rfl (lv_at hl 0 rfl) ?_
  refine gR_X4_state C w q1_16 dX4_trip_1 ?_
  refine lv_iload_n hx hb dX4_trip_4 rfl (lv_at hl 1 rfl) ?_
  obtain ⟨vv2, hv1, h⟩ := bind_of h
  refine x_cVq (As := [.int x1]) (rest := []) C (Wd.ofS 0 w) (vS (show (0 : Nat) < 6 by decide) (by decide)) (cel_S (show (0 : Nat) < 6 by decide)) rfl (mtX3_numbered (show (0 : Nat) < 6 by decide) hv1) q10_11 q6_1 q6_2 q1_15 q6_3 ydX3_numbered ⟨rfl, rfl⟩ ⟨by decide, by decide⟩ ⟨Nat.zero_le _, Nat.zero_le _⟩ hl.1 (Nat.le_of_ble_eq_true rfl) rfl dX4_trip_5 (fun H locs w => ?_)
  have w := Wd.back w
  cases vv2 with
  | none =>
    replace h := oc_n h
    refine lv_astore_nN (lv' := [(2, .null), (0, .ref (ad E 6 0)), (1, .int x1)]) hx hb dX4_trip_8 rfl hl (by decide) rfl (fun ls hl => ?_)
    refine lv_aload_nN hx hb dX4_trip_9 rfl (lv_at hl 0 rfl) ?_
    refine lv_ifnonnullN hx hb dX4_trip_10 ?_
    obtain ⟨e0, e1, e2, e3⟩ := rt4 h
    exact x_thrG C w hst hno hl.1 (by rw [← e0]; decide) (by rw [← e0]; rfl) e2 e3 (by decide +kernel) q10_8 q10_9 (List.mem_of_getElem? (i := 6) rfl) thr_w3 thr_in3 thr_g3 dX4_trip_13 dX4_trip_16 dX4_trip_17 dX4_trip_19 dX4_trip_22 (by decide) (by decide) (by decide) (by decide) (by decide) (by decide)
  | some z3 =>
    replace h := oc_s h
    obtain ⟨hz3, h⟩ := chk_of h
    refine lv_astore_n (lv' := [(2, .ref (ad E 0 z3)), (0, .ref (ad E 6 0)), (1, .int x1)]) hx hb dX4_trip_8 rfl hl (by decide) rfl (fun ls hl => ?_)
    refine lv_aload_n hx hb dX4_trip_9 rfl (lv_at hl 0 rfl) ?_
    refine lv_ifnonnull (tgt := 23) hx hb dX4_trip_10 (by decide) ?_
    refine lv_aload_n hx hb dX4_trip_23 rfl (lv_at hl 0 rfl) ?_
    refine gG_X0_mode (show (0 : Nat) < 6 by decide) hz3 C w q10_10 dX4_trip_24 ?_
    refine lv_iconst (v := (3 : Int32)) hx hb dX4_trip_27 (by decide) ?_
    refine lv_icmp_ne (tgt := 41) hx hb dX4_trip_28 (by decide) (fun c4 => ?_) (fun c4 => ?_)
    · replace h := ite_t h c4
      refine lv_aload_n hx hb dX4_trip_41 rfl (lv_at hl 1 rfl) ?_
      refine gR_X4_history C w q1_21 dX4_trip_42 ?_
      refine lv_aload_n hx hb dX4_trip_45 rfl (lv_at hl 1 rfl) ?_
      refine gR_X4_state C w q1_16 dX4_trip_46 ?_
      obtain ⟨G6, K7, hv5, h⟩ := bd2_of h
      refine x_cVv (As := [.ref (ad E 0 0)]) (rest := []) C w (v6 (by decide)) cel_6 rfl (mtX1_save (show (0 : Nat) < 6 by decide) hv5) q5_1 q5_2 q5_3 q1_20 q5_4 ydX1_save ⟨rfl, rfl⟩ ⟨by decide, by decide⟩ ⟨Nat.zero_le _, Nat.zero_le _⟩ hl.1 (Nat.le_of_ble_eq_true rfl) rfl dX4_trip_49 (fun H locs w => ?_)
      refine lv_aload_n hx hb dX4_trip_52 rfl (lv_at hl 0 rfl) ?_
      refine gG_X0_mode (show (0 : Nat) < 6 by decide) hz3 C w q10_10 dX4_trip_53 ?_
      refine lv_istore_n (lv' := [(3, .int (G6 0 z3 1)), (2, .ref (ad E 0 z3)), (0, .ref (ad E 6 0)), (1, .int x1)]) hx hb dX4_trip_56 rfl hl (by decide) rfl (fun ls hl => ?_)
      refine lv_aload_n hx hb dX4_trip_57 rfl (lv_at hl 1 rfl) ?_
      obtain ⟨M9, J10, hv8, h⟩ := bd2_of h
      refine x_cVv (As := []) (rest := []) C (Wd.ofS 0 w) (vC (show (0 : Nat) < 6 by decide) hz3) (cel_C (show (0 : Nat) < 6 by decide) hz3.1) rfl (mtX0_fail (show (0 : Nat) < 6 by decide) hz3 hv8) q10_12 q10_13 q10_14 q2_19 q10_15 ydX0_fail ⟨rfl, rfl⟩ ⟨by decide, by decide⟩ ⟨Nat.zero_le _, Nat.zero_le _⟩ hl.1 (Nat.le_of_ble_eq_true rfl) rfl dX4_trip_58 (fun H locs w => ?_)
      obtain ⟨G11, e13⟩ : ∃ z, z = sg G6 0 M9 := ⟨_, rfl⟩
      obtain ⟨K12, e14⟩ : ∃ z, z = sg K7 0 J10 := ⟨_, rfl⟩
      rw [← e13, ← e14] at w
      replace h := bnd_of h e13
      replace h := bnd_of h e14
      refine lv_iload_n hx hb dX4_trip_61 rfl (lv_at hl 0 rfl) ?_
      obtain ⟨e0, e1, e2, e3⟩ := rt4 h
      exact x_ti C w e0.symm e1 (by rw [e2]) (by rw [e3]) dX4_trip_62
    · replace h := ite_f h (fun z => z c4)
      obtain ⟨e0, e1, e2, e3⟩ := rt4 h
      exact x_thrG C w hst hno hl.1 (by rw [← e0]; decide) (by rw [← e0]; rfl) e2 e3 (by decide +kernel) q4_14 q4_15 (List.mem_of_getElem? (i := 7) rfl) thr_w2 thr_in2 thr_g2 dX4_trip_31 dX4_trip_34 dX4_trip_35 dX4_trip_37 dX4_trip_40 (by decide) (by decide) (by decide) (by decide) (by decide) (by decide)
theorem mtX4_trip {tg : Nat} {rr : Int32} {GR : M3} {KR : J3}  (hst : l.stackTraces = false) {x1 : Int32}  (h : fX4_trip F  x1 G K = some (tg, rr, GR, KR)) : XtI l yX4_trip wdX4_trip rmX4_trip E [.ref (ad E 6 0), .int x1] G K tg rr GR KR := by
  intro sz
  refine vx_ofW (cc := cX4_trip) (maxL := 4) (ret := (some .int)) (by decide) rfl ?_
  intro p e s m args below meth c s₁ B hml hno hv
  obtain ⟨rfl, C, w⟩ := Cx.of (own := RX4) B rfl hml hv
  have hl := lv_entry ([.ref (ad E 6 0), .int x1]) (n := 4) (by first | exact Nat.le_of_ble_eq_true rfl)
  rw [lg_entry_eq]
  generalize (lg_sl ([.ref (ad E 6 0), .int x1]) ++ List.replicate (4 - (lg_sl ([.ref (ad E 6 0), .int x1])).length) Slot.unset).toArray = ls at hl ⊢
  exact TX4_trip C hst hno  h w hl
theorem ydX4_trip : yX4_trip.cls = RX4 ∧ yX4_trip.cls ≠ "java/lang/invoke/MethodHandle" ∧ yX4_trip.cls ≠ "java/lang/invoke/VarHandle" ∧ (parseMethodDescriptor yX4_trip.desc).map (fun d => d.parameters.length) = some 1 := by decide +kernel
/-! X4.clear(I)I -/
abbrev rmX4_clear : Room := { frames := 6, cells := 1, slots := 6, locals := 86 }
abbrev wdX4_clear : Cond := Cond.code yX4_clear cX4_clear 3 (some .int)
noncomputable def fX4_clear (F : Nat)  (x1 : Int32) (G : M3) (K : J3) : Option (Nat × Int32 × M3 × J3) := (fX3_numbered (G 0) (K 0) x1).bind (fun vv2 => oc vv2 (some (3, (0 : Int32), G, K)) (fun z3 => chk (isC z3) ((if (G 0 z3 1) = (3 : Int32) then (bd2 (fX1_save F 0 G K) (fun G6 K7 => bd2 (fX0_stop z3 (G6 0 1 4) (G6 0) (K7 0)) (fun M9 J10 => bnd (sg G6 0 M9) (fun G11 => bnd (sg K7 0 J10) (fun K12 => some (0, (G11 0 z3 2), G11, K12)))))) else (some (2, (0 : Int32), G, K))))))
set_option maxRecDepth 20000 in
set_option maxHeartbeats 1000000 in
theorem TX4_clear {tg : Nat} {rr : Int32} {GR : M3} {KR : J3}  (C : Cx E A p s m args meth c wdX4_clear cX4_clear 3 (some .int) RX4) (hst : l.stackTraces = false) (hno : ∀ x ∈ c.exceptionTable.toList, False) {x1 : Int32}  (h : fX4_clear F  x1 G K = some (tg, rr, GR, KR)) (w : Wd E A s G K H locs) (hl : lv_has ls 3 [(0, .ref (ad E 6 0)), (1, .int x1)]) : W p l e rmX4_clear s m args below meth c H locs 0 0 (QTi E A below args s tg rr GR KR) (F0 m 0 ls []) := by
  obtain ⟨hx, hb, hr, hml, hown, hts, hlocks, hKK, hA1, hA2⟩ := id C
  unfold fX4_clear at h
  refine lv_aload_n hx hb dX4_clear_0 rfl (lv_at hl 0 rfl) ?_
  refine gR_X4_state C w q1_16 dX4_clear_1 ?_
  refine lv_iload_n hx hb dX4_clear_4 rfl (lv_at hl 1 rfl) ?_
  obtain ⟨vv2, hv1, h⟩ := bind_of h
  refine x_cVq (As := [.int x1]) (rest := []) C (Wd.ofS 0 w) (vS (show (0 : Nat) < 6 by decide) (by decide)) (cel_S (show (0 : Nat) < 6 by decide)) rfl (mtX3_numbered (show (0 : Nat) < 6 by decide) hv1) q10_11 q6_1 q6_2 q1_15 q6_3 ydX3_numbered ⟨rfl, rfl⟩ ⟨by decide, by decide⟩ ⟨Nat.zero_le _, Nat.zero_le _⟩ hl.1 (Nat.le_of_ble_eq_true rfl) rfl dX4_clear_5 (fun H locs w => ?_)
  have w := Wd.back w
  cases vv2 with
  | none =>
    replace h := oc_n h
    refine lv_astore_nN (lv' := [(2, .null), (0, .ref (ad E 6 0)), (1, .int x1)]) hx hb dX4_clear_8 rfl hl (by decide) rfl (fun ls hl => ?_)
    refine lv_aload_nN hx hb dX4_clear_9 rfl (lv_at hl 0 rfl) ?_
    refine lv_ifnonnullN hx hb dX4_clear_10 ?_
    obtain ⟨e0, e1, e2, e3⟩ := rt4 h
    exact x_thrG C w hst hno hl.1 (by rw [← e0]; decide) (by rw [← e0]; rfl) e2 e3 (by decide +kernel) q10_8 q10_9 (List.mem_of_getElem? (i := 6) rfl) thr_w3 thr_in3 thr_g3 dX4_clear_13 dX4_clear_16 dX4_clear_17 dX4_clear_19 dX4_clear_22 (by decide) (by decide) (by decide) (by decide) (by decide) (by decide)
  | some z3 =>
    replace h := oc_s h
    obtain ⟨hz3, h⟩ := chk_of h
    refine lv_astore_n (lv' := [(2, .ref (ad E 0 z3)), (0, .ref (ad E 6 0)), (1, .int x1)]) hx hb dX4_clear_8 rfl hl (by decide) rfl (fun ls hl => ?_)
    refine lv_aload_n hx hb dX4_clear_9 rfl (lv_at hl 0 rfl) ?_
    refine lv_ifnonnull (tgt := 23) hx hb dX4_clear_10 (by decide) ?_
    refine lv_aload_n hx hb dX4_clear_23 rfl (lv_at hl 0 rfl) ?_
    refine gG_X0_mode (show (0 : Nat) < 6 by decide) hz3 C w q10_10 dX4_clear_24 ?_
    refine lv_iconst (v := (3 : Int32)) hx hb dX4_clear_27 (by decide) ?_
    refine lv_icmp_eq (tgt := 41) hx hb dX4_clear_28 (by decide) (fun c4 => ?_) (fun c4 => ?_)
    · replace h := ite_t h c4
      refine lv_aload_n hx hb dX4_clear_41 rfl (lv_at hl 1 rfl) ?_
      refine gR_X4_history C w q1_21 dX4_clear_42 ?_
      refine lv_aload_n hx hb dX4_clear_45 rfl (lv_at hl 1 rfl) ?_
      refine gR_X4_state C w q1_16 dX4_clear_46 ?_
      obtain ⟨G6, K7, hv5, h⟩ := bd2_of h
      refine x_cVv (As := [.ref (ad E 0 0)]) (rest := []) C w (v6 (by decide)) cel_6 rfl (mtX1_save (show (0 : Nat) < 6 by decide) hv5) q5_1 q5_2 q5_3 q1_20 q5_4 ydX1_save ⟨rfl, rfl⟩ ⟨by decide, by decide⟩ ⟨Nat.zero_le _, Nat.zero_le _⟩ hl.1 (Nat.le_of_ble_eq_true rfl) rfl dX4_clear_49 (fun H locs w => ?_)
      refine lv_aload_n hx hb dX4_clear_52 rfl (lv_at hl 0 rfl) ?_
      refine lv_aload_n hx hb dX4_clear_53 rfl (lv_at hl 1 rfl) ?_
      refine gR_X4_state C w q1_16 dX4_clear_54 ?_
      refine gR_X3_settings (show (0 : Nat) < 6 by decide) C w q4_17 dX4_clear_57 ?_
      refine lv_iconst (v := (4 : Int32)) hx hb dX4_clear_60 (by decide) ?_
      refine x_aldI C w (vS (show (0 : Nat) < 6 by decide) (by decide)) (cS1 (show (0 : Nat) < 6 by decide)) (inb_k (k := 4) (by decide) (by decide)) cl_4 dX4_clear_61 ?_
      obtain ⟨M9, J10, hv8, h⟩ := bd2_of h
      refine x_cVv (As := [.int (G6 0 1 4)]) (rest := []) C (Wd.ofS 0 w) (vC (show (0 : Nat) < 6 by decide) hz3) (cel_C (show (0 : Nat) < 6 by decide) hz3.1) rfl (mtX0_stop (show (0 : Nat) < 6 by decide) hz3 hv8) q11_21 q11_22 q11_23 q2_19 q12_0 ydX0_stop ⟨rfl, rfl⟩ ⟨by decide, by decide⟩ ⟨Nat.zero_le _, Nat.zero_le _⟩ hl.1 (Nat.le_of_ble_eq_true rfl) rfl dX4_clear_62 (fun H locs w => ?_)
      obtain ⟨G11, e13⟩ : ∃ z, z = sg G6 0 M9 := ⟨_, rfl⟩
      obtain ⟨K12, e14⟩ : ∃ z, z = sg K7 0 J10 := ⟨_, rfl⟩
      rw [← e13, ← e14] at w
      replace h := bnd_of h e13
      replace h := bnd_of h e14
      refine lv_aload_n hx hb dX4_clear_65 rfl (lv_at hl 0 rfl) ?_
      refine gG_X0_stage (show (0 : Nat) < 6 by decide) hz3 C w q11_20 dX4_clear_66 ?_
      obtain ⟨e0, e1, e2, e3⟩ := rt4 h
      exact x_ti C w e0.symm e1 (by rw [e2]) (by rw [e3]) dX4_clear_69
    · replace h := ite_f h c4
      obtain ⟨e0, e1, e2, e3⟩ := rt4 h
      exact x_thrG C w hst hno hl.1 (by rw [← e0]; decide) (by rw [← e0]; rfl) e2 e3 (by decide +kernel) q4_14 q4_15 (List.mem_of_getElem? (i := 8) rfl) thr_w2 thr_in2 thr_g2 dX4_clear_31 dX4_clear_34 dX4_clear_35 dX4_clear_37 dX4_clear_40 (by decide) (by decide) (by decide) (by decide) (by decide) (by decide)
theorem mtX4_clear {tg : Nat} {rr : Int32} {GR : M3} {KR : J3}  (hst : l.stackTraces = false) {x1 : Int32}  (h : fX4_clear F  x1 G K = some (tg, rr, GR, KR)) : XtI l yX4_clear wdX4_clear rmX4_clear E [.ref (ad E 6 0), .int x1] G K tg rr GR KR := by
  intro sz
  refine vx_ofW (cc := cX4_clear) (maxL := 3) (ret := (some .int)) (by decide) rfl ?_
  intro p e s m args below meth c s₁ B hml hno hv
  obtain ⟨rfl, C, w⟩ := Cx.of (own := RX4) B rfl hml hv
  have hl := lv_entry ([.ref (ad E 6 0), .int x1]) (n := 3) (by first | exact Nat.le_of_ble_eq_true rfl)
  rw [lg_entry_eq]
  generalize (lg_sl ([.ref (ad E 6 0), .int x1]) ++ List.replicate (3 - (lg_sl ([.ref (ad E 6 0), .int x1])).length) Slot.unset).toArray = ls at hl ⊢
  exact TX4_clear C hst hno  h w hl
theorem ydX4_clear : yX4_clear.cls = RX4 ∧ yX4_clear.cls ≠ "java/lang/invoke/MethodHandle" ∧ yX4_clear.cls ≠ "java/lang/invoke/VarHandle" ∧ (parseMethodDescriptor yX4_clear.desc).map (fun d => d.parameters.length) = some 1 := by decide +kernel
/-! X4.pass(I)I -/
abbrev rmX4_pass : Room := { frames := 6, cells := 1, slots := 6, locals := 126 }
abbrev wdX4_pass : Cond := Cond.code yX4_pass cX4_pass 2 (some .int)
noncomputable def fX4_pass (F : Nat)  (x1 : Int32) (G : M3) (K : J3) : Option (Nat × Int32 × M3 × J3) := (if ¬ (fX4_isWithin x1 (1 : Int32) (600 : Int32)) = 0 then ((if ¬ (fX3_hasTimeFor (G 0) (K 0) x1) = 0 then (bd2 (fX1_save F 0 G K) (fun G4 K5 => bd2 (fX3_runMinutes F x1 (G4 0) (K5 0)) (fun M7 J8 => bnd (sg G4 0 M7) (fun G9 => bnd (sg K5 0 J8) (fun K10 => (fX3_pressure (G9 0) (K10 0)).bind (fun vv14 => some (0, vv14, G9, K10))))))) else (some (2, (0 : Int32), G, K)))) else (some (1, (0 : Int32), G, K)))
set_option maxRecDepth 20000 in
set_option maxHeartbeats 1000000 in
theorem TX4_pass {tg : Nat} {rr : Int32} {GR : M3} {KR : J3}  (C : Cx E A p s m args meth c wdX4_pass cX4_pass 2 (some .int) RX4) (hst : l.stackTraces = false) (hno : ∀ x ∈ c.exceptionTable.toList, False) {x1 : Int32}  (h : fX4_pass F  x1 G K = some (tg, rr, GR, KR)) (w : Wd E A s G K H locs) (hl : lv_has ls 2 [(0, .ref (ad E 6 0)), (1, .int x1)]) : W p l e rmX4_pass s m args below meth c H locs 0 0 (QTi E A below args s tg rr GR KR) (F0 m 0 ls []) := by
  obtain ⟨hx, hb, hr, hml, hown, hts, hlocks, hKK, hA1, hA2⟩ := id C
  unfold fX4_pass at h
  refine lv_iload_n hx hb dX4_pass_0 rfl (lv_at hl 1 rfl) ?_
  refine lv_iconst (v := (1 : Int32)) hx hb dX4_pass_1 (by decide) ?_
  refine lv_sipush (v := (600 : Int32)) hx hb dX4_pass_2 (by decide) ?_
  refine x_cSi (As := [.int x1, .int (1 : Int32), .int (600 : Int32)]) (rest := []) C w (mtX4_isWithin ) q4_19 q4_20 q1_2 q4_21 ydX4_isWithin ⟨rfl, rfl⟩ ⟨by decide, by decide⟩ ⟨Nat.zero_le _, Nat.zero_le _⟩ hl.1 (Nat.le_of_ble_eq_true rfl) rfl dX4_pass_5 (fun H locs w => ?_)
  refine lv_if_ne (tgt := 21) hx hb dX4_pass_8 (by decide) (fun c1 => ?_) (fun c1 => ?_)
  · replace h := ite_t h c1
    refine lv_aload_n hx hb dX4_pass_21 rfl (lv_at hl 0 rfl) ?_
    refine gR_X4_state C w q1_16 dX4_pass_22 ?_
    refine lv_iload_n hx hb dX4_pass_25 rfl (lv_at hl 1 rfl) ?_
    refine x_cVi (As := [.int x1]) (rest := []) C (Wd.ofS 0 w) (vS (show (0 : Nat) < 6 by decide) (by decide)) (cel_S (show (0 : Nat) < 6 by decide)) rfl (mtX3_hasTimeFor (show (0 : Nat) < 6 by decide)) q13_22 q13_23 q14_0 q1_15 q14_1 ydX3_hasTimeFor ⟨rfl, rfl⟩ ⟨by decide, by decide⟩ ⟨Nat.zero_le _, Nat.zero_le _⟩ hl.1 (Nat.le_of_ble_eq_true rfl) rfl dX4_pass_26 (fun H locs w => ?_)
    have w := Wd.back w
    refine lv_if_ne (tgt := 42) hx hb dX4_pass_29 (by decide) (fun c2 => ?_) (fun c2 => ?_)
    · replace h := ite_t h c2
      refine lv_aload_n hx hb dX4_pass_42 rfl (lv_at hl 0 rfl) ?_
      refine gR_X4_history C w q1_21 dX4_pass_43 ?_
      refine lv_aload_n hx hb dX4_pass_46 rfl (lv_at hl 0 rfl) ?_
      refine gR_X4_state C w q1_16 dX4_pass_47 ?_
      obtain ⟨G4, K5, hv3, h⟩ := bd2_of h
      refine x_cVv (As := [.ref (ad E 0 0)]) (rest := []) C w (v6 (by decide)) cel_6 rfl (mtX1_save (show (0 : Nat) < 6 by decide) hv3) q5_1 q5_2 q5_3 q1_20 q5_4 ydX1_save ⟨rfl, rfl⟩ ⟨by decide, by decide⟩ ⟨Nat.zero_le _, Nat.zero_le _⟩ hl.1 (Nat.le_of_ble_eq_true rfl) rfl dX4_pass_50 (fun H locs w => ?_)
      refine lv_aload_n hx hb dX4_pass_53 rfl (lv_at hl 0 rfl) ?_
      refine gR_X4_state C w q1_16 dX4_pass_54 ?_
      refine lv_iload_n hx hb dX4_pass_57 rfl (lv_at hl 1 rfl) ?_
      obtain ⟨M7, J8, hv6, h⟩ := bd2_of h
      refine x_cVv (As := [.int x1]) (rest := []) C (Wd.ofS 0 w) (vS (show (0 : Nat) < 6 by decide) (by decide)) (cel_S (show (0 : Nat) < 6 by decide)) rfl (mtX3_runMinutes (show (0 : Nat) < 6 by decide) hv6) q14_3 q14_4 q14_5 q1_15 q14_6 ydX3_runMinutes ⟨rfl, rfl⟩ ⟨by decide, by decide⟩ ⟨Nat.zero_le _, Nat.zero_le _⟩ hl.1 (Nat.le_of_ble_eq_true rfl) rfl dX4_pass_58 (fun H locs w => ?_)
      obtain ⟨G9, e11⟩ : ∃ z, z = sg G4 0 M7 := ⟨_, rfl⟩
      obtain ⟨K10, e12⟩ : ∃ z, z = sg K5 0 J8 := ⟨_, rfl⟩
      rw [← e11, ← e12] at w
      replace h := bnd_of h e11
      replace h := bnd_of h e12
      refine lv_aload_n hx hb dX4_pass_61 rfl (lv_at hl 0 rfl) ?_
      refine gR_X4_state C w q1_16 dX4_pass_62 ?_
      obtain ⟨vv14, hv13, h⟩ := bind_of h
      refine x_cVi (As := []) (rest := []) C (Wd.ofS 0 w) (vS (show (0 : Nat) < 6 by decide) (by decide)) (cel_S (show (0 : Nat) < 6 by decide)) rfl (mtX3_pressure (show (0 : Nat) < 6 by decide) hv13) q6_16 q6_17 q6_18 q1_15 q6_19 ydX3_pressure ⟨rfl, rfl⟩ ⟨by decide, by decide⟩ ⟨Nat.zero_le _, Nat.zero_le _⟩ hl.1 (Nat.le_of_ble_eq_true rfl) rfl dX4_pass_65 (fun H locs w => ?_)
      have w := Wd.back w
      obtain ⟨e0, e1, e2, e3⟩ := rt4 h
      exact x_ti C w e0.symm e1 (by rw [e2]) (by rw [e3]) dX4_pass_68
    · replace h := ite_f h (fun z => z c2)
      obtain ⟨e0, e1, e2, e3⟩ := rt4 h
      exact x_thrG C w hst hno hl.1 (by rw [← e0]; decide) (by rw [← e0]; rfl) e2 e3 (by decide +kernel) q4_14 q4_15 (List.mem_of_getElem? (i := 10) rfl) thr_w2 thr_in2 thr_g2 dX4_pass_32 dX4_pass_35 dX4_pass_36 dX4_pass_38 dX4_pass_41 (by decide) (by decide) (by decide) (by decide) (by decide) (by decide)
  · replace h := ite_f h (fun z => z c1)
    obtain ⟨e0, e1, e2, e3⟩ := rt4 h
    exact x_thrG C w hst hno hl.1 (by rw [← e0]; decide) (by rw [← e0]; rfl) e2 e3 (by decide +kernel) q4_12 q4_13 (List.mem_of_getElem? (i := 9) rfl) thr_w1 thr_in1 thr_g1 dX4_pass_11 dX4_pass_14 dX4_pass_15 dX4_pass_17 dX4_pass_20 (by decide) (by decide) (by decide) (by decide) (by decide) (by decide)
theorem mtX4_pass {tg : Nat} {rr : Int32} {GR : M3} {KR : J3}  (hst : l.stackTraces = false) {x1 : Int32}  (h : fX4_pass F  x1 G K = some (tg, rr, GR, KR)) : XtI l yX4_pass wdX4_pass rmX4_pass E [.ref (ad E 6 0), .int x1] G K tg rr GR KR := by
  intro sz
  refine vx_ofW (cc := cX4_pass) (maxL := 2) (ret := (some .int)) (by decide) rfl ?_
  intro p e s m args below meth c s₁ B hml hno hv
  obtain ⟨rfl, C, w⟩ := Cx.of (own := RX4) B rfl hml hv
  have hl := lv_entry ([.ref (ad E 6 0), .int x1]) (n := 2) (by first | exact Nat.le_of_ble_eq_true rfl)
  rw [lg_entry_eq]
  generalize (lg_sl ([.ref (ad E 6 0), .int x1]) ++ List.replicate (2 - (lg_sl ([.ref (ad E 6 0), .int x1])).length) Slot.unset).toArray = ls at hl ⊢
  exact TX4_pass C hst hno  h w hl
theorem ydX4_pass : yX4_pass.cls = RX4 ∧ yX4_pass.cls ≠ "java/lang/invoke/MethodHandle" ∧ yX4_pass.cls ≠ "java/lang/invoke/VarHandle" ∧ (parseMethodDescriptor yX4_pass.desc).map (fun d => d.parameters.length) = some 1 := by decide +kernel
/-! X4.leakTest(I)I -/
abbrev rmX4_leakTest : Room := { frames := 6, cells := 1, slots := 6, locals := 105 }
abbrev wdX4_leakTest : Cond := Cond.code yX4_leakTest cX4_leakTest 2 (some .int)
noncomputable def fX4_leakTest (F : Nat)  (x1 : Int32) (G : M3) (K : J3) : Option (Nat × Int32 × M3 × J3) := (if ¬ (fX4_isWithin x1 (1 : Int32) (60 : Int32)) = 0 then ((if ¬ (fX3_hasTimeFor (G 0) (K 0) x1) = 0 then (bd2 (fX1_save F 0 G K) (fun G4 K5 => bd3 (fX3_runLeakTest F x1 (G4 0) (K5 0)) (fun vv13 M7 J8 => bnd (sg G4 0 M7) (fun G9 => bnd (sg K5 0 J8) (fun K10 => some (0, vv13, G9, K10)))))) else (some (2, (0 : Int32), G, K)))) else (some (1, (0 : Int32), G, K)))
set_option maxRecDepth 20000 in
set_option maxHeartbeats 1000000 in
theorem TX4_leakTest {tg : Nat} {rr : Int32} {GR : M3} {KR : J3}  (C : Cx E A p s m args meth c wdX4_leakTest cX4_leakTest 2 (some .int) RX4) (hst : l.stackTraces = false) (hno : ∀ x ∈ c.exceptionTable.toList, False) {x1 : Int32}  (h : fX4_leakTest F  x1 G K = some (tg, rr, GR, KR)) (w : Wd E A s G K H locs) (hl : lv_has ls 2 [(0, .ref (ad E 6 0)), (1, .int x1)]) : W p l e rmX4_leakTest s m args below meth c H locs 0 0 (QTi E A below args s tg rr GR KR) (F0 m 0 ls []) := by
  obtain ⟨hx, hb, hr, hml, hown, hts, hlocks, hKK, hA1, hA2⟩ := id C
  unfold fX4_leakTest at h
  refine lv_iload_n hx hb dX4_leakTest_0 rfl (lv_at hl 1 rfl) ?_
  refine lv_iconst (v := (1 : Int32)) hx hb dX4_leakTest_1 (by decide) ?_
  refine lv_bipush (v := (60 : Int32)) hx hb dX4_leakTest_2 (by decide) ?_
  refine x_cSi (As := [.int x1, .int (1 : Int32), .int (60 : Int32)]) (rest := []) C w (mtX4_isWithin ) q4_19 q4_20 q1_2 q4_21 ydX4_isWithin ⟨rfl, rfl⟩ ⟨by decide, by decide⟩ ⟨Nat.zero_le _, Nat.zero_le _⟩ hl.1 (Nat.le_of_ble_eq_true rfl) rfl dX4_leakTest_4 (fun H locs w => ?_)
  refine lv_if_ne (tgt := 20) hx hb dX4_leakTest_7 (by decide) (fun c1 => ?_) (fun c1 => ?_)
  · replace h := ite_t h c1
    refine lv_aload_n hx hb dX4_leakTest_20 rfl (lv_at hl 0 rfl) ?_
    refine gR_X4_state C w q1_16 dX4_leakTest_21 ?_
    refine lv_iload_n hx hb dX4_leakTest_24 rfl (lv_at hl 1 rfl) ?_
    refine x_cVi (As := [.int x1]) (rest := []) C (Wd.ofS 0 w) (vS (show (0 : Nat) < 6 by decide) (by decide)) (cel_S (show (0 : Nat) < 6 by decide)) rfl (mtX3_hasTimeFor (show (0 : Nat) < 6 by decide)) q13_22 q13_23 q14_0 q1_15 q14_1 ydX3_hasTimeFor ⟨rfl, rfl⟩ ⟨by decide, by decide⟩ ⟨Nat.zero_le _, Nat.zero_le _⟩ hl.1 (Nat.le_of_ble_eq_true rfl) rfl dX4_leakTest_25 (fun H locs w => ?_)
    have w := Wd.back w
    refine lv_if_ne (tgt := 41) hx hb dX4_leakTest_28 (by decide) (fun c2 => ?_) (fun c2 => ?_)
    · replace h := ite_t h c2
      refine lv_aload_n hx hb dX4_leakTest_41 rfl (lv_at hl 0 rfl) ?_
      refine gR_X4_history C w q1_21 dX4_leakTest_42 ?_
      refine lv_aload_n hx hb dX4_leakTest_45 rfl (lv_at hl 0 rfl) ?_
      refine gR_X4_state C w q1_16 dX4_leakTest_46 ?_
      obtain ⟨G4, K5, hv3, h⟩ := bd2_of h
      refine x_cVv (As := [.ref (ad E 0 0)]) (rest := []) C w (v6 (by decide)) cel_6 rfl (mtX1_save (show (0 : Nat) < 6 by decide) hv3) q5_1 q5_2 q5_3 q1_20 q5_4 ydX1_save ⟨rfl, rfl⟩ ⟨by decide, by decide⟩ ⟨Nat.zero_le _, Nat.zero_le _⟩ hl.1 (Nat.le_of_ble_eq_true rfl) rfl dX4_leakTest_49 (fun H locs w => ?_)
      refine lv_aload_n hx hb dX4_leakTest_52 rfl (lv_at hl 0 rfl) ?_
      refine gR_X4_state C w q1_16 dX4_leakTest_53 ?_
      refine lv_iload_n hx hb dX4_leakTest_56 rfl (lv_at hl 1 rfl) ?_
      obtain ⟨vv13, M7, J8, hv6, h⟩ := bd3_of h
      refine x_cVi (As := [.int x1]) (rest := []) C (Wd.ofS 0 w) (vS (show (0 : Nat) < 6 by decide) (by decide)) (cel_S (show (0 : Nat) < 6 by decide)) rfl (mtX3_runLeakTest (show (0 : Nat) < 6 by decide) hv6) q18_9 q18_10 q18_11 q1_15 q18_12 ydX3_runLeakTest ⟨rfl, rfl⟩ ⟨by decide, by decide⟩ ⟨Nat.zero_le _, Nat.zero_le _⟩ hl.1 (Nat.le_of_ble_eq_true rfl) rfl dX4_leakTest_57 (fun H locs w => ?_)
      obtain ⟨G9, e11⟩ : ∃ z, z = sg G4 0 M7 := ⟨_, rfl⟩
      obtain ⟨K10, e12⟩ : ∃ z, z = sg K5 0 J8 := ⟨_, rfl⟩
      rw [← e11, ← e12] at w
      replace h := bnd_of h e11
      replace h := bnd_of h e12
      obtain ⟨e0, e1, e2, e3⟩ := rt4 h
      exact x_ti C w e0.symm e1 (by rw [e2]) (by rw [e3]) dX4_leakTest_60
    · replace h := ite_f h (fun z => z c2)
      obtain ⟨e0, e1, e2, e3⟩ := rt4 h
      exact x_thrG C w hst hno hl.1 (by rw [← e0]; decide) (by rw [← e0]; rfl) e2 e3 (by decide +kernel) q4_14 q4_15 (List.mem_of_getElem? (i := 10) rfl) thr_w2 thr_in2 thr_g2 dX4_leakTest_31 dX4_leakTest_34 dX4_leakTest_35 dX4_leakTest_37 dX4_leakTest_40 (by decide) (by decide) (by decide) (by decide) (by decide) (by decide)
  · replace h := ite_f h (fun z => z c1)
    obtain ⟨e0, e1, e2, e3⟩ := rt4 h
    exact x_thrG C w hst hno hl.1 (by rw [← e0]; decide) (by rw [← e0]; rfl) e2 e3 (by decide +kernel) q4_12 q4_13 (List.mem_of_getElem? (i := 9) rfl) thr_w1 thr_in1 thr_g1 dX4_leakTest_10 dX4_leakTest_13 dX4_leakTest_14 dX4_leakTest_16 dX4_leakTest_19 (by decide) (by decide) (by decide) (by decide) (by decide) (by decide)
theorem mtX4_leakTest {tg : Nat} {rr : Int32} {GR : M3} {KR : J3}  (hst : l.stackTraces = false) {x1 : Int32}  (h : fX4_leakTest F  x1 G K = some (tg, rr, GR, KR)) : XtI l yX4_leakTest wdX4_leakTest rmX4_leakTest E [.ref (ad E 6 0), .int x1] G K tg rr GR KR := by
  intro sz
  refine vx_ofW (cc := cX4_leakTest) (maxL := 2) (ret := (some .int)) (by decide) rfl ?_
  intro p e s m args below meth c s₁ B hml hno hv
  obtain ⟨rfl, C, w⟩ := Cx.of (own := RX4) B rfl hml hv
  have hl := lv_entry ([.ref (ad E 6 0), .int x1]) (n := 2) (by first | exact Nat.le_of_ble_eq_true rfl)
  rw [lg_entry_eq]
  generalize (lg_sl ([.ref (ad E 6 0), .int x1]) ++ List.replicate (2 - (lg_sl ([.ref (ad E 6 0), .int x1])).length) Slot.unset).toArray = ls at hl ⊢
  exact TX4_leakTest C hst hno  h w hl
theorem ydX4_leakTest : yX4_leakTest.cls = RX4 ∧ yX4_leakTest.cls ≠ "java/lang/invoke/MethodHandle" ∧ yX4_leakTest.cls ≠ "java/lang/invoke/VarHandle" ∧ (parseMethodDescriptor yX4_leakTest.desc).map (fun d => d.parameters.length) = some 1 := by decide +kernel
/-! X4.compressor(II)I -/
abbrev rmX4_compressor : Room := { frames := 6, cells := 1, slots := 6, locals := 82 }
abbrev wdX4_compressor : Cond := Cond.code yX4_compressor cX4_compressor 4 (some .int)
noncomputable def fX4_compressor  (x1 : Int32) (x2 : Int32) (G : M3) (K : J3) : Option (Nat × Int32 × M3 × J3) := (fX3_numbered (G 0) (K 0) x1).bind (fun vv2 => oc vv2 (some (3, (0 : Int32), G, K)) (fun z3 => chk (isC z3) ((if ¬ (fX4_isWithin x2 (0 : Int32) (9 : Int32)) = 0 then (some (0, (fX3_numberAbout (G 0) (K 0) z3 x2), G, K)) else (some (1, (0 : Int32), G, K))))))
set_option maxRecDepth 20000 in
set_option maxHeartbeats 1000000 in
theorem TX4_compressor {tg : Nat} {rr : Int32} {GR : M3} {KR : J3}  (C : Cx E A p s m args meth c wdX4_compressor cX4_compressor 4 (some .int) RX4) (hst : l.stackTraces = false) (hno : ∀ x ∈ c.exceptionTable.toList, False) {x1 : Int32} {x2 : Int32}  (h : fX4_compressor  x1 x2 G K = some (tg, rr, GR, KR)) (w : Wd E A s G K H locs) (hl : lv_has ls 4 [(0, .ref (ad E 6 0)), (1, .int x1), (2, .int x2)]) : W p l e rmX4_compressor s m args below meth c H locs 0 0 (QTi E A below args s tg rr GR KR) (F0 m 0 ls []) := by
  obtain ⟨hx, hb, hr, hml, hown, hts, hlocks, hKK, hA1, hA2⟩ := id C
  unfold fX4_compressor at h
  refine lv_aload_n hx hb dX4_compressor_0 rfl (lv_at hl 0 rfl) ?_
  refine gR_X4_state C w q1_16 dX4_compressor_1 ?_
  refine lv_iload_n hx hb dX4_compressor_4 rfl (lv_at hl 1 rfl) ?_
  obtain ⟨vv2, hv1, h⟩ := bind_of h
  refine x_cVq (As := [.int x1]) (rest := []) C (Wd.ofS 0 w) (vS (show (0 : Nat) < 6 by decide) (by decide)) (cel_S (show (0 : Nat) < 6 by decide)) rfl (mtX3_numbered (show (0 : Nat) < 6 by decide) hv1) q10_11 q6_1 q6_2 q1_15 q6_3 ydX3_numbered ⟨rfl, rfl⟩ ⟨by decide, by decide⟩ ⟨Nat.zero_le _, Nat.zero_le _⟩ hl.1 (Nat.le_of_ble_eq_true rfl) rfl dX4_compressor_5 (fun H locs w => ?_)
  have w := Wd.back w
  cases vv2 with
  | none =>
    replace h := oc_n h
    refine lv_astore_nN (lv' := [(3, .null), (0, .ref (ad E 6 0)), (1, .int x1), (2, .int x2)]) hx hb dX4_compressor_8 rfl hl (by decide) rfl (fun ls hl => ?_)
    refine lv_aload_nN hx hb dX4_compressor_9 rfl (lv_at hl 0 rfl) ?_
    refine lv_ifnonnullN hx hb dX4_compressor_10 ?_
    obtain ⟨e0, e1, e2, e3⟩ := rt4 h
    exact x_thrG C w hst hno hl.1 (by rw [← e0]; decide) (by rw [← e0]; rfl) e2 e3 (by decide +kernel) q10_8 q10_9 (List.mem_of_getElem? (i := 6) rfl) thr_w3 thr_in3 thr_g3 dX4_compressor_13 dX4_compressor_16 dX4_compressor_17 dX4_compressor_19 dX4_compressor_22 (by decide) (by decide) (by decide) (by decide) (by decide) (by decide)
  | some z3 =>
    replace h := oc_s h
    obtain ⟨hz3, h⟩ := chk_of h
    refine lv_astore_n (lv' := [(3, .ref (ad E 0 z3)), (0, .ref (ad E 6 0)), (1, .int x1), (2, .int x2)]) hx hb dX4_compressor_8 rfl hl (by decide) rfl (fun ls hl => ?_)
    refine lv_aload_n hx hb dX4_compressor_9 rfl (lv_at hl 0 rfl) ?_
    refine lv_ifnonnull (tgt := 23) hx hb dX4_compressor_10 (by decide) ?_
    refine lv_iload_n hx hb dX4_compressor_23 rfl (lv_at hl 3 rfl) ?_
    refine lv_iconst (v := (0 : Int32)) hx hb dX4_compressor_24 (by decide) ?_
    refine lv_bipush (v := (9 : Int32)) hx hb dX4_compressor_25 (by decide) ?_
    refine x_cSi (As := [.int x2, .int (0 : Int32), .int (9 : Int32)]) (rest := []) C w (mtX4_isWithin ) q4_19 q4_20 q1_2 q4_21 ydX4_isWithin ⟨rfl, rfl⟩ ⟨by decide, by decide⟩ ⟨Nat.zero_le _, Nat.zero_le _⟩ hl.1 (Nat.le_of_ble_eq_true rfl) rfl dX4_compressor_27 (fun H locs w => ?_)
    refine lv_if_ne (tgt := 43) hx hb dX4_compressor_30 (by decide) (fun c4 => ?_) (fun c4 => ?_)
    · replace h := ite_t h c4
      refine lv_aload_n hx hb dX4_compressor_43 rfl (lv_at hl 1 rfl) ?_
      refine gR_X4_state C w q1_16 dX4_compressor_44 ?_
      refine lv_aload_n hx hb dX4_compressor_47 rfl (lv_at hl 0 rfl) ?_
      refine lv_iload_n hx hb dX4_compressor_48 rfl (lv_at hl 3 rfl) ?_
      refine x_cVi (As := [.ref (ad E 0 z3), .int x2]) (rest := []) C (Wd.ofS 0 w) (vS (show (0 : Nat) < 6 by decide) (by decide)) (cel_S (show (0 : Nat) < 6 by decide)) rfl (mtX3_numberAbout (show (0 : Nat) < 6 by decide) hz3) q19_9 q19_10 q19_11 q1_15 q19_12 ydX3_numberAbout ⟨rfl, rfl⟩ ⟨by decide, by decide⟩ ⟨Nat.zero_le _, Nat.zero_le _⟩ hl.1 (Nat.le_of_ble_eq_true rfl) rfl dX4_compressor_49 (fun H locs w => ?_)
      have w := Wd.back w
      obtain ⟨e0, e1, e2, e3⟩ := rt4 h
      exact x_ti C w e0.symm e1 (by rw [e2]) (by rw [e3]) dX4_compressor_52
    · replace h := ite_f h (fun z => z c4)
      obtain ⟨e0, e1, e2, e3⟩ := rt4 h
      exact x_thrG C w hst hno hl.1 (by rw [← e0]; decide) (by rw [← e0]; rfl) e2 e3 (by decide +kernel) q4_12 q4_13 (List.mem_of_getElem? (i := 11) rfl) thr_w1 thr_in1 thr_g1 dX4_compressor_33 dX4_compressor_36 dX4_compressor_37 dX4_compressor_39 dX4_compressor_42 (by decide) (by decide) (by decide) (by decide) (by decide) (by decide)
theorem mtX4_compressor {tg : Nat} {rr : Int32} {GR : M3} {KR : J3}  (hst : l.stackTraces = false) {x1 : Int32} {x2 : Int32}  (h : fX4_compressor  x1 x2 G K = some (tg, rr, GR, KR)) : XtI l yX4_compressor wdX4_compressor rmX4_compressor E [.ref (ad E 6 0), .int x1, .int x2] G K tg rr GR KR := by
  intro sz
  refine vx_ofW (cc := cX4_compressor) (maxL := 4) (ret := (some .int)) (by decide) rfl ?_
  intro p e s m args below meth c s₁ B hml hno hv
  obtain ⟨rfl, C, w⟩ := Cx.of (own := RX4) B rfl hml hv
  have hl := lv_entry ([.ref (ad E 6 0), .int x1, .int x2]) (n := 4) (by first | exact Nat.le_of_ble_eq_true rfl)
  rw [lg_entry_eq]
  generalize (lg_sl ([.ref (ad E 6 0), .int x1, .int x2]) ++ List.replicate (4 - (lg_sl ([.ref (ad E 6 0), .int x1, .int x2])).length) Slot.unset).toArray = ls at hl ⊢
  exact TX4_compressor C hst hno  h w hl
theorem ydX4_compressor : yX4_compressor.cls = RX4 ∧ yX4_compressor.cls ≠ "java/lang/invoke/MethodHandle" ∧ yX4_compressor.cls ≠ "java/lang/invoke/VarHandle" ∧ (parseMethodDescriptor yX4_compressor.desc).map (fun d => d.parameters.length) = some 2 := by decide +kernel
/-! X4.atStage(I)I -/
abbrev rmX4_atStage : Room := { frames := 6, cells := 1, slots := 6, locals := 82 }
abbrev wdX4_atStage : Cond := Cond.code yX4_atStage cX4_atStage 2 (some .int)
noncomputable def fX4_atStage (F : Nat)  (x1 : Int32) (G : M3) (K : J3) : Option (Nat × Int32 × M3 × J3) := (if ¬ (fX4_isWithin x1 (0 : Int32) ((G 0 0 5) - (1 : Int32))) = 0 then ((fX3_numberAtStage F (G 0) (K 0) x1).bind (fun vv3 => some (0, vv3, G, K))) else (some (3, (0 : Int32), G, K)))
set_option maxRecDepth 20000 in
set_option maxHeartbeats 1000000 in
theorem TX4_atStage {tg : Nat} {rr : Int32} {GR : M3} {KR : J3}  (C : Cx E A p s m args meth c wdX4_atStage cX4_atStage 2 (some .int) RX4) (hst : l.stackTraces = false) (hno : ∀ x ∈ c.exceptionTable.toList, False) {x1 : Int32}  (h : fX4_atStage F  x1 G K = some (tg, rr, GR, KR)) (w : Wd E A s G K H locs) (hl : lv_has ls 2 [(0, .ref (ad E 6 0)), (1, .int x1)]) : W p l e rmX4_atStage s m args below meth c H locs 0 0 (QTi E A below args s tg rr GR KR) (F0 m 0 ls []) := by
  obtain ⟨hx, hb, hr, hml, hown, hts, hlocks, hKK, hA1, hA2⟩ := id C
  unfold fX4_atStage at h
  refine lv_iload_n hx hb dX4_atStage_0 rfl (lv_at hl 1 rfl) ?_
  refine lv_iconst (v := (0 : Int32)) hx hb dX4_atStage_1 (by decide) ?_
  refine lv_aload_n hx hb dX4_atStage_2 rfl (lv_at hl 0 rfl) ?_
  refine gR_X4_state C w q1_16 dX4_atStage_3 ?_
  refine gG_X3_count (show (0 : Nat) < 6 by decide) C w q9_7 dX4_atStage_6 ?_
  refine lv_iconst (v := (1 : Int32)) hx hb dX4_atStage_9 (by decide) ?_
  refine lv_isub hx hb dX4_atStage_10 ?_
  refine x_cSi (As := [.int x1, .int (0 : Int32), .int ((G 0 0 5) - (1 : Int32))]) (rest := []) C w (mtX4_isWithin ) q4_19 q4_20 q1_2 q4_21 ydX4_isWithin ⟨rfl, rfl⟩ ⟨by decide, by decide⟩ ⟨Nat.zero_le _, Nat.zero_le _⟩ hl.1 (Nat.le_of_ble_eq_true rfl) rfl dX4_atStage_11 (fun H locs w => ?_)
  refine lv_if_ne (tgt := 27) hx hb dX4_atStage_14 (by decide) (fun c1 => ?_) (fun c1 => ?_)
  · replace h := ite_t h c1
    refine lv_aload_n hx hb dX4_atStage_27 rfl (lv_at hl 0 rfl) ?_
    refine gR_X4_state C w q1_16 dX4_atStage_28 ?_
    refine lv_iload_n hx hb dX4_atStage_31 rfl (lv_at hl 1 rfl) ?_
    obtain ⟨vv3, hv2, h⟩ := bind_of h
    refine x_cVi (As := [.int x1]) (rest := []) C (Wd.ofS 0 w) (vS (show (0 : Nat) < 6 by decide) (by decide)) (cel_S (show (0 : Nat) < 6 by decide)) rfl (mtX3_numberAtStage (show (0 : Nat) < 6 by decide) hv2) q20_5 q20_6 q20_7 q1_15 q20_8 ydX3_numberAtStage ⟨rfl, rfl⟩ ⟨by decide, by decide⟩ ⟨Nat.zero_le _, Nat.zero_le _⟩ hl.1 (Nat.le_of_ble_eq_true rfl) rfl dX4_atStage_32 (fun H locs w => ?_)
    have w := Wd.back w
    obtain ⟨e0, e1, e2, e3⟩ := rt4 h
    exact x_ti C w e0.symm e1 (by rw [e2]) (by rw [e3]) dX4_atStage_35
  · replace h := ite_f h (fun z => z c1)
    obtain ⟨e0, e1, e2, e3⟩ := rt4 h
    exact x_thrG C w hst hno hl.1 (by rw [← e0]; decide) (by rw [← e0]; rfl) e2 e3 (by decide +kernel) q10_8 q10_9 (List.mem_of_getElem? (i := 12) rfl) thr_w3 thr_in3 thr_g3 dX4_atStage_17 dX4_atStage_20 dX4_atStage_21 dX4_atStage_23 dX4_atStage_26 (by decide) (by decide) (by decide) (by decide) (by decide) (by decide)
theorem mtX4_atStage {tg : Nat} {rr : Int32} {GR : M3} {KR : J3}  (hst : l.stackTraces = false) {x1 : Int32}  (h : fX4_atStage F  x1 G K = some (tg, rr, GR, KR)) : XtI l yX4_atStage wdX4_atStage rmX4_atStage E [.ref (ad E 6 0), .int x1] G K tg rr GR KR := by
  intro sz
  refine vx_ofW (cc := cX4_atStage) (maxL := 2) (ret := (some .int)) (by decide) rfl ?_
  intro p e s m args below meth c s₁ B hml hno hv
  obtain ⟨rfl, C, w⟩ := Cx.of (own := RX4) B rfl hml hv
  have hl := lv_entry ([.ref (ad E 6 0), .int x1]) (n := 2) (by first | exact Nat.le_of_ble_eq_true rfl)
  rw [lg_entry_eq]
  generalize (lg_sl ([.ref (ad E 6 0), .int x1]) ++ List.replicate (2 - (lg_sl ([.ref (ad E 6 0), .int x1])).length) Slot.unset).toArray = ls at hl ⊢
  exact TX4_atStage C hst hno  h w hl
theorem ydX4_atStage : yX4_atStage.cls = RX4 ∧ yX4_atStage.cls ≠ "java/lang/invoke/MethodHandle" ∧ yX4_atStage.cls ≠ "java/lang/invoke/VarHandle" ∧ (parseMethodDescriptor yX4_atStage.desc).map (fun d => d.parameters.length) = some 1 := by decide +kernel
/-! X4.value(I)I -/
abbrev rmX4_value : Room := { frames := 6, cells := 1, slots := 6, locals := 82 }
abbrev wdX4_value : Cond := Cond.code yX4_value cX4_value 2 (some .int)
noncomputable def fX4_value (F : Nat)  (x1 : Int32) (G : M3) (K : J3) : Option (Nat × Int32 × M3 × J3) := (if ¬ (fX4_isWithin x1 (0 : Int32) (11 : Int32)) = 0 then ((fX3_numberOf F (G 0) (K 0) x1).bind (fun vv3 => some (0, vv3, G, K))) else (some (1, (0 : Int32), G, K)))
set_option maxRecDepth 20000 in
set_option maxHeartbeats 1000000 in
theorem TX4_value {tg : Nat} {rr : Int32} {GR : M3} {KR : J3}  (C : Cx E A p s m args meth c wdX4_value cX4_value 2 (some .int) RX4) (hst : l.stackTraces = false) (hno : ∀ x ∈ c.exceptionTable.toList, False) {x1 : Int32}  (h : fX4_value F  x1 G K = some (tg, rr, GR, KR)) (w : Wd E A s G K H locs) (hl : lv_has ls 2 [(0, .ref (ad E 6 0)), (1, .int x1)]) : W p l e rmX4_value s m args below meth c H locs 0 0 (QTi E A below args s tg rr GR KR) (F0 m 0 ls []) := by
  obtain ⟨hx, hb, hr, hml, hown, hts, hlocks, hKK, hA1, hA2⟩ := id C
  unfold fX4_value at h
  refine lv_iload_n hx hb dX4_value_0 rfl (lv_at hl 1 rfl) ?_
  refine lv_iconst (v := (0 : Int32)) hx hb dX4_value_1 (by decide) ?_
  refine lv_bipush (v := (11 : Int32)) hx hb dX4_value_2 (by decide) ?_
  refine x_cSi (As := [.int x1, .int (0 : Int32), .int (11 : Int32)]) (rest := []) C w (mtX4_isWithin ) q4_19 q4_20 q1_2 q4_21 ydX4_isWithin ⟨rfl, rfl⟩ ⟨by decide, by decide⟩ ⟨Nat.zero_le _, Nat.zero_le _⟩ hl.1 (Nat.le_of_ble_eq_true rfl) rfl dX4_value_4 (fun H locs w => ?_)
  refine lv_if_ne (tgt := 20) hx hb dX4_value_7 (by decide) (fun c1 => ?_) (fun c1 => ?_)
  · replace h := ite_t h c1
    refine lv_aload_n hx hb dX4_value_20 rfl (lv_at hl 0 rfl) ?_
    refine gR_X4_state C w q1_16 dX4_value_21 ?_
    refine lv_iload_n hx hb dX4_value_24 rfl (lv_at hl 1 rfl) ?_
    obtain ⟨vv3, hv2, h⟩ := bind_of h
    refine x_cVi (As := [.int x1]) (rest := []) C (Wd.ofS 0 w) (vS (show (0 : Nat) < 6 by decide) (by decide)) (cel_S (show (0 : Nat) < 6 by decide)) rfl (mtX3_numberOf (show (0 : Nat) < 6 by decide) hv2) q20_20 q20_21 q20_22 q1_15 q20_23 ydX3_numberOf ⟨rfl, rfl⟩ ⟨by decide, by decide⟩ ⟨Nat.zero_le _, Nat.zero_le _⟩ hl.1 (Nat.le_of_ble_eq_true rfl) rfl dX4_value_25 (fun H locs w => ?_)
    have w := Wd.back w
    obtain ⟨e0, e1, e2, e3⟩ := rt4 h
    exact x_ti C w e0.symm e1 (by rw [e2]) (by rw [e3]) dX4_value_28
  · replace h := ite_f h (fun z => z c1)
    obtain ⟨e0, e1, e2, e3⟩ := rt4 h
    exact x_thrG C w hst hno hl.1 (by rw [← e0]; decide) (by rw [← e0]; rfl) e2 e3 (by decide +kernel) q4_12 q4_13 (List.mem_of_getElem? (i := 13) rfl) thr_w1 thr_in1 thr_g1 dX4_value_10 dX4_value_13 dX4_value_14 dX4_value_16 dX4_value_19 (by decide) (by decide) (by decide) (by decide) (by decide) (by decide)
theorem mtX4_value {tg : Nat} {rr : Int32} {GR : M3} {KR : J3}  (hst : l.stackTraces = false) {x1 : Int32}  (h : fX4_value F  x1 G K = some (tg, rr, GR, KR)) : XtI l yX4_value wdX4_value rmX4_value E [.ref (ad E 6 0), .int x1] G K tg rr GR KR := by
  intro sz
  refine vx_ofW (cc := cX4_value) (maxL := 2) (ret := (some .int)) (by decide) rfl ?_
  intro p e s m args below meth c s₁ B hml hno hv
  obtain ⟨rfl, C, w⟩ := Cx.of (own := RX4) B rfl hml hv
  have hl := lv_entry ([.ref (ad E 6 0), .int x1]) (n := 2) (by first | exact Nat.le_of_ble_eq_true rfl)
  rw [lg_entry_eq]
  generalize (lg_sl ([.ref (ad E 6 0), .int x1]) ++ List.replicate (2 - (lg_sl ([.ref (ad E 6 0), .int x1])).length) Slot.unset).toArray = ls at hl ⊢
  exact TX4_value C hst hno  h w hl
theorem ydX4_value : yX4_value.cls = RX4 ∧ yX4_value.cls ≠ "java/lang/invoke/MethodHandle" ∧ yX4_value.cls ≠ "java/lang/invoke/VarHandle" ∧ (parseMethodDescriptor yX4_value.desc).map (fun d => d.parameters.length) = some 1 := by decide +kernel
/-! X4.setting(I)I -/
abbrev rmX4_setting : Room := { frames := 6, cells := 1, slots := 6, locals := 82 }
abbrev wdX4_setting : Cond := Cond.code yX4_setting cX4_setting 2 (some .int)
noncomputable def fX4_setting  (x1 : Int32) (G : M3) (K : J3) : Option (Nat × Int32 × M3 × J3) := (if ¬ (fX4_isWithin x1 (0 : Int32) (7 : Int32)) = 0 then (chk (inb x1 8) (some (0, (G 0 1 x1.toNatClampNeg), G, K))) else (some (1, (0 : Int32), G, K)))
set_option maxRecDepth 20000 in
set_option maxHeartbeats 1000000 in
theorem TX4_setting {tg : Nat} {rr : Int32} {GR : M3} {KR : J3}  (C : Cx E A p s m args meth c wdX4_setting cX4_setting 2 (some .int) RX4) (hst : l.stackTraces = false) (hno : ∀ x ∈ c.exceptionTable.toList, False) {x1 : Int32}  (h : fX4_setting  x1 G K = some (tg, rr, GR, KR)) (w : Wd E A s G K H locs) (hl : lv_has ls 2 [(0, .ref (ad E 6 0)), (1, .int x1)]) : W p l e rmX4_setting s m args below meth c H locs 0 0 (QTi E A below args s tg rr GR KR) (F0 m 0 ls []) := by
  obtain ⟨hx, hb, hr, hml, hown, hts, hlocks, hKK, hA1, hA2⟩ := id C
  unfold fX4_setting at h
  refine lv_iload_n hx hb dX4_setting_0 rfl (lv_at hl 1 rfl) ?_
  refine lv_iconst (v := (0 : Int32)) hx hb dX4_setting_1 (by decide) ?_
  refine lv_bipush (v := (7 : Int32)) hx hb dX4_setting_2 (by decide) ?_
  refine x_cSi (As := [.int x1, .int (0 : Int32), .int (7 : Int32)]) (rest := []) C w (mtX4_isWithin ) q4_19 q4_20 q1_2 q4_21 ydX4_isWithin ⟨rfl, rfl⟩ ⟨by decide, by decide⟩ ⟨Nat.zero_le _, Nat.zero_le _⟩ hl.1 (Nat.le_of_ble_eq_true rfl) rfl dX4_setting_4 (fun H locs w => ?_)
  refine lv_if_ne (tgt := 20) hx hb dX4_setting_7 (by decide) (fun c1 => ?_) (fun c1 => ?_)
  · replace h := ite_t h c1
    refine lv_aload_n hx hb dX4_setting_20 rfl (lv_at hl 0 rfl) ?_
    refine gR_X4_state C w q1_16 dX4_setting_21 ?_
    refine gR_X3_settings (show (0 : Nat) < 6 by decide) C w q4_17 dX4_setting_24 ?_
    refine lv_iload_n hx hb dX4_setting_27 rfl (lv_at hl 1 rfl) ?_
    obtain ⟨ki2, h⟩ := chk_of h
    refine x_aldI C w (vS (show (0 : Nat) < 6 by decide) (by decide)) (cS1 (show (0 : Nat) < 6 by decide)) ki2 rfl dX4_setting_28 ?_
    obtain ⟨e0, e1, e2, e3⟩ := rt4 h
    exact x_ti C w e0.symm e1 (by rw [e2]) (by rw [e3]) dX4_setting_29
  · replace h := ite_f h (fun z => z c1)
    obtain ⟨e0, e1, e2, e3⟩ := rt4 h
    exact x_thrG C w hst hno hl.1 (by rw [← e0]; decide) (by rw [← e0]; rfl) e2 e3 (by decide +kernel) q4_12 q4_13 (List.mem_of_getElem? (i := 2) rfl) thr_w1 thr_in1 thr_g1 dX4_setting_10 dX4_setting_13 dX4_setting_14 dX4_setting_16 dX4_setting_19 (by decide) (by decide) (by decide) (by decide) (by decide) (by decide)
theorem mtX4_setting {tg : Nat} {rr : Int32} {GR : M3} {KR : J3}  (hst : l.stackTraces = false) {x1 : Int32}  (h : fX4_setting  x1 G K = some (tg, rr, GR, KR)) : XtI l yX4_setting wdX4_setting rmX4_setting E [.ref (ad E 6 0), .int x1] G K tg rr GR KR := by
  intro sz
  refine vx_ofW (cc := cX4_setting) (maxL := 2) (ret := (some .int)) (by decide) rfl ?_
  intro p e s m args below meth c s₁ B hml hno hv
  obtain ⟨rfl, C, w⟩ := Cx.of (own := RX4) B rfl hml hv
  have hl := lv_entry ([.ref (ad E 6 0), .int x1]) (n := 2) (by first | exact Nat.le_of_ble_eq_true rfl)
  rw [lg_entry_eq]
  generalize (lg_sl ([.ref (ad E 6 0), .int x1]) ++ List.replicate (2 - (lg_sl ([.ref (ad E 6 0), .int x1])).length) Slot.unset).toArray = ls at hl ⊢
  exact TX4_setting C hst hno  h w hl
theorem ydX4_setting : yX4_setting.cls = RX4 ∧ yX4_setting.cls ≠ "java/lang/invoke/MethodHandle" ∧ yX4_setting.cls ≠ "java/lang/invoke/VarHandle" ∧ (parseMethodDescriptor yX4_setting.desc).map (fun d => d.parameters.length) = some 1 := by decide +kernel
/-! X4.booked(I)J -/
abbrev rmX4_booked : Room := { frames := 6, cells := 1, slots := 6, locals := 82 }
abbrev wdX4_booked : Cond := Cond.code yX4_booked cX4_booked 2 (some .long)
noncomputable def fX4_booked  (x1 : Int32) (G : M3) (K : J3) : Option (Nat × Int64 × M3 × J3) := (if ¬ (fX4_isWithin x1 (0 : Int32) (5 : Int32)) = 0 then (chk (inb x1 6) (some (0, (K 0 2 x1.toNatClampNeg), G, K))) else (some (1, (0 : Int64), G, K)))
set_option maxRecDepth 20000 in
set_option maxHeartbeats 1000000 in
theorem TX4_booked {tg : Nat} {rr : Int64} {GR : M3} {KR : J3}  (C : Cx E A p s m args meth c wdX4_booked cX4_booked 2 (some .long) RX4) (hst : l.stackTraces = false) (hno : ∀ x ∈ c.exceptionTable.toList, False) {x1 : Int32}  (h : fX4_booked  x1 G K = some (tg, rr, GR, KR)) (w : Wd E A s G K H locs) (hl : lv_has ls 2 [(0, .ref (ad E 6 0)), (1, .int x1)]) : W p l e rmX4_booked s m args below meth c H locs 0 0 (QTl E A below args s tg rr GR KR) (F0 m 0 ls []) := by
  obtain ⟨hx, hb, hr, hml, hown, hts, hlocks, hKK, hA1, hA2⟩ := id C
  unfold fX4_booked at h
  refine lv_iload_n hx hb dX4_booked_0 rfl (lv_at hl 1 rfl) ?_
  refine lv_iconst (v := (0 : Int32)) hx hb dX4_booked_1 (by decide) ?_
  refine lv_iconst (v := (5 : Int32)) hx hb dX4_booked_2 (by decide) ?_
  refine x_cSi (As := [.int x1, .int (0 : Int32), .int (5 : Int32)]) (rest := []) C w (mtX4_isWithin ) q4_19 q4_20 q1_2 q4_21 ydX4_isWithin ⟨rfl, rfl⟩ ⟨by decide, by decide⟩ ⟨Nat.zero_le _, Nat.zero_le _⟩ hl.1 (Nat.le_of_ble_eq_true rfl) rfl dX4_booked_3 (fun H locs w => ?_)
  refine lv_if_ne (tgt := 19) hx hb dX4_booked_6 (by decide) (fun c1 => ?_) (fun c1 => ?_)
  · replace h := ite_t h c1
    refine lv_aload_n hx hb dX4_booked_19 rfl (lv_at hl 0 rfl) ?_
    refine gR_X4_state C w q1_16 dX4_booked_20 ?_
    refine gR_X3_amounts (show (0 : Nat) < 6 by decide) C w q22_18 dX4_booked_23 ?_
    refine lv_iload_n hx hb dX4_booked_26 rfl (lv_at hl 1 rfl) ?_
    obtain ⟨ki2, h⟩ := chk_of h
    refine x_aldJ C w (vS (show (0 : Nat) < 6 by decide) (by decide)) (cS2 (show (0 : Nat) < 6 by decide)) ki2 rfl dX4_booked_27 ?_
    obtain ⟨e0, e1, e2, e3⟩ := rt4 h
    exact x_tl C w e0.symm e1 (by rw [e2]) (by rw [e3]) dX4_booked_28
  · replace h := ite_f h (fun z => z c1)
    obtain ⟨e0, e1, e2, e3⟩ := rt4 h
    exact x_thrG C w hst hno hl.1 (by rw [← e0]; decide) (by rw [← e0]; rfl) e2 e3 (by decide +kernel) q4_12 q4_13 (List.mem_of_getElem? (i := 14) rfl) thr_w1 thr_in1 thr_g1 dX4_booked_9 dX4_booked_12 dX4_booked_13 dX4_booked_15 dX4_booked_18 (by decide) (by decide) (by decide) (by decide) (by decide) (by decide)
theorem mtX4_booked {tg : Nat} {rr : Int64} {GR : M3} {KR : J3}  (hst : l.stackTraces = false) {x1 : Int32}  (h : fX4_booked  x1 G K = some (tg, rr, GR, KR)) : XtL l yX4_booked wdX4_booked rmX4_booked E [.ref (ad E 6 0), .int x1] G K tg rr GR KR := by
  intro sz
  refine vx_ofW (cc := cX4_booked) (maxL := 2) (ret := (some .long)) (by decide) rfl ?_
  intro p e s m args below meth c s₁ B hml hno hv
  obtain ⟨rfl, C, w⟩ := Cx.of (own := RX4) B rfl hml hv
  have hl := lv_entry ([.ref (ad E 6 0), .int x1]) (n := 2) (by first | exact Nat.le_of_ble_eq_true rfl)
  rw [lg_entry_eq]
  generalize (lg_sl ([.ref (ad E 6 0), .int x1]) ++ List.replicate (2 - (lg_sl ([.ref (ad E 6 0), .int x1])).length) Slot.unset).toArray = ls at hl ⊢
  exact TX4_booked C hst hno  h w hl
theorem ydX4_booked : yX4_booked.cls = RX4 ∧ yX4_booked.cls ≠ "java/lang/invoke/MethodHandle" ∧ yX4_booked.cls ≠ "java/lang/invoke/VarHandle" ∧ (parseMethodDescriptor yX4_booked.desc).map (fun d => d.parameters.length) = some 1 := by decide +kernel
/-! X4.result(I)I -/
abbrev rmX4_result : Room := { frames := 6, cells := 1, slots := 6, locals := 82 }
abbrev wdX4_result : Cond := Cond.code yX4_result cX4_result 2 (some .int)
noncomputable def fbX4_result_23    (G : M3) (K : J3) : Option (Nat × Int32 × M3 × J3) := some (3, (0 : Int32), G, K)
set_option maxRecDepth 20000 in
set_option maxHeartbeats 1000000 in
theorem TX4_result_23 {tg : Nat} {rr : Int32} {GR : M3} {KR : J3}   (C : Cx E A p s m args meth c wdX4_result cX4_result 2 (some .int) RX4) (hst : l.stackTraces = false) (hno : ∀ x ∈ c.exceptionTable.toList, False)   (G : M3) (K : J3)  (h : fbX4_result_23  G K = some (tg, rr, GR, KR)) (w : Wd E A s G K H locs) (hl : lv_has ls 2 []) : W p l e rmX4_result s m args below meth c H locs 0 0 (QTi E A below args s tg rr GR KR) (F0 m 23 ls []) := by
  obtain ⟨hx, hb, hr, hml, hown, hts, hlocks, hKK, hA1, hA2⟩ := id C
  unfold fbX4_result_23 at h
  obtain ⟨e0, e1, e2, e3⟩ := rt4 h
  exact x_thrG C w hst hno hl.1 (by rw [← e0]; decide) (by rw [← e0]; rfl) e2 e3 (by decide +kernel) q10_8 q10_9 (List.mem_of_getElem? (i := 15) rfl) thr_w3 thr_in3 thr_g3 dX4_result_23 dX4_result_26 dX4_result_27 dX4_result_29 dX4_result_32 (by decide) (by decide) (by decide) (by decide) (by decide) (by decide)
noncomputable def fX4_result  (x1 : Int32) (G : M3) (K : J3) : Option (Nat × Int32 × M3 × J3) := (if (fX4_isWithin x1 (0 : Int32) ((G 0 0 6) - (1 : Int32))) = 0 then (fbX4_result_23  G K) else ((if x1 < (6 : Int32) then (chk (inb x1 6) (some (0, (G 0 3 x1.toNatClampNeg), G, K))) else (fbX4_result_23  G K))))
set_option maxRecDepth 20000 in
set_option maxHeartbeats 1000000 in
theorem TX4_result {tg : Nat} {rr : Int32} {GR : M3} {KR : J3}  (C : Cx E A p s m args meth c wdX4_result cX4_result 2 (some .int) RX4) (hst : l.stackTraces = false) (hno : ∀ x ∈ c.exceptionTable.toList, False) {x1 : Int32}  (h : fX4_result  x1 G K = some (tg, rr, GR, KR)) (w : Wd E A s G K H locs) (hl : lv_has ls 2 [(0, .ref (ad E 6 0)), (1, .int x1)]) : W p l e rmX4_result s m args below meth c H locs 0 0 (QTi E A below args s tg rr GR KR) (F0 m 0 ls []) := by
  obtain ⟨hx, hb, hr, hml, hown, hts, hlocks, hKK, hA1, hA2⟩ := id C
  unfold fX4_result at h
  refine lv_iload_n hx hb dX4_result_0 rfl (lv_at hl 1 rfl) ?_
  refine lv_iconst (v := (0 : Int32)) hx hb dX4_result_1 (by decide) ?_
  refine lv_aload_n hx hb dX4_result_2 rfl (lv_at hl 0 rfl) ?_
  refine gR_X4_state C w q1_16 dX4_result_3 ?_
  refine gG_X3_kept (show (0 : Nat) < 6 by decide) C w q23_6 dX4_result_6 ?_
  refine lv_iconst (v := (1 : Int32)) hx hb dX4_result_9 (by decide) ?_
  refine lv_isub hx hb dX4_result_10 ?_
  refine x_cSi (As := [.int x1, .int (0 : Int32), .int ((G 0 0 6) - (1 : Int32))]) (rest := []) C w (mtX4_isWithin ) q4_19 q4_20 q1_2 q4_21 ydX4_isWithin ⟨rfl, rfl⟩ ⟨by decide, by decide⟩ ⟨Nat.zero_le _, Nat.zero_le _⟩ hl.1 (Nat.le_of_ble_eq_true rfl) rfl dX4_result_11 (fun H locs w => ?_)
  refine lv_if_eq (tgt := 23) hx hb dX4_result_14 (by decide) (fun c1 => ?_) (fun c1 => ?_)
  · replace h := ite_t h c1
    exact TX4_result_23 C hst hno  _ _ h w (lv_sub hl [] rfl)
  · replace h := ite_f h c1
    refine lv_iload_n hx hb dX4_result_17 rfl (lv_at hl 1 rfl) ?_
    refine lv_bipush (v := (6 : Int32)) hx hb dX4_result_18 (by decide) ?_
    refine lv_icmp_lt (tgt := 33) hx hb dX4_result_20 (by decide) (fun c2 => ?_) (fun c2 => ?_)
    · replace h := ite_t h c2
      refine lv_aload_n hx hb dX4_result_33 rfl (lv_at hl 0 rfl) ?_
      refine gR_X4_state C w q1_16 dX4_result_34 ?_
      refine gR_X3_results (show (0 : Nat) < 6 by decide) C w q23_7 dX4_result_37 ?_
      refine lv_iload_n hx hb dX4_result_40 rfl (lv_at hl 1 rfl) ?_
      obtain ⟨ki3, h⟩ := chk_of h
      refine x_aldI C w (vS (show (0 : Nat) < 6 by decide) (by decide)) (cS3 (show (0 : Nat) < 6 by decide)) ki3 rfl dX4_result_41 ?_
      obtain ⟨e0, e1, e2, e3⟩ := rt4 h
      exact x_ti C w e0.symm e1 (by rw [e2]) (by rw [e3]) dX4_result_42
    · replace h := ite_f h c2
      exact TX4_result_23 C hst hno  _ _ h w (lv_sub hl [] rfl)
theorem mtX4_result {tg : Nat} {rr : Int32} {GR : M3} {KR : J3}  (hst : l.stackTraces = false) {x1 : Int32}  (h : fX4_result  x1 G K = some (tg, rr, GR, KR)) : XtI l yX4_result wdX4_result rmX4_result E [.ref (ad E 6 0), .int x1] G K tg rr GR KR := by
  intro sz
  refine vx_ofW (cc := cX4_result) (maxL := 2) (ret := (some .int)) (by decide) rfl ?_
  intro p e s m args below meth c s₁ B hml hno hv
  obtain ⟨rfl, C, w⟩ := Cx.of (own := RX4) B rfl hml hv
  have hl := lv_entry ([.ref (ad E 6 0), .int x1]) (n := 2) (by first | exact Nat.le_of_ble_eq_true rfl)
  rw [lg_entry_eq]
  generalize (lg_sl ([.ref (ad E 6 0), .int x1]) ++ List.replicate (2 - (lg_sl ([.ref (ad E 6 0), .int x1])).length) Slot.unset).toArray = ls at hl ⊢
  exact TX4_result C hst hno  h w hl
theorem ydX4_result : yX4_result.cls = RX4 ∧ yX4_result.cls ≠ "java/lang/invoke/MethodHandle" ∧ yX4_result.cls ≠ "java/lang/invoke/VarHandle" ∧ (parseMethodDescriptor yX4_result.desc).map (fun d => d.parameters.length) = some 1 := by decide +kernel
/-! X4.next(I)I -/
abbrev rmX4_next : Room := { frames := 6, cells := 1, slots := 6, locals := 82 }
abbrev wdX4_next : Cond := Cond.code yX4_next cX4_next 3 (some .int)
noncomputable def fX4_next  (x1 : Int32) (G : M3) (K : J3) : Option (Nat × Int32 × M3 × J3) := (fX3_numbered (G 0) (K 0) x1).bind (fun vv2 => oc vv2 (some (3, (0 : Int32), G, K)) (fun z3 => chk (isC z3) ((fX3_pressure (G 0) (K 0)).bind (fun vv5 => some (0, (fX3_doingOf (G 0) (K 0) z3 vv5), G, K)))))
set_option maxRecDepth 20000 in
set_option maxHeartbeats 1000000 in
theorem TX4_next {tg : Nat} {rr : Int32} {GR : M3} {KR : J3}  (C : Cx E A p s m args meth c wdX4_next cX4_next 3 (some .int) RX4) (hst : l.stackTraces = false) (hno : ∀ x ∈ c.exceptionTable.toList, False) {x1 : Int32}  (h : fX4_next  x1 G K = some (tg, rr, GR, KR)) (w : Wd E A s G K H locs) (hl : lv_has ls 3 [(0, .ref (ad E 6 0)), (1, .int x1)]) : W p l e rmX4_next s m args below meth c H locs 0 0 (QTi E A below args s tg rr GR KR) (F0 m 0 ls []) := by
  obtain ⟨hx, hb, hr, hml, hown, hts, hlocks, hKK, hA1, hA2⟩ := id C
  unfold fX4_next at h
  refine lv_aload_n hx hb dX4_next_0 rfl (lv_at hl 0 rfl) ?_
  refine gR_X4_state C w q1_16 dX4_next_1 ?_
  refine lv_iload_n hx hb dX4_next_4 rfl (lv_at hl 1 rfl) ?_
  obtain ⟨vv2, hv1, h⟩ := bind_of h
  refine x_cVq (As := [.int x1]) (rest := []) C (Wd.ofS 0 w) (vS (show (0 : Nat) < 6 by decide) (by decide)) (cel_S (show (0 : Nat) < 6 by decide)) rfl (mtX3_numbered (show (0 : Nat) < 6 by decide) hv1) q10_11 q6_1 q6_2 q1_15 q6_3 ydX3_numbered ⟨rfl, rfl⟩ ⟨by decide, by decide⟩ ⟨Nat.zero_le _, Nat.zero_le _⟩ hl.1 (Nat.le_of_ble_eq_true rfl) rfl dX4_next_5 (fun H locs w => ?_)
  have w := Wd.back w
  cases vv2 with
  | none =>
    replace h := oc_n h
    refine lv_astore_nN (lv' := [(2, .null), (0, .ref (ad E 6 0)), (1, .int x1)]) hx hb dX4_next_8 rfl hl (by decide) rfl (fun ls hl => ?_)
    refine lv_aload_nN hx hb dX4_next_9 rfl (lv_at hl 0 rfl) ?_
    refine lv_ifnonnullN hx hb dX4_next_10 ?_
    obtain ⟨e0, e1, e2, e3⟩ := rt4 h
    exact x_thrG C w hst hno hl.1 (by rw [← e0]; decide) (by rw [← e0]; rfl) e2 e3 (by decide +kernel) q10_8 q10_9 (List.mem_of_getElem? (i := 6) rfl) thr_w3 thr_in3 thr_g3 dX4_next_13 dX4_next_16 dX4_next_17 dX4_next_19 dX4_next_22 (by decide) (by decide) (by decide) (by decide) (by decide) (by decide)
  | some z3 =>
    replace h := oc_s h
    obtain ⟨hz3, h⟩ := chk_of h
    refine lv_astore_n (lv' := [(2, .ref (ad E 0 z3)), (0, .ref (ad E 6 0)), (1, .int x1)]) hx hb dX4_next_8 rfl hl (by decide) rfl (fun ls hl => ?_)
    refine lv_aload_n hx hb dX4_next_9 rfl (lv_at hl 0 rfl) ?_
    refine lv_ifnonnull (tgt := 23) hx hb dX4_next_10 (by decide) ?_
    refine lv_aload_n hx hb dX4_next_23 rfl (lv_at hl 1 rfl) ?_
    refine gR_X4_state C w q1_16 dX4_next_24 ?_
    refine lv_aload_n hx hb dX4_next_27 rfl (lv_at hl 0 rfl) ?_
    refine lv_aload_n hx hb dX4_next_28 rfl (lv_at hl 1 rfl) ?_
    refine gR_X4_state C w q1_16 dX4_next_29 ?_
    obtain ⟨vv5, hv4, h⟩ := bind_of h
    refine x_cVi (As := []) (rest := [.ref (ad E 0 z3), .ref (ad E 0 0)]) C (Wd.ofS 0 w) (vS (show (0 : Nat) < 6 by decide) (by decide)) (cel_S (show (0 : Nat) < 6 by decide)) rfl (mtX3_pressure (show (0 : Nat) < 6 by decide) hv4) q6_16 q6_17 q6_18 q1_15 q6_19 ydX3_pressure ⟨rfl, rfl⟩ ⟨by decide, by decide⟩ ⟨Nat.zero_le _, Nat.zero_le _⟩ hl.1 (Nat.le_of_ble_eq_true rfl) rfl dX4_next_32 (fun H locs w => ?_)
    have w := Wd.back w
    refine x_cVi (As := [.ref (ad E 0 z3), .int vv5]) (rest := []) C (Wd.ofS 0 w) (vS (show (0 : Nat) < 6 by decide) (by decide)) (cel_S (show (0 : Nat) < 6 by decide)) rfl (mtX3_doingOf (show (0 : Nat) < 6 by decide) hz3) q23_19 q14_18 q14_19 q1_15 q14_20 ydX3_doingOf ⟨rfl, rfl⟩ ⟨by decide, by decide⟩ ⟨Nat.zero_le _, Nat.zero_le _⟩ hl.1 (Nat.le_of_ble_eq_true rfl) rfl dX4_next_35 (fun H locs w => ?_)
    have w := Wd.back w
    obtain ⟨e0, e1, e2, e3⟩ := rt4 h
    exact x_ti C w e0.symm e1 (by rw [e2]) (by rw [e3]) dX4_next_38
theorem mtX4_next {tg : Nat} {rr : Int32} {GR : M3} {KR : J3}  (hst : l.stackTraces = false) {x1 : Int32}  (h : fX4_next  x1 G K = some (tg, rr, GR, KR)) : XtI l yX4_next wdX4_next rmX4_next E [.ref (ad E 6 0), .int x1] G K tg rr GR KR := by
  intro sz
  refine vx_ofW (cc := cX4_next) (maxL := 3) (ret := (some .int)) (by decide) rfl ?_
  intro p e s m args below meth c s₁ B hml hno hv
  obtain ⟨rfl, C, w⟩ := Cx.of (own := RX4) B rfl hml hv
  have hl := lv_entry ([.ref (ad E 6 0), .int x1]) (n := 3) (by first | exact Nat.le_of_ble_eq_true rfl)
  rw [lg_entry_eq]
  generalize (lg_sl ([.ref (ad E 6 0), .int x1]) ++ List.replicate (3 - (lg_sl ([.ref (ad E 6 0), .int x1])).length) Slot.unset).toArray = ls at hl ⊢
  exact TX4_next C hst hno  h w hl
theorem ydX4_next : yX4_next.cls = RX4 ∧ yX4_next.cls ≠ "java/lang/invoke/MethodHandle" ∧ yX4_next.cls ≠ "java/lang/invoke/VarHandle" ∧ (parseMethodDescriptor yX4_next.desc).map (fun d => d.parameters.length) = some 1 := by decide +kernel
/-! X4.pressureIn(I)I -/
abbrev rmX4_pressureIn : Room := { frames := 6, cells := 1, slots := 6, locals := 126 }
abbrev wdX4_pressureIn : Cond := Cond.code yX4_pressureIn cX4_pressureIn 2 (some .int)
noncomputable def fX4_pressureIn (F : Nat)  (x1 : Int32) (G : M3) (K : J3) : Option (Nat × Int32 × M3 × J3) := (if ¬ (fX4_isWithin x1 (0 : Int32) (600 : Int32)) = 0 then (bd2 (fX3_takeOver F 1 0 G K) (fun G3 K4 => bd2 (fX3_runMinutes F x1 (G3 1) (K4 1)) (fun M6 J7 => bnd (sg G3 1 M6) (fun G8 => bnd (sg K4 1 J7) (fun K9 => (fX3_pressure (G8 1) (K9 1)).bind (fun vv13 => some (0, vv13, G8, K9))))))) else (some (1, (0 : Int32), G, K)))
set_option maxRecDepth 20000 in
set_option maxHeartbeats 1000000 in
theorem TX4_pressureIn {tg : Nat} {rr : Int32} {GR : M3} {KR : J3}  (C : Cx E A p s m args meth c wdX4_pressureIn cX4_pressureIn 2 (some .int) RX4) (hst : l.stackTraces = false) (hno : ∀ x ∈ c.exceptionTable.toList, False) {x1 : Int32}  (h : fX4_pressureIn F  x1 G K = some (tg, rr, GR, KR)) (w : Wd E A s G K H locs) (hl : lv_has ls 2 [(0, .ref (ad E 6 0)), (1, .int x1)]) : W p l e rmX4_pressureIn s m args below meth c H locs 0 0 (QTi E A below args s tg rr GR KR) (F0 m 0 ls []) := by
  obtain ⟨hx, hb, hr, hml, hown, hts, hlocks, hKK, hA1, hA2⟩ := id C
  unfold fX4_pressureIn at h
  refine lv_iload_n hx hb dX4_pressureIn_0 rfl (lv_at hl 1 rfl) ?_
  refine lv_iconst (v := (0 : Int32)) hx hb dX4_pressureIn_1 (by decide) ?_
  refine lv_sipush (v := (600 : Int32)) hx hb dX4_pressureIn_2 (by decide) ?_
  refine x_cSi (As := [.int x1, .int (0 : Int32), .int (600 : Int32)]) (rest := []) C w (mtX4_isWithin ) q4_19 q4_20 q1_2 q4_21 ydX4_isWithin ⟨rfl, rfl⟩ ⟨by decide, by decide⟩ ⟨Nat.zero_le _, Nat.zero_le _⟩ hl.1 (Nat.le_of_ble_eq_true rfl) rfl dX4_pressureIn_5 (fun H locs w => ?_)
  refine lv_if_ne (tgt := 21) hx hb dX4_pressureIn_8 (by decide) (fun c1 => ?_) (fun c1 => ?_)
  · replace h := ite_t h c1
    refine lv_aload_n hx hb dX4_pressureIn_21 rfl (lv_at hl 0 rfl) ?_
    refine gR_X4_trial C w q1_17 dX4_pressureIn_22 ?_
    refine lv_aload_n hx hb dX4_pressureIn_25 rfl (lv_at hl 0 rfl) ?_
    refine gR_X4_state C w q1_16 dX4_pressureIn_26 ?_
    obtain ⟨G3, K4, hv2, h⟩ := bd2_of h
    refine x_cVv (As := [.ref (ad E 0 0)]) (rest := []) C w (vS (show (1 : Nat) < 6 by decide) (by decide)) (cel_S (show (1 : Nat) < 6 by decide)) rfl (mtX3_takeOver (show (1 : Nat) < 6 by decide) (show (0 : Nat) < 6 by decide) hv2) q24_7 q5_16 q5_17 q1_15 q5_18 ydX3_takeOver ⟨rfl, rfl⟩ ⟨by decide, by decide⟩ ⟨Nat.zero_le _, Nat.zero_le _⟩ hl.1 (Nat.le_of_ble_eq_true rfl) rfl dX4_pressureIn_29 (fun H locs w => ?_)
    refine lv_aload_n hx hb dX4_pressureIn_32 rfl (lv_at hl 0 rfl) ?_
    refine gR_X4_trial C w q1_17 dX4_pressureIn_33 ?_
    refine lv_iload_n hx hb dX4_pressureIn_36 rfl (lv_at hl 1 rfl) ?_
    obtain ⟨M6, J7, hv5, h⟩ := bd2_of h
    refine x_cVv (As := [.int x1]) (rest := []) C (Wd.ofS 1 w) (vS (show (1 : Nat) < 6 by decide) (by decide)) (cel_S (show (1 : Nat) < 6 by decide)) rfl (mtX3_runMinutes (show (1 : Nat) < 6 by decide) hv5) q14_3 q14_4 q14_5 q1_15 q14_6 ydX3_runMinutes ⟨rfl, rfl⟩ ⟨by decide, by decide⟩ ⟨Nat.zero_le _, Nat.zero_le _⟩ hl.1 (Nat.le_of_ble_eq_true rfl) rfl dX4_pressureIn_37 (fun H locs w => ?_)
    obtain ⟨G8, e10⟩ : ∃ z, z = sg G3 1 M6 := ⟨_, rfl⟩
    obtain ⟨K9, e11⟩ : ∃ z, z = sg K4 1 J7 := ⟨_, rfl⟩
    rw [← e10, ← e11] at w
    replace h := bnd_of h e10
    replace h := bnd_of h e11
    refine lv_aload_n hx hb dX4_pressureIn_40 rfl (lv_at hl 0 rfl) ?_
    refine gR_X4_trial C w q1_17 dX4_pressureIn_41 ?_
    obtain ⟨vv13, hv12, h⟩ := bind_of h
    refine x_cVi (As := []) (rest := []) C (Wd.ofS 1 w) (vS (show (1 : Nat) < 6 by decide) (by decide)) (cel_S (show (1 : Nat) < 6 by decide)) rfl (mtX3_pressure (show (1 : Nat) < 6 by decide) hv12) q6_16 q6_17 q6_18 q1_15 q6_19 ydX3_pressure ⟨rfl, rfl⟩ ⟨by decide, by decide⟩ ⟨Nat.zero_le _, Nat.zero_le _⟩ hl.1 (Nat.le_of_ble_eq_true rfl) rfl dX4_pressureIn_44 (fun H locs w => ?_)
    have w := Wd.back w
    obtain ⟨e0, e1, e2, e3⟩ := rt4 h
    exact x_ti C w e0.symm e1 (by rw [e2]) (by rw [e3]) dX4_pressureIn_47
  · replace h := ite_f h (fun z => z c1)
    obtain ⟨e0, e1, e2, e3⟩ := rt4 h
    exact x_thrG C w hst hno hl.1 (by rw [← e0]; decide) (by rw [← e0]; rfl) e2 e3 (by decide +kernel) q4_12 q4_13 (List.mem_of_getElem? (i := 9) rfl) thr_w1 thr_in1 thr_g1 dX4_pressureIn_11 dX4_pressureIn_14 dX4_pressureIn_15 dX4_pressureIn_17 dX4_pressureIn_20 (by decide) (by decide) (by decide) (by decide) (by decide) (by decide)
theorem mtX4_pressureIn {tg : Nat} {rr : Int32} {GR : M3} {KR : J3}  (hst : l.stackTraces = false) {x1 : Int32}  (h : fX4_pressureIn F  x1 G K = some (tg, rr, GR, KR)) : XtI l yX4_pressureIn wdX4_pressureIn rmX4_pressureIn E [.ref (ad E 6 0), .int x1] G K tg rr GR KR := by
  intro sz
  refine vx_ofW (cc := cX4_pressureIn) (maxL := 2) (ret := (some .int)) (by decide) rfl ?_
  intro p e s m args below meth c s₁ B hml hno hv
  obtain ⟨rfl, C, w⟩ := Cx.of (own := RX4) B rfl hml hv
  have hl := lv_entry ([.ref (ad E 6 0), .int x1]) (n := 2) (by first | exact Nat.le_of_ble_eq_true rfl)
  rw [lg_entry_eq]
  generalize (lg_sl ([.ref (ad E 6 0), .int x1]) ++ List.replicate (2 - (lg_sl ([.ref (ad E 6 0), .int x1])).length) Slot.unset).toArray = ls at hl ⊢
  exact TX4_pressureIn C hst hno  h w hl
theorem ydX4_pressureIn : yX4_pressureIn.cls = RX4 ∧ yX4_pressureIn.cls ≠ "java/lang/invoke/MethodHandle" ∧ yX4_pressureIn.cls ≠ "java/lang/invoke/VarHandle" ∧ (parseMethodDescriptor yX4_pressureIn.desc).map (fun d => d.parameters.length) = some 1 := by decide +kernel
/-! X4.canServe(I)I -/
abbrev rmX4_canServe : Room := { frames := 6, cells := 1, slots := 6, locals := 82 }
abbrev wdX4_canServe : Cond := Cond.code yX4_canServe cX4_canServe 2 (some .int)
noncomputable def fX4_canServe (F : Nat)  (x1 : Int32) (G : M3) (K : J3) : Option (Nat × Int32 × M3 × J3) := (if ¬ (fX4_isWithin x1 (0 : Int32) (16000 : Int32)) = 0 then ((fX3_usableCapacity F (G 0) (K 0)).bind (fun vv3 => some (0, (if (0 : Int32) < (vv3 - (fX3_leakAt (G 0) (K 0) x1)) then (vv3 - (fX3_leakAt (G 0) (K 0) x1)) else (0 : Int32)), G, K))) else (some (1, (0 : Int32), G, K)))
set_option maxRecDepth 20000 in
set_option maxHeartbeats 1000000 in
theorem TX4_canServe {tg : Nat} {rr : Int32} {GR : M3} {KR : J3}  (C : Cx E A p s m args meth c wdX4_canServe cX4_canServe 2 (some .int) RX4) (hst : l.stackTraces = false) (hno : ∀ x ∈ c.exceptionTable.toList, False) {x1 : Int32}  (h : fX4_canServe F  x1 G K = some (tg, rr, GR, KR)) (w : Wd E A s G K H locs) (hl : lv_has ls 2 [(0, .ref (ad E 6 0)), (1, .int x1)]) : W p l e rmX4_canServe s m args below meth c H locs 0 0 (QTi E A below args s tg rr GR KR) (F0 m 0 ls []) := by
  obtain ⟨hx, hb, hr, hml, hown, hts, hlocks, hKK, hA1, hA2⟩ := id C
  unfold fX4_canServe at h
  refine lv_iload_n hx hb dX4_canServe_0 rfl (lv_at hl 1 rfl) ?_
  refine lv_iconst (v := (0 : Int32)) hx hb dX4_canServe_1 (by decide) ?_
  refine lv_sipush (v := (16000 : Int32)) hx hb dX4_canServe_2 (by decide) ?_
  refine x_cSi (As := [.int x1, .int (0 : Int32), .int (16000 : Int32)]) (rest := []) C w (mtX4_isWithin ) q4_19 q4_20 q1_2 q4_21 ydX4_isWithin ⟨rfl, rfl⟩ ⟨by decide, by decide⟩ ⟨Nat.zero_le _, Nat.zero_le _⟩ hl.1 (Nat.le_of_ble_eq_true rfl) rfl dX4_canServe_5 (fun H locs w => ?_)
  refine lv_if_ne (tgt := 21) hx hb dX4_canServe_8 (by decide) (fun c1 => ?_) (fun c1 => ?_)
  · replace h := ite_t h c1
    refine lv_iconst (v := (0 : Int32)) hx hb dX4_canServe_21 (by decide) ?_
    refine lv_aload_n hx hb dX4_canServe_22 rfl (lv_at hl 0 rfl) ?_
    refine gR_X4_state C w q1_16 dX4_canServe_23 ?_
    obtain ⟨vv3, hv2, h⟩ := bind_of h
    refine x_cVi (As := []) (rest := [.int (0 : Int32)]) C (Wd.ofS 0 w) (vS (show (0 : Nat) < 6 by decide) (by decide)) (cel_S (show (0 : Nat) < 6 by decide)) rfl (mtX3_usableCapacity (show (0 : Nat) < 6 by decide) hv2) q25_15 q25_16 q25_17 q1_15 q25_18 ydX3_usableCapacity ⟨rfl, rfl⟩ ⟨by decide, by decide⟩ ⟨Nat.zero_le _, Nat.zero_le _⟩ hl.1 (Nat.le_of_ble_eq_true rfl) rfl dX4_canServe_26 (fun H locs w => ?_)
    have w := Wd.back w
    refine lv_aload_n hx hb dX4_canServe_29 rfl (lv_at hl 0 rfl) ?_
    refine gR_X4_state C w q1_16 dX4_canServe_30 ?_
    refine lv_iload_n hx hb dX4_canServe_33 rfl (lv_at hl 1 rfl) ?_
    refine x_cVi (As := [.int x1]) (rest := [.int vv3, .int (0 : Int32)]) C (Wd.ofS 0 w) (vS (show (0 : Nat) < 6 by decide) (by decide)) (cel_S (show (0 : Nat) < 6 by decide)) rfl (mtX3_leakAt (show (0 : Nat) < 6 by decide)) q25_19 q16_9 q16_10 q1_15 q16_11 ydX3_leakAt ⟨rfl, rfl⟩ ⟨by decide, by decide⟩ ⟨Nat.zero_le _, Nat.zero_le _⟩ hl.1 (Nat.le_of_ble_eq_true rfl) rfl dX4_canServe_34 (fun H locs w => ?_)
    have w := Wd.back w
    refine lv_isub hx hb dX4_canServe_37 ?_
    refine x_max C hl.1 q25_12 q25_13 q5_9 q25_14 (by decide) (show _ ≤ _ from Nat.le_of_ble_eq_true rfl) (Nat.zero_le _) (Nat.zero_le _) dX4_canServe_38 ?_
    obtain ⟨e0, e1, e2, e3⟩ := rt4 h
    exact x_ti C w e0.symm e1 (by rw [e2]) (by rw [e3]) dX4_canServe_41
  · replace h := ite_f h (fun z => z c1)
    obtain ⟨e0, e1, e2, e3⟩ := rt4 h
    exact x_thrG C w hst hno hl.1 (by rw [← e0]; decide) (by rw [← e0]; rfl) e2 e3 (by decide +kernel) q4_12 q4_13 (List.mem_of_getElem? (i := 16) rfl) thr_w1 thr_in1 thr_g1 dX4_canServe_11 dX4_canServe_14 dX4_canServe_15 dX4_canServe_17 dX4_canServe_20 (by decide) (by decide) (by decide) (by decide) (by decide) (by decide)
theorem mtX4_canServe {tg : Nat} {rr : Int32} {GR : M3} {KR : J3}  (hst : l.stackTraces = false) {x1 : Int32}  (h : fX4_canServe F  x1 G K = some (tg, rr, GR, KR)) : XtI l yX4_canServe wdX4_canServe rmX4_canServe E [.ref (ad E 6 0), .int x1] G K tg rr GR KR := by
  intro sz
  refine vx_ofW (cc := cX4_canServe) (maxL := 2) (ret := (some .int)) (by decide) rfl ?_
  intro p e s m args below meth c s₁ B hml hno hv
  obtain ⟨rfl, C, w⟩ := Cx.of (own := RX4) B rfl hml hv
  have hl := lv_entry ([.ref (ad E 6 0), .int x1]) (n := 2) (by first | exact Nat.le_of_ble_eq_true rfl)
  rw [lg_entry_eq]
  generalize (lg_sl ([.ref (ad E 6 0), .int x1]) ++ List.replicate (2 - (lg_sl ([.ref (ad E 6 0), .int x1])).length) Slot.unset).toArray = ls at hl ⊢
  exact TX4_canServe C hst hno  h w hl
theorem ydX4_canServe : yX4_canServe.cls = RX4 ∧ yX4_canServe.cls ≠ "java/lang/invoke/MethodHandle" ∧ yX4_canServe.cls ≠ "java/lang/invoke/VarHandle" ∧ (parseMethodDescriptor yX4_canServe.desc).map (fun d => d.parameters.length) = some 1 := by decide +kernel
/-! X4.energyWith(II)I -/
abbrev rmX4_energyWith : Room := { frames := 6, cells := 1, slots := 6, locals := 126 }
abbrev wdX4_energyWith : Cond := Cond.code yX4_energyWith cX4_energyWith 3 (some .int)
noncomputable def fX4_energyWith (F : Nat)  (x1 : Int32) (x2 : Int32) (G : M3) (K : J3) : Option (Nat × Int32 × M3 × J3) := (if ¬ (fX4_isWithin x1 (rowLeast 1) (rowMost 1)) = 0 then ((if ¬ (fX4_isWithin x2 (1 : Int32) (600 : Int32)) = 0 then (bd2 (fX3_takeOver F 1 0 G K) (fun G6 K7 => bnd (up3 G6 1 1 1 x1) (fun G8 => bd2 (fX3_runMinutes F x2 (G8 1) (K7 1)) (fun M11 J12 => bnd (sg G8 1 M11) (fun G13 => bnd (sg K7 1 J12) (fun K14 => some (0, ((K14 1 2 5) - (K14 0 2 5)).toInt32, G13, K14))))))) else (some (1, (0 : Int32), G, K)))) else (some (1, (0 : Int32), G, K)))
set_option maxRecDepth 20000 in
set_option maxHeartbeats 1000000 in
theorem TX4_energyWith {tg : Nat} {rr : Int32} {GR : M3} {KR : J3}  (C : Cx E A p s m args meth c wdX4_energyWith cX4_energyWith 3 (some .int) RX4) (hst : l.stackTraces = false) (hno : ∀ x ∈ c.exceptionTable.toList, False) {x1 : Int32} {x2 : Int32}  (h : fX4_energyWith F  x1 x2 G K = some (tg, rr, GR, KR)) (w : Wd E A s G K H locs) (hl : lv_has ls 3 [(0, .ref (ad E 6 0)), (1, .int x1), (2, .int x2)]) : W p l e rmX4_energyWith s m args below meth c H locs 0 0 (QTi E A below args s tg rr GR KR) (F0 m 0 ls []) := by
  obtain ⟨hx, hb, hr, hml, hown, hts, hlocks, hKK, hA1, hA2⟩ := id C
  unfold fX4_energyWith at h
  refine lv_iload_n hx hb dX4_energyWith_0 rfl (lv_at hl 1 rfl) ?_
  refine x_srow C w hKK.2.2.2.1.1 q8_12 dX4_energyWith_1 (fun b1 hXb1 hblb1 hbAb1 => ?_)
  refine lv_iconst (v := (1 : Int32)) hx hb dX4_energyWith_4 (by decide) ?_
  refine x_sld C w hXb1 hblb1 hbAb1 (inb_k (k := 1) (by decide) (by decide)) cl_1 dX4_energyWith_5 ?_
  refine x_srow C w hKK.2.2.2.1.2.1 q8_13 dX4_energyWith_6 (fun b2 hXb2 hblb2 hbAb2 => ?_)
  refine lv_iconst (v := (1 : Int32)) hx hb dX4_energyWith_9 (by decide) ?_
  refine x_sld C w hXb2 hblb2 hbAb2 (inb_k (k := 1) (by decide) (by decide)) cl_1 dX4_energyWith_10 ?_
  refine x_cSi (As := [.int x1, .int (rowLeast 1), .int (rowMost 1)]) (rest := []) C w (mtX4_isWithin ) q4_19 q4_20 q1_2 q4_21 ydX4_isWithin ⟨rfl, rfl⟩ ⟨by decide, by decide⟩ ⟨Nat.zero_le _, Nat.zero_le _⟩ hl.1 (Nat.le_of_ble_eq_true rfl) rfl dX4_energyWith_11 (fun H locs w => ?_)
  refine lv_if_ne (tgt := 27) hx hb dX4_energyWith_14 (by decide) (fun c3 => ?_) (fun c3 => ?_)
  · replace h := ite_t h c3
    refine lv_iload_n hx hb dX4_energyWith_27 rfl (lv_at hl 2 rfl) ?_
    refine lv_iconst (v := (1 : Int32)) hx hb dX4_energyWith_28 (by decide) ?_
    refine lv_sipush (v := (600 : Int32)) hx hb dX4_energyWith_29 (by decide) ?_
    refine x_cSi (As := [.int x2, .int (1 : Int32), .int (600 : Int32)]) (rest := []) C w (mtX4_isWithin ) q4_19 q4_20 q1_2 q4_21 ydX4_isWithin ⟨rfl, rfl⟩ ⟨by decide, by decide⟩ ⟨Nat.zero_le _, Nat.zero_le _⟩ hl.1 (Nat.le_of_ble_eq_true rfl) rfl dX4_energyWith_32 (fun H locs w => ?_)
    refine lv_if_ne (tgt := 48) hx hb dX4_energyWith_35 (by decide) (fun c4 => ?_) (fun c4 => ?_)
    · replace h := ite_t h c4
      refine lv_aload_n hx hb dX4_energyWith_48 rfl (lv_at hl 0 rfl) ?_
      refine gR_X4_trial C w q1_17 dX4_energyWith_49 ?_
      refine lv_aload_n hx hb dX4_energyWith_52 rfl (lv_at hl 0 rfl) ?_
      refine gR_X4_state C w q1_16 dX4_energyWith_53 ?_
      obtain ⟨G6, K7, hv5, h⟩ := bd2_of h
      refine x_cVv (As := [.ref (ad E 0 0)]) (rest := []) C w (vS (show (1 : Nat) < 6 by decide) (by decide)) (cel_S (show (1 : Nat) < 6 by decide)) rfl (mtX3_takeOver (show (1 : Nat) < 6 by decide) (show (0 : Nat) < 6 by decide) hv5) q24_7 q5_16 q5_17 q1_15 q5_18 ydX3_takeOver ⟨rfl, rfl⟩ ⟨by decide, by decide⟩ ⟨Nat.zero_le _, Nat.zero_le _⟩ hl.1 (Nat.le_of_ble_eq_true rfl) rfl dX4_energyWith_56 (fun H locs w => ?_)
      refine lv_aload_n hx hb dX4_energyWith_59 rfl (lv_at hl 0 rfl) ?_
      refine gR_X4_trial C w q1_17 dX4_energyWith_60 ?_
      refine gR_X3_settings (show (1 : Nat) < 6 by decide) C w q4_17 dX4_energyWith_63 ?_
      refine lv_iconst (v := (1 : Int32)) hx hb dX4_energyWith_66 (by decide) ?_
      refine lv_iload_n hx hb dX4_energyWith_67 rfl (lv_at hl 1 rfl) ?_
      refine x_astI_G C w (vS (show (1 : Nat) < 6 by decide) (by decide)) (cS1 (show (1 : Nat) < 6 by decide)) (inb_k (k := 1) (by decide) (by decide)) cl_1 dX4_energyWith_68 (fun G8 H locs e9 w => ?_)
      replace h := bnd_of h e9
      refine lv_aload_n hx hb dX4_energyWith_69 rfl (lv_at hl 0 rfl) ?_
      refine gR_X4_trial C w q1_17 dX4_energyWith_70 ?_
      refine lv_iload_n hx hb dX4_energyWith_73 rfl (lv_at hl 2 rfl) ?_
      obtain ⟨M11, J12, hv10, h⟩ := bd2_of h
      refine x_cVv (As := [.int x2]) (rest := []) C (Wd.ofS 1 w) (vS (show (1 : Nat) < 6 by decide) (by decide)) (cel_S (show (1 : Nat) < 6 by decide)) rfl (mtX3_runMinutes (show (1 : Nat) < 6 by decide) hv10) q14_3 q14_4 q14_5 q1_15 q14_6 ydX3_runMinutes ⟨rfl, rfl⟩ ⟨by decide, by decide⟩ ⟨Nat.zero_le _, Nat.zero_le _⟩ hl.1 (Nat.le_of_ble_eq_true rfl) rfl dX4_energyWith_74 (fun H locs w => ?_)
      obtain ⟨G13, e15⟩ : ∃ z, z = sg G8 1 M11 := ⟨_, rfl⟩
      obtain ⟨K14, e16⟩ : ∃ z, z = sg K7 1 J12 := ⟨_, rfl⟩
      rw [← e15, ← e16] at w
      replace h := bnd_of h e15
      replace h := bnd_of h e16
      refine lv_aload_n hx hb dX4_energyWith_77 rfl (lv_at hl 0 rfl) ?_
      refine gR_X4_trial C w q1_17 dX4_energyWith_78 ?_
      refine gR_X3_amounts (show (1 : Nat) < 6 by decide) C w q22_18 dX4_energyWith_81 ?_
      refine lv_iconst (v := (5 : Int32)) hx hb dX4_energyWith_84 (by decide) ?_
      refine x_aldJ C w (vS (show (1 : Nat) < 6 by decide) (by decide)) (cS2 (show (1 : Nat) < 6 by decide)) (inb_k (k := 5) (by decide) (by decide)) cl_5 dX4_energyWith_85 ?_
      refine lv_aload_n hx hb dX4_energyWith_86 rfl (lv_at hl 0 rfl) ?_
      refine gR_X4_state C w q1_16 dX4_energyWith_87 ?_
      refine gR_X3_amounts (show (0 : Nat) < 6 by decide) C w q22_18 dX4_energyWith_90 ?_
      refine lv_iconst (v := (5 : Int32)) hx hb dX4_energyWith_93 (by decide) ?_
      refine x_aldJ C w (vS (show (0 : Nat) < 6 by decide) (by decide)) (cS2 (show (0 : Nat) < 6 by decide)) (inb_k (k := 5) (by decide) (by decide)) cl_5 dX4_energyWith_94 ?_
      refine lv_lsub hx hb dX4_energyWith_95 ?_
      refine lv_l2i hx hb dX4_energyWith_96 rfl ?_
      obtain ⟨e0, e1, e2, e3⟩ := rt4 h
      exact x_ti C w e0.symm e1 (by rw [e2]) (by rw [e3]) dX4_energyWith_97
    · replace h := ite_f h (fun z => z c4)
      obtain ⟨e0, e1, e2, e3⟩ := rt4 h
      exact x_thrG C w hst hno hl.1 (by rw [← e0]; decide) (by rw [← e0]; rfl) e2 e3 (by decide +kernel) q4_12 q4_13 (List.mem_of_getElem? (i := 9) rfl) thr_w1 thr_in1 thr_g1 dX4_energyWith_38 dX4_energyWith_41 dX4_energyWith_42 dX4_energyWith_44 dX4_energyWith_47 (by decide) (by decide) (by decide) (by decide) (by decide) (by decide)
  · replace h := ite_f h (fun z => z c3)
    obtain ⟨e0, e1, e2, e3⟩ := rt4 h
    exact x_thrG C w hst hno hl.1 (by rw [← e0]; decide) (by rw [← e0]; rfl) e2 e3 (by decide +kernel) q4_12 q4_13 (List.mem_of_getElem? (i := 17) rfl) thr_w1 thr_in1 thr_g1 dX4_energyWith_17 dX4_energyWith_20 dX4_energyWith_21 dX4_energyWith_23 dX4_energyWith_26 (by decide) (by decide) (by decide) (by decide) (by decide) (by decide)
theorem mtX4_energyWith {tg : Nat} {rr : Int32} {GR : M3} {KR : J3}  (hst : l.stackTraces = false) {x1 : Int32} {x2 : Int32}  (h : fX4_energyWith F  x1 x2 G K = some (tg, rr, GR, KR)) : XtI l yX4_energyWith wdX4_energyWith rmX4_energyWith E [.ref (ad E 6 0), .int x1, .int x2] G K tg rr GR KR := by
  intro sz
  refine vx_ofW (cc := cX4_energyWith) (maxL := 3) (ret := (some .int)) (by decide) rfl ?_
  intro p e s m args below meth c s₁ B hml hno hv
  obtain ⟨rfl, C, w⟩ := Cx.of (own := RX4) B rfl hml hv
  have hl := lv_entry ([.ref (ad E 6 0), .int x1, .int x2]) (n := 3) (by first | exact Nat.le_of_ble_eq_true rfl)
  rw [lg_entry_eq]
  generalize (lg_sl ([.ref (ad E 6 0), .int x1, .int x2]) ++ List.replicate (3 - (lg_sl ([.ref (ad E 6 0), .int x1, .int x2])).length) Slot.unset).toArray = ls at hl ⊢
  exact TX4_energyWith C hst hno  h w hl
theorem ydX4_energyWith : yX4_energyWith.cls = RX4 ∧ yX4_energyWith.cls ≠ "java/lang/invoke/MethodHandle" ∧ yX4_energyWith.cls ≠ "java/lang/invoke/VarHandle" ∧ (parseMethodDescriptor yX4_energyWith.desc).map (fun d => d.parameters.length) = some 2 := by decide +kernel
/-! X4.bestOrder(II)I -/
abbrev rmX4_bestOrder : Room := { frames := 7, cells := 1, slots := 6, locals := 158 }
abbrev wdX4_bestOrder : Cond := Cond.code yX4_bestOrder cX4_bestOrder 3 (some .int)
noncomputable def fX4_bestOrder (F : Nat)  (x1 : Int32) (x2 : Int32) (G : M3) (K : J3) : Option (Nat × Int32 × M3 × J3) := (if ¬ (fX4_isWithin x1 (1 : Int32) (30 : Int32)) = 0 then ((if ¬ (fX4_isWithin x2 (0 : Int32) ((G 0 0 5) - (1 : Int32))) = 0 then (bd2 (fX3_takeOver F 1 0 G K) (fun G4 K5 => bd3 (fX4_rankOfBestOrder F x1 G4 K5) (fun vv9 G7 K8 => bd2 (fX3_orderByRank F vv9 (G7 1) (K8 1)) (fun M11 J12 => bnd (sg G7 1 M11) (fun G13 => bnd (sg K8 1 J12) (fun K14 => (fX3_numberAtStage F (G13 1) (K14 1) x2).bind (fun vv18 => some (0, vv18, G13, K14)))))))) else (some (3, (0 : Int32), G, K)))) else (some (1, (0 : Int32), G, K)))
set_option maxRecDepth 20000 in
set_option maxHeartbeats 1000000 in
theorem TX4_bestOrder {tg : Nat} {rr : Int32} {GR : M3} {KR : J3}  (C : Cx E A p s m args meth c wdX4_bestOrder cX4_bestOrder 3 (some .int) RX4) (hst : l.stackTraces = false) (hno : ∀ x ∈ c.exceptionTable.toList, False) {x1 : Int32} {x2 : Int32}  (h : fX4_bestOrder F  x1 x2 G K = some (tg, rr, GR, KR)) (w : Wd E A s G K H locs) (hl : lv_has ls 3 [(0, .ref (ad E 6 0)), (1, .int x1), (2, .int x2)]) : W p l e rmX4_bestOrder s m args below meth c H locs 0 0 (QTi E A below args s tg rr GR KR) (F0 m 0 ls []) := by
  obtain ⟨hx, hb, hr, hml, hown, hts, hlocks, hKK, hA1, hA2⟩ := id C
  unfold fX4_bestOrder at h
  refine lv_iload_n hx hb dX4_bestOrder_0 rfl (lv_at hl 1 rfl) ?_
  refine lv_iconst (v := (1 : Int32)) hx hb dX4_bestOrder_1 (by decide) ?_
  refine lv_bipush (v := (30 : Int32)) hx hb dX4_bestOrder_2 (by decide) ?_
  refine x_cSi (As := [.int x1, .int (1 : Int32), .int (30 : Int32)]) (rest := []) C w (mtX4_isWithin ) q4_19 q4_20 q1_2 q4_21 ydX4_isWithin ⟨rfl, rfl⟩ ⟨by decide, by decide⟩ ⟨Nat.zero_le _, Nat.zero_le _⟩ hl.1 (Nat.le_of_ble_eq_true rfl) rfl dX4_bestOrder_4 (fun H locs w => ?_)
  refine lv_if_ne (tgt := 20) hx hb dX4_bestOrder_7 (by decide) (fun c1 => ?_) (fun c1 => ?_)
  · replace h := ite_t h c1
    refine lv_iload_n hx hb dX4_bestOrder_20 rfl (lv_at hl 2 rfl) ?_
    refine lv_iconst (v := (0 : Int32)) hx hb dX4_bestOrder_21 (by decide) ?_
    refine lv_aload_n hx hb dX4_bestOrder_22 rfl (lv_at hl 0 rfl) ?_
    refine gR_X4_state C w q1_16 dX4_bestOrder_23 ?_
    refine gG_X3_count (show (0 : Nat) < 6 by decide) C w q9_7 dX4_bestOrder_26 ?_
    refine lv_iconst (v := (1 : Int32)) hx hb dX4_bestOrder_29 (by decide) ?_
    refine lv_isub hx hb dX4_bestOrder_30 ?_
    refine x_cSi (As := [.int x2, .int (0 : Int32), .int ((G 0 0 5) - (1 : Int32))]) (rest := []) C w (mtX4_isWithin ) q4_19 q4_20 q1_2 q4_21 ydX4_isWithin ⟨rfl, rfl⟩ ⟨by decide, by decide⟩ ⟨Nat.zero_le _, Nat.zero_le _⟩ hl.1 (Nat.le_of_ble_eq_true rfl) rfl dX4_bestOrder_31 (fun H locs w => ?_)
    refine lv_if_ne (tgt := 47) hx hb dX4_bestOrder_34 (by decide) (fun c2 => ?_) (fun c2 => ?_)
    · replace h := ite_t h c2
      refine lv_aload_n hx hb dX4_bestOrder_47 rfl (lv_at hl 0 rfl) ?_
      refine gR_X4_trial C w q1_17 dX4_bestOrder_48 ?_
      refine lv_aload_n hx hb dX4_bestOrder_51 rfl (lv_at hl 0 rfl) ?_
      refine gR_X4_state C w q1_16 dX4_bestOrder_52 ?_
      obtain ⟨G4, K5, hv3, h⟩ := bd2_of h
      refine x_cVv (As := [.ref (ad E 0 0)]) (rest := []) C w (vS (show (1 : Nat) < 6 by decide) (by decide)) (cel_S (show (1 : Nat) < 6 by decide)) rfl (mtX3_takeOver (show (1 : Nat) < 6 by decide) (show (0 : Nat) < 6 by decide) hv3) q24_7 q5_16 q5_17 q1_15 q5_18 ydX3_takeOver ⟨rfl, rfl⟩ ⟨by decide, by decide⟩ ⟨Nat.zero_le _, Nat.zero_le _⟩ hl.1 (Nat.le_of_ble_eq_true rfl) rfl dX4_bestOrder_55 (fun H locs w => ?_)
      refine lv_aload_n hx hb dX4_bestOrder_58 rfl (lv_at hl 0 rfl) ?_
      refine gR_X4_trial C w q1_17 dX4_bestOrder_59 ?_
      refine lv_aload_n hx hb dX4_bestOrder_62 rfl (lv_at hl 0 rfl) ?_
      refine lv_iload_n hx hb dX4_bestOrder_63 rfl (lv_at hl 1 rfl) ?_
      obtain ⟨vv9, G7, K8, hv6, h⟩ := bd3_of h
      refine x_cVi (As := [.int x1]) (rest := [.ref (ad E 1 0)]) C w (v6 (by decide)) cel_6 rfl (mtX4_rankOfBestOrder  hv6) q26_18 q26_19 q26_20 q1_2 q26_21 ydX4_rankOfBestOrder ⟨rfl, rfl⟩ ⟨by decide, by decide⟩ ⟨Nat.zero_le _, Nat.zero_le _⟩ hl.1 (Nat.le_of_ble_eq_true rfl) rfl dX4_bestOrder_64 (fun H locs w => ?_)
      obtain ⟨M11, J12, hv10, h⟩ := bd2_of h
      refine x_cVv (As := [.int vv9]) (rest := []) C (Wd.ofS 1 w) (vS (show (1 : Nat) < 6 by decide) (by decide)) (cel_S (show (1 : Nat) < 6 by decide)) rfl (mtX3_orderByRank (show (1 : Nat) < 6 by decide) hv10) q27_1 q27_2 q27_3 q1_15 q27_4 ydX3_orderByRank ⟨rfl, rfl⟩ ⟨by decide, by decide⟩ ⟨Nat.zero_le _, Nat.zero_le _⟩ hl.1 (Nat.le_of_ble_eq_true rfl) rfl dX4_bestOrder_67 (fun H locs w => ?_)
      obtain ⟨G13, e15⟩ : ∃ z, z = sg G7 1 M11 := ⟨_, rfl⟩
      obtain ⟨K14, e16⟩ : ∃ z, z = sg K8 1 J12 := ⟨_, rfl⟩
      rw [← e15, ← e16] at w
      replace h := bnd_of h e15
      replace h := bnd_of h e16
      refine lv_aload_n hx hb dX4_bestOrder_70 rfl (lv_at hl 0 rfl) ?_
      refine gR_X4_trial C w q1_17 dX4_bestOrder_71 ?_
      refine lv_iload_n hx hb dX4_bestOrder_74 rfl (lv_at hl 2 rfl) ?_
      obtain ⟨vv18, hv17, h⟩ := bind_of h
      refine x_cVi (As := [.int x2]) (rest := []) C (Wd.ofS 1 w) (vS (show (1 : Nat) < 6 by decide) (by decide)) (cel_S (show (1 : Nat) < 6 by decide)) rfl (mtX3_numberAtStage (show (1 : Nat) < 6 by decide) hv17) q20_5 q20_6 q20_7 q1_15 q20_8 ydX3_numberAtStage ⟨rfl, rfl⟩ ⟨by decide, by decide⟩ ⟨Nat.zero_le _, Nat.zero_le _⟩ hl.1 (Nat.le_of_ble_eq_true rfl) rfl dX4_bestOrder_75 (fun H locs w => ?_)
      have w := Wd.back w
      obtain ⟨e0, e1, e2, e3⟩ := rt4 h
      exact x_ti C w e0.symm e1 (by rw [e2]) (by rw [e3]) dX4_bestOrder_78
    · replace h := ite_f h (fun z => z c2)
      obtain ⟨e0, e1, e2, e3⟩ := rt4 h
      exact x_thrG C w hst hno hl.1 (by rw [← e0]; decide) (by rw [← e0]; rfl) e2 e3 (by decide +kernel) q10_8 q10_9 (List.mem_of_getElem? (i := 12) rfl) thr_w3 thr_in3 thr_g3 dX4_bestOrder_37 dX4_bestOrder_40 dX4_bestOrder_41 dX4_bestOrder_43 dX4_bestOrder_46 (by decide) (by decide) (by decide) (by decide) (by decide) (by decide)
  · replace h := ite_f h (fun z => z c1)
    obtain ⟨e0, e1, e2, e3⟩ := rt4 h
    exact x_thrG C w hst hno hl.1 (by rw [← e0]; decide) (by rw [← e0]; rfl) e2 e3 (by decide +kernel) q4_12 q4_13 (List.mem_of_getElem? (i := 9) rfl) thr_w1 thr_in1 thr_g1 dX4_bestOrder_10 dX4_bestOrder_13 dX4_bestOrder_14 dX4_bestOrder_16 dX4_bestOrder_19 (by decide) (by decide) (by decide) (by decide) (by decide) (by decide)
theorem mtX4_bestOrder {tg : Nat} {rr : Int32} {GR : M3} {KR : J3}  (hst : l.stackTraces = false) {x1 : Int32} {x2 : Int32}  (h : fX4_bestOrder F  x1 x2 G K = some (tg, rr, GR, KR)) : XtI l yX4_bestOrder wdX4_bestOrder rmX4_bestOrder E [.ref (ad E 6 0), .int x1, .int x2] G K tg rr GR KR := by
  intro sz
  refine vx_ofW (cc := cX4_bestOrder) (maxL := 3) (ret := (some .int)) (by decide) rfl ?_
  intro p e s m args below meth c s₁ B hml hno hv
  obtain ⟨rfl, C, w⟩ := Cx.of (own := RX4) B rfl hml hv
  have hl := lv_entry ([.ref (ad E 6 0), .int x1, .int x2]) (n := 3) (by first | exact Nat.le_of_ble_eq_true rfl)
  rw [lg_entry_eq]
  generalize (lg_sl ([.ref (ad E 6 0), .int x1, .int x2]) ++ List.replicate (3 - (lg_sl ([.ref (ad E 6 0), .int x1, .int x2])).length) Slot.unset).toArray = ls at hl ⊢
  exact TX4_bestOrder C hst hno  h w hl
theorem ydX4_bestOrder : yX4_bestOrder.cls = RX4 ∧ yX4_bestOrder.cls ≠ "java/lang/invoke/MethodHandle" ∧ yX4_bestOrder.cls ≠ "java/lang/invoke/VarHandle" ∧ (parseMethodDescriptor yX4_bestOrder.desc).map (fun d => d.parameters.length) = some 2 := by decide +kernel
/-! X4.append(I)I -/
abbrev rmX4_append : Room := { frames := 6, cells := 1, slots := 6, locals := 82 }
abbrev wdX4_append : Cond := Cond.code yX4_append cX4_append 2 (some .int)
noncomputable def fX4_append  (x1 : Int32) (G : M3) (K : J3) : Option (Nat × Int32 × M3 × J3) := (if ¬ (fX4_isWithin x1 (0 : Int32) (127 : Int32)) = 0 then ((if (G 7 0 0) < (100 : Int32) then (bd3 (fX2_putByte x1 (G 7) (K 7)) (fun vv10 M4 J5 => bnd (sg G 7 M4) (fun G6 => bnd (sg K 7 J5) (fun K7 => some (0, vv10, G6, K7))))) else (some (2, (0 : Int32), G, K)))) else (some (1, (0 : Int32), G, K)))
set_option maxRecDepth 20000 in
set_option maxHeartbeats 1000000 in
theorem TX4_append {tg : Nat} {rr : Int32} {GR : M3} {KR : J3}  (C : Cx E A p s m args meth c wdX4_append cX4_append 2 (some .int) RX4) (hst : l.stackTraces = false) (hno : ∀ x ∈ c.exceptionTable.toList, False) {x1 : Int32}  (h : fX4_append  x1 G K = some (tg, rr, GR, KR)) (w : Wd E A s G K H locs) (hl : lv_has ls 2 [(0, .ref (ad E 6 0)), (1, .int x1)]) : W p l e rmX4_append s m args below meth c H locs 0 0 (QTi E A below args s tg rr GR KR) (F0 m 0 ls []) := by
  obtain ⟨hx, hb, hr, hml, hown, hts, hlocks, hKK, hA1, hA2⟩ := id C
  unfold fX4_append at h
  refine lv_iload_n hx hb dX4_append_0 rfl (lv_at hl 1 rfl) ?_
  refine lv_iconst (v := (0 : Int32)) hx hb dX4_append_1 (by decide) ?_
  refine lv_bipush (v := (127 : Int32)) hx hb dX4_append_2 (by decide) ?_
  refine x_cSi (As := [.int x1, .int (0 : Int32), .int (127 : Int32)]) (rest := []) C w (mtX4_isWithin ) q4_19 q4_20 q1_2 q4_21 ydX4_isWithin ⟨rfl, rfl⟩ ⟨by decide, by decide⟩ ⟨Nat.zero_le _, Nat.zero_le _⟩ hl.1 (Nat.le_of_ble_eq_true rfl) rfl dX4_append_4 (fun H locs w => ?_)
  refine lv_if_ne (tgt := 20) hx hb dX4_append_7 (by decide) (fun c1 => ?_) (fun c1 => ?_)
  · replace h := ite_t h c1
    refine lv_aload_n hx hb dX4_append_20 rfl (lv_at hl 0 rfl) ?_
    refine gR_X4_program C w q2_1 dX4_append_21 ?_
    refine gG_X2_length C w q28_15 dX4_append_24 ?_
    refine lv_bipush (v := (100 : Int32)) hx hb dX4_append_27 (by decide) ?_
    refine lv_icmp_lt (tgt := 42) hx hb dX4_append_29 (by decide) (fun c2 => ?_) (fun c2 => ?_)
    · replace h := ite_t h c2
      refine lv_aload_n hx hb dX4_append_42 rfl (lv_at hl 0 rfl) ?_
      refine gR_X4_program C w q2_1 dX4_append_43 ?_
      refine lv_iload_n hx hb dX4_append_46 rfl (lv_at hl 1 rfl) ?_
      obtain ⟨vv10, M4, J5, hv3, h⟩ := bd3_of h
      refine x_cVi (As := [.int x1]) (rest := []) C (Wd.ofS 7 w) (v7 (by decide)) cel_7 rfl (mtX2_putByte  hv3) q28_16 q28_17 q28_18 q2_0 q28_19 ydX2_putByte ⟨rfl, rfl⟩ ⟨by decide, by decide⟩ ⟨Nat.zero_le _, Nat.zero_le _⟩ hl.1 (Nat.le_of_ble_eq_true rfl) rfl dX4_append_47 (fun H locs w => ?_)
      obtain ⟨G6, e8⟩ : ∃ z, z = sg G 7 M4 := ⟨_, rfl⟩
      obtain ⟨K7, e9⟩ : ∃ z, z = sg K 7 J5 := ⟨_, rfl⟩
      rw [← e8, ← e9] at w
      replace h := bnd_of h e8
      replace h := bnd_of h e9
      obtain ⟨e0, e1, e2, e3⟩ := rt4 h
      exact x_ti C w e0.symm e1 (by rw [e2]) (by rw [e3]) dX4_append_50
    · replace h := ite_f h c2
      obtain ⟨e0, e1, e2, e3⟩ := rt4 h
      exact x_thrG C w hst hno hl.1 (by rw [← e0]; decide) (by rw [← e0]; rfl) e2 e3 (by decide +kernel) q4_14 q4_15 (List.mem_of_getElem? (i := 19) rfl) thr_w2 thr_in2 thr_g2 dX4_append_32 dX4_append_35 dX4_append_36 dX4_append_38 dX4_append_41 (by decide) (by decide) (by decide) (by decide) (by decide) (by decide)
  · replace h := ite_f h (fun z => z c1)
    obtain ⟨e0, e1, e2, e3⟩ := rt4 h
    exact x_thrG C w hst hno hl.1 (by rw [← e0]; decide) (by rw [← e0]; rfl) e2 e3 (by decide +kernel) q4_12 q4_13 (List.mem_of_getElem? (i := 18) rfl) thr_w1 thr_in1 thr_g1 dX4_append_10 dX4_append_13 dX4_append_14 dX4_append_16 dX4_append_19 (by decide) (by decide) (by decide) (by decide) (by decide) (by decide)
theorem mtX4_append {tg : Nat} {rr : Int32} {GR : M3} {KR : J3}  (hst : l.stackTraces = false) {x1 : Int32}  (h : fX4_append  x1 G K = some (tg, rr, GR, KR)) : XtI l yX4_append wdX4_append rmX4_append E [.ref (ad E 6 0), .int x1] G K tg rr GR KR := by
  intro sz
  refine vx_ofW (cc := cX4_append) (maxL := 2) (ret := (some .int)) (by decide) rfl ?_
  intro p e s m args below meth c s₁ B hml hno hv
  obtain ⟨rfl, C, w⟩ := Cx.of (own := RX4) B rfl hml hv
  have hl := lv_entry ([.ref (ad E 6 0), .int x1]) (n := 2) (by first | exact Nat.le_of_ble_eq_true rfl)
  rw [lg_entry_eq]
  generalize (lg_sl ([.ref (ad E 6 0), .int x1]) ++ List.replicate (2 - (lg_sl ([.ref (ad E 6 0), .int x1])).length) Slot.unset).toArray = ls at hl ⊢
  exact TX4_append C hst hno  h w hl
theorem ydX4_append : yX4_append.cls = RX4 ∧ yX4_append.cls ≠ "java/lang/invoke/MethodHandle" ∧ yX4_append.cls ≠ "java/lang/invoke/VarHandle" ∧ (parseMethodDescriptor yX4_append.desc).map (fun d => d.parameters.length) = some 1 := by decide +kernel
/-! X4.undo()I -/
abbrev rmX4_undo : Room := { frames := 6, cells := 1, slots := 6, locals := 86 }
abbrev wdX4_undo : Cond := Cond.code yX4_undo cX4_undo 1 (some .int)
noncomputable def fX4_undo (F : Nat)   (G : M3) (K : J3) : Option (Nat × Int32 × M3 × J3) := (if ¬ (G 6 1 0) = 0 then (bd2 (fX1_restore F 0 G K) (fun G3 K4 => some (0, (G3 6 1 0), G3, K4))) else (some (2, (0 : Int32), G, K)))
set_option maxRecDepth 20000 in
set_option maxHeartbeats 1000000 in
theorem TX4_undo {tg : Nat} {rr : Int32} {GR : M3} {KR : J3}  (C : Cx E A p s m args meth c wdX4_undo cX4_undo 1 (some .int) RX4) (hst : l.stackTraces = false) (hno : ∀ x ∈ c.exceptionTable.toList, False)   (h : fX4_undo F  G K = some (tg, rr, GR, KR)) (w : Wd E A s G K H locs) (hl : lv_has ls 1 [(0, .ref (ad E 6 0))]) : W p l e rmX4_undo s m args below meth c H locs 0 0 (QTi E A below args s tg rr GR KR) (F0 m 0 ls []) := by
  obtain ⟨hx, hb, hr, hml, hown, hts, hlocks, hKK, hA1, hA2⟩ := id C
  unfold fX4_undo at h
  refine lv_aload_n hx hb dX4_undo_0 rfl (lv_at hl 0 rfl) ?_
  refine gR_X4_history C w q1_21 dX4_undo_1 ?_
  refine gG_X1_kept C w q33_2 dX4_undo_4 ?_
  refine lv_if_ne (tgt := 20) hx hb dX4_undo_7 (by decide) (fun c1 => ?_) (fun c1 => ?_)
  · replace h := ite_t h c1
    refine lv_aload_n hx hb dX4_undo_20 rfl (lv_at hl 0 rfl) ?_
    refine gR_X4_history C w q1_21 dX4_undo_21 ?_
    refine lv_aload_n hx hb dX4_undo_24 rfl (lv_at hl 0 rfl) ?_
    refine gR_X4_state C w q1_16 dX4_undo_25 ?_
    obtain ⟨G3, K4, hv2, h⟩ := bd2_of h
    refine x_cVv (As := [.ref (ad E 0 0)]) (rest := []) C w (v6 (by decide)) cel_6 rfl (mtX1_restore (show (0 : Nat) < 6 by decide) hv2) q33_3 q33_4 q33_5 q1_20 q33_6 ydX1_restore ⟨rfl, rfl⟩ ⟨by decide, by decide⟩ ⟨Nat.zero_le _, Nat.zero_le _⟩ hl.1 (Nat.le_of_ble_eq_true rfl) rfl dX4_undo_28 (fun H locs w => ?_)
    refine lv_aload_n hx hb dX4_undo_31 rfl (lv_at hl 0 rfl) ?_
    refine gR_X4_history C w q1_21 dX4_undo_32 ?_
    refine gG_X1_kept C w q33_2 dX4_undo_35 ?_
    obtain ⟨e0, e1, e2, e3⟩ := rt4 h
    exact x_ti C w e0.symm e1 (by rw [e2]) (by rw [e3]) dX4_undo_38
  · replace h := ite_f h (fun z => z c1)
    obtain ⟨e0, e1, e2, e3⟩ := rt4 h
    exact x_thrG C w hst hno hl.1 (by rw [← e0]; decide) (by rw [← e0]; rfl) e2 e3 (by decide +kernel) q4_14 q4_15 (List.mem_of_getElem? (i := 20) rfl) thr_w2 thr_in2 thr_g2 dX4_undo_10 dX4_undo_13 dX4_undo_14 dX4_undo_16 dX4_undo_19 (by decide) (by decide) (by decide) (by decide) (by decide) (by decide)
theorem mtX4_undo {tg : Nat} {rr : Int32} {GR : M3} {KR : J3}  (hst : l.stackTraces = false)   (h : fX4_undo F  G K = some (tg, rr, GR, KR)) : XtI l yX4_undo wdX4_undo rmX4_undo E [.ref (ad E 6 0)] G K tg rr GR KR := by
  intro sz
  refine vx_ofW (cc := cX4_undo) (maxL := 1) (ret := (some .int)) (by decide) rfl ?_
  intro p e s m args below meth c s₁ B hml hno hv
  obtain ⟨rfl, C, w⟩ := Cx.of (own := RX4) B rfl hml hv
  have hl := lv_entry ([.ref (ad E 6 0)]) (n := 1) (by first | exact Nat.le_of_ble_eq_true rfl)
  rw [lg_entry_eq]
  generalize (lg_sl ([.ref (ad E 6 0)]) ++ List.replicate (1 - (lg_sl ([.ref (ad E 6 0)])).length) Slot.unset).toArray = ls at hl ⊢
  exact TX4_undo C hst hno  h w hl
theorem ydX4_undo : yX4_undo.cls = RX4 ∧ yX4_undo.cls ≠ "java/lang/invoke/MethodHandle" ∧ yX4_undo.cls ≠ "java/lang/invoke/VarHandle" ∧ (parseMethodDescriptor yX4_undo.desc).map (fun d => d.parameters.length) = some 0 := by decide +kernel
end XA2
