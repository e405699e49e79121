section XM3
variable {E : WE} {A : Nat → Prop} {p : Program} {l : Launch} {e : Env} {s : State} {m : MethodId} {args : Array Value} {below : List Frame} {meth : Method} {c : Code} {H : Heap} {locs : List Loc} {ls : Array Slot} {G : M3} {K : J3} {M : M2} {J : J2} {F g q : Nat} {g' q' : Nat}

/-! X5.trips(I)I -/
abbrev rmX5_trips : Room := { frames := 3, cells := 0, slots := 0, locals := 55 }
abbrev wdX5_trips : Cond := Cond.code yX5_trips cX5_trips 2 (some .int)
noncomputable def fX5_trips  (x1 : Int32) (M : M2) (J : J2) : Option (Int32 × M2 × J2) := (if ¬ (fX5_isOne M J x1) = 0 then ((fX5_its M J x1 (1 : Int32)).bind (fun vv3 => (if ¬ vv3 = (3 : Int32) then ((fX5_its M J x1 (1 : Int32)).bind (fun vv6 => bnd (up2 M 0 13 vv6) (fun M7 => bd2 (fX5_put x1 (1 : Int32) (3 : Int32) M7 J) (fun M10 J11 => bd2 (fX5_put x1 (4 : Int32) (0 : Int32) M10 J11) (fun M13 J14 => bd2 (fX5_put x1 (5 : Int32) (0 : Int32) M13 J14) (fun M16 J17 => some ((0 : Int32), M16, J17))))))) else (some ((2 : Int32), M, J))))) else (some ((1 : Int32), M, J)))
set_option maxRecDepth 20000 in
set_option maxHeartbeats 1000000 in
theorem TX5_trips {rr : Int32} {MR : M2} {JR : J2}  (C : Cx E A p s m args meth c wdX5_trips cX5_trips 2 (some .int) RX5)  {x1 : Int32}  (h : fX5_trips  x1 M J = some (rr, MR, JR)) (w : Wd E A s (sg G 8 M) (sg K 8 J) H locs) (hl : lv_has ls 2 [(0, .ref (ad E 8 0)), (1, .int x1)]) : W p l e rmX5_trips s m args below meth c H locs 0 0 (QI E A below args s rr (sg G 8 MR) (sg K 8 JR)) (F0 m 0 ls []) := by
  obtain ⟨hx, hb, hr, hml, hown, hts, hlocks, hKK, hA1, hA2⟩ := id C
  unfold fX5_trips at h
  refine lv_aload_n hx hb dX5_trips_0 rfl (lv_at hl 0 rfl) ?_
  refine lv_iload_n hx hb dX5_trips_1 rfl (lv_at hl 1 rfl) ?_
  refine x_cVi (As := [.int x1]) (rest := []) C w (v8 (by decide)) cel_8 rfl (mtX5_isOne ) q11_1 q11_2 q11_3 q1_5 q11_4 ydX5_isOne ⟨rfl, rfl⟩ ⟨by decide, by decide⟩ ⟨Nat.zero_le _, Nat.zero_le _⟩ hl.1 (Nat.le_of_ble_eq_true rfl) rfl dX5_trips_2 (fun H locs w => ?_)
  refine lv_if_ne (tgt := 10) hx hb dX5_trips_5 (by decide) (fun c1 => ?_) (fun c1 => ?_)
  · replace h := ite_t h c1
    refine lv_aload_n hx hb dX5_trips_10 rfl (lv_at hl 0 rfl) ?_
    refine lv_iload_n hx hb dX5_trips_11 rfl (lv_at hl 1 rfl) ?_
    refine lv_iconst (v := (1 : Int32)) hx hb dX5_trips_12 (by decide) ?_
    obtain ⟨vv3, hv2, h⟩ := bind_of h
    refine x_cVi (As := [.int x1, .int (1 : Int32)]) (rest := []) C w (v8 (by decide)) cel_8 rfl (mtX5_its  hv2) q11_5 q11_6 q11_7 q1_5 q11_8 ydX5_its ⟨rfl, rfl⟩ ⟨by decide, by decide⟩ ⟨Nat.zero_le _, Nat.zero_le _⟩ hl.1 (Nat.le_of_ble_eq_true rfl) rfl dX5_trips_13 (fun H locs w => ?_)
    refine lv_iconst (v := (3 : Int32)) hx hb dX5_trips_16 (by decide) ?_
    refine lv_icmp_ne (tgt := 22) hx hb dX5_trips_17 (by decide) (fun c4 => ?_) (fun c4 => ?_)
    · replace h := ite_t h c4
      refine lv_aload_n hx hb dX5_trips_22 rfl (lv_at hl 0 rfl) ?_
      refine lv_aload_n hx hb dX5_trips_23 rfl (lv_at hl 0 rfl) ?_
      refine lv_iload_n hx hb dX5_trips_24 rfl (lv_at hl 1 rfl) ?_
      refine lv_iconst (v := (1 : Int32)) hx hb dX5_trips_25 (by decide) ?_
      obtain ⟨vv6, hv5, h⟩ := bind_of h
      refine x_cVi (As := [.int x1, .int (1 : Int32)]) (rest := [.ref (ad E 8 0)]) C w (v8 (by decide)) cel_8 rfl (mtX5_its  hv5) q11_5 q11_6 q11_7 q1_5 q11_8 ydX5_its ⟨rfl, rfl⟩ ⟨by decide, by decide⟩ ⟨Nat.zero_le _, Nat.zero_le _⟩ hl.1 (Nat.le_of_ble_eq_true rfl) rfl dX5_trips_26 (fun H locs w => ?_)
      refine pL_X5_answer C w q11_0 dX5_trips_29 (fun M7 H locs e8 w => ?_)
      replace h := bnd_of h e8
      refine lv_aload_n hx hb dX5_trips_32 rfl (lv_at hl 0 rfl) ?_
      refine lv_iload_n hx hb dX5_trips_33 rfl (lv_at hl 1 rfl) ?_
      refine lv_iconst (v := (1 : Int32)) hx hb dX5_trips_34 (by decide) ?_
      refine lv_iconst (v := (3 : Int32)) hx hb dX5_trips_35 (by decide) ?_
      obtain ⟨M10, J11, hv9, h⟩ := bd2_of h
      refine x_cVv (As := [.int x1, .int (1 : Int32), .int (3 : Int32)]) (rest := []) C w (v8 (by decide)) cel_8 rfl (mtX5_put  hv9) q9_20 q9_21 q9_22 q1_5 q9_23 ydX5_put ⟨rfl, rfl⟩ ⟨by decide, by decide⟩ ⟨Nat.zero_le _, Nat.zero_le _⟩ hl.1 (Nat.le_of_ble_eq_true rfl) rfl dX5_trips_36 (fun H locs w => ?_)
      refine lv_aload_n hx hb dX5_trips_39 rfl (lv_at hl 0 rfl) ?_
      refine lv_iload_n hx hb dX5_trips_40 rfl (lv_at hl 1 rfl) ?_
      refine lv_iconst (v := (4 : Int32)) hx hb dX5_trips_41 (by decide) ?_
      refine lv_iconst (v := (0 : Int32)) hx hb dX5_trips_42 (by decide) ?_
      obtain ⟨M13, J14, hv12, h⟩ := bd2_of h
      refine x_cVv (As := [.int x1, .int (4 : Int32), .int (0 : Int32)]) (rest := []) C w (v8 (by decide)) cel_8 rfl (mtX5_put  hv12) q9_20 q9_21 q9_22 q1_5 q9_23 ydX5_put ⟨rfl, rfl⟩ ⟨by decide, by decide⟩ ⟨Nat.zero_le _, Nat.zero_le _⟩ hl.1 (Nat.le_of_ble_eq_true rfl) rfl dX5_trips_43 (fun H locs w => ?_)
      refine lv_aload_n hx hb dX5_trips_46 rfl (lv_at hl 0 rfl) ?_
      refine lv_iload_n hx hb dX5_trips_47 rfl (lv_at hl 1 rfl) ?_
      refine lv_iconst (v := (5 : Int32)) hx hb dX5_trips_48 (by decide) ?_
      refine lv_iconst (v := (0 : Int32)) hx hb dX5_trips_49 (by decide) ?_
      obtain ⟨M16, J17, hv15, h⟩ := bd2_of h
      refine x_cVv (As := [.int x1, .int (5 : Int32), .int (0 : Int32)]) (rest := []) C w (v8 (by decide)) cel_8 rfl (mtX5_put  hv15) q9_20 q9_21 q9_22 q1_5 q9_23 ydX5_put ⟨rfl, rfl⟩ ⟨by decide, by decide⟩ ⟨Nat.zero_le _, Nat.zero_le _⟩ hl.1 (Nat.le_of_ble_eq_true rfl) rfl dX5_trips_50 (fun H locs w => ?_)
      refine lv_iconst (v := (0 : Int32)) hx hb dX5_trips_53 (by decide) ?_
      obtain ⟨e1, e2, e3⟩ := rt3 h
      exact x_ri C w e1 (by rw [e2]) (by rw [e3]) dX5_trips_54
    · replace h := ite_f h (fun z => z c4)
      refine lv_iconst (v := (2 : Int32)) hx hb dX5_trips_20 (by decide) ?_
      obtain ⟨e1, e2, e3⟩ := rt3 h
      exact x_ri C w e1 (by rw [e2]) (by rw [e3]) dX5_trips_21
  · replace h := ite_f h (fun z => z c1)
    refine lv_iconst (v := (1 : Int32)) hx hb dX5_trips_8 (by decide) ?_
    obtain ⟨e1, e2, e3⟩ := rt3 h
    exact x_ri C w e1 (by rw [e2]) (by rw [e3]) dX5_trips_9
theorem mtX5_trips {rr : Int32} {MR : M2} {JR : J2}   {x1 : Int32}  (h : fX5_trips  x1 M J = some (rr, MR, JR)) : MtI l yX5_trips wdX5_trips rmX5_trips E [.ref (ad E 8 0), .int x1] (sg G 8 M) (sg K 8 J) rr (sg G 8 MR) (sg K 8 JR) := by
  intro sz
  refine Met.ofW (cc := cX5_trips) (maxL := 2) (ret := (some .int)) (by decide) rfl ?_
  intro p e s m args below meth c s₁ B hml hv
  obtain ⟨rfl, C, w⟩ := Cx.of (own := RX5) B rfl hml hv
  have hl := lv_entry ([.ref (ad E 8 0), .int x1]) (n := 2) (by first | exact Nat.le_of_ble_eq_true rfl)
  rw [lg_entry_eq]
  generalize (lg_sl ([.ref (ad E 8 0), .int x1]) ++ List.replicate (2 - (lg_sl ([.ref (ad E 8 0), .int x1])).length) Slot.unset).toArray = ls at hl ⊢
  exact TX5_trips C   h w hl
theorem ydX5_trips : yX5_trips.cls = RX5 ∧ yX5_trips.cls ≠ "java/lang/invoke/MethodHandle" ∧ yX5_trips.cls ≠ "java/lang/invoke/VarHandle" ∧ (parseMethodDescriptor yX5_trips.desc).map (fun d => d.parameters.length) = some 1 := by decide +kernel
/-! X5.clears(I)I -/
abbrev rmX5_clears : Room := { frames := 3, cells := 0, slots := 0, locals := 55 }
abbrev wdX5_clears : Cond := Cond.code yX5_clears cX5_clears 2 (some .int)
noncomputable def fX5_clears (F : Nat)  (x1 : Int32) (M : M2) (J : J2) : Option (Int32 × M2 × J2) := (if ¬ (fX5_isOne M J x1) = 0 then ((fX5_its M J x1 (1 : Int32)).bind (fun vv3 => (if vv3 = (3 : Int32) then ((fX5_stage F M J x1).bind (fun vv6 => bnd (up2 M 0 13 vv6) (fun M7 => bd2 (fX5_put x1 (1 : Int32) (0 : Int32) M7 J) (fun M10 J11 => bd2 (fX5_put x1 (5 : Int32) (M10 1 6) M10 J11) (fun M13 J14 => some ((0 : Int32), M13, J14)))))) else (some ((2 : Int32), M, J))))) else (some ((1 : Int32), M, J)))
set_option maxRecDepth 20000 in
set_option maxHeartbeats 1000000 in
theorem TX5_clears {rr : Int32} {MR : M2} {JR : J2}  (C : Cx E A p s m args meth c wdX5_clears cX5_clears 2 (some .int) RX5)  {x1 : Int32}  (h : fX5_clears F  x1 M J = some (rr, MR, JR)) (w : Wd E A s (sg G 8 M) (sg K 8 J) H locs) (hl : lv_has ls 2 [(0, .ref (ad E 8 0)), (1, .int x1)]) : W p l e rmX5_clears s m args below meth c H locs 0 0 (QI E A below args s rr (sg G 8 MR) (sg K 8 JR)) (F0 m 0 ls []) := by
  obtain ⟨hx, hb, hr, hml, hown, hts, hlocks, hKK, hA1, hA2⟩ := id C
  unfold fX5_clears at h
  refine lv_aload_n hx hb dX5_clears_0 rfl (lv_at hl 0 rfl) ?_
  refine lv_iload_n hx hb dX5_clears_1 rfl (lv_at hl 1 rfl) ?_
  refine x_cVi (As := [.int x1]) (rest := []) C w (v8 (by decide)) cel_8 rfl (mtX5_isOne ) q11_1 q11_2 q11_3 q1_5 q11_4 ydX5_isOne ⟨rfl, rfl⟩ ⟨by decide, by decide⟩ ⟨Nat.zero_le _, Nat.zero_le _⟩ hl.1 (Nat.le_of_ble_eq_true rfl) rfl dX5_clears_2 (fun H locs w => ?_)
  refine lv_if_ne (tgt := 10) hx hb dX5_clears_5 (by decide) (fun c1 => ?_) (fun c1 => ?_)
  · replace h := ite_t h c1
    refine lv_aload_n hx hb dX5_clears_10 rfl (lv_at hl 0 rfl) ?_
    refine lv_iload_n hx hb dX5_clears_11 rfl (lv_at hl 1 rfl) ?_
    refine lv_iconst (v := (1 : Int32)) hx hb dX5_clears_12 (by decide) ?_
    obtain ⟨vv3, hv2, h⟩ := bind_of h
    refine x_cVi (As := [.int x1, .int (1 : Int32)]) (rest := []) C w (v8 (by decide)) cel_8 rfl (mtX5_its  hv2) q11_5 q11_6 q11_7 q1_5 q11_8 ydX5_its ⟨rfl, rfl⟩ ⟨by decide, by decide⟩ ⟨Nat.zero_le _, Nat.zero_le _⟩ hl.1 (Nat.le_of_ble_eq_true rfl) rfl dX5_clears_13 (fun H locs w => ?_)
    refine lv_iconst (v := (3 : Int32)) hx hb dX5_clears_16 (by decide) ?_
    refine lv_icmp_eq (tgt := 22) hx hb dX5_clears_17 (by decide) (fun c4 => ?_) (fun c4 => ?_)
    · replace h := ite_t h c4
      refine lv_aload_n hx hb dX5_clears_22 rfl (lv_at hl 0 rfl) ?_
      refine lv_aload_n hx hb dX5_clears_23 rfl (lv_at hl 0 rfl) ?_
      refine lv_iload_n hx hb dX5_clears_24 rfl (lv_at hl 1 rfl) ?_
      obtain ⟨vv6, hv5, h⟩ := bind_of h
      refine x_cVi (As := [.int x1]) (rest := [.ref (ad E 8 0)]) C w (v8 (by decide)) cel_8 rfl (mtX5_stage  hv5) q12_9 q12_10 q12_11 q1_5 q12_12 ydX5_stage ⟨rfl, rfl⟩ ⟨by decide, by decide⟩ ⟨Nat.zero_le _, Nat.zero_le _⟩ hl.1 (Nat.le_of_ble_eq_true rfl) rfl dX5_clears_25 (fun H locs w => ?_)
      refine pL_X5_answer C w q11_0 dX5_clears_28 (fun M7 H locs e8 w => ?_)
      replace h := bnd_of h e8
      refine lv_aload_n hx hb dX5_clears_31 rfl (lv_at hl 0 rfl) ?_
      refine lv_iload_n hx hb dX5_clears_32 rfl (lv_at hl 1 rfl) ?_
      refine lv_iconst (v := (1 : Int32)) hx hb dX5_clears_33 (by decide) ?_
      refine lv_iconst (v := (0 : Int32)) hx hb dX5_clears_34 (by decide) ?_
      obtain ⟨M10, J11, hv9, h⟩ := bd2_of h
      refine x_cVv (As := [.int x1, .int (1 : Int32), .int (0 : Int32)]) (rest := []) C w (v8 (by decide)) cel_8 rfl (mtX5_put  hv9) q9_20 q9_21 q9_22 q1_5 q9_23 ydX5_put ⟨rfl, rfl⟩ ⟨by decide, by decide⟩ ⟨Nat.zero_le _, Nat.zero_le _⟩ hl.1 (Nat.le_of_ble_eq_true rfl) rfl dX5_clears_35 (fun H locs w => ?_)
      refine lv_aload_n hx hb dX5_clears_38 rfl (lv_at hl 0 rfl) ?_
      refine lv_iload_n hx hb dX5_clears_39 rfl (lv_at hl 1 rfl) ?_
      refine lv_iconst (v := (5 : Int32)) hx hb dX5_clears_40 (by decide) ?_
      refine lv_aload_n hx hb dX5_clears_41 rfl (lv_at hl 0 rfl) ?_
      refine gR_X5_s C w q3_16 dX5_clears_42 ?_
      refine lv_bipush (v := (6 : Int32)) hx hb dX5_clears_45 (by decide) ?_
      refine x_aldI_L C w (v8 (by decide)) c8_1 (inb_k (k := 6) (by decide) (by decide)) cl_6 dX5_clears_47 ?_
      obtain ⟨M13, J14, hv12, h⟩ := bd2_of h
      refine x_cVv (As := [.int x1, .int (5 : Int32), .int (M10 1 6)]) (rest := []) C w (v8 (by decide)) cel_8 rfl (mtX5_put  hv12) q9_20 q9_21 q9_22 q1_5 q9_23 ydX5_put ⟨rfl, rfl⟩ ⟨by decide, by decide⟩ ⟨Nat.zero_le _, Nat.zero_le _⟩ hl.1 (Nat.le_of_ble_eq_true rfl) rfl dX5_clears_48 (fun H locs w => ?_)
      refine lv_iconst (v := (0 : Int32)) hx hb dX5_clears_51 (by decide) ?_
      obtain ⟨e1, e2, e3⟩ := rt3 h
      exact x_ri C w e1 (by rw [e2]) (by rw [e3]) dX5_clears_52
    · replace h := ite_f h c4
      refine lv_iconst (v := (2 : Int32)) hx hb dX5_clears_20 (by decide) ?_
      obtain ⟨e1, e2, e3⟩ := rt3 h
      exact x_ri C w e1 (by rw [e2]) (by rw [e3]) dX5_clears_21
  · replace h := ite_f h (fun z => z c1)
    refine lv_iconst (v := (1 : Int32)) hx hb dX5_clears_8 (by decide) ?_
    obtain ⟨e1, e2, e3⟩ := rt3 h
    exact x_ri C w e1 (by rw [e2]) (by rw [e3]) dX5_clears_9
theorem mtX5_clears {rr : Int32} {MR : M2} {JR : J2}   {x1 : Int32}  (h : fX5_clears F  x1 M J = some (rr, MR, JR)) : MtI l yX5_clears wdX5_clears rmX5_clears E [.ref (ad E 8 0), .int x1] (sg G 8 M) (sg K 8 J) rr (sg G 8 MR) (sg K 8 JR) := by
  intro sz
  refine Met.ofW (cc := cX5_clears) (maxL := 2) (ret := (some .int)) (by decide) rfl ?_
  intro p e s m args below meth c s₁ B hml hv
  obtain ⟨rfl, C, w⟩ := Cx.of (own := RX5) B rfl hml hv
  have hl := lv_entry ([.ref (ad E 8 0), .int x1]) (n := 2) (by first | exact Nat.le_of_ble_eq_true rfl)
  rw [lg_entry_eq]
  generalize (lg_sl ([.ref (ad E 8 0), .int x1]) ++ List.replicate (2 - (lg_sl ([.ref (ad E 8 0), .int x1])).length) Slot.unset).toArray = ls at hl ⊢
  exact TX5_clears C   h w hl
theorem ydX5_clears : yX5_clears.cls = RX5 ∧ yX5_clears.cls ≠ "java/lang/invoke/MethodHandle" ∧ yX5_clears.cls ≠ "java/lang/invoke/VarHandle" ∧ (parseMethodDescriptor yX5_clears.desc).map (fun d => d.parameters.length) = some 1 := by decide +kernel
/-! X5.passes(I)I -/
abbrev rmX5_passes : Room := { frames := 7, cells := 0, slots := 0, locals := 146 }
abbrev wdX5_passes : Cond := Cond.code yX5_passes cX5_passes 2 (some .int)
noncomputable def fX5_passes (F : Nat)  (x1 : Int32) (M : M2) (J : J2) : Option (Int32 × M2 × J2) := (if ((M 1 11) + x1) ≤ (100000 : Int32) then (bd2 (fX5_minutes F x1 M J) (fun M3 J4 => (fX5_pressure M3 J4).bind (fun vv6 => bnd (up2 M3 0 13 vv6) (fun M7 => some ((0 : Int32), M7, J4))))) else (some ((2 : Int32), M, J)))
set_option maxRecDepth 20000 in
set_option maxHeartbeats 1000000 in
theorem TX5_passes {rr : Int32} {MR : M2} {JR : J2}  (C : Cx E A p s m args meth c wdX5_passes cX5_passes 2 (some .int) RX5)  {x1 : Int32}  (h : fX5_passes F  x1 M J = some (rr, MR, JR)) (w : Wd E A s (sg G 8 M) (sg K 8 J) H locs) (hl : lv_has ls 2 [(0, .ref (ad E 8 0)), (1, .int x1)]) : W p l e rmX5_passes s m args below meth c H locs 0 0 (QI E A below args s rr (sg G 8 MR) (sg K 8 JR)) (F0 m 0 ls []) := by
  obtain ⟨hx, hb, hr, hml, hown, hts, hlocks, hKK, hA1, hA2⟩ := id C
  unfold fX5_passes at h
  refine lv_aload_n hx hb dX5_passes_0 rfl (lv_at hl 0 rfl) ?_
  refine gR_X5_s C w q3_16 dX5_passes_1 ?_
  refine lv_bipush (v := (11 : Int32)) hx hb dX5_passes_4 (by decide) ?_
  refine x_aldI_L C w (v8 (by decide)) c8_1 (inb_k (k := 11) (by decide) (by decide)) cl_11 dX5_passes_6 ?_
  refine lv_iload_n hx hb dX5_passes_7 rfl (lv_at hl 1 rfl) ?_
  refine lv_iadd hx hb dX5_passes_8 ?_
  refine lv_ldc hx hb hown (x_hts C q17_0) dX5_passes_9 ?_
  refine lv_icmp_le (tgt := 16) hx hb dX5_passes_11 (by decide) (fun c1 => ?_) (fun c1 => ?_)
  · replace h := ite_t h c1
    refine lv_aload_n hx hb dX5_passes_16 rfl (lv_at hl 0 rfl) ?_
    refine lv_iload_n hx hb dX5_passes_17 rfl (lv_at hl 1 rfl) ?_
    obtain ⟨M3, J4, hv2, h⟩ := bd2_of h
    refine x_cVv (As := [.int x1]) (rest := []) C w (v8 (by decide)) cel_8 rfl (mtX5_minutes  hv2) q17_1 q17_2 q17_3 q1_5 q17_4 ydX5_minutes ⟨rfl, rfl⟩ ⟨by decide, by decide⟩ ⟨Nat.zero_le _, Nat.zero_le _⟩ hl.1 (Nat.le_of_ble_eq_true rfl) rfl dX5_passes_18 (fun H locs w => ?_)
    refine lv_aload_n hx hb dX5_passes_21 rfl (lv_at hl 0 rfl) ?_
    refine lv_aload_n hx hb dX5_passes_22 rfl (lv_at hl 0 rfl) ?_
    obtain ⟨vv6, hv5, h⟩ := bind_of h
    refine x_cVi (As := []) (rest := [.ref (ad E 8 0)]) C w (v8 (by decide)) cel_8 rfl (mtX5_pressure  hv5) q7_17 q7_18 q7_19 q1_5 q7_20 ydX5_pressure ⟨rfl, rfl⟩ ⟨by decide, by decide⟩ ⟨Nat.zero_le _, Nat.zero_le _⟩ hl.1 (Nat.le_of_ble_eq_true rfl) rfl dX5_passes_23 (fun H locs w => ?_)
    refine pL_X5_answer C w q11_0 dX5_passes_26 (fun M7 H locs e8 w => ?_)
    replace h := bnd_of h e8
    refine lv_iconst (v := (0 : Int32)) hx hb dX5_passes_29 (by decide) ?_
    obtain ⟨e1, e2, e3⟩ := rt3 h
    exact x_ri C w e1 (by rw [e2]) (by rw [e3]) dX5_passes_30
  · replace h := ite_f h c1
    refine lv_iconst (v := (2 : Int32)) hx hb dX5_passes_14 (by decide) ?_
    obtain ⟨e1, e2, e3⟩ := rt3 h
    exact x_ri C w e1 (by rw [e2]) (by rw [e3]) dX5_passes_15
theorem mtX5_passes {rr : Int32} {MR : M2} {JR : J2}   {x1 : Int32}  (h : fX5_passes F  x1 M J = some (rr, MR, JR)) : MtI l yX5_passes wdX5_passes rmX5_passes E [.ref (ad E 8 0), .int x1] (sg G 8 M) (sg K 8 J) rr (sg G 8 MR) (sg K 8 JR) := by
  intro sz
  refine Met.ofW (cc := cX5_passes) (maxL := 2) (ret := (some .int)) (by decide) rfl ?_
  intro p e s m args below meth c s₁ B hml hv
  obtain ⟨rfl, C, w⟩ := Cx.of (own := RX5) B rfl hml hv
  have hl := lv_entry ([.ref (ad E 8 0), .int x1]) (n := 2) (by first | exact Nat.le_of_ble_eq_true rfl)
  rw [lg_entry_eq]
  generalize (lg_sl ([.ref (ad E 8 0), .int x1]) ++ List.replicate (2 - (lg_sl ([.ref (ad E 8 0), .int x1])).length) Slot.unset).toArray = ls at hl ⊢
  exact TX5_passes C   h w hl
theorem ydX5_passes : yX5_passes.cls = RX5 ∧ yX5_passes.cls ≠ "java/lang/invoke/MethodHandle" ∧ yX5_passes.cls ≠ "java/lang/invoke/VarHandle" ∧ (parseMethodDescriptor yX5_passes.desc).map (fun d => d.parameters.length) = some 1 := by decide +kernel
/-! X5.ends(I)I -/
abbrev rmX5_ends : Room := { frames := 2, cells := 0, slots := 0, locals := 33 }
abbrev wdX5_ends : Cond := Cond.code yX5_ends cX5_ends 2 (some .int)
noncomputable def fX5_ends (F : Nat)  (x1 : Int32) (M : M2) (J : J2) : Option (Int32 × M2 × J2) := (if x1 ≤ 0 then (bd2 (fX5_saves F M J) (fun M3 J4 => bd3 (fX5_tells (M3 0 13) M3 J4) (fun vv8 M6 J7 => some (vv8, M6, J7)))) else (bd3 (fX5_fails x1 M J) (fun vv12 M10 J11 => some (vv12, M10, J11))))
set_option maxRecDepth 20000 in
set_option maxHeartbeats 1000000 in
theorem TX5_ends {rr : Int32} {MR : M2} {JR : J2}  (C : Cx E A p s m args meth c wdX5_ends cX5_ends 2 (some .int) RX5)  {x1 : Int32}  (h : fX5_ends F  x1 M J = some (rr, MR, JR)) (w : Wd E A s (sg G 8 M) (sg K 8 J) H locs) (hl : lv_has ls 2 [(0, .ref (ad E 8 0)), (1, .int x1)]) : W p l e rmX5_ends s m args below meth c H locs 0 0 (QI E A below args s rr (sg G 8 MR) (sg K 8 JR)) (F0 m 0 ls []) := by
  obtain ⟨hx, hb, hr, hml, hown, hts, hlocks, hKK, hA1, hA2⟩ := id C
  unfold fX5_ends at h
  refine lv_iload_n hx hb dX5_ends_0 rfl (lv_at hl 1 rfl) ?_
  refine lv_if_le (tgt := 10) hx hb dX5_ends_1 (by decide) (fun c1 => ?_) (fun c1 => ?_)
  · replace h := ite_t h c1
    refine lv_aload_n hx hb dX5_ends_10 rfl (lv_at hl 0 rfl) ?_
    obtain ⟨M3, J4, hv2, h⟩ := bd2_of h
    refine x_cVv (As := []) (rest := []) C w (v8 (by decide)) cel_8 rfl (mtX5_saves  hv2) q7_12 q7_13 q7_14 q1_5 q7_15 ydX5_saves ⟨rfl, rfl⟩ ⟨by decide, by decide⟩ ⟨Nat.zero_le _, Nat.zero_le _⟩ hl.1 (Nat.le_of_ble_eq_true rfl) rfl dX5_ends_11 (fun H locs w => ?_)
    refine lv_aload_n hx hb dX5_ends_14 rfl (lv_at hl 0 rfl) ?_
    refine lv_aload_n hx hb dX5_ends_15 rfl (lv_at hl 0 rfl) ?_
    refine gL_X5_answer C w q11_0 dX5_ends_16 ?_
    obtain ⟨vv8, M6, J7, hv5, h⟩ := bd3_of h
    refine x_cVi (As := [.int (M3 0 13)]) (rest := []) C w (v8 (by decide)) cel_8 rfl (mtX5_tells  hv5) q7_21 q7_22 q7_23 q1_5 q8_0 ydX5_tells ⟨rfl, rfl⟩ ⟨by decide, by decide⟩ ⟨Nat.zero_le _, Nat.zero_le _⟩ hl.1 (Nat.le_of_ble_eq_true rfl) rfl dX5_ends_19 (fun H locs w => ?_)
    obtain ⟨e1, e2, e3⟩ := rt3 h
    exact x_ri C w e1 (by rw [e2]) (by rw [e3]) dX5_ends_22
  · replace h := ite_f h c1
    refine lv_aload_n hx hb dX5_ends_4 rfl (lv_at hl 0 rfl) ?_
    refine lv_iload_n hx hb dX5_ends_5 rfl (lv_at hl 1 rfl) ?_
    obtain ⟨vv12, M10, J11, hv9, h⟩ := bd3_of h
    refine x_cVi (As := [.int x1]) (rest := []) C w (v8 (by decide)) cel_8 rfl (mtX5_fails  hv9) q7_3 q7_4 q7_5 q1_5 q7_6 ydX5_fails ⟨rfl, rfl⟩ ⟨by decide, by decide⟩ ⟨Nat.zero_le _, Nat.zero_le _⟩ hl.1 (Nat.le_of_ble_eq_true rfl) rfl dX5_ends_6 (fun H locs w => ?_)
    obtain ⟨e1, e2, e3⟩ := rt3 h
    exact x_ri C w e1 (by rw [e2]) (by rw [e3]) dX5_ends_9
theorem mtX5_ends {rr : Int32} {MR : M2} {JR : J2}   {x1 : Int32}  (h : fX5_ends F  x1 M J = some (rr, MR, JR)) : MtI l yX5_ends wdX5_ends rmX5_ends E [.ref (ad E 8 0), .int x1] (sg G 8 M) (sg K 8 J) rr (sg G 8 MR) (sg K 8 JR) := by
  intro sz
  refine Met.ofW (cc := cX5_ends) (maxL := 2) (ret := (some .int)) (by decide) rfl ?_
  intro p e s m args below meth c s₁ B hml hv
  obtain ⟨rfl, C, w⟩ := Cx.of (own := RX5) B rfl hml hv
  have hl := lv_entry ([.ref (ad E 8 0), .int x1]) (n := 2) (by first | exact Nat.le_of_ble_eq_true rfl)
  rw [lg_entry_eq]
  generalize (lg_sl ([.ref (ad E 8 0), .int x1]) ++ List.replicate (2 - (lg_sl ([.ref (ad E 8 0), .int x1])).length) Slot.unset).toArray = ls at hl ⊢
  exact TX5_ends C   h w hl
theorem ydX5_ends : yX5_ends.cls = RX5 ∧ yX5_ends.cls ≠ "java/lang/invoke/MethodHandle" ∧ yX5_ends.cls ≠ "java/lang/invoke/VarHandle" ∧ (parseMethodDescriptor yX5_ends.desc).map (fun d => d.parameters.length) = some 1 := by decide +kernel
/-! X5.trip(I)I -/
abbrev rmX5_trip : Room := { frames := 4, cells := 0, slots := 0, locals := 76 }
abbrev wdX5_trip : Cond := Cond.code yX5_trip cX5_trip 2 (some .int)
noncomputable def fX5_trip (F : Nat)  (x1 : Int32) (M : M2) (J : J2) : Option (Int32 × M2 × J2) := bd2 (fX5_holds F M J) (fun M2 J3 => bd3 (fX5_trips x1 M2 J3) (fun vv7 M5 J6 => bd3 (fX5_ends F vv7 M5 J6) (fun vv11 M9 J10 => some (vv11, M9, J10))))
set_option maxRecDepth 20000 in
set_option maxHeartbeats 1000000 in
theorem TX5_trip {rr : Int32} {MR : M2} {JR : J2}  (C : Cx E A p s m args meth c wdX5_trip cX5_trip 2 (some .int) RX5)  {x1 : Int32}  (h : fX5_trip F  x1 M J = some (rr, MR, JR)) (w : Wd E A s (sg G 8 M) (sg K 8 J) H locs) (hl : lv_has ls 2 [(0, .ref (ad E 8 0)), (1, .int x1)]) : W p l e rmX5_trip s m args below meth c H locs 0 0 (QI E A below args s rr (sg G 8 MR) (sg K 8 JR)) (F0 m 0 ls []) := by
  obtain ⟨hx, hb, hr, hml, hown, hts, hlocks, hKK, hA1, hA2⟩ := id C
  unfold fX5_trip at h
  refine lv_aload_n hx hb dX5_trip_0 rfl (lv_at hl 0 rfl) ?_
  obtain ⟨M2, J3, hv1, h⟩ := bd2_of h
  refine x_cVv (As := []) (rest := []) C w (v8 (by decide)) cel_8 rfl (mtX5_holds  hv1) q7_8 q7_9 q7_10 q1_5 q7_11 ydX5_holds ⟨rfl, rfl⟩ ⟨by decide, by decide⟩ ⟨Nat.zero_le _, Nat.zero_le _⟩ hl.1 (Nat.le_of_ble_eq_true rfl) rfl dX5_trip_1 (fun H locs w => ?_)
  refine lv_aload_n hx hb dX5_trip_4 rfl (lv_at hl 0 rfl) ?_
  refine lv_aload_n hx hb dX5_trip_5 rfl (lv_at hl 0 rfl) ?_
  refine lv_iload_n hx hb dX5_trip_6 rfl (lv_at hl 1 rfl) ?_
  obtain ⟨vv7, M5, J6, hv4, h⟩ := bd3_of h
  refine x_cVi (As := [.int x1]) (rest := [.ref (ad E 8 0)]) C w (v8 (by decide)) cel_8 rfl (mtX5_trips  hv4) q10_20 q10_21 q10_22 q1_5 q10_23 ydX5_trips ⟨rfl, rfl⟩ ⟨by decide, by decide⟩ ⟨Nat.zero_le _, Nat.zero_le _⟩ hl.1 (Nat.le_of_ble_eq_true rfl) rfl dX5_trip_7 (fun H locs w => ?_)
  obtain ⟨vv11, M9, J10, hv8, h⟩ := bd3_of h
  refine x_cVi (As := [.int vv7]) (rest := []) C w (v8 (by decide)) cel_8 rfl (mtX5_ends  hv8) q11_9 q11_10 q11_11 q1_5 q11_12 ydX5_ends ⟨rfl, rfl⟩ ⟨by decide, by decide⟩ ⟨Nat.zero_le _, Nat.zero_le _⟩ hl.1 (Nat.le_of_ble_eq_true rfl) rfl dX5_trip_10 (fun H locs w => ?_)
  obtain ⟨e1, e2, e3⟩ := rt3 h
  exact x_ri C w e1 (by rw [e2]) (by rw [e3]) dX5_trip_13
theorem mtX5_trip {rr : Int32} {MR : M2} {JR : J2}   {x1 : Int32}  (h : fX5_trip F  x1 M J = some (rr, MR, JR)) : MtI l yX5_trip wdX5_trip rmX5_trip E [.ref (ad E 8 0), .int x1] (sg G 8 M) (sg K 8 J) rr (sg G 8 MR) (sg K 8 JR) := by
  intro sz
  refine Met.ofW (cc := cX5_trip) (maxL := 2) (ret := (some .int)) (by decide) rfl ?_
  intro p e s m args below meth c s₁ B hml hv
  obtain ⟨rfl, C, w⟩ := Cx.of (own := RX5) B rfl hml hv
  have hl := lv_entry ([.ref (ad E 8 0), .int x1]) (n := 2) (by first | exact Nat.le_of_ble_eq_true rfl)
  rw [lg_entry_eq]
  generalize (lg_sl ([.ref (ad E 8 0), .int x1]) ++ List.replicate (2 - (lg_sl ([.ref (ad E 8 0), .int x1])).length) Slot.unset).toArray = ls at hl ⊢
  exact TX5_trip C   h w hl
theorem ydX5_trip : yX5_trip.cls = RX5 ∧ yX5_trip.cls ≠ "java/lang/invoke/MethodHandle" ∧ yX5_trip.cls ≠ "java/lang/invoke/VarHandle" ∧ (parseMethodDescriptor yX5_trip.desc).map (fun d => d.parameters.length) = some 1 := by decide +kernel
/-! X5.clear(I)I -/
abbrev rmX5_clear : Room := { frames := 4, cells := 0, slots := 0, locals := 76 }
abbrev wdX5_clear : Cond := Cond.code yX5_clear cX5_clear 2 (some .int)
noncomputable def fX5_clear (F : Nat)  (x1 : Int32) (M : M2) (J : J2) : Option (Int32 × M2 × J2) := bd2 (fX5_holds F M J) (fun M2 J3 => bd3 (fX5_clears F x1 M2 J3) (fun vv7 M5 J6 => bd3 (fX5_ends F vv7 M5 J6) (fun vv11 M9 J10 => some (vv11, M9, J10))))
set_option maxRecDepth 20000 in
set_option maxHeartbeats 1000000 in
theorem TX5_clear {rr : Int32} {MR : M2} {JR : J2}  (C : Cx E A p s m args meth c wdX5_clear cX5_clear 2 (some .int) RX5)  {x1 : Int32}  (h : fX5_clear F  x1 M J = some (rr, MR, JR)) (w : Wd E A s (sg G 8 M) (sg K 8 J) H locs) (hl : lv_has ls 2 [(0, .ref (ad E 8 0)), (1, .int x1)]) : W p l e rmX5_clear s m args below meth c H locs 0 0 (QI E A below args s rr (sg G 8 MR) (sg K 8 JR)) (F0 m 0 ls []) := by
  obtain ⟨hx, hb, hr, hml, hown, hts, hlocks, hKK, hA1, hA2⟩ := id C
  unfold fX5_clear at h
  refine lv_aload_n hx hb dX5_clear_0 rfl (lv_at hl 0 rfl) ?_
  obtain ⟨M2, J3, hv1, h⟩ := bd2_of h
  refine x_cVv (As := []) (rest := []) C w (v8 (by decide)) cel_8 rfl (mtX5_holds  hv1) q7_8 q7_9 q7_10 q1_5 q7_11 ydX5_holds ⟨rfl, rfl⟩ ⟨by decide, by decide⟩ ⟨Nat.zero_le _, Nat.zero_le _⟩ hl.1 (Nat.le_of_ble_eq_true rfl) rfl dX5_clear_1 (fun H locs w => ?_)
  refine lv_aload_n hx hb dX5_clear_4 rfl (lv_at hl 0 rfl) ?_
  refine lv_aload_n hx hb dX5_clear_5 rfl (lv_at hl 0 rfl) ?_
  refine lv_iload_n hx hb dX5_clear_6 rfl (lv_at hl 1 rfl) ?_
  obtain ⟨vv7, M5, J6, hv4, h⟩ := bd3_of h
  refine x_cVi (As := [.int x1]) (rest := [.ref (ad E 8 0)]) C w (v8 (by decide)) cel_8 rfl (mtX5_clears  hv4) q12_5 q12_6 q12_7 q1_5 q12_8 ydX5_clears ⟨rfl, rfl⟩ ⟨by decide, by decide⟩ ⟨Nat.zero_le _, Nat.zero_le _⟩ hl.1 (Nat.le_of_ble_eq_true rfl) rfl dX5_clear_7 (fun H locs w => ?_)
  obtain ⟨vv11, M9, J10, hv8, h⟩ := bd3_of h
  refine x_cVi (As := [.int vv7]) (rest := []) C w (v8 (by decide)) cel_8 rfl (mtX5_ends  hv8) q11_9 q11_10 q11_11 q1_5 q11_12 ydX5_ends ⟨rfl, rfl⟩ ⟨by decide, by decide⟩ ⟨Nat.zero_le _, Nat.zero_le _⟩ hl.1 (Nat.le_of_ble_eq_true rfl) rfl dX5_clear_10 (fun H locs w => ?_)
  obtain ⟨e1, e2, e3⟩ := rt3 h
  exact x_ri C w e1 (by rw [e2]) (by rw [e3]) dX5_clear_13
theorem mtX5_clear {rr : Int32} {MR : M2} {JR : J2}   {x1 : Int32}  (h : fX5_clear F  x1 M J = some (rr, MR, JR)) : MtI l yX5_clear wdX5_clear rmX5_clear E [.ref (ad E 8 0), .int x1] (sg G 8 M) (sg K 8 J) rr (sg G 8 MR) (sg K 8 JR) := by
  intro sz
  refine Met.ofW (cc := cX5_clear) (maxL := 2) (ret := (some .int)) (by decide) rfl ?_
  intro p e s m args below meth c s₁ B hml hv
  obtain ⟨rfl, C, w⟩ := Cx.of (own := RX5) B rfl hml hv
  have hl := lv_entry ([.ref (ad E 8 0), .int x1]) (n := 2) (by first | exact Nat.le_of_ble_eq_true rfl)
  rw [lg_entry_eq]
  generalize (lg_sl ([.ref (ad E 8 0), .int x1]) ++ List.replicate (2 - (lg_sl ([.ref (ad E 8 0), .int x1])).length) Slot.unset).toArray = ls at hl ⊢
  exact TX5_clear C   h w hl
theorem ydX5_clear : yX5_clear.cls = RX5 ∧ yX5_clear.cls ≠ "java/lang/invoke/MethodHandle" ∧ yX5_clear.cls ≠ "java/lang/invoke/VarHandle" ∧ (parseMethodDescriptor yX5_clear.desc).map (fun d => d.parameters.length) = some 1 := by decide +kernel
/-! X5.rotate()I -/
abbrev rmX5_rotate : Room := { frames := 4, cells := 0, slots := 0, locals := 79 }
abbrev wdX5_rotate : Cond := Cond.code yX5_rotate cX5_rotate 1 (some .int)
noncomputable def fX5_rotate (F : Nat)   (M : M2) (J : J2) : Option (Int32 × M2 × J2) := bd2 (fX5_holds F M J) (fun M2 J3 => bd3 (fX5_rotates F M2 J3) (fun vv7 M5 J6 => bnd (up2 M5 0 13 vv7) (fun M8 => bd3 (fX5_ends F (0 : Int32) M8 J6) (fun vv13 M11 J12 => some (vv13, M11, J12)))))
set_option maxRecDepth 20000 in
set_option maxHeartbeats 1000000 in
theorem TX5_rotate {rr : Int32} {MR : M2} {JR : J2}  (C : Cx E A p s m args meth c wdX5_rotate cX5_rotate 1 (some .int) RX5)    (h : fX5_rotate F  M J = some (rr, MR, JR)) (w : Wd E A s (sg G 8 M) (sg K 8 J) H locs) (hl : lv_has ls 1 [(0, .ref (ad E 8 0))]) : W p l e rmX5_rotate s m args below meth c H locs 0 0 (QI E A below args s rr (sg G 8 MR) (sg K 8 JR)) (F0 m 0 ls []) := by
  obtain ⟨hx, hb, hr, hml, hown, hts, hlocks, hKK, hA1, hA2⟩ := id C
  unfold fX5_rotate at h
  refine lv_aload_n hx hb dX5_rotate_0 rfl (lv_at hl 0 rfl) ?_
  obtain ⟨M2, J3, hv1, h⟩ := bd2_of h
  refine x_cVv (As := []) (rest := []) C w (v8 (by decide)) cel_8 rfl (mtX5_holds  hv1) q7_8 q7_9 q7_10 q1_5 q7_11 ydX5_holds ⟨rfl, rfl⟩ ⟨by decide, by decide⟩ ⟨Nat.zero_le _, Nat.zero_le _⟩ hl.1 (Nat.le_of_ble_eq_true rfl) rfl dX5_rotate_1 (fun H locs w => ?_)
  refine lv_aload_n hx hb dX5_rotate_4 rfl (lv_at hl 0 rfl) ?_
  refine lv_aload_n hx hb dX5_rotate_5 rfl (lv_at hl 0 rfl) ?_
  obtain ⟨vv7, M5, J6, hv4, h⟩ := bd3_of h
  refine x_cVi (As := []) (rest := [.ref (ad E 8 0)]) C w (v8 (by decide)) cel_8 rfl (mtX5_rotates  hv4) q13_7 q13_8 q13_9 q1_5 q13_10 ydX5_rotates ⟨rfl, rfl⟩ ⟨by decide, by decide⟩ ⟨Nat.zero_le _, Nat.zero_le _⟩ hl.1 (Nat.le_of_ble_eq_true rfl) rfl dX5_rotate_6 (fun H locs w => ?_)
  refine pL_X5_answer C w q11_0 dX5_rotate_9 (fun M8 H locs e9 w => ?_)
  replace h := bnd_of h e9
  refine lv_aload_n hx hb dX5_rotate_12 rfl (lv_at hl 0 rfl) ?_
  refine lv_iconst (v := (0 : Int32)) hx hb dX5_rotate_13 (by decide) ?_
  obtain ⟨vv13, M11, J12, hv10, h⟩ := bd3_of h
  refine x_cVi (As := [.int (0 : Int32)]) (rest := []) C w (v8 (by decide)) cel_8 rfl (mtX5_ends  hv10) q11_9 q11_10 q11_11 q1_5 q11_12 ydX5_ends ⟨rfl, rfl⟩ ⟨by decide, by decide⟩ ⟨Nat.zero_le _, Nat.zero_le _⟩ hl.1 (Nat.le_of_ble_eq_true rfl) rfl dX5_rotate_14 (fun H locs w => ?_)
  obtain ⟨e1, e2, e3⟩ := rt3 h
  exact x_ri C w e1 (by rw [e2]) (by rw [e3]) dX5_rotate_17
theorem mtX5_rotate {rr : Int32} {MR : M2} {JR : J2}     (h : fX5_rotate F  M J = some (rr, MR, JR)) : MtI l yX5_rotate wdX5_rotate rmX5_rotate E [.ref (ad E 8 0)] (sg G 8 M) (sg K 8 J) rr (sg G 8 MR) (sg K 8 JR) := by
  intro sz
  refine Met.ofW (cc := cX5_rotate) (maxL := 1) (ret := (some .int)) (by decide) rfl ?_
  intro p e s m args below meth c s₁ B hml hv
  obtain ⟨rfl, C, w⟩ := Cx.of (own := RX5) B rfl hml hv
  have hl := lv_entry ([.ref (ad E 8 0)]) (n := 1) (by first | exact Nat.le_of_ble_eq_true rfl)
  rw [lg_entry_eq]
  generalize (lg_sl ([.ref (ad E 8 0)]) ++ List.replicate (1 - (lg_sl ([.ref (ad E 8 0)])).length) Slot.unset).toArray = ls at hl ⊢
  exact TX5_rotate C   h w hl
theorem ydX5_rotate : yX5_rotate.cls = RX5 ∧ yX5_rotate.cls ≠ "java/lang/invoke/MethodHandle" ∧ yX5_rotate.cls ≠ "java/lang/invoke/VarHandle" ∧ (parseMethodDescriptor yX5_rotate.desc).map (fun d => d.parameters.length) = some 0 := by decide +kernel
/-! X5.pass(I)I -/
abbrev rmX5_pass : Room := { frames := 8, cells := 0, slots := 0, locals := 167 }
abbrev wdX5_pass : Cond := Cond.code yX5_pass cX5_pass 2 (some .int)
noncomputable def fbX5_pass_25 (F : Nat)   (s0 : Int32) (M : M2) (J : J2) : Option (Int32 × M2 × J2) := bd3 (fX5_ends F s0 M J) (fun vv4 M2 J3 => some (vv4, M2, J3))
set_option maxRecDepth 20000 in
set_option maxHeartbeats 1000000 in
theorem TX5_pass_25 {rr : Int32} {MR : M2} {JR : J2}   (C : Cx E A p s m args meth c wdX5_pass cX5_pass 2 (some .int) RX5)   (s0 : Int32) (M : M2) (J : J2)  (h : fbX5_pass_25 F  s0 M J = some (rr, MR, JR)) (w : Wd E A s (sg G 8 M) (sg K 8 J) H locs) (hl : lv_has ls 2 []) : W p l e rmX5_pass s m args below meth c H locs 0 0 (QI E A below args s rr (sg G 8 MR) (sg K 8 JR)) (F0 m 25 ls [.int s0, .ref (ad E 8 0)]) := by
  obtain ⟨hx, hb, hr, hml, hown, hts, hlocks, hKK, hA1, hA2⟩ := id C
  unfold fbX5_pass_25 at h
  obtain ⟨vv4, M2, J3, hv1, h⟩ := bd3_of h
  refine x_cVi (As := [.int s0]) (rest := []) C w (v8 (by decide)) cel_8 rfl (mtX5_ends  hv1) q11_9 q11_10 q11_11 q1_5 q11_12 ydX5_ends ⟨rfl, rfl⟩ ⟨by decide, by decide⟩ ⟨Nat.zero_le _, Nat.zero_le _⟩ hl.1 (Nat.le_of_ble_eq_true rfl) rfl dX5_pass_25 (fun H locs w => ?_)
  obtain ⟨e1, e2, e3⟩ := rt3 h
  exact x_ri C w e1 (by rw [e2]) (by rw [e3]) dX5_pass_28
noncomputable def fX5_pass (F : Nat)  (x1 : Int32) (M : M2) (J : J2) : Option (Int32 × M2 × J2) := bd2 (fX5_holds F M J) (fun M2 J3 => (if (fX5_in x1 (1 : Int32) (600 : Int32)) = 0 then (fbX5_pass_25 F (1 : Int32) M2 J3) else (bd3 (fX5_passes F x1 M2 J3) (fun vv8 M6 J7 => fbX5_pass_25 F vv8 M6 J7))))
set_option maxRecDepth 20000 in
set_option maxHeartbeats 1000000 in
theorem TX5_pass {rr : Int32} {MR : M2} {JR : J2}  (C : Cx E A p s m args meth c wdX5_pass cX5_pass 2 (some .int) RX5)  {x1 : Int32}  (h : fX5_pass F  x1 M J = some (rr, MR, JR)) (w : Wd E A s (sg G 8 M) (sg K 8 J) H locs) (hl : lv_has ls 2 [(0, .ref (ad E 8 0)), (1, .int x1)]) : W p l e rmX5_pass s m args below meth c H locs 0 0 (QI E A below args s rr (sg G 8 MR) (sg K 8 JR)) (F0 m 0 ls []) := by
  obtain ⟨hx, hb, hr, hml, hown, hts, hlocks, hKK, hA1, hA2⟩ := id C
  unfold fX5_pass at h
  refine lv_aload_n hx hb dX5_pass_0 rfl (lv_at hl 0 rfl) ?_
  obtain ⟨M2, J3, hv1, h⟩ := bd2_of h
  refine x_cVv (As := []) (rest := []) C w (v8 (by decide)) cel_8 rfl (mtX5_holds  hv1) q7_8 q7_9 q7_10 q1_5 q7_11 ydX5_holds ⟨rfl, rfl⟩ ⟨by decide, by decide⟩ ⟨Nat.zero_le _, Nat.zero_le _⟩ hl.1 (Nat.le_of_ble_eq_true rfl) rfl dX5_pass_1 (fun H locs w => ?_)
  refine lv_aload_n hx hb dX5_pass_4 rfl (lv_at hl 0 rfl) ?_
  refine lv_iload_n hx hb dX5_pass_5 rfl (lv_at hl 1 rfl) ?_
  refine lv_iconst (v := (1 : Int32)) hx hb dX5_pass_6 (by decide) ?_
  refine lv_sipush (v := (600 : Int32)) hx hb dX5_pass_7 (by decide) ?_
  refine x_cSi (As := [.int x1, .int (1 : Int32), .int (600 : Int32)]) (rest := [.ref (ad E 8 0)]) C w (mtX5_in ) q7_0 q7_1 q1_5 q7_2 ydX5_in ⟨rfl, rfl⟩ ⟨by decide, by decide⟩ ⟨Nat.zero_le _, Nat.zero_le _⟩ hl.1 (Nat.le_of_ble_eq_true rfl) rfl dX5_pass_10 (fun H locs w => ?_)
  refine lv_if_eq (tgt := 24) hx hb dX5_pass_13 (by decide) (fun c4 => ?_) (fun c4 => ?_)
  · replace h := ite_t h c4
    refine lv_iconst (v := (1 : Int32)) hx hb dX5_pass_24 (by decide) ?_
    exact TX5_pass_25 C   _ _ _ h w (lv_sub hl [] rfl)
  · replace h := ite_f h c4
    refine lv_aload_n hx hb dX5_pass_16 rfl (lv_at hl 0 rfl) ?_
    refine lv_iload_n hx hb dX5_pass_17 rfl (lv_at hl 1 rfl) ?_
    obtain ⟨vv8, M6, J7, hv5, h⟩ := bd3_of h
    refine x_cVi (As := [.int x1]) (rest := [.ref (ad E 8 0)]) C w (v8 (by decide)) cel_8 rfl (mtX5_passes  hv5) q16_20 q16_21 q16_22 q1_5 q16_23 ydX5_passes ⟨rfl, rfl⟩ ⟨by decide, by decide⟩ ⟨Nat.zero_le _, Nat.zero_le _⟩ hl.1 (Nat.le_of_ble_eq_true rfl) rfl dX5_pass_18 (fun H locs w => ?_)
    refine lv_goto (tgt := 25) hx hb dX5_pass_21 (by decide) ?_
    exact TX5_pass_25 C   _ _ _ h w (lv_sub hl [] rfl)
theorem mtX5_pass {rr : Int32} {MR : M2} {JR : J2}   {x1 : Int32}  (h : fX5_pass F  x1 M J = some (rr, MR, JR)) : MtI l yX5_pass wdX5_pass rmX5_pass E [.ref (ad E 8 0), .int x1] (sg G 8 M) (sg K 8 J) rr (sg G 8 MR) (sg K 8 JR) := by
  intro sz
  refine Met.ofW (cc := cX5_pass) (maxL := 2) (ret := (some .int)) (by decide) rfl ?_
  intro p e s m args below meth c s₁ B hml hv
  obtain ⟨rfl, C, w⟩ := Cx.of (own := RX5) B rfl hml hv
  have hl := lv_entry ([.ref (ad E 8 0), .int x1]) (n := 2) (by first | exact Nat.le_of_ble_eq_true rfl)
  rw [lg_entry_eq]
  generalize (lg_sl ([.ref (ad E 8 0), .int x1]) ++ List.replicate (2 - (lg_sl ([.ref (ad E 8 0), .int x1])).length) Slot.unset).toArray = ls at hl ⊢
  exact TX5_pass C   h w hl
theorem ydX5_pass : yX5_pass.cls = RX5 ∧ yX5_pass.cls ≠ "java/lang/invoke/MethodHandle" ∧ yX5_pass.cls ≠ "java/lang/invoke/VarHandle" ∧ (parseMethodDescriptor yX5_pass.desc).map (fun d => d.parameters.length) = some 1 := by decide +kernel
/-! X5.leakTest(I)I -/
abbrev rmX5_leakTest : Room := { frames := 6, cells := 0, slots := 0, locals := 124 }
abbrev wdX5_leakTest : Cond := Cond.code yX5_leakTest cX5_leakTest 5 (some .int)
noncomputable def fbX5_leakTest_170 (F : Nat)   (a2 : Int64) (M : M2) (J : J2) : Option (Int32 × M2 × J2) := bnd (up2 M 0 13 ((J 2 1) - a2).toInt32) (fun M1 => chk (inb ((15 : Int32) + (M1 1 14)) 61) (bnd (up2 M1 1 (((15 : Int32) + (M1 1 14)).toNatClampNeg) (M1 0 13)) (fun M4 => bnd (up2 M4 1 14 ((M4 1 14) + (1 : Int32))) (fun M6 => bd3 (fX5_ends F (0 : Int32) M6 J) (fun vv11 M9 J10 => some (vv11, M9, J10))))))
set_option maxRecDepth 20000 in
set_option maxHeartbeats 1000000 in
theorem TX5_leakTest_170 {rr : Int32} {MR : M2} {JR : J2}   (C : Cx E A p s m args meth c wdX5_leakTest cX5_leakTest 5 (some .int) RX5)   (a2 : Int64) (M : M2) (J : J2)  (h : fbX5_leakTest_170 F  a2 M J = some (rr, MR, JR)) (w : Wd E A s (sg G 8 M) (sg K 8 J) H locs) (hl : lv_has ls 5 [(0, .ref (ad E 8 0)), (2, .long a2)]) : W p l e rmX5_leakTest s m args below meth c H locs 0 0 (QI E A below args s rr (sg G 8 MR) (sg K 8 JR)) (F0 m 170 ls []) := by
  obtain ⟨hx, hb, hr, hml, hown, hts, hlocks, hKK, hA1, hA2⟩ := id C
  unfold fbX5_leakTest_170 at h
  refine lv_aload_n hx hb dX5_leakTest_170 rfl (lv_at hl 0 rfl) ?_
  refine lv_aload_n hx hb dX5_leakTest_171 rfl (lv_at hl 0 rfl) ?_
  refine gR_X5_b C w q3_17 dX5_leakTest_172 ?_
  refine lv_iconst (v := (1 : Int32)) hx hb dX5_leakTest_175 (by decide) ?_
  refine x_aldJ_L C w (v8 (by decide)) c8_2 (inb_k (k := 1) (by decide) (by decide)) cl_1 dX5_leakTest_176 ?_
  refine lv_lload_n hx hb dX5_leakTest_177 rfl (lv_at hl 1 rfl) ?_
  refine lv_lsub hx hb dX5_leakTest_178 ?_
  refine lv_l2i hx hb dX5_leakTest_179 rfl ?_
  refine pL_X5_answer C w q11_0 dX5_leakTest_180 (fun M1 H locs e2 w => ?_)
  replace h := bnd_of h e2
  refine lv_aload_n hx hb dX5_leakTest_183 rfl (lv_at hl 0 rfl) ?_
  refine gR_X5_s C w q3_16 dX5_leakTest_184 ?_
  refine lv_bipush (v := (15 : Int32)) hx hb dX5_leakTest_187 (by decide) ?_
  refine lv_aload_n hx hb dX5_leakTest_189 rfl (lv_at hl 0 rfl) ?_
  refine gR_X5_s C w q3_16 dX5_leakTest_190 ?_
  refine lv_bipush (v := (14 : Int32)) hx hb dX5_leakTest_193 (by decide) ?_
  refine x_aldI_L C w (v8 (by decide)) c8_1 (inb_k (k := 14) (by decide) (by decide)) cl_14 dX5_leakTest_195 ?_
  refine lv_iadd hx hb dX5_leakTest_196 ?_
  refine lv_aload_n hx hb dX5_leakTest_197 rfl (lv_at hl 0 rfl) ?_
  refine gL_X5_answer C w q11_0 dX5_leakTest_198 ?_
  obtain ⟨ki3, h⟩ := chk_of h
  refine x_astI_L C w (v8 (by decide)) c8_1 ki3 rfl dX5_leakTest_201 (fun M4 H locs e5 w => ?_)
  replace h := bnd_of h e5
  refine lv_aload_n hx hb dX5_leakTest_202 rfl (lv_at hl 0 rfl) ?_
  refine gR_X5_s C w q3_16 dX5_leakTest_203 ?_
  refine lv_bipush (v := (14 : Int32)) hx hb dX5_leakTest_206 (by decide) ?_
  refine lv_dup2_11 hx hb dX5_leakTest_208 rfl rfl ?_
  refine x_aldI_L C w (v8 (by decide)) c8_1 (inb_k (k := 14) (by decide) (by decide)) cl_14 dX5_leakTest_209 ?_
  refine lv_iconst (v := (1 : Int32)) hx hb dX5_leakTest_210 (by decide) ?_
  refine lv_iadd hx hb dX5_leakTest_211 ?_
  refine x_astI_L C w (v8 (by decide)) c8_1 (inb_k (k := 14) (by decide) (by decide)) cl_14 dX5_leakTest_212 (fun M6 H locs e7 w => ?_)
  replace h := bnd_of h e7
  refine lv_aload_n hx hb dX5_leakTest_213 rfl (lv_at hl 0 rfl) ?_
  refine lv_iconst (v := (0 : Int32)) hx hb dX5_leakTest_214 (by decide) ?_
  obtain ⟨vv11, M9, J10, hv8, h⟩ := bd3_of h
  refine x_cVi (As := [.int (0 : Int32)]) (rest := []) C w (v8 (by decide)) cel_8 rfl (mtX5_ends  hv8) q11_9 q11_10 q11_11 q1_5 q11_12 ydX5_ends ⟨rfl, rfl⟩ ⟨by decide, by decide⟩ ⟨Nat.zero_le _, Nat.zero_le _⟩ hl.1 (Nat.le_of_ble_eq_true rfl) rfl dX5_leakTest_215 (fun H locs w => ?_)
  obtain ⟨e1, e2, e3⟩ := rt3 h
  exact x_ri C w e1 (by rw [e2]) (by rw [e3]) dX5_leakTest_218
noncomputable def fsX5_leakTest_125 (F : Nat)   (k125 : Int64 → Int32 → M2 → J2 → Option (Int32 × M2 × J2)) : Int64 → Int32 → M2 → J2 → Option (Int32 × M2 × J2) := fun a2 a4 M J => (if (5 : Int32) ≤ a4 then (bnd (up2 M 1 14 ((M 1 14) - (1 : Int32))) (fun M2 => fbX5_leakTest_170 F a2 M2 J)) else (chk (inb (((15 : Int32) + a4) + (1 : Int32)) 61) (chk (inb ((15 : Int32) + a4) 61) (bnd (up2 M 1 (((15 : Int32) + a4).toNatClampNeg) (M 1 (((15 : Int32) + a4) + (1 : Int32)).toNatClampNeg)) (fun M6 => k125 a2 (a4 + (1 : Int32)) M6 J)))))
noncomputable def fbX5_leakTest_125 (F : Nat)   (n : Nat) : Int64 → Int32 → M2 → J2 → Option (Int32 × M2 × J2) := itr (fsX5_leakTest_125 F ) (fun _ _ _ _ => none) n
set_option maxRecDepth 20000 in
set_option maxHeartbeats 1000000 in
theorem SX5_leakTest_125 {rr : Int32} {MR : M2} {JR : J2}   {k125 : Int64 → Int32 → M2 → J2 → Option (Int32 × M2 × J2)} (C : Cx E A p s m args meth c wdX5_leakTest cX5_leakTest 5 (some .int) RX5)   (hk125 : ∀ (a2 : Int64) (a4 : Int32) (M : M2) (J : J2)  (ls : Array Slot) (H : Heap) (locs : List Loc), k125 a2 a4 M J = some (rr, MR, JR) → Wd E A s (sg G 8 M) (sg K 8 J) H locs → lv_has ls 5 [(0, .ref (ad E 8 0)), (2, .long a2), (4, .int a4)] → W p l e rmX5_leakTest s m args below meth c H locs 0 0 (QI E A below args s rr (sg G 8 MR) (sg K 8 JR)) (F0 m 125 ls [])) (a2 : Int64) (a4 : Int32) (M : M2) (J : J2)  (h : fsX5_leakTest_125 F  k125 a2 a4 M J = some (rr, MR, JR)) (w : Wd E A s (sg G 8 M) (sg K 8 J) H locs) (hl : lv_has ls 5 [(0, .ref (ad E 8 0)), (2, .long a2), (4, .int a4)]) : W p l e rmX5_leakTest s m args below meth c H locs 0 0 (QI E A below args s rr (sg G 8 MR) (sg K 8 JR)) (F0 m 125 ls []) := by
  obtain ⟨hx, hb, hr, hml, hown, hts, hlocks, hKK, hA1, hA2⟩ := id C
  unfold fsX5_leakTest_125 at h
  refine lv_iload hx hb dX5_leakTest_125 (lv_at hl 2 rfl) ?_
  refine lv_iconst (v := (5 : Int32)) hx hb dX5_leakTest_127 (by decide) ?_
  refine lv_icmp_ge (tgt := 159) hx hb dX5_leakTest_128 (by decide) (fun c1 => ?_) (fun c1 => ?_)
  · replace h := ite_t h c1
    refine lv_aload_n hx hb dX5_leakTest_159 rfl (lv_at hl 0 rfl) ?_
    refine gR_X5_s C w q3_16 dX5_leakTest_160 ?_
    refine lv_bipush (v := (14 : Int32)) hx hb dX5_leakTest_163 (by decide) ?_
    refine lv_dup2_11 hx hb dX5_leakTest_165 rfl rfl ?_
    refine x_aldI_L C w (v8 (by decide)) c8_1 (inb_k (k := 14) (by decide) (by decide)) cl_14 dX5_leakTest_166 ?_
    refine lv_iconst (v := (1 : Int32)) hx hb dX5_leakTest_167 (by decide) ?_
    refine lv_isub hx hb dX5_leakTest_168 ?_
    refine x_astI_L C w (v8 (by decide)) c8_1 (inb_k (k := 14) (by decide) (by decide)) cl_14 dX5_leakTest_169 (fun M2 H locs e3 w => ?_)
    replace h := bnd_of h e3
    exact TX5_leakTest_170 C   _ _ _ h w (lv_sub hl [0, 1] rfl)
  · replace h := ite_f h c1
    refine lv_aload_n hx hb dX5_leakTest_131 rfl (lv_at hl 0 rfl) ?_
    refine gR_X5_s C w q3_16 dX5_leakTest_132 ?_
    refine lv_bipush (v := (15 : Int32)) hx hb dX5_leakTest_135 (by decide) ?_
    refine lv_iload hx hb dX5_leakTest_137 (lv_at hl 2 rfl) ?_
    refine lv_iadd hx hb dX5_leakTest_139 ?_
    refine lv_aload_n hx hb dX5_leakTest_140 rfl (lv_at hl 0 rfl) ?_
    refine gR_X5_s C w q3_16 dX5_leakTest_141 ?_
    refine lv_bipush (v := (15 : Int32)) hx hb dX5_leakTest_144 (by decide) ?_
    refine lv_iload hx hb dX5_leakTest_146 (lv_at hl 2 rfl) ?_
    refine lv_iadd hx hb dX5_leakTest_148 ?_
    refine lv_iconst (v := (1 : Int32)) hx hb dX5_leakTest_149 (by decide) ?_
    refine lv_iadd hx hb dX5_leakTest_150 ?_
    obtain ⟨ki4, h⟩ := chk_of h
    refine x_aldI_L C w (v8 (by decide)) c8_1 ki4 rfl dX5_leakTest_151 ?_
    obtain ⟨ki5, h⟩ := chk_of h
    refine x_astI_L C w (v8 (by decide)) c8_1 ki5 rfl dX5_leakTest_152 (fun M6 H locs e7 w => ?_)
    replace h := bnd_of h e7
    refine lv_iinc (v := (a4 + (1 : Int32))) (lv' := [(4, .int (a4 + (1 : Int32))), (0, .ref (ad E 8 0)), (2, .long a2)]) hx hb dX5_leakTest_153 hl (k := 2) rfl (congrArg (HAdd.hAdd _) (by decide)) (by decide) rfl (fun ls hl => ?_)
    refine lv_goto (tgt := 125) hx hb dX5_leakTest_156 (by decide) ?_
    exact hk125 _ _ _ _ _ _ _ h w (lv_sub hl [1, 2, 0] rfl)
theorem TX5_leakTest_125 {rr : Int32} {MR : M2} {JR : J2}   (C : Cx E A p s m args meth c wdX5_leakTest cX5_leakTest 5 (some .int) RX5)   : ∀ (n : Nat) (a2 : Int64) (a4 : Int32) (M : M2) (J : J2)  (ls : Array Slot) (H : Heap) (locs : List Loc), fbX5_leakTest_125 F  n a2 a4 M J = some (rr, MR, JR) → Wd E A s (sg G 8 M) (sg K 8 J) H locs → lv_has ls 5 [(0, .ref (ad E 8 0)), (2, .long a2), (4, .int a4)] → W p l e rmX5_leakTest s m args below meth c H locs 0 0 (QI E A below args s rr (sg G 8 MR) (sg K 8 JR)) (F0 m 125 ls []) := by
  intro n
  induction n with
  | zero => intro a2 a4 M J  ls H locs h; exact absurd (show none = _ from h) (fun z => nomatch z)
  | succ n ih => intro a2 a4 M J  ls H locs h w hl; exact SX5_leakTest_125 (F := F) C   ih a2 a4 M J  h w hl
noncomputable def fsX5_leakTest_93 (F : Nat)   (k93 : Int32 → Int64 → Int32 → M2 → J2 → Option (Int32 × M2 × J2)) : Int32 → Int64 → Int32 → M2 → J2 → Option (Int32 × M2 × J2) := fun a1 a2 a4 M J => (if a1 ≤ a4 then ((if ¬ (M 1 14) = (6 : Int32) then (fbX5_leakTest_170 F a2 M J) else (fbX5_leakTest_125 F F a2 (0 : Int32) M J))) else (bd2 (fX5_minute F (1 : Int32) M J) (fun M4 J5 => k93 a1 a2 (a4 + (1 : Int32)) M4 J5)))
noncomputable def fbX5_leakTest_93 (F : Nat)   (n : Nat) : Int32 → Int64 → Int32 → M2 → J2 → Option (Int32 × M2 × J2) := itr (fsX5_leakTest_93 F ) (fun _ _ _ _ _ => none) n
set_option maxRecDepth 20000 in
set_option maxHeartbeats 1000000 in
theorem SX5_leakTest_93 {rr : Int32} {MR : M2} {JR : J2}   {k93 : Int32 → Int64 → Int32 → M2 → J2 → Option (Int32 × M2 × J2)} (C : Cx E A p s m args meth c wdX5_leakTest cX5_leakTest 5 (some .int) RX5)   (hk93 : ∀ (a1 : Int32) (a2 : Int64) (a4 : Int32) (M : M2) (J : J2)  (ls : Array Slot) (H : Heap) (locs : List Loc), k93 a1 a2 a4 M J = some (rr, MR, JR) → Wd E A s (sg G 8 M) (sg K 8 J) H locs → lv_has ls 5 [(0, .ref (ad E 8 0)), (1, .int a1), (2, .long a2), (4, .int a4)] → W p l e rmX5_leakTest s m args below meth c H locs 0 0 (QI E A below args s rr (sg G 8 MR) (sg K 8 JR)) (F0 m 93 ls [])) (a1 : Int32) (a2 : Int64) (a4 : Int32) (M : M2) (J : J2)  (h : fsX5_leakTest_93 F  k93 a1 a2 a4 M J = some (rr, MR, JR)) (w : Wd E A s (sg G 8 M) (sg K 8 J) H locs) (hl : lv_has ls 5 [(0, .ref (ad E 8 0)), (1, .int a1), (2, .long a2), (4, .int a4)]) : W p l e rmX5_leakTest s m args below meth c H locs 0 0 (QI E A below args s rr (sg G 8 MR) (sg K 8 JR)) (F0 m 93 ls []) := by
  obtain ⟨hx, hb, hr, hml, hown, hts, hlocks, hKK, hA1, hA2⟩ := id C
  unfold fsX5_leakTest_93 at h
  refine lv_iload hx hb dX5_leakTest_93 (lv_at hl 3 rfl) ?_
  refine lv_iload_n hx hb dX5_leakTest_95 rfl (lv_at hl 1 rfl) ?_
  refine lv_icmp_ge (tgt := 110) hx hb dX5_leakTest_96 (by decide) (fun c1 => ?_) (fun c1 => ?_)
  · replace h := ite_t h c1
    refine lv_aload_n hx hb dX5_leakTest_110 rfl (lv_at hl 0 rfl) ?_
    refine gR_X5_s C w q3_16 dX5_leakTest_111 ?_
    refine lv_bipush (v := (14 : Int32)) hx hb dX5_leakTest_114 (by decide) ?_
    refine x_aldI_L C w (v8 (by decide)) c8_1 (inb_k (k := 14) (by decide) (by decide)) cl_14 dX5_leakTest_116 ?_
    refine lv_bipush (v := (6 : Int32)) hx hb dX5_leakTest_117 (by decide) ?_
    refine lv_icmp_ne (tgt := 170) hx hb dX5_leakTest_119 (by decide) (fun c2 => ?_) (fun c2 => ?_)
    · replace h := ite_t h c2
      exact TX5_leakTest_170 C   _ _ _ h w (lv_sub hl [0, 2] rfl)
    · replace h := ite_f h (fun z => z c2)
      refine lv_iconst (v := (0 : Int32)) hx hb dX5_leakTest_122 (by decide) ?_
      refine lv_istore (lv' := [(4, .int (0 : Int32)), (0, .ref (ad E 8 0)), (1, .int a1), (2, .long a2)]) hx hb dX5_leakTest_123 hl (by decide) rfl (fun ls hl => ?_)
      exact TX5_leakTest_125 C   _ _ _ _ _ _ _ _ h w (lv_sub hl [1, 3, 0] rfl)
  · replace h := ite_f h c1
    refine lv_aload_n hx hb dX5_leakTest_99 rfl (lv_at hl 0 rfl) ?_
    refine lv_iconst (v := (1 : Int32)) hx hb dX5_leakTest_100 (by decide) ?_
    obtain ⟨M4, J5, hv3, h⟩ := bd2_of h
    refine x_cVv (As := [.int (1 : Int32)]) (rest := []) C w (v8 (by decide)) cel_8 rfl (mtX5_minute  hv3) q17_5 q17_6 q17_7 q1_5 q17_8 ydX5_minute ⟨rfl, rfl⟩ ⟨by decide, by decide⟩ ⟨Nat.zero_le _, Nat.zero_le _⟩ hl.1 (Nat.le_of_ble_eq_true rfl) rfl dX5_leakTest_101 (fun H locs w => ?_)
    refine lv_iinc (v := (a4 + (1 : Int32))) (lv' := [(4, .int (a4 + (1 : Int32))), (0, .ref (ad E 8 0)), (1, .int a1), (2, .long a2)]) hx hb dX5_leakTest_104 hl (k := 3) rfl (congrArg (HAdd.hAdd _) (by decide)) (by decide) rfl (fun ls hl => ?_)
    refine lv_goto (tgt := 93) hx hb dX5_leakTest_107 (by decide) ?_
    exact hk93 _ _ _ _ _ _ _ _ h w (lv_sub hl [1, 2, 3, 0] rfl)
theorem TX5_leakTest_93 {rr : Int32} {MR : M2} {JR : J2}   (C : Cx E A p s m args meth c wdX5_leakTest cX5_leakTest 5 (some .int) RX5)   : ∀ (n : Nat) (a1 : Int32) (a2 : Int64) (a4 : Int32) (M : M2) (J : J2)  (ls : Array Slot) (H : Heap) (locs : List Loc), fbX5_leakTest_93 F  n a1 a2 a4 M J = some (rr, MR, JR) → Wd E A s (sg G 8 M) (sg K 8 J) H locs → lv_has ls 5 [(0, .ref (ad E 8 0)), (1, .int a1), (2, .long a2), (4, .int a4)] → W p l e rmX5_leakTest s m args below meth c H locs 0 0 (QI E A below args s rr (sg G 8 MR) (sg K 8 JR)) (F0 m 93 ls []) := by
  intro n
  induction n with
  | zero => intro a1 a2 a4 M J  ls H locs h; exact absurd (show none = _ from h) (fun z => nomatch z)
  | succ n ih => intro a1 a2 a4 M J  ls H locs h w hl; exact SX5_leakTest_93 (F := F) C   ih a1 a2 a4 M J  h w hl
noncomputable def fbX5_leakTest_77 (F : Nat) (k42 : Int32 → Int32 → M2 → J2 → Option (Int32 × M2 × J2))  (a1 : Int32) (a2 : Int32) (M : M2) (J : J2) : Option (Int32 × M2 × J2) := k42 a1 (a2 + (1 : Int32)) M J
set_option maxRecDepth 20000 in
set_option maxHeartbeats 1000000 in
theorem TX5_leakTest_77 {rr : Int32} {MR : M2} {JR : J2}  {k42 : Int32 → Int32 → M2 → J2 → Option (Int32 × M2 × J2)} (C : Cx E A p s m args meth c wdX5_leakTest cX5_leakTest 5 (some .int) RX5)  (hk42 : ∀ (a1 : Int32) (a2 : Int32) (M : M2) (J : J2)  (ls : Array Slot) (H : Heap) (locs : List Loc), k42 a1 a2 M J = some (rr, MR, JR) → Wd E A s (sg G 8 M) (sg K 8 J) H locs → lv_has ls 5 [(0, .ref (ad E 8 0)), (1, .int a1), (2, .int a2)] → W p l e rmX5_leakTest s m args below meth c H locs 0 0 (QI E A below args s rr (sg G 8 MR) (sg K 8 JR)) (F0 m 42 ls [])) (a1 : Int32) (a2 : Int32) (M : M2) (J : J2)  (h : fbX5_leakTest_77 F k42 a1 a2 M J = some (rr, MR, JR)) (w : Wd E A s (sg G 8 M) (sg K 8 J) H locs) (hl : lv_has ls 5 [(0, .ref (ad E 8 0)), (1, .int a1), (2, .int a2)]) : W p l e rmX5_leakTest s m args below meth c H locs 0 0 (QI E A below args s rr (sg G 8 MR) (sg K 8 JR)) (F0 m 77 ls []) := by
  obtain ⟨hx, hb, hr, hml, hown, hts, hlocks, hKK, hA1, hA2⟩ := id C
  unfold fbX5_leakTest_77 at h
  refine lv_iinc (v := (a2 + (1 : Int32))) (lv' := [(2, .int (a2 + (1 : Int32))), (0, .ref (ad E 8 0)), (1, .int a1)]) hx hb dX5_leakTest_77 hl (k := 2) rfl (congrArg (HAdd.hAdd _) (by decide)) (by decide) rfl (fun ls hl => ?_)
  refine lv_goto (tgt := 42) hx hb dX5_leakTest_80 (by decide) ?_
  exact hk42 _ _ _ _ _ _ _ h w (lv_sub hl [1, 2, 0] rfl)
noncomputable def fsX5_leakTest_42 (F : Nat)   (k42 : Int32 → Int32 → M2 → J2 → Option (Int32 × M2 × J2)) : Int32 → Int32 → M2 → J2 → Option (Int32 × M2 × J2) := fun a1 a2 M J => (if (M 1 10) ≤ a2 then (fbX5_leakTest_93 F F a1 (J 2 1) (0 : Int32) M J) else ((fX5_its M J a2 (1 : Int32)).bind (fun vv3 => (if ¬ vv3 = (1 : Int32) then (fbX5_leakTest_77 F k42 a1 a2 M J) else (bd2 (fX5_put a2 (1 : Int32) (2 : Int32) M J) (fun M6 J7 => bd2 (fX5_put a2 (4 : Int32) (0 : Int32) M6 J7) (fun M9 J10 => fbX5_leakTest_77 F k42 a1 a2 M9 J10)))))))
noncomputable def fbX5_leakTest_42 (F : Nat)   (n : Nat) : Int32 → Int32 → M2 → J2 → Option (Int32 × M2 × J2) := itr (fsX5_leakTest_42 F ) (fun _ _ _ _ => none) n
set_option maxRecDepth 20000 in
set_option maxHeartbeats 1000000 in
theorem SX5_leakTest_42 {rr : Int32} {MR : M2} {JR : J2}   {k42 : Int32 → Int32 → M2 → J2 → Option (Int32 × M2 × J2)} (C : Cx E A p s m args meth c wdX5_leakTest cX5_leakTest 5 (some .int) RX5)   (hk42 : ∀ (a1 : Int32) (a2 : Int32) (M : M2) (J : J2)  (ls : Array Slot) (H : Heap) (locs : List Loc), k42 a1 a2 M J = some (rr, MR, JR) → Wd E A s (sg G 8 M) (sg K 8 J) H locs → lv_has ls 5 [(0, .ref (ad E 8 0)), (1, .int a1), (2, .int a2)] → W p l e rmX5_leakTest s m args below meth c H locs 0 0 (QI E A below args s rr (sg G 8 MR) (sg K 8 JR)) (F0 m 42 ls [])) (a1 : Int32) (a2 : Int32) (M : M2) (J : J2)  (h : fsX5_leakTest_42 F  k42 a1 a2 M J = some (rr, MR, JR)) (w : Wd E A s (sg G 8 M) (sg K 8 J) H locs) (hl : lv_has ls 5 [(0, .ref (ad E 8 0)), (1, .int a1), (2, .int a2)]) : W p l e rmX5_leakTest s m args below meth c H locs 0 0 (QI E A below args s rr (sg G 8 MR) (sg K 8 JR)) (F0 m 42 ls []) := by
  obtain ⟨hx, hb, hr, hml, hown, hts, hlocks, hKK, hA1, hA2⟩ := id C
  unfold fsX5_leakTest_42 at h
  refine lv_iload_n hx hb dX5_leakTest_42 rfl (lv_at hl 2 rfl) ?_
  refine lv_aload_n hx hb dX5_leakTest_43 rfl (lv_at hl 0 rfl) ?_
  refine gR_X5_s C w q3_16 dX5_leakTest_44 ?_
  refine lv_bipush (v := (10 : Int32)) hx hb dX5_leakTest_47 (by decide) ?_
  refine x_aldI_L C w (v8 (by decide)) c8_1 (inb_k (k := 10) (by decide) (by decide)) cl_10 dX5_leakTest_49 ?_
  refine lv_icmp_ge (tgt := 83) hx hb dX5_leakTest_50 (by decide) (fun c1 => ?_) (fun c1 => ?_)
  · replace h := ite_t h c1
    refine lv_aload_n hx hb dX5_leakTest_83 rfl (lv_at hl 0 rfl) ?_
    refine gR_X5_b C w q3_17 dX5_leakTest_84 ?_
    refine lv_iconst (v := (1 : Int32)) hx hb dX5_leakTest_87 (by decide) ?_
    refine x_aldJ_L C w (v8 (by decide)) c8_2 (inb_k (k := 1) (by decide) (by decide)) cl_1 dX5_leakTest_88 ?_
    refine lv_lstore_n (lv' := [(2, .long (J 2 1)), (0, .ref (ad E 8 0)), (1, .int a1)]) hx hb dX5_leakTest_89 rfl hl (by decide) rfl (fun ls hl => ?_)
    refine lv_iconst (v := (0 : Int32)) hx hb dX5_leakTest_90 (by decide) ?_
    refine lv_istore (lv' := [(4, .int (0 : Int32)), (2, .long (J 2 1)), (0, .ref (ad E 8 0)), (1, .int a1)]) hx hb dX5_leakTest_91 hl (by decide) rfl (fun ls hl => ?_)
    exact TX5_leakTest_93 C   _ _ _ _ _ _ _ _ _ h w (lv_sub hl [2, 3, 1, 0] rfl)
  · replace h := ite_f h c1
    refine lv_aload_n hx hb dX5_leakTest_53 rfl (lv_at hl 0 rfl) ?_
    refine lv_iload_n hx hb dX5_leakTest_54 rfl (lv_at hl 2 rfl) ?_
    refine lv_iconst (v := (1 : Int32)) hx hb dX5_leakTest_55 (by decide) ?_
    obtain ⟨vv3, hv2, h⟩ := bind_of h
    refine x_cVi (As := [.int a2, .int (1 : Int32)]) (rest := []) C w (v8 (by decide)) cel_8 rfl (mtX5_its  hv2) q11_5 q11_6 q11_7 q1_5 q11_8 ydX5_its ⟨rfl, rfl⟩ ⟨by decide, by decide⟩ ⟨Nat.zero_le _, Nat.zero_le _⟩ hl.1 (Nat.le_of_ble_eq_true rfl) rfl dX5_leakTest_56 (fun H locs w => ?_)
    refine lv_iconst (v := (1 : Int32)) hx hb dX5_leakTest_59 (by decide) ?_
    refine lv_icmp_ne (tgt := 77) hx hb dX5_leakTest_60 (by decide) (fun c4 => ?_) (fun c4 => ?_)
    · replace h := ite_t h c4
      exact TX5_leakTest_77 C  hk42 _ _ _ _ h w (lv_sub hl [0, 1, 2] rfl)
    · replace h := ite_f h (fun z => z c4)
      refine lv_aload_n hx hb dX5_leakTest_63 rfl (lv_at hl 0 rfl) ?_
      refine lv_iload_n hx hb dX5_leakTest_64 rfl (lv_at hl 2 rfl) ?_
      refine lv_iconst (v := (1 : Int32)) hx hb dX5_leakTest_65 (by decide) ?_
      refine lv_iconst (v := (2 : Int32)) hx hb dX5_leakTest_66 (by decide) ?_
      obtain ⟨M6, J7, hv5, h⟩ := bd2_of h
      refine x_cVv (As := [.int a2, .int (1 : Int32), .int (2 : Int32)]) (rest := []) C w (v8 (by decide)) cel_8 rfl (mtX5_put  hv5) q9_20 q9_21 q9_22 q1_5 q9_23 ydX5_put ⟨rfl, rfl⟩ ⟨by decide, by decide⟩ ⟨Nat.zero_le _, Nat.zero_le _⟩ hl.1 (Nat.le_of_ble_eq_true rfl) rfl dX5_leakTest_67 (fun H locs w => ?_)
      refine lv_aload_n hx hb dX5_leakTest_70 rfl (lv_at hl 0 rfl) ?_
      refine lv_iload_n hx hb dX5_leakTest_71 rfl (lv_at hl 2 rfl) ?_
      refine lv_iconst (v := (4 : Int32)) hx hb dX5_leakTest_72 (by decide) ?_
      refine lv_iconst (v := (0 : Int32)) hx hb dX5_leakTest_73 (by decide) ?_
      obtain ⟨M9, J10, hv8, h⟩ := bd2_of h
      refine x_cVv (As := [.int a2, .int (4 : Int32), .int (0 : Int32)]) (rest := []) C w (v8 (by decide)) cel_8 rfl (mtX5_put  hv8) q9_20 q9_21 q9_22 q1_5 q9_23 ydX5_put ⟨rfl, rfl⟩ ⟨by decide, by decide⟩ ⟨Nat.zero_le _, Nat.zero_le _⟩ hl.1 (Nat.le_of_ble_eq_true rfl) rfl dX5_leakTest_74 (fun H locs w => ?_)
      exact TX5_leakTest_77 C  hk42 _ _ _ _ h w (lv_sub hl [0, 1, 2] rfl)
theorem TX5_leakTest_42 {rr : Int32} {MR : M2} {JR : J2}   (C : Cx E A p s m args meth c wdX5_leakTest cX5_leakTest 5 (some .int) RX5)   : ∀ (n : Nat) (a1 : Int32) (a2 : Int32) (M : M2) (J : J2)  (ls : Array Slot) (H : Heap) (locs : List Loc), fbX5_leakTest_42 F  n a1 a2 M J = some (rr, MR, JR) → Wd E A s (sg G 8 M) (sg K 8 J) H locs → lv_has ls 5 [(0, .ref (ad E 8 0)), (1, .int a1), (2, .int a2)] → W p l e rmX5_leakTest s m args below meth c H locs 0 0 (QI E A below args s rr (sg G 8 MR) (sg K 8 JR)) (F0 m 42 ls []) := by
  intro n
  induction n with
  | zero => intro a1 a2 M J  ls H locs h; exact absurd (show none = _ from h) (fun z => nomatch z)
  | succ n ih => intro a1 a2 M J  ls H locs h w hl; exact SX5_leakTest_42 (F := F) C   ih a1 a2 M J  h w hl
noncomputable def fX5_leakTest (F : Nat)  (x1 : Int32) (M : M2) (J : J2) : Option (Int32 × M2 × J2) := (if ¬ (fX5_in x1 (1 : Int32) (60 : Int32)) = 0 then ((if ((M 1 11) + x1) ≤ (100000 : Int32) then (bd2 (fX5_holds F M J) (fun M4 J5 => fbX5_leakTest_42 F F x1 (0 : Int32) M4 J5)) else (bd3 (fX5_fails (2 : Int32) M J) (fun vv9 M7 J8 => some (vv9, M7, J8))))) else (bd3 (fX5_fails (1 : Int32) M J) (fun vv13 M11 J12 => some (vv13, M11, J12))))
set_option maxRecDepth 20000 in
set_option maxHeartbeats 1000000 in
theorem TX5_leakTest {rr : Int32} {MR : M2} {JR : J2}  (C : Cx E A p s m args meth c wdX5_leakTest cX5_leakTest 5 (some .int) RX5)  {x1 : Int32}  (h : fX5_leakTest F  x1 M J = some (rr, MR, JR)) (w : Wd E A s (sg G 8 M) (sg K 8 J) H locs) (hl : lv_has ls 5 [(0, .ref (ad E 8 0)), (1, .int x1)]) : W p l e rmX5_leakTest s m args below meth c H locs 0 0 (QI E A below args s rr (sg G 8 MR) (sg K 8 JR)) (F0 m 0 ls []) := by
  obtain ⟨hx, hb, hr, hml, hown, hts, hlocks, hKK, hA1, hA2⟩ := id C
  unfold fX5_leakTest at h
  refine lv_iload_n hx hb dX5_leakTest_0 rfl (lv_at hl 1 rfl) ?_
  refine lv_iconst (v := (1 : Int32)) hx hb dX5_leakTest_1 (by decide) ?_
  refine lv_bipush (v := (60 : Int32)) hx hb dX5_leakTest_2 (by decide) ?_
  refine x_cSi (As := [.int x1, .int (1 : Int32), .int (60 : Int32)]) (rest := []) C w (mtX5_in ) q7_0 q7_1 q1_5 q7_2 ydX5_in ⟨rfl, rfl⟩ ⟨by decide, by decide⟩ ⟨Nat.zero_le _, Nat.zero_le _⟩ hl.1 (Nat.le_of_ble_eq_true rfl) rfl dX5_leakTest_4 (fun H locs w => ?_)
  refine lv_if_ne (tgt := 16) hx hb dX5_leakTest_7 (by decide) (fun c1 => ?_) (fun c1 => ?_)
  · replace h := ite_t h c1
    refine lv_aload_n hx hb dX5_leakTest_16 rfl (lv_at hl 0 rfl) ?_
    refine gR_X5_s C w q3_16 dX5_leakTest_17 ?_
    refine lv_bipush (v := (11 : Int32)) hx hb dX5_leakTest_20 (by decide) ?_
    refine x_aldI_L C w (v8 (by decide)) c8_1 (inb_k (k := 11) (by decide) (by decide)) cl_11 dX5_leakTest_22 ?_
    refine lv_iload_n hx hb dX5_leakTest_23 rfl (lv_at hl 1 rfl) ?_
    refine lv_iadd hx hb dX5_leakTest_24 ?_
    refine lv_ldc hx hb hown (x_hts C q17_0) dX5_leakTest_25 ?_
    refine lv_icmp_le (tgt := 36) hx hb dX5_leakTest_27 (by decide) (fun c2 => ?_) (fun c2 => ?_)
    · replace h := ite_t h c2
      refine lv_aload_n hx hb dX5_leakTest_36 rfl (lv_at hl 0 rfl) ?_
      obtain ⟨M4, J5, hv3, h⟩ := bd2_of h
      refine x_cVv (As := []) (rest := []) C w (v8 (by decide)) cel_8 rfl (mtX5_holds  hv3) q7_8 q7_9 q7_10 q1_5 q7_11 ydX5_holds ⟨rfl, rfl⟩ ⟨by decide, by decide⟩ ⟨Nat.zero_le _, Nat.zero_le _⟩ hl.1 (Nat.le_of_ble_eq_true rfl) rfl dX5_leakTest_37 (fun H locs w => ?_)
      refine lv_iconst (v := (0 : Int32)) hx hb dX5_leakTest_40 (by decide) ?_
      refine lv_istore_n (lv' := [(2, .int (0 : Int32)), (0, .ref (ad E 8 0)), (1, .int x1)]) hx hb dX5_leakTest_41 rfl hl (by decide) rfl (fun ls hl => ?_)
      exact TX5_leakTest_42 C   _ _ _ _ _ _ _ _ h w (lv_sub hl [1, 2, 0] rfl)
    · replace h := ite_f h c2
      refine lv_aload_n hx hb dX5_leakTest_30 rfl (lv_at hl 0 rfl) ?_
      refine lv_iconst (v := (2 : Int32)) hx hb dX5_leakTest_31 (by decide) ?_
      obtain ⟨vv9, M7, J8, hv6, h⟩ := bd3_of h
      refine x_cVi (As := [.int (2 : Int32)]) (rest := []) C w (v8 (by decide)) cel_8 rfl (mtX5_fails  hv6) q7_3 q7_4 q7_5 q1_5 q7_6 ydX5_fails ⟨rfl, rfl⟩ ⟨by decide, by decide⟩ ⟨Nat.zero_le _, Nat.zero_le _⟩ hl.1 (Nat.le_of_ble_eq_true rfl) rfl dX5_leakTest_32 (fun H locs w => ?_)
      obtain ⟨e1, e2, e3⟩ := rt3 h
      exact x_ri C w e1 (by rw [e2]) (by rw [e3]) dX5_leakTest_35
  · replace h := ite_f h (fun z => z c1)
    refine lv_aload_n hx hb dX5_leakTest_10 rfl (lv_at hl 0 rfl) ?_
    refine lv_iconst (v := (1 : Int32)) hx hb dX5_leakTest_11 (by decide) ?_
    obtain ⟨vv13, M11, J12, hv10, h⟩ := bd3_of h
    refine x_cVi (As := [.int (1 : Int32)]) (rest := []) C w (v8 (by decide)) cel_8 rfl (mtX5_fails  hv10) q7_3 q7_4 q7_5 q1_5 q7_6 ydX5_fails ⟨rfl, rfl⟩ ⟨by decide, by decide⟩ ⟨Nat.zero_le _, Nat.zero_le _⟩ hl.1 (Nat.le_of_ble_eq_true rfl) rfl dX5_leakTest_12 (fun H locs w => ?_)
    obtain ⟨e1, e2, e3⟩ := rt3 h
    exact x_ri C w e1 (by rw [e2]) (by rw [e3]) dX5_leakTest_15
theorem mtX5_leakTest {rr : Int32} {MR : M2} {JR : J2}   {x1 : Int32}  (h : fX5_leakTest F  x1 M J = some (rr, MR, JR)) : MtI l yX5_leakTest wdX5_leakTest rmX5_leakTest E [.ref (ad E 8 0), .int x1] (sg G 8 M) (sg K 8 J) rr (sg G 8 MR) (sg K 8 JR) := by
  intro sz
  refine Met.ofW (cc := cX5_leakTest) (maxL := 5) (ret := (some .int)) (by decide) rfl ?_
  intro p e s m args below meth c s₁ B hml hv
  obtain ⟨rfl, C, w⟩ := Cx.of (own := RX5) B rfl hml hv
  have hl := lv_entry ([.ref (ad E 8 0), .int x1]) (n := 5) (by first | exact Nat.le_of_ble_eq_true rfl)
  rw [lg_entry_eq]
  generalize (lg_sl ([.ref (ad E 8 0), .int x1]) ++ List.replicate (5 - (lg_sl ([.ref (ad E 8 0), .int x1])).length) Slot.unset).toArray = ls at hl ⊢
  exact TX5_leakTest C   h w hl
theorem ydX5_leakTest : yX5_leakTest.cls = RX5 ∧ yX5_leakTest.cls ≠ "java/lang/invoke/MethodHandle" ∧ yX5_leakTest.cls ≠ "java/lang/invoke/VarHandle" ∧ (parseMethodDescriptor yX5_leakTest.desc).map (fun d => d.parameters.length) = some 1 := by decide +kernel
/-! X5.told(II)I -/
abbrev rmX5_told : Room := { frames := 3, cells := 0, slots := 0, locals := 55 }
abbrev wdX5_told : Cond := Cond.code yX5_told cX5_told 3 (some .int)
noncomputable def fX5_told (F : Nat) (M : M2) (J : J2) (x1 : Int32) (x2 : Int32)  : Option Int32 := (if x2 = (0 : Int32) then ((fX5_its M J x1 (0 : Int32)).bind (fun vv11 => some vv11)) else if x2 = (1 : Int32) then ((fX5_its M J x1 (1 : Int32)).bind (fun vv13 => some vv13)) else if x2 = (2 : Int32) then ((fX5_stage F M J x1).bind (fun vv15 => some vv15)) else if x2 = (3 : Int32) then ((fX5_its M J x1 (2 : Int32)).bind (fun vv17 => some vv17)) else if x2 = (4 : Int32) then ((fX5_its M J x1 (3 : Int32)).bind (fun vv19 => some vv19)) else if x2 = (5 : Int32) then ((fX5_its M J x1 (1 : Int32)).bind (fun vv21 => (if ¬ vv21 = (2 : Int32) then (some (0 : Int32)) else ((fX5_its M J x1 (4 : Int32)).bind (fun vv24 => some vv24))))) else if x2 = (6 : Int32) then ((fX5_its M J x1 (1 : Int32)).bind (fun vv26 => (if ¬ vv26 = 0 then (some (0 : Int32)) else ((fX5_its M J x1 (5 : Int32)).bind (fun vv29 => some vv29))))) else if x2 = (7 : Int32) then ((fX5_its M J x1 (6 : Int32)).bind (fun vv31 => some vv31)) else if x2 = (8 : Int32) then ((fX5_loadsBelow F M J x1).bind (fun vv33 => some vv33)) else ((fX5_unloadsAbove F M J x1).bind (fun vv35 => some vv35)))
set_option maxRecDepth 20000 in
set_option maxHeartbeats 1000000 in
theorem TX5_told {rr : Int32}  (C : Cx E A p s m args meth c wdX5_told cX5_told 3 (some .int) RX5)  {x1 : Int32} {x2 : Int32}  (h : fX5_told F M J x1 x2 = some rr) (w : Wd E A s (sg G 8 M) (sg K 8 J) H locs) (hl : lv_has ls 3 [(0, .ref (ad E 8 0)), (1, .int x1), (2, .int x2)]) : W p l e rmX5_told s m args below meth c H locs 0 0 (QI E A below args s rr (sg G 8 M) (sg K 8 J)) (F0 m 0 ls []) := by
  obtain ⟨hx, hb, hr, hml, hown, hts, hlocks, hKK, hA1, hA2⟩ := id C
  unfold fX5_told at h
  refine lv_iload_n hx hb dX5_told_0 rfl (lv_at hl 2 rfl) ?_
  by_cases c1 : x2 = (0 : Int32)
  · replace h := ite_t h c1
    refine lv_tableIn (tgt := 52) hx hb dX5_told_1 (by rw [c1]; decide) (by rw [c1]; decide) (by rw [c1]; rfl) (by decide) ?_
    refine lv_aload_n hx hb dX5_told_52 rfl (lv_at hl 0 rfl) ?_
    refine lv_iload_n hx hb dX5_told_53 rfl (lv_at hl 1 rfl) ?_
    refine lv_iconst (v := (0 : Int32)) hx hb dX5_told_54 (by decide) ?_
    obtain ⟨vv11, hv10, h⟩ := bind_of h
    refine x_cVi (As := [.int x1, .int (0 : Int32)]) (rest := []) C w (v8 (by decide)) cel_8 rfl (mtX5_its  hv10) q11_5 q11_6 q11_7 q1_5 q11_8 ydX5_its ⟨rfl, rfl⟩ ⟨by decide, by decide⟩ ⟨Nat.zero_le _, Nat.zero_le _⟩ hl.1 (Nat.le_of_ble_eq_true rfl) rfl dX5_told_55 (fun H locs w => ?_)
    have e1 := Option.some.inj h
    exact x_ri C w e1 rfl rfl dX5_told_58
  replace h := ite_f h c1
  by_cases c2 : x2 = (1 : Int32)
  · replace h := ite_t h c2
    refine lv_tableIn (tgt := 59) hx hb dX5_told_1 (by rw [c2]; decide) (by rw [c2]; decide) (by rw [c2]; rfl) (by decide) ?_
    refine lv_aload_n hx hb dX5_told_59 rfl (lv_at hl 0 rfl) ?_
    refine lv_iload_n hx hb dX5_told_60 rfl (lv_at hl 1 rfl) ?_
    refine lv_iconst (v := (1 : Int32)) hx hb dX5_told_61 (by decide) ?_
    obtain ⟨vv13, hv12, h⟩ := bind_of h
    refine x_cVi (As := [.int x1, .int (1 : Int32)]) (rest := []) C w (v8 (by decide)) cel_8 rfl (mtX5_its  hv12) q11_5 q11_6 q11_7 q1_5 q11_8 ydX5_its ⟨rfl, rfl⟩ ⟨by decide, by decide⟩ ⟨Nat.zero_le _, Nat.zero_le _⟩ hl.1 (Nat.le_of_ble_eq_true rfl) rfl dX5_told_62 (fun H locs w => ?_)
    have e1 := Option.some.inj h
    exact x_ri C w e1 rfl rfl dX5_told_65
  replace h := ite_f h c2
  by_cases c3 : x2 = (2 : Int32)
  · replace h := ite_t h c3
    refine lv_tableIn (tgt := 66) hx hb dX5_told_1 (by rw [c3]; decide) (by rw [c3]; decide) (by rw [c3]; rfl) (by decide) ?_
    refine lv_aload_n hx hb dX5_told_66 rfl (lv_at hl 0 rfl) ?_
    refine lv_iload_n hx hb dX5_told_67 rfl (lv_at hl 1 rfl) ?_
    obtain ⟨vv15, hv14, h⟩ := bind_of h
    refine x_cVi (As := [.int x1]) (rest := []) C w (v8 (by decide)) cel_8 rfl (mtX5_stage  hv14) q12_9 q12_10 q12_11 q1_5 q12_12 ydX5_stage ⟨rfl, rfl⟩ ⟨by decide, by decide⟩ ⟨Nat.zero_le _, Nat.zero_le _⟩ hl.1 (Nat.le_of_ble_eq_true rfl) rfl dX5_told_68 (fun H locs w => ?_)
    have e1 := Option.some.inj h
    exact x_ri C w e1 rfl rfl dX5_told_71
  replace h := ite_f h c3
  by_cases c4 : x2 = (3 : Int32)
  · replace h := ite_t h c4
    refine lv_tableIn (tgt := 72) hx hb dX5_told_1 (by rw [c4]; decide) (by rw [c4]; decide) (by rw [c4]; rfl) (by decide) ?_
    refine lv_aload_n hx hb dX5_told_72 rfl (lv_at hl 0 rfl) ?_
    refine lv_iload_n hx hb dX5_told_73 rfl (lv_at hl 1 rfl) ?_
    refine lv_iconst (v := (2 : Int32)) hx hb dX5_told_74 (by decide) ?_
    obtain ⟨vv17, hv16, h⟩ := bind_of h
    refine x_cVi (As := [.int x1, .int (2 : Int32)]) (rest := []) C w (v8 (by decide)) cel_8 rfl (mtX5_its  hv16) q11_5 q11_6 q11_7 q1_5 q11_8 ydX5_its ⟨rfl, rfl⟩ ⟨by decide, by decide⟩ ⟨Nat.zero_le _, Nat.zero_le _⟩ hl.1 (Nat.le_of_ble_eq_true rfl) rfl dX5_told_75 (fun H locs w => ?_)
    have e1 := Option.some.inj h
    exact x_ri C w e1 rfl rfl dX5_told_78
  replace h := ite_f h c4
  by_cases c5 : x2 = (4 : Int32)
  · replace h := ite_t h c5
    refine lv_tableIn (tgt := 79) hx hb dX5_told_1 (by rw [c5]; decide) (by rw [c5]; decide) (by rw [c5]; rfl) (by decide) ?_
    refine lv_aload_n hx hb dX5_told_79 rfl (lv_at hl 0 rfl) ?_
    refine lv_iload_n hx hb dX5_told_80 rfl (lv_at hl 1 rfl) ?_
    refine lv_iconst (v := (3 : Int32)) hx hb dX5_told_81 (by decide) ?_
    obtain ⟨vv19, hv18, h⟩ := bind_of h
    refine x_cVi (As := [.int x1, .int (3 : Int32)]) (rest := []) C w (v8 (by decide)) cel_8 rfl (mtX5_its  hv18) q11_5 q11_6 q11_7 q1_5 q11_8 ydX5_its ⟨rfl, rfl⟩ ⟨by decide, by decide⟩ ⟨Nat.zero_le _, Nat.zero_le _⟩ hl.1 (Nat.le_of_ble_eq_true rfl) rfl dX5_told_82 (fun H locs w => ?_)
    have e1 := Option.some.inj h
    exact x_ri C w e1 rfl rfl dX5_told_85
  replace h := ite_f h c5
  by_cases c6 : x2 = (5 : Int32)
  · replace h := ite_t h c6
    refine lv_tableIn (tgt := 86) hx hb dX5_told_1 (by rw [c6]; decide) (by rw [c6]; decide) (by rw [c6]; rfl) (by decide) ?_
    refine lv_aload_n hx hb dX5_told_86 rfl (lv_at hl 0 rfl) ?_
    refine lv_iload_n hx hb dX5_told_87 rfl (lv_at hl 1 rfl) ?_
    refine lv_iconst (v := (1 : Int32)) hx hb dX5_told_88 (by decide) ?_
    obtain ⟨vv21, hv20, h⟩ := bind_of h
    refine x_cVi (As := [.int x1, .int (1 : Int32)]) (rest := []) C w (v8 (by decide)) cel_8 rfl (mtX5_its  hv20) q11_5 q11_6 q11_7 q1_5 q11_8 ydX5_its ⟨rfl, rfl⟩ ⟨by decide, by decide⟩ ⟨Nat.zero_le _, Nat.zero_le _⟩ hl.1 (Nat.le_of_ble_eq_true rfl) rfl dX5_told_89 (fun H locs w => ?_)
    refine lv_iconst (v := (2 : Int32)) hx hb dX5_told_92 (by decide) ?_
    refine lv_icmp_ne (tgt := 105) hx hb dX5_told_93 (by decide) (fun c22 => ?_) (fun c22 => ?_)
    · replace h := ite_t h c22
      refine lv_iconst (v := (0 : Int32)) hx hb dX5_told_105 (by decide) ?_
      have e1 := Option.some.inj h
      exact x_ri C w e1 rfl rfl dX5_told_106
    · replace h := ite_f h (fun z => z c22)
      refine lv_aload_n hx hb dX5_told_96 rfl (lv_at hl 0 rfl) ?_
      refine lv_iload_n hx hb dX5_told_97 rfl (lv_at hl 1 rfl) ?_
      refine lv_iconst (v := (4 : Int32)) hx hb dX5_told_98 (by decide) ?_
      obtain ⟨vv24, hv23, h⟩ := bind_of h
      refine x_cVi (As := [.int x1, .int (4 : Int32)]) (rest := []) C w (v8 (by decide)) cel_8 rfl (mtX5_its  hv23) q11_5 q11_6 q11_7 q1_5 q11_8 ydX5_its ⟨rfl, rfl⟩ ⟨by decide, by decide⟩ ⟨Nat.zero_le _, Nat.zero_le _⟩ hl.1 (Nat.le_of_ble_eq_true rfl) rfl dX5_told_99 (fun H locs w => ?_)
      refine lv_goto (tgt := 106) hx hb dX5_told_102 (by decide) ?_
      have e1 := Option.some.inj h
      exact x_ri C w e1 rfl rfl dX5_told_106
  replace h := ite_f h c6
  by_cases c7 : x2 = (6 : Int32)
  · replace h := ite_t h c7
    refine lv_tableIn (tgt := 107) hx hb dX5_told_1 (by rw [c7]; decide) (by rw [c7]; decide) (by rw [c7]; rfl) (by decide) ?_
    refine lv_aload_n hx hb dX5_told_107 rfl (lv_at hl 0 rfl) ?_
    refine lv_iload_n hx hb dX5_told_108 rfl (lv_at hl 1 rfl) ?_
    refine lv_iconst (v := (1 : Int32)) hx hb dX5_told_109 (by decide) ?_
    obtain ⟨vv26, hv25, h⟩ := bind_of h
    refine x_cVi (As := [.int x1, .int (1 : Int32)]) (rest := []) C w (v8 (by decide)) cel_8 rfl (mtX5_its  hv25) q11_5 q11_6 q11_7 q1_5 q11_8 ydX5_its ⟨rfl, rfl⟩ ⟨by decide, by decide⟩ ⟨Nat.zero_le _, Nat.zero_le _⟩ hl.1 (Nat.le_of_ble_eq_true rfl) rfl dX5_told_110 (fun H locs w => ?_)
    refine lv_if_ne (tgt := 125) hx hb dX5_told_113 (by decide) (fun c27 => ?_) (fun c27 => ?_)
    · replace h := ite_t h c27
      refine lv_iconst (v := (0 : Int32)) hx hb dX5_told_125 (by decide) ?_
      have e1 := Option.some.inj h
      exact x_ri C w e1 rfl rfl dX5_told_126
    · replace h := ite_f h (fun z => z c27)
      refine lv_aload_n hx hb dX5_told_116 rfl (lv_at hl 0 rfl) ?_
      refine lv_iload_n hx hb dX5_told_117 rfl (lv_at hl 1 rfl) ?_
      refine lv_iconst (v := (5 : Int32)) hx hb dX5_told_118 (by decide) ?_
      obtain ⟨vv29, hv28, h⟩ := bind_of h
      refine x_cVi (As := [.int x1, .int (5 : Int32)]) (rest := []) C w (v8 (by decide)) cel_8 rfl (mtX5_its  hv28) q11_5 q11_6 q11_7 q1_5 q11_8 ydX5_its ⟨rfl, rfl⟩ ⟨by decide, by decide⟩ ⟨Nat.zero_le _, Nat.zero_le _⟩ hl.1 (Nat.le_of_ble_eq_true rfl) rfl dX5_told_119 (fun H locs w => ?_)
      refine lv_goto (tgt := 126) hx hb dX5_told_122 (by decide) ?_
      have e1 := Option.some.inj h
      exact x_ri C w e1 rfl rfl dX5_told_126
  replace h := ite_f h c7
  by_cases c8 : x2 = (7 : Int32)
  · replace h := ite_t h c8
    refine lv_tableIn (tgt := 127) hx hb dX5_told_1 (by rw [c8]; decide) (by rw [c8]; decide) (by rw [c8]; rfl) (by decide) ?_
    refine lv_aload_n hx hb dX5_told_127 rfl (lv_at hl 0 rfl) ?_
    refine lv_iload_n hx hb dX5_told_128 rfl (lv_at hl 1 rfl) ?_
    refine lv_bipush (v := (6 : Int32)) hx hb dX5_told_129 (by decide) ?_
    obtain ⟨vv31, hv30, h⟩ := bind_of h
    refine x_cVi (As := [.int x1, .int (6 : Int32)]) (rest := []) C w (v8 (by decide)) cel_8 rfl (mtX5_its  hv30) q11_5 q11_6 q11_7 q1_5 q11_8 ydX5_its ⟨rfl, rfl⟩ ⟨by decide, by decide⟩ ⟨Nat.zero_le _, Nat.zero_le _⟩ hl.1 (Nat.le_of_ble_eq_true rfl) rfl dX5_told_131 (fun H locs w => ?_)
    have e1 := Option.some.inj h
    exact x_ri C w e1 rfl rfl dX5_told_134
  replace h := ite_f h c8
  by_cases c9 : x2 = (8 : Int32)
  · replace h := ite_t h c9
    refine lv_tableIn (tgt := 135) hx hb dX5_told_1 (by rw [c9]; decide) (by rw [c9]; decide) (by rw [c9]; rfl) (by decide) ?_
    refine lv_aload_n hx hb dX5_told_135 rfl (lv_at hl 0 rfl) ?_
    refine lv_iload_n hx hb dX5_told_136 rfl (lv_at hl 1 rfl) ?_
    obtain ⟨vv33, hv32, h⟩ := bind_of h
    refine x_cVi (As := [.int x1]) (rest := []) C w (v8 (by decide)) cel_8 rfl (mtX5_loadsBelow  hv32) q17_22 q17_23 q18_0 q1_5 q18_1 ydX5_loadsBelow ⟨rfl, rfl⟩ ⟨by decide, by decide⟩ ⟨Nat.zero_le _, Nat.zero_le _⟩ hl.1 (Nat.le_of_ble_eq_true rfl) rfl dX5_told_137 (fun H locs w => ?_)
    have e1 := Option.some.inj h
    exact x_ri C w e1 rfl rfl dX5_told_140
  replace h := ite_f h c9
  have hsw : x2.toInt < 0 ∨ 8 < x2.toInt := by
    have n0 := ne_toInt c1
    have n1 := ne_toInt c2
    have n2 := ne_toInt c3
    have n3 := ne_toInt c4
    have n4 := ne_toInt c5
    have n5 := ne_toInt c6
    have n6 := ne_toInt c7
    have n7 := ne_toInt c8
    have n8 := ne_toInt c9
    have e0 : (0 : Int32).toInt = 0 := by decide
    have e1 : (1 : Int32).toInt = 1 := by decide
    have e2 : (2 : Int32).toInt = 2 := by decide
    have e3 : (3 : Int32).toInt = 3 := by decide
    have e4 : (4 : Int32).toInt = 4 := by decide
    have e5 : (5 : Int32).toInt = 5 := by decide
    have e6 : (6 : Int32).toInt = 6 := by decide
    have e7 : (7 : Int32).toInt = 7 := by decide
    have e8 : (8 : Int32).toInt = 8 := by decide
    simp only [e0, e1, e2, e3, e4, e5, e6, e7, e8] at n0 n1 n2 n3 n4 n5 n6 n7 n8
    omega
  refine lv_tableOut (tgt := 141) hx hb dX5_told_1 hsw (by decide) ?_
  refine lv_aload_n hx hb dX5_told_141 rfl (lv_at hl 0 rfl) ?_
  refine lv_iload_n hx hb dX5_told_142 rfl (lv_at hl 1 rfl) ?_
  obtain ⟨vv35, hv34, h⟩ := bind_of h
  refine x_cVi (As := [.int x1]) (rest := []) C w (v8 (by decide)) cel_8 rfl (mtX5_unloadsAbove  hv34) q17_18 q17_19 q17_20 q1_5 q17_21 ydX5_unloadsAbove ⟨rfl, rfl⟩ ⟨by decide, by decide⟩ ⟨Nat.zero_le _, Nat.zero_le _⟩ hl.1 (Nat.le_of_ble_eq_true rfl) rfl dX5_told_143 (fun H locs w => ?_)
  have e1 := Option.some.inj h
  exact x_ri C w e1 rfl rfl dX5_told_146
theorem mtX5_told {rr : Int32}   {x1 : Int32} {x2 : Int32}  (h : fX5_told F M J x1 x2 = some rr) : MtI l yX5_told wdX5_told rmX5_told E [.ref (ad E 8 0), .int x1, .int x2] (sg G 8 M) (sg K 8 J) rr (sg G 8 M) (sg K 8 J) := by
  intro sz
  refine Met.ofW (cc := cX5_told) (maxL := 3) (ret := (some .int)) (by decide) rfl ?_
  intro p e s m args below meth c s₁ B hml hv
  obtain ⟨rfl, C, w⟩ := Cx.of (own := RX5) B rfl hml hv
  have hl := lv_entry ([.ref (ad E 8 0), .int x1, .int x2]) (n := 3) (by first | exact Nat.le_of_ble_eq_true rfl)
  rw [lg_entry_eq]
  generalize (lg_sl ([.ref (ad E 8 0), .int x1, .int x2]) ++ List.replicate (3 - (lg_sl ([.ref (ad E 8 0), .int x1, .int x2])).length) Slot.unset).toArray = ls at hl ⊢
  exact TX5_told C   h w hl
theorem ydX5_told : yX5_told.cls = RX5 ∧ yX5_told.cls ≠ "java/lang/invoke/MethodHandle" ∧ yX5_told.cls ≠ "java/lang/invoke/VarHandle" ∧ (parseMethodDescriptor yX5_told.desc).map (fun d => d.parameters.length) = some 2 := by decide +kernel
/-! X5.compressor(II)I -/
abbrev rmX5_compressor : Room := { frames := 4, cells := 0, slots := 0, locals := 77 }
abbrev wdX5_compressor : Cond := Cond.code yX5_compressor cX5_compressor 3 (some .int)
noncomputable def fX5_compressor (F : Nat)  (x1 : Int32) (x2 : Int32) (M : M2) (J : J2) : Option (Int32 × M2 × J2) := (if ¬ (fX5_isOne M J x1) = 0 then ((if (fX5_in x2 (0 : Int32) (9 : Int32)) = 0 then (bd3 (fX5_fails (2 : Int32) M J) (fun vv6 M4 J5 => some (vv6, M4, J5))) else ((fX5_told F M J x1 x2).bind (fun vv8 => bd3 (fX5_tells vv8 M J) (fun vv12 M10 J11 => some (vv12, M10, J11)))))) else (bd3 (fX5_fails (1 : Int32) M J) (fun vv16 M14 J15 => some (vv16, M14, J15))))
set_option maxRecDepth 20000 in
set_option maxHeartbeats 1000000 in
theorem TX5_compressor {rr : Int32} {MR : M2} {JR : J2}  (C : Cx E A p s m args meth c wdX5_compressor cX5_compressor 3 (some .int) RX5)  {x1 : Int32} {x2 : Int32}  (h : fX5_compressor F  x1 x2 M J = some (rr, MR, JR)) (w : Wd E A s (sg G 8 M) (sg K 8 J) H locs) (hl : lv_has ls 3 [(0, .ref (ad E 8 0)), (1, .int x1), (2, .int x2)]) : W p l e rmX5_compressor s m args below meth c H locs 0 0 (QI E A below args s rr (sg G 8 MR) (sg K 8 JR)) (F0 m 0 ls []) := by
  obtain ⟨hx, hb, hr, hml, hown, hts, hlocks, hKK, hA1, hA2⟩ := id C
  unfold fX5_compressor at h
  refine lv_aload_n hx hb dX5_compressor_0 rfl (lv_at hl 0 rfl) ?_
  refine lv_iload_n hx hb dX5_compressor_1 rfl (lv_at hl 1 rfl) ?_
  refine x_cVi (As := [.int x1]) (rest := []) C w (v8 (by decide)) cel_8 rfl (mtX5_isOne ) q11_1 q11_2 q11_3 q1_5 q11_4 ydX5_isOne ⟨rfl, rfl⟩ ⟨by decide, by decide⟩ ⟨Nat.zero_le _, Nat.zero_le _⟩ hl.1 (Nat.le_of_ble_eq_true rfl) rfl dX5_compressor_2 (fun H locs w => ?_)
  refine lv_if_ne (tgt := 14) hx hb dX5_compressor_5 (by decide) (fun c1 => ?_) (fun c1 => ?_)
  · replace h := ite_t h c1
    refine lv_iload_n hx hb dX5_compressor_14 rfl (lv_at hl 2 rfl) ?_
    refine lv_iconst (v := (0 : Int32)) hx hb dX5_compressor_15 (by decide) ?_
    refine lv_bipush (v := (9 : Int32)) hx hb dX5_compressor_16 (by decide) ?_
    refine x_cSi (As := [.int x2, .int (0 : Int32), .int (9 : Int32)]) (rest := []) C w (mtX5_in ) q7_0 q7_1 q1_5 q7_2 ydX5_in ⟨rfl, rfl⟩ ⟨by decide, by decide⟩ ⟨Nat.zero_le _, Nat.zero_le _⟩ hl.1 (Nat.le_of_ble_eq_true rfl) rfl dX5_compressor_18 (fun H locs w => ?_)
    refine lv_if_eq (tgt := 37) hx hb dX5_compressor_21 (by decide) (fun c2 => ?_) (fun c2 => ?_)
    · replace h := ite_t h c2
      refine lv_aload_n hx hb dX5_compressor_37 rfl (lv_at hl 0 rfl) ?_
      refine lv_iconst (v := (2 : Int32)) hx hb dX5_compressor_38 (by decide) ?_
      obtain ⟨vv6, M4, J5, hv3, h⟩ := bd3_of h
      refine x_cVi (As := [.int (2 : Int32)]) (rest := []) C w (v8 (by decide)) cel_8 rfl (mtX5_fails  hv3) q7_3 q7_4 q7_5 q1_5 q7_6 ydX5_fails ⟨rfl, rfl⟩ ⟨by decide, by decide⟩ ⟨Nat.zero_le _, Nat.zero_le _⟩ hl.1 (Nat.le_of_ble_eq_true rfl) rfl dX5_compressor_39 (fun H locs w => ?_)
      obtain ⟨e1, e2, e3⟩ := rt3 h
      exact x_ri C w e1 (by rw [e2]) (by rw [e3]) dX5_compressor_42
    · replace h := ite_f h c2
      refine lv_aload_n hx hb dX5_compressor_24 rfl (lv_at hl 0 rfl) ?_
      refine lv_aload_n hx hb dX5_compressor_25 rfl (lv_at hl 0 rfl) ?_
      refine lv_iload_n hx hb dX5_compressor_26 rfl (lv_at hl 1 rfl) ?_
      refine lv_iload_n hx hb dX5_compressor_27 rfl (lv_at hl 2 rfl) ?_
      obtain ⟨vv8, hv7, h⟩ := bind_of h
      refine x_cVi (As := [.int x1, .int x2]) (rest := [.ref (ad E 8 0)]) C w (v8 (by decide)) cel_8 rfl (mtX5_told  hv7) q19_18 q19_19 q19_20 q1_5 q19_21 ydX5_told ⟨rfl, rfl⟩ ⟨by decide, by decide⟩ ⟨Nat.zero_le _, Nat.zero_le _⟩ hl.1 (Nat.le_of_ble_eq_true rfl) rfl dX5_compressor_28 (fun H locs w => ?_)
      obtain ⟨vv12, M10, J11, hv9, h⟩ := bd3_of h
      refine x_cVi (As := [.int vv8]) (rest := []) C w (v8 (by decide)) cel_8 rfl (mtX5_tells  hv9) q7_21 q7_22 q7_23 q1_5 q8_0 ydX5_tells ⟨rfl, rfl⟩ ⟨by decide, by decide⟩ ⟨Nat.zero_le _, Nat.zero_le _⟩ hl.1 (Nat.le_of_ble_eq_true rfl) rfl dX5_compressor_31 (fun H locs w => ?_)
      refine lv_goto (tgt := 42) hx hb dX5_compressor_34 (by decide) ?_
      obtain ⟨e1, e2, e3⟩ := rt3 h
      exact x_ri C w e1 (by rw [e2]) (by rw [e3]) dX5_compressor_42
  · replace h := ite_f h (fun z => z c1)
    refine lv_aload_n hx hb dX5_compressor_8 rfl (lv_at hl 0 rfl) ?_
    refine lv_iconst (v := (1 : Int32)) hx hb dX5_compressor_9 (by decide) ?_
    obtain ⟨vv16, M14, J15, hv13, h⟩ := bd3_of h
    refine x_cVi (As := [.int (1 : Int32)]) (rest := []) C w (v8 (by decide)) cel_8 rfl (mtX5_fails  hv13) q7_3 q7_4 q7_5 q1_5 q7_6 ydX5_fails ⟨rfl, rfl⟩ ⟨by decide, by decide⟩ ⟨Nat.zero_le _, Nat.zero_le _⟩ hl.1 (Nat.le_of_ble_eq_true rfl) rfl dX5_compressor_10 (fun H locs w => ?_)
    obtain ⟨e1, e2, e3⟩ := rt3 h
    exact x_ri C w e1 (by rw [e2]) (by rw [e3]) dX5_compressor_13
theorem mtX5_compressor {rr : Int32} {MR : M2} {JR : J2}   {x1 : Int32} {x2 : Int32}  (h : fX5_compressor F  x1 x2 M J = some (rr, MR, JR)) : MtI l yX5_compressor wdX5_compressor rmX5_compressor E [.ref (ad E 8 0), .int x1, .int x2] (sg G 8 M) (sg K 8 J) rr (sg G 8 MR) (sg K 8 JR) := by
  intro sz
  refine Met.ofW (cc := cX5_compressor) (maxL := 3) (ret := (some .int)) (by decide) rfl ?_
  intro p e s m args below meth c s₁ B hml hv
  obtain ⟨rfl, C, w⟩ := Cx.of (own := RX5) B rfl hml hv
  have hl := lv_entry ([.ref (ad E 8 0), .int x1, .int x2]) (n := 3) (by first | exact Nat.le_of_ble_eq_true rfl)
  rw [lg_entry_eq]
  generalize (lg_sl ([.ref (ad E 8 0), .int x1, .int x2]) ++ List.replicate (3 - (lg_sl ([.ref (ad E 8 0), .int x1, .int x2])).length) Slot.unset).toArray = ls at hl ⊢
  exact TX5_compressor C   h w hl
theorem ydX5_compressor : yX5_compressor.cls = RX5 ∧ yX5_compressor.cls ≠ "java/lang/invoke/MethodHandle" ∧ yX5_compressor.cls ≠ "java/lang/invoke/VarHandle" ∧ (parseMethodDescriptor yX5_compressor.desc).map (fun d => d.parameters.length) = some 2 := by decide +kernel
/-! X5.atStage(I)I -/
abbrev rmX5_atStage : Room := { frames := 2, cells := 0, slots := 0, locals := 34 }
abbrev wdX5_atStage : Cond := Cond.code yX5_atStage cX5_atStage 2 (some .int)
noncomputable def fX5_atStage  (x1 : Int32) (M : M2) (J : J2) : Option (Int32 × M2 × J2) := (if (fX5_in x1 (0 : Int32) ((M 1 10) - (1 : Int32))) = 0 then (bd3 (fX5_fails (1 : Int32) M J) (fun vv5 M3 J4 => some (vv5, M3, J4))) else (chk (inb ((56 : Int32) + x1) 61) (bd3 (fX5_tells (M 1 ((56 : Int32) + x1).toNatClampNeg) M J) (fun vv10 M8 J9 => some (vv10, M8, J9)))))
set_option maxRecDepth 20000 in
set_option maxHeartbeats 1000000 in
theorem TX5_atStage {rr : Int32} {MR : M2} {JR : J2}  (C : Cx E A p s m args meth c wdX5_atStage cX5_atStage 2 (some .int) RX5)  {x1 : Int32}  (h : fX5_atStage  x1 M J = some (rr, MR, JR)) (w : Wd E A s (sg G 8 M) (sg K 8 J) H locs) (hl : lv_has ls 2 [(0, .ref (ad E 8 0)), (1, .int x1)]) : W p l e rmX5_atStage s m args below meth c H locs 0 0 (QI E A below args s rr (sg G 8 MR) (sg K 8 JR)) (F0 m 0 ls []) := by
  obtain ⟨hx, hb, hr, hml, hown, hts, hlocks, hKK, hA1, hA2⟩ := id C
  unfold fX5_atStage at h
  refine lv_iload_n hx hb dX5_atStage_0 rfl (lv_at hl 1 rfl) ?_
  refine lv_iconst (v := (0 : Int32)) hx hb dX5_atStage_1 (by decide) ?_
  refine lv_aload_n hx hb dX5_atStage_2 rfl (lv_at hl 0 rfl) ?_
  refine gR_X5_s C w q3_16 dX5_atStage_3 ?_
  refine lv_bipush (v := (10 : Int32)) hx hb dX5_atStage_6 (by decide) ?_
  refine x_aldI_L C w (v8 (by decide)) c8_1 (inb_k (k := 10) (by decide) (by decide)) cl_10 dX5_atStage_8 ?_
  refine lv_iconst (v := (1 : Int32)) hx hb dX5_atStage_9 (by decide) ?_
  refine lv_isub hx hb dX5_atStage_10 ?_
  refine x_cSi (As := [.int x1, .int (0 : Int32), .int ((M 1 10) - (1 : Int32))]) (rest := []) C w (mtX5_in ) q7_0 q7_1 q1_5 q7_2 ydX5_in ⟨rfl, rfl⟩ ⟨by decide, by decide⟩ ⟨Nat.zero_le _, Nat.zero_le _⟩ hl.1 (Nat.le_of_ble_eq_true rfl) rfl dX5_atStage_11 (fun H locs w => ?_)
  refine lv_if_eq (tgt := 33) hx hb dX5_atStage_14 (by decide) (fun c1 => ?_) (fun c1 => ?_)
  · replace h := ite_t h c1
    refine lv_aload_n hx hb dX5_atStage_33 rfl (lv_at hl 0 rfl) ?_
    refine lv_iconst (v := (1 : Int32)) hx hb dX5_atStage_34 (by decide) ?_
    obtain ⟨vv5, M3, J4, hv2, h⟩ := bd3_of h
    refine x_cVi (As := [.int (1 : Int32)]) (rest := []) C w (v8 (by decide)) cel_8 rfl (mtX5_fails  hv2) q7_3 q7_4 q7_5 q1_5 q7_6 ydX5_fails ⟨rfl, rfl⟩ ⟨by decide, by decide⟩ ⟨Nat.zero_le _, Nat.zero_le _⟩ hl.1 (Nat.le_of_ble_eq_true rfl) rfl dX5_atStage_35 (fun H locs w => ?_)
    obtain ⟨e1, e2, e3⟩ := rt3 h
    exact x_ri C w e1 (by rw [e2]) (by rw [e3]) dX5_atStage_38
  · replace h := ite_f h c1
    refine lv_aload_n hx hb dX5_atStage_17 rfl (lv_at hl 0 rfl) ?_
    refine lv_aload_n hx hb dX5_atStage_18 rfl (lv_at hl 0 rfl) ?_
    refine gR_X5_s C w q3_16 dX5_atStage_19 ?_
    refine lv_bipush (v := (56 : Int32)) hx hb dX5_atStage_22 (by decide) ?_
    refine lv_iload_n hx hb dX5_atStage_24 rfl (lv_at hl 1 rfl) ?_
    refine lv_iadd hx hb dX5_atStage_25 ?_
    obtain ⟨ki6, h⟩ := chk_of h
    refine x_aldI_L C w (v8 (by decide)) c8_1 ki6 rfl dX5_atStage_26 ?_
    obtain ⟨vv10, M8, J9, hv7, h⟩ := bd3_of h
    refine x_cVi (As := [.int (M 1 ((56 : Int32) + x1).toNatClampNeg)]) (rest := []) C w (v8 (by decide)) cel_8 rfl (mtX5_tells  hv7) q7_21 q7_22 q7_23 q1_5 q8_0 ydX5_tells ⟨rfl, rfl⟩ ⟨by decide, by decide⟩ ⟨Nat.zero_le _, Nat.zero_le _⟩ hl.1 (Nat.le_of_ble_eq_true rfl) rfl dX5_atStage_27 (fun H locs w => ?_)
    refine lv_goto (tgt := 38) hx hb dX5_atStage_30 (by decide) ?_
    obtain ⟨e1, e2, e3⟩ := rt3 h
    exact x_ri C w e1 (by rw [e2]) (by rw [e3]) dX5_atStage_38
theorem mtX5_atStage {rr : Int32} {MR : M2} {JR : J2}   {x1 : Int32}  (h : fX5_atStage  x1 M J = some (rr, MR, JR)) : MtI l yX5_atStage wdX5_atStage rmX5_atStage E [.ref (ad E 8 0), .int x1] (sg G 8 M) (sg K 8 J) rr (sg G 8 MR) (sg K 8 JR) := by
  intro sz
  refine Met.ofW (cc := cX5_atStage) (maxL := 2) (ret := (some .int)) (by decide) rfl ?_
  intro p e s m args below meth c s₁ B hml hv
  obtain ⟨rfl, C, w⟩ := Cx.of (own := RX5) B rfl hml hv
  have hl := lv_entry ([.ref (ad E 8 0), .int x1]) (n := 2) (by first | exact Nat.le_of_ble_eq_true rfl)
  rw [lg_entry_eq]
  generalize (lg_sl ([.ref (ad E 8 0), .int x1]) ++ List.replicate (2 - (lg_sl ([.ref (ad E 8 0), .int x1])).length) Slot.unset).toArray = ls at hl ⊢
  exact TX5_atStage C   h w hl
theorem ydX5_atStage : yX5_atStage.cls = RX5 ∧ yX5_atStage.cls ≠ "java/lang/invoke/MethodHandle" ∧ yX5_atStage.cls ≠ "java/lang/invoke/VarHandle" ∧ (parseMethodDescriptor yX5_atStage.desc).map (fun d => d.parameters.length) = some 1 := by decide +kernel
/-! X5.capacities(Z)I -/
abbrev rmX5_capacities : Room := { frames := 2, cells := 0, slots := 0, locals := 34 }
abbrev wdX5_capacities : Cond := Cond.code yX5_capacities cX5_capacities 5 (some .int)
noncomputable def fbX5_capacities_70 (F : Nat) (k4 : Int32 → Int32 → Int32 → Option Int32) (M : M2) (J : J2) (a1 : Int32) (a3 : Int32) (s0 : Int32) (s1 : Int32)  : Option Int32 := k4 a1 (s1 + s0) (a3 + (1 : Int32))
set_option maxRecDepth 20000 in
set_option maxHeartbeats 1000000 in
theorem TX5_capacities_70 {rr : Int32}  {k4 : Int32 → Int32 → Int32 → Option Int32} (C : Cx E A p s m args meth c wdX5_capacities cX5_capacities 5 (some .int) RX5)  (hk4 : ∀ (a1 : Int32) (a2 : Int32) (a3 : Int32)   (ls : Array Slot) (H : Heap) (locs : List Loc), k4 a1 a2 a3 = some rr → Wd E A s (sg G 8 M) (sg K 8 J) H locs → lv_has ls 5 [(0, .ref (ad E 8 0)), (1, .int a1), (2, .int a2), (3, .int a3)] → W p l e rmX5_capacities s m args below meth c H locs 0 0 (QI E A below args s rr (sg G 8 M) (sg K 8 J)) (F0 m 4 ls [])) (a1 : Int32) (a3 : Int32) (s0 : Int32) (s1 : Int32)   (h : fbX5_capacities_70 F k4 M J a1 a3 s0 s1 = some rr) (w : Wd E A s (sg G 8 M) (sg K 8 J) H locs) (hl : lv_has ls 5 [(0, .ref (ad E 8 0)), (1, .int a1), (3, .int a3)]) : W p l e rmX5_capacities s m args below meth c H locs 0 0 (QI E A below args s rr (sg G 8 M) (sg K 8 J)) (F0 m 70 ls [.int s0, .int s1]) := by
  obtain ⟨hx, hb, hr, hml, hown, hts, hlocks, hKK, hA1, hA2⟩ := id C
  unfold fbX5_capacities_70 at h
  refine lv_iadd hx hb dX5_capacities_70 ?_
  refine lv_istore_n (lv' := [(2, .int (s1 + s0)), (0, .ref (ad E 8 0)), (1, .int a1), (3, .int a3)]) hx hb dX5_capacities_71 rfl hl (by decide) rfl (fun ls hl => ?_)
  refine lv_iinc (v := (a3 + (1 : Int32))) (lv' := [(3, .int (a3 + (1 : Int32))), (2, .int (s1 + s0)), (0, .ref (ad E 8 0)), (1, .int a1)]) hx hb dX5_capacities_72 hl (k := 3) rfl (congrArg (HAdd.hAdd _) (by decide)) (by decide) rfl (fun ls hl => ?_)
  refine lv_goto (tgt := 4) hx hb dX5_capacities_75 (by decide) ?_
  exact hk4 _ _ _ _ _ _ h w (lv_sub hl [2, 3, 1, 0] rfl)
noncomputable def fbX5_capacities_52 (F : Nat) (k4 : Int32 → Int32 → Int32 → Option Int32) (M : M2) (J : J2) (a1 : Int32) (a2 : Int32) (a3 : Int32) (s0 : Int32)  : Option Int32 := (if s0 = 0 then (fbX5_capacities_70 F k4 M J a1 a3 (0 : Int32) a2) else ((fX5_its M J a3 (0 : Int32)).bind (fun vv3 => fbX5_capacities_70 F k4 M J a1 a3 vv3 a2)))
set_option maxRecDepth 20000 in
set_option maxHeartbeats 1000000 in
theorem TX5_capacities_52 {rr : Int32}  {k4 : Int32 → Int32 → Int32 → Option Int32} (C : Cx E A p s m args meth c wdX5_capacities cX5_capacities 5 (some .int) RX5)  (hk4 : ∀ (a1 : Int32) (a2 : Int32) (a3 : Int32)   (ls : Array Slot) (H : Heap) (locs : List Loc), k4 a1 a2 a3 = some rr → Wd E A s (sg G 8 M) (sg K 8 J) H locs → lv_has ls 5 [(0, .ref (ad E 8 0)), (1, .int a1), (2, .int a2), (3, .int a3)] → W p l e rmX5_capacities s m args below meth c H locs 0 0 (QI E A below args s rr (sg G 8 M) (sg K 8 J)) (F0 m 4 ls [])) (a1 : Int32) (a2 : Int32) (a3 : Int32) (s0 : Int32)   (h : fbX5_capacities_52 F k4 M J a1 a2 a3 s0 = some rr) (w : Wd E A s (sg G 8 M) (sg K 8 J) H locs) (hl : lv_has ls 5 [(0, .ref (ad E 8 0)), (1, .int a1), (2, .int a2), (3, .int a3)]) : W p l e rmX5_capacities s m args below meth c H locs 0 0 (QI E A below args s rr (sg G 8 M) (sg K 8 J)) (F0 m 52 ls [.int s0]) := by
  obtain ⟨hx, hb, hr, hml, hown, hts, hlocks, hKK, hA1, hA2⟩ := id C
  unfold fbX5_capacities_52 at h
  refine lv_istore (lv' := [(4, .int s0), (0, .ref (ad E 8 0)), (1, .int a1), (2, .int a2), (3, .int a3)]) hx hb dX5_capacities_52 hl (by decide) rfl (fun ls hl => ?_)
  refine lv_iload_n hx hb dX5_capacities_54 rfl (lv_at hl 3 rfl) ?_
  refine lv_iload hx hb dX5_capacities_55 (lv_at hl 0 rfl) ?_
  refine lv_if_eq (tgt := 69) hx hb dX5_capacities_57 (by decide) (fun c1 => ?_) (fun c1 => ?_)
  · replace h := ite_t h c1
    refine lv_iconst (v := (0 : Int32)) hx hb dX5_capacities_69 (by decide) ?_
    exact TX5_capacities_70 C  hk4 _ _ _ _ h w (lv_sub hl [1, 2, 4] rfl)
  · replace h := ite_f h c1
    refine lv_aload_n hx hb dX5_capacities_60 rfl (lv_at hl 1 rfl) ?_
    refine lv_iload_n hx hb dX5_capacities_61 rfl (lv_at hl 4 rfl) ?_
    refine lv_iconst (v := (0 : Int32)) hx hb dX5_capacities_62 (by decide) ?_
    obtain ⟨vv3, hv2, h⟩ := bind_of h
    refine x_cVi (As := [.int a3, .int (0 : Int32)]) (rest := [.int a2]) C w (v8 (by decide)) cel_8 rfl (mtX5_its  hv2) q11_5 q11_6 q11_7 q1_5 q11_8 ydX5_its ⟨rfl, rfl⟩ ⟨by decide, by decide⟩ ⟨Nat.zero_le _, Nat.zero_le _⟩ hl.1 (Nat.le_of_ble_eq_true rfl) rfl dX5_capacities_63 (fun H locs w => ?_)
    refine lv_goto (tgt := 70) hx hb dX5_capacities_66 (by decide) ?_
    exact TX5_capacities_70 C  hk4 _ _ _ _ h w (lv_sub hl [1, 2, 4] rfl)
noncomputable def fsX5_capacities_4 (F : Nat)  (M : M2) (J : J2) (k4 : Int32 → Int32 → Int32 → Option Int32) : Int32 → Int32 → Int32 → Option Int32 := fun a1 a2 a3 => (if (M 1 10) ≤ a3 then (some a2) else ((if a1 = 0 then ((fX5_its M J a3 (1 : Int32)).bind (fun vv4 => (if vv4 = (3 : Int32) then (fbX5_capacities_52 F k4 M J a1 a2 a3 (0 : Int32)) else (fbX5_capacities_52 F k4 M J a1 a2 a3 (1 : Int32))))) else ((fX5_its M J a3 (1 : Int32)).bind (fun vv7 => (if ¬ vv7 = (1 : Int32) then (fbX5_capacities_52 F k4 M J a1 a2 a3 (0 : Int32)) else (fbX5_capacities_52 F k4 M J a1 a2 a3 (1 : Int32))))))))
noncomputable def fbX5_capacities_4 (F : Nat)  (M : M2) (J : J2) (n : Nat) : Int32 → Int32 → Int32 → Option Int32 := itr (fsX5_capacities_4 F M J) (fun _ _ _ => none) n
set_option maxRecDepth 20000 in
set_option maxHeartbeats 1000000 in
theorem SX5_capacities_4 {rr : Int32}   {k4 : Int32 → Int32 → Int32 → Option Int32} (C : Cx E A p s m args meth c wdX5_capacities cX5_capacities 5 (some .int) RX5)   (hk4 : ∀ (a1 : Int32) (a2 : Int32) (a3 : Int32)   (ls : Array Slot) (H : Heap) (locs : List Loc), k4 a1 a2 a3 = some rr → Wd E A s (sg G 8 M) (sg K 8 J) H locs → lv_has ls 5 [(0, .ref (ad E 8 0)), (1, .int a1), (2, .int a2), (3, .int a3)] → W p l e rmX5_capacities s m args below meth c H locs 0 0 (QI E A below args s rr (sg G 8 M) (sg K 8 J)) (F0 m 4 ls [])) (a1 : Int32) (a2 : Int32) (a3 : Int32)   (h : fsX5_capacities_4 F M J k4 a1 a2 a3 = some rr) (w : Wd E A s (sg G 8 M) (sg K 8 J) H locs) (hl : lv_has ls 5 [(0, .ref (ad E 8 0)), (1, .int a1), (2, .int a2), (3, .int a3)]) : W p l e rmX5_capacities s m args below meth c H locs 0 0 (QI E A below args s rr (sg G 8 M) (sg K 8 J)) (F0 m 4 ls []) := by
  obtain ⟨hx, hb, hr, hml, hown, hts, hlocks, hKK, hA1, hA2⟩ := id C
  unfold fsX5_capacities_4 at h
  refine lv_iload_n hx hb dX5_capacities_4 rfl (lv_at hl 3 rfl) ?_
  refine lv_aload_n hx hb dX5_capacities_5 rfl (lv_at hl 0 rfl) ?_
  refine gR_X5_s C w q3_16 dX5_capacities_6 ?_
  refine lv_bipush (v := (10 : Int32)) hx hb dX5_capacities_9 (by decide) ?_
  refine x_aldI_L C w (v8 (by decide)) c8_1 (inb_k (k := 10) (by decide) (by decide)) cl_10 dX5_capacities_11 ?_
  refine lv_icmp_ge (tgt := 78) hx hb dX5_capacities_12 (by decide) (fun c1 => ?_) (fun c1 => ?_)
  · replace h := ite_t h c1
    refine lv_iload_n hx hb dX5_capacities_78 rfl (lv_at hl 2 rfl) ?_
    have e1 := Option.some.inj h
    exact x_ri C w e1 rfl rfl dX5_capacities_79
  · replace h := ite_f h c1
    refine lv_iload_n hx hb dX5_capacities_15 rfl (lv_at hl 1 rfl) ?_
    refine lv_if_eq (tgt := 37) hx hb dX5_capacities_16 (by decide) (fun c2 => ?_) (fun c2 => ?_)
    · replace h := ite_t h c2
      refine lv_aload_n hx hb dX5_capacities_37 rfl (lv_at hl 0 rfl) ?_
      refine lv_iload_n hx hb dX5_capacities_38 rfl (lv_at hl 3 rfl) ?_
      refine lv_iconst (v := (1 : Int32)) hx hb dX5_capacities_39 (by decide) ?_
      obtain ⟨vv4, hv3, h⟩ := bind_of h
      refine x_cVi (As := [.int a3, .int (1 : Int32)]) (rest := []) C w (v8 (by decide)) cel_8 rfl (mtX5_its  hv3) q11_5 q11_6 q11_7 q1_5 q11_8 ydX5_its ⟨rfl, rfl⟩ ⟨by decide, by decide⟩ ⟨Nat.zero_le _, Nat.zero_le _⟩ hl.1 (Nat.le_of_ble_eq_true rfl) rfl dX5_capacities_40 (fun H locs w => ?_)
      refine lv_iconst (v := (3 : Int32)) hx hb dX5_capacities_43 (by decide) ?_
      refine lv_icmp_eq (tgt := 51) hx hb dX5_capacities_44 (by decide) (fun c5 => ?_) (fun c5 => ?_)
      · replace h := ite_t h c5
        refine lv_iconst (v := (0 : Int32)) hx hb dX5_capacities_51 (by decide) ?_
        exact TX5_capacities_52 C  hk4 _ _ _ _ h w (lv_sub hl [0, 1, 2, 3] rfl)
      · replace h := ite_f h c5
        refine lv_iconst (v := (1 : Int32)) hx hb dX5_capacities_47 (by decide) ?_
        refine lv_goto (tgt := 52) hx hb dX5_capacities_48 (by decide) ?_
        exact TX5_capacities_52 C  hk4 _ _ _ _ h w (lv_sub hl [0, 1, 2, 3] rfl)
    · replace h := ite_f h c2
      refine lv_aload_n hx hb dX5_capacities_19 rfl (lv_at hl 0 rfl) ?_
      refine lv_iload_n hx hb dX5_capacities_20 rfl (lv_at hl 3 rfl) ?_
      refine lv_iconst (v := (1 : Int32)) hx hb dX5_capacities_21 (by decide) ?_
      obtain ⟨vv7, hv6, h⟩ := bind_of h
      refine x_cVi (As := [.int a3, .int (1 : Int32)]) (rest := []) C w (v8 (by decide)) cel_8 rfl (mtX5_its  hv6) q11_5 q11_6 q11_7 q1_5 q11_8 ydX5_its ⟨rfl, rfl⟩ ⟨by decide, by decide⟩ ⟨Nat.zero_le _, Nat.zero_le _⟩ hl.1 (Nat.le_of_ble_eq_true rfl) rfl dX5_capacities_22 (fun H locs w => ?_)
      refine lv_iconst (v := (1 : Int32)) hx hb dX5_capacities_25 (by decide) ?_
      refine lv_icmp_ne (tgt := 33) hx hb dX5_capacities_26 (by decide) (fun c8 => ?_) (fun c8 => ?_)
      · replace h := ite_t h c8
        refine lv_iconst (v := (0 : Int32)) hx hb dX5_capacities_33 (by decide) ?_
        refine lv_goto (tgt := 52) hx hb dX5_capacities_34 (by decide) ?_
        exact TX5_capacities_52 C  hk4 _ _ _ _ h w (lv_sub hl [0, 1, 2, 3] rfl)
      · replace h := ite_f h (fun z => z c8)
        refine lv_iconst (v := (1 : Int32)) hx hb dX5_capacities_29 (by decide) ?_
        refine lv_goto (tgt := 52) hx hb dX5_capacities_30 (by decide) ?_
        exact TX5_capacities_52 C  hk4 _ _ _ _ h w (lv_sub hl [0, 1, 2, 3] rfl)
theorem TX5_capacities_4 {rr : Int32}   (C : Cx E A p s m args meth c wdX5_capacities cX5_capacities 5 (some .int) RX5)   : ∀ (n : Nat) (a1 : Int32) (a2 : Int32) (a3 : Int32)   (ls : Array Slot) (H : Heap) (locs : List Loc), fbX5_capacities_4 F M J n a1 a2 a3 = some rr → Wd E A s (sg G 8 M) (sg K 8 J) H locs → lv_has ls 5 [(0, .ref (ad E 8 0)), (1, .int a1), (2, .int a2), (3, .int a3)] → W p l e rmX5_capacities s m args below meth c H locs 0 0 (QI E A below args s rr (sg G 8 M) (sg K 8 J)) (F0 m 4 ls []) := by
  intro n
  induction n with
  | zero => intro a1 a2 a3  ls H locs h; exact absurd (show none = _ from h) (fun z => nomatch z)
  | succ n ih => intro a1 a2 a3  ls H locs h w hl; exact SX5_capacities_4 (F := F) C   ih a1 a2 a3  h w hl
noncomputable def fX5_capacities (F : Nat) (M : M2) (J : J2) (x1 : Int32)  : Option Int32 := fbX5_capacities_4 F M J F x1 (0 : Int32) (0 : Int32)
set_option maxRecDepth 20000 in
set_option maxHeartbeats 1000000 in
theorem TX5_capacities {rr : Int32}  (C : Cx E A p s m args meth c wdX5_capacities cX5_capacities 5 (some .int) RX5)  {x1 : Int32}  (h : fX5_capacities F M J x1 = some rr) (w : Wd E A s (sg G 8 M) (sg K 8 J) H locs) (hl : lv_has ls 5 [(0, .ref (ad E 8 0)), (1, .int x1)]) : W p l e rmX5_capacities s m args below meth c H locs 0 0 (QI E A below args s rr (sg G 8 M) (sg K 8 J)) (F0 m 0 ls []) := by
  obtain ⟨hx, hb, hr, hml, hown, hts, hlocks, hKK, hA1, hA2⟩ := id C
  unfold fX5_capacities at h
  refine lv_iconst (v := (0 : Int32)) hx hb dX5_capacities_0 (by decide) ?_
  refine lv_istore_n (lv' := [(2, .int (0 : Int32)), (0, .ref (ad E 8 0)), (1, .int x1)]) hx hb dX5_capacities_1 rfl hl (by decide) rfl (fun ls hl => ?_)
  refine lv_iconst (v := (0 : Int32)) hx hb dX5_capacities_2 (by decide) ?_
  refine lv_istore_n (lv' := [(3, .int (0 : Int32)), (2, .int (0 : Int32)), (0, .ref (ad E 8 0)), (1, .int x1)]) hx hb dX5_capacities_3 rfl hl (by decide) rfl (fun ls hl => ?_)
  exact TX5_capacities_4 C   _ _ _ _ _ _ _ h w (lv_sub hl [2, 3, 1, 0] rfl)
theorem mtX5_capacities {rr : Int32}   {x1 : Int32}  (h : fX5_capacities F M J x1 = some rr) : MtI l yX5_capacities wdX5_capacities rmX5_capacities E [.ref (ad E 8 0), .int x1] (sg G 8 M) (sg K 8 J) rr (sg G 8 M) (sg K 8 J) := by
  intro sz
  refine Met.ofW (cc := cX5_capacities) (maxL := 5) (ret := (some .int)) (by decide) rfl ?_
  intro p e s m args below meth c s₁ B hml hv
  obtain ⟨rfl, C, w⟩ := Cx.of (own := RX5) B rfl hml hv
  have hl := lv_entry ([.ref (ad E 8 0), .int x1]) (n := 5) (by first | exact Nat.le_of_ble_eq_true rfl)
  rw [lg_entry_eq]
  generalize (lg_sl ([.ref (ad E 8 0), .int x1]) ++ List.replicate (5 - (lg_sl ([.ref (ad E 8 0), .int x1])).length) Slot.unset).toArray = ls at hl ⊢
  exact TX5_capacities C   h w hl
theorem ydX5_capacities : yX5_capacities.cls = RX5 ∧ yX5_capacities.cls ≠ "java/lang/invoke/MethodHandle" ∧ yX5_capacities.cls ≠ "java/lang/invoke/VarHandle" ∧ (parseMethodDescriptor yX5_capacities.desc).map (fun d => d.parameters.length) = some 1 := by decide +kernel
/-! X5.valueOf(I)I -/
abbrev rmX5_valueOf : Room := { frames := 3, cells := 0, slots := 0, locals := 58 }
abbrev wdX5_valueOf : Cond := Cond.code yX5_valueOf cX5_valueOf 2 (some .int)
noncomputable def fX5_valueOf (F : Nat) (M : M2) (J : J2) (x1 : Int32)  : Option Int32 := (if x1 = (0 : Int32) then (some (M 1 0)) else if x1 = (1 : Int32) then (some (M 1 1)) else if x1 = (2 : Int32) then ((fX5_pressure M J).bind (fun vv13 => some vv13)) else if x1 = (3 : Int32) then (some (M 1 10)) else if x1 = (4 : Int32) then ((fX5_countOf F M J (x1 - (3 : Int32))).bind (fun vv15 => some vv15)) else if x1 = (5 : Int32) then ((fX5_countOf F M J (x1 - (3 : Int32))).bind (fun vv17 => some vv17)) else if x1 = (6 : Int32) then ((fX5_countOf F M J (x1 - (3 : Int32))).bind (fun vv19 => some vv19)) else if x1 = (7 : Int32) then (some (M 1 11)) else if x1 = (8 : Int32) then (some (M 1 12)) else if x1 = (9 : Int32) then (some (M 1 13)) else if x1 = (10 : Int32) then ((fX5_capacities F M J (1 : Int32)).bind (fun vv21 => some vv21)) else (some (M 1 14)))
set_option maxRecDepth 20000 in
set_option maxHeartbeats 1000000 in
theorem TX5_valueOf {rr : Int32}  (C : Cx E A p s m args meth c wdX5_valueOf cX5_valueOf 2 (some .int) RX5)  {x1 : Int32}  (h : fX5_valueOf F M J x1 = some rr) (w : Wd E A s (sg G 8 M) (sg K 8 J) H locs) (hl : lv_has ls 2 [(0, .ref (ad E 8 0)), (1, .int x1)]) : W p l e rmX5_valueOf s m args below meth c H locs 0 0 (QI E A below args s rr (sg G 8 M) (sg K 8 J)) (F0 m 0 ls []) := by
  obtain ⟨hx, hb, hr, hml, hown, hts, hlocks, hKK, hA1, hA2⟩ := id C
  unfold fX5_valueOf at h
  refine lv_iload_n hx hb dX5_valueOf_0 rfl (lv_at hl 1 rfl) ?_
  by_cases c1 : x1 = (0 : Int32)
  · replace h := ite_t h c1
    refine lv_tableIn (tgt := 60) hx hb dX5_valueOf_1 (by rw [c1]; decide) (by rw [c1]; decide) (by rw [c1]; rfl) (by decide) ?_
    refine lv_aload_n hx hb dX5_valueOf_60 rfl (lv_at hl 0 rfl) ?_
    refine gR_X5_s C w q3_16 dX5_valueOf_61 ?_
    refine lv_iconst (v := (0 : Int32)) hx hb dX5_valueOf_64 (by decide) ?_
    refine x_aldI_L C w (v8 (by decide)) c8_1 (inb_k (k := 0) (by decide) (by decide)) cl_0 dX5_valueOf_65 ?_
    have e1 := Option.some.inj h
    exact x_ri C w e1 rfl rfl dX5_valueOf_66
  replace h := ite_f h c1
  by_cases c2 : x1 = (1 : Int32)
  · replace h := ite_t h c2
    refine lv_tableIn (tgt := 67) hx hb dX5_valueOf_1 (by rw [c2]; decide) (by rw [c2]; decide) (by rw [c2]; rfl) (by decide) ?_
    refine lv_aload_n hx hb dX5_valueOf_67 rfl (lv_at hl 0 rfl) ?_
    refine gR_X5_s C w q3_16 dX5_valueOf_68 ?_
    refine lv_iconst (v := (1 : Int32)) hx hb dX5_valueOf_71 (by decide) ?_
    refine x_aldI_L C w (v8 (by decide)) c8_1 (inb_k (k := 1) (by decide) (by decide)) cl_1 dX5_valueOf_72 ?_
    have e1 := Option.some.inj h
    exact x_ri C w e1 rfl rfl dX5_valueOf_73
  replace h := ite_f h c2
  by_cases c3 : x1 = (2 : Int32)
  · replace h := ite_t h c3
    refine lv_tableIn (tgt := 74) hx hb dX5_valueOf_1 (by rw [c3]; decide) (by rw [c3]; decide) (by rw [c3]; rfl) (by decide) ?_
    refine lv_aload_n hx hb dX5_valueOf_74 rfl (lv_at hl 0 rfl) ?_
    obtain ⟨vv13, hv12, h⟩ := bind_of h
    refine x_cVi (As := []) (rest := []) C w (v8 (by decide)) cel_8 rfl (mtX5_pressure  hv12) q7_17 q7_18 q7_19 q1_5 q7_20 ydX5_pressure ⟨rfl, rfl⟩ ⟨by decide, by decide⟩ ⟨Nat.zero_le _, Nat.zero_le _⟩ hl.1 (Nat.le_of_ble_eq_true rfl) rfl dX5_valueOf_75 (fun H locs w => ?_)
    have e1 := Option.some.inj h
    exact x_ri C w e1 rfl rfl dX5_valueOf_78
  replace h := ite_f h c3
  by_cases c4 : x1 = (3 : Int32)
  · replace h := ite_t h c4
    refine lv_tableIn (tgt := 79) hx hb dX5_valueOf_1 (by rw [c4]; decide) (by rw [c4]; decide) (by rw [c4]; rfl) (by decide) ?_
    refine lv_aload_n hx hb dX5_valueOf_79 rfl (lv_at hl 0 rfl) ?_
    refine gR_X5_s C w q3_16 dX5_valueOf_80 ?_
    refine lv_bipush (v := (10 : Int32)) hx hb dX5_valueOf_83 (by decide) ?_
    refine x_aldI_L C w (v8 (by decide)) c8_1 (inb_k (k := 10) (by decide) (by decide)) cl_10 dX5_valueOf_85 ?_
    have e1 := Option.some.inj h
    exact x_ri C w e1 rfl rfl dX5_valueOf_86
  replace h := ite_f h c4
  by_cases c5 : x1 = (4 : Int32)
  · replace h := ite_t h c5
    refine lv_tableIn (tgt := 87) hx hb dX5_valueOf_1 (by rw [c5]; decide) (by rw [c5]; decide) (by rw [c5]; rfl) (by decide) ?_
    refine lv_aload_n hx hb dX5_valueOf_87 rfl (lv_at hl 0 rfl) ?_
    refine lv_iload_n hx hb dX5_valueOf_88 rfl (lv_at hl 1 rfl) ?_
    refine lv_iconst (v := (3 : Int32)) hx hb dX5_valueOf_89 (by decide) ?_
    refine lv_isub hx hb dX5_valueOf_90 ?_
    obtain ⟨vv15, hv14, h⟩ := bind_of h
    refine x_cVi (As := [.int (x1 - (3 : Int32))]) (rest := []) C w (v8 (by decide)) cel_8 rfl (mtX5_countOf  hv14) q21_16 q21_17 q21_18 q1_5 q21_19 ydX5_countOf ⟨rfl, rfl⟩ ⟨by decide, by decide⟩ ⟨Nat.zero_le _, Nat.zero_le _⟩ hl.1 (Nat.le_of_ble_eq_true rfl) rfl dX5_valueOf_91 (fun H locs w => ?_)
    have e1 := Option.some.inj h
    exact x_ri C w e1 rfl rfl dX5_valueOf_94
  replace h := ite_f h c5
  by_cases c6 : x1 = (5 : Int32)
  · replace h := ite_t h c6
    refine lv_tableIn (tgt := 87) hx hb dX5_valueOf_1 (by rw [c6]; decide) (by rw [c6]; decide) (by rw [c6]; rfl) (by decide) ?_
    refine lv_aload_n hx hb dX5_valueOf_87 rfl (lv_at hl 0 rfl) ?_
    refine lv_iload_n hx hb dX5_valueOf_88 rfl (lv_at hl 1 rfl) ?_
    refine lv_iconst (v := (3 : Int32)) hx hb dX5_valueOf_89 (by decide) ?_
    refine lv_isub hx hb dX5_valueOf_90 ?_
    obtain ⟨vv17, hv16, h⟩ := bind_of h
    refine x_cVi (As := [.int (x1 - (3 : Int32))]) (rest := []) C w (v8 (by decide)) cel_8 rfl (mtX5_countOf  hv16) q21_16 q21_17 q21_18 q1_5 q21_19 ydX5_countOf ⟨rfl, rfl⟩ ⟨by decide, by decide⟩ ⟨Nat.zero_le _, Nat.zero_le _⟩ hl.1 (Nat.le_of_ble_eq_true rfl) rfl dX5_valueOf_91 (fun H locs w => ?_)
    have e1 := Option.some.inj h
    exact x_ri C w e1 rfl rfl dX5_valueOf_94
  replace h := ite_f h c6
  by_cases c7 : x1 = (6 : Int32)
  · replace h := ite_t h c7
    refine lv_tableIn (tgt := 87) hx hb dX5_valueOf_1 (by rw [c7]; decide) (by rw [c7]; decide) (by rw [c7]; rfl) (by decide) ?_
    refine lv_aload_n hx hb dX5_valueOf_87 rfl (lv_at hl 0 rfl) ?_
    refine lv_iload_n hx hb dX5_valueOf_88 rfl (lv_at hl 1 rfl) ?_
    refine lv_iconst (v := (3 : Int32)) hx hb dX5_valueOf_89 (by decide) ?_
    refine lv_isub hx hb dX5_valueOf_90 ?_
    obtain ⟨vv19, hv18, h⟩ := bind_of h
    refine x_cVi (As := [.int (x1 - (3 : Int32))]) (rest := []) C w (v8 (by decide)) cel_8 rfl (mtX5_countOf  hv18) q21_16 q21_17 q21_18 q1_5 q21_19 ydX5_countOf ⟨rfl, rfl⟩ ⟨by decide, by decide⟩ ⟨Nat.zero_le _, Nat.zero_le _⟩ hl.1 (Nat.le_of_ble_eq_true rfl) rfl dX5_valueOf_91 (fun H locs w => ?_)
    have e1 := Option.some.inj h
    exact x_ri C w e1 rfl rfl dX5_valueOf_94
  replace h := ite_f h c7
  by_cases c8 : x1 = (7 : Int32)
  · replace h := ite_t h c8
    refine lv_tableIn (tgt := 95) hx hb dX5_valueOf_1 (by rw [c8]; decide) (by rw [c8]; decide) (by rw [c8]; rfl) (by decide) ?_
    refine lv_aload_n hx hb dX5_valueOf_95 rfl (lv_at hl 0 rfl) ?_
    refine gR_X5_s C w q3_16 dX5_valueOf_96 ?_
    refine lv_bipush (v := (11 : Int32)) hx hb dX5_valueOf_99 (by decide) ?_
    refine x_aldI_L C w (v8 (by decide)) c8_1 (inb_k (k := 11) (by decide) (by decide)) cl_11 dX5_valueOf_101 ?_
    have e1 := Option.some.inj h
    exact x_ri C w e1 rfl rfl dX5_valueOf_102
  replace h := ite_f h c8
  by_cases c9 : x1 = (8 : Int32)
  · replace h := ite_t h c9
    refine lv_tableIn (tgt := 103) hx hb dX5_valueOf_1 (by rw [c9]; decide) (by rw [c9]; decide) (by rw [c9]; rfl) (by decide) ?_
    refine lv_aload_n hx hb dX5_valueOf_103 rfl (lv_at hl 0 rfl) ?_
    refine gR_X5_s C w q3_16 dX5_valueOf_104 ?_
    refine lv_bipush (v := (12 : Int32)) hx hb dX5_valueOf_107 (by decide) ?_
    refine x_aldI_L C w (v8 (by decide)) c8_1 (inb_k (k := 12) (by decide) (by decide)) cl_12 dX5_valueOf_109 ?_
    have e1 := Option.some.inj h
    exact x_ri C w e1 rfl rfl dX5_valueOf_110
  replace h := ite_f h c9
  by_cases c10 : x1 = (9 : Int32)
  · replace h := ite_t h c10
    refine lv_tableIn (tgt := 111) hx hb dX5_valueOf_1 (by rw [c10]; decide) (by rw [c10]; decide) (by rw [c10]; rfl) (by decide) ?_
    refine lv_aload_n hx hb dX5_valueOf_111 rfl (lv_at hl 0 rfl) ?_
    refine gR_X5_s C w q3_16 dX5_valueOf_112 ?_
    refine lv_bipush (v := (13 : Int32)) hx hb dX5_valueOf_115 (by decide) ?_
    refine x_aldI_L C w (v8 (by decide)) c8_1 (inb_k (k := 13) (by decide) (by decide)) cl_13 dX5_valueOf_117 ?_
    have e1 := Option.some.inj h
    exact x_ri C w e1 rfl rfl dX5_valueOf_118
  replace h := ite_f h c10
  by_cases c11 : x1 = (10 : Int32)
  · replace h := ite_t h c11
    refine lv_tableIn (tgt := 119) hx hb dX5_valueOf_1 (by rw [c11]; decide) (by rw [c11]; decide) (by rw [c11]; rfl) (by decide) ?_
    refine lv_aload_n hx hb dX5_valueOf_119 rfl (lv_at hl 0 rfl) ?_
    refine lv_iconst (v := (1 : Int32)) hx hb dX5_valueOf_120 (by decide) ?_
    obtain ⟨vv21, hv20, h⟩ := bind_of h
    refine x_cVi (As := [.int (1 : Int32)]) (rest := []) C w (v8 (by decide)) cel_8 rfl (mtX5_capacities  hv20) q21_20 q21_21 q21_22 q1_5 q21_23 ydX5_capacities ⟨rfl, rfl⟩ ⟨by decide, by decide⟩ ⟨Nat.zero_le _, Nat.zero_le _⟩ hl.1 (Nat.le_of_ble_eq_true rfl) rfl dX5_valueOf_121 (fun H locs w => ?_)
    have e1 := Option.some.inj h
    exact x_ri C w e1 rfl rfl dX5_valueOf_124
  replace h := ite_f h c11
  have hsw : x1.toInt < 0 ∨ 10 < x1.toInt := by
    have n0 := ne_toInt c1
    have n1 := ne_toInt c2
    have n2 := ne_toInt c3
    have n3 := ne_toInt c4
    have n4 := ne_toInt c5
    have n5 := ne_toInt c6
    have n6 := ne_toInt c7
    have n7 := ne_toInt c8
    have n8 := ne_toInt c9
    have n9 := ne_toInt c10
    have n10 := ne_toInt c11
    have e0 : (0 : Int32).toInt = 0 := by decide
    have e1 : (1 : Int32).toInt = 1 := by decide
    have e2 : (2 : Int32).toInt = 2 := by decide
    have e3 : (3 : Int32).toInt = 3 := by decide
    have e4 : (4 : Int32).toInt = 4 := by decide
    have e5 : (5 : Int32).toInt = 5 := by decide
    have e6 : (6 : Int32).toInt = 6 := by decide
    have e7 : (7 : Int32).toInt = 7 := by decide
    have e8 : (8 : Int32).toInt = 8 := by decide
    have e9 : (9 : Int32).toInt = 9 := by decide
    have e10 : (10 : Int32).toInt = 10 := by decide
    simp only [e0, e1, e2, e3, e4, e5, e6, e7, e8, e9, e10] at n0 n1 n2 n3 n4 n5 n6 n7 n8 n9 n10
    omega
  refine lv_tableOut (tgt := 125) hx hb dX5_valueOf_1 hsw (by decide) ?_
  refine lv_aload_n hx hb dX5_valueOf_125 rfl (lv_at hl 0 rfl) ?_
  refine gR_X5_s C w q3_16 dX5_valueOf_126 ?_
  refine lv_bipush (v := (14 : Int32)) hx hb dX5_valueOf_129 (by decide) ?_
  refine x_aldI_L C w (v8 (by decide)) c8_1 (inb_k (k := 14) (by decide) (by decide)) cl_14 dX5_valueOf_131 ?_
  have e1 := Option.some.inj h
  exact x_ri C w e1 rfl rfl dX5_valueOf_132
theorem mtX5_valueOf {rr : Int32}   {x1 : Int32}  (h : fX5_valueOf F M J x1 = some rr) : MtI l yX5_valueOf wdX5_valueOf rmX5_valueOf E [.ref (ad E 8 0), .int x1] (sg G 8 M) (sg K 8 J) rr (sg G 8 M) (sg K 8 J) := by
  intro sz
  refine Met.ofW (cc := cX5_valueOf) (maxL := 2) (ret := (some .int)) (by decide) rfl ?_
  intro p e s m args below meth c s₁ B hml hv
  obtain ⟨rfl, C, w⟩ := Cx.of (own := RX5) B rfl hml hv
  have hl := lv_entry ([.ref (ad E 8 0), .int x1]) (n := 2) (by first | exact Nat.le_of_ble_eq_true rfl)
  rw [lg_entry_eq]
  generalize (lg_sl ([.ref (ad E 8 0), .int x1]) ++ List.replicate (2 - (lg_sl ([.ref (ad E 8 0), .int x1])).length) Slot.unset).toArray = ls at hl ⊢
  exact TX5_valueOf C   h w hl
theorem ydX5_valueOf : yX5_valueOf.cls = RX5 ∧ yX5_valueOf.cls ≠ "java/lang/invoke/MethodHandle" ∧ yX5_valueOf.cls ≠ "java/lang/invoke/VarHandle" ∧ (parseMethodDescriptor yX5_valueOf.desc).map (fun d => d.parameters.length) = some 1 := by decide +kernel
/-! X5.value(I)I -/
abbrev rmX5_value : Room := { frames := 4, cells := 0, slots := 0, locals := 79 }
abbrev wdX5_value : Cond := Cond.code yX5_value cX5_value 2 (some .int)
noncomputable def fX5_value (F : Nat)  (x1 : Int32) (M : M2) (J : J2) : Option (Int32 × M2 × J2) := (if (fX5_in x1 (0 : Int32) (11 : Int32)) = 0 then (bd3 (fX5_fails (1 : Int32) M J) (fun vv5 M3 J4 => some (vv5, M3, J4))) else ((fX5_valueOf F M J x1).bind (fun vv7 => bd3 (fX5_tells vv7 M J) (fun vv11 M9 J10 => some (vv11, M9, J10)))))
set_option maxRecDepth 20000 in
set_option maxHeartbeats 1000000 in
theorem TX5_value {rr : Int32} {MR : M2} {JR : J2}  (C : Cx E A p s m args meth c wdX5_value cX5_value 2 (some .int) RX5)  {x1 : Int32}  (h : fX5_value F  x1 M J = some (rr, MR, JR)) (w : Wd E A s (sg G 8 M) (sg K 8 J) H locs) (hl : lv_has ls 2 [(0, .ref (ad E 8 0)), (1, .int x1)]) : W p l e rmX5_value s m args below meth c H locs 0 0 (QI E A below args s rr (sg G 8 MR) (sg K 8 JR)) (F0 m 0 ls []) := by
  obtain ⟨hx, hb, hr, hml, hown, hts, hlocks, hKK, hA1, hA2⟩ := id C
  unfold fX5_value at h
  refine lv_iload_n hx hb dX5_value_0 rfl (lv_at hl 1 rfl) ?_
  refine lv_iconst (v := (0 : Int32)) hx hb dX5_value_1 (by decide) ?_
  refine lv_bipush (v := (11 : Int32)) hx hb dX5_value_2 (by decide) ?_
  refine x_cSi (As := [.int x1, .int (0 : Int32), .int (11 : Int32)]) (rest := []) C w (mtX5_in ) q7_0 q7_1 q1_5 q7_2 ydX5_in ⟨rfl, rfl⟩ ⟨by decide, by decide⟩ ⟨Nat.zero_le _, Nat.zero_le _⟩ hl.1 (Nat.le_of_ble_eq_true rfl) rfl dX5_value_4 (fun H locs w => ?_)
  refine lv_if_eq (tgt := 22) hx hb dX5_value_7 (by decide) (fun c1 => ?_) (fun c1 => ?_)
  · replace h := ite_t h c1
    refine lv_aload_n hx hb dX5_value_22 rfl (lv_at hl 0 rfl) ?_
    refine lv_iconst (v := (1 : Int32)) hx hb dX5_value_23 (by decide) ?_
    obtain ⟨vv5, M3, J4, hv2, h⟩ := bd3_of h
    refine x_cVi (As := [.int (1 : Int32)]) (rest := []) C w (v8 (by decide)) cel_8 rfl (mtX5_fails  hv2) q7_3 q7_4 q7_5 q1_5 q7_6 ydX5_fails ⟨rfl, rfl⟩ ⟨by decide, by decide⟩ ⟨Nat.zero_le _, Nat.zero_le _⟩ hl.1 (Nat.le_of_ble_eq_true rfl) rfl dX5_value_24 (fun H locs w => ?_)
    obtain ⟨e1, e2, e3⟩ := rt3 h
    exact x_ri C w e1 (by rw [e2]) (by rw [e3]) dX5_value_27
  · replace h := ite_f h c1
    refine lv_aload_n hx hb dX5_value_10 rfl (lv_at hl 0 rfl) ?_
    refine lv_aload_n hx hb dX5_value_11 rfl (lv_at hl 0 rfl) ?_
    refine lv_iload_n hx hb dX5_value_12 rfl (lv_at hl 1 rfl) ?_
    obtain ⟨vv7, hv6, h⟩ := bind_of h
    refine x_cVi (As := [.int x1]) (rest := [.ref (ad E 8 0)]) C w (v8 (by decide)) cel_8 rfl (mtX5_valueOf  hv6) q21_12 q21_13 q21_14 q1_5 q21_15 ydX5_valueOf ⟨rfl, rfl⟩ ⟨by decide, by decide⟩ ⟨Nat.zero_le _, Nat.zero_le _⟩ hl.1 (Nat.le_of_ble_eq_true rfl) rfl dX5_value_13 (fun H locs w => ?_)
    obtain ⟨vv11, M9, J10, hv8, h⟩ := bd3_of h
    refine x_cVi (As := [.int vv7]) (rest := []) C w (v8 (by decide)) cel_8 rfl (mtX5_tells  hv8) q7_21 q7_22 q7_23 q1_5 q8_0 ydX5_tells ⟨rfl, rfl⟩ ⟨by decide, by decide⟩ ⟨Nat.zero_le _, Nat.zero_le _⟩ hl.1 (Nat.le_of_ble_eq_true rfl) rfl dX5_value_16 (fun H locs w => ?_)
    refine lv_goto (tgt := 27) hx hb dX5_value_19 (by decide) ?_
    obtain ⟨e1, e2, e3⟩ := rt3 h
    exact x_ri C w e1 (by rw [e2]) (by rw [e3]) dX5_value_27
theorem mtX5_value {rr : Int32} {MR : M2} {JR : J2}   {x1 : Int32}  (h : fX5_value F  x1 M J = some (rr, MR, JR)) : MtI l yX5_value wdX5_value rmX5_value E [.ref (ad E 8 0), .int x1] (sg G 8 M) (sg K 8 J) rr (sg G 8 MR) (sg K 8 JR) := by
  intro sz
  refine Met.ofW (cc := cX5_value) (maxL := 2) (ret := (some .int)) (by decide) rfl ?_
  intro p e s m args below meth c s₁ B hml hv
  obtain ⟨rfl, C, w⟩ := Cx.of (own := RX5) B rfl hml hv
  have hl := lv_entry ([.ref (ad E 8 0), .int x1]) (n := 2) (by first | exact Nat.le_of_ble_eq_true rfl)
  rw [lg_entry_eq]
  generalize (lg_sl ([.ref (ad E 8 0), .int x1]) ++ List.replicate (2 - (lg_sl ([.ref (ad E 8 0), .int x1])).length) Slot.unset).toArray = ls at hl ⊢
  exact TX5_value C   h w hl
theorem ydX5_value : yX5_value.cls = RX5 ∧ yX5_value.cls ≠ "java/lang/invoke/MethodHandle" ∧ yX5_value.cls ≠ "java/lang/invoke/VarHandle" ∧ (parseMethodDescriptor yX5_value.desc).map (fun d => d.parameters.length) = some 1 := by decide +kernel
/-! X5.setting(I)I -/
abbrev rmX5_setting : Room := { frames := 2, cells := 0, slots := 0, locals := 34 }
abbrev wdX5_setting : Cond := Cond.code yX5_setting cX5_setting 2 (some .int)
noncomputable def fX5_setting  (x1 : Int32) (M : M2) (J : J2) : Option (Int32 × M2 × J2) := (if (fX5_in x1 (0 : Int32) (7 : Int32)) = 0 then (bd3 (fX5_fails (1 : Int32) M J) (fun vv5 M3 J4 => some (vv5, M3, J4))) else (chk (inb ((2 : Int32) + x1) 61) (bd3 (fX5_tells (M 1 ((2 : Int32) + x1).toNatClampNeg) M J) (fun vv10 M8 J9 => some (vv10, M8, J9)))))
set_option maxRecDepth 20000 in
set_option maxHeartbeats 1000000 in
theorem TX5_setting {rr : Int32} {MR : M2} {JR : J2}  (C : Cx E A p s m args meth c wdX5_setting cX5_setting 2 (some .int) RX5)  {x1 : Int32}  (h : fX5_setting  x1 M J = some (rr, MR, JR)) (w : Wd E A s (sg G 8 M) (sg K 8 J) H locs) (hl : lv_has ls 2 [(0, .ref (ad E 8 0)), (1, .int x1)]) : W p l e rmX5_setting s m args below meth c H locs 0 0 (QI E A below args s rr (sg G 8 MR) (sg K 8 JR)) (F0 m 0 ls []) := by
  obtain ⟨hx, hb, hr, hml, hown, hts, hlocks, hKK, hA1, hA2⟩ := id C
  unfold fX5_setting at h
  refine lv_iload_n hx hb dX5_setting_0 rfl (lv_at hl 1 rfl) ?_
  refine lv_iconst (v := (0 : Int32)) hx hb dX5_setting_1 (by decide) ?_
  refine lv_bipush (v := (7 : Int32)) hx hb dX5_setting_2 (by decide) ?_
  refine x_cSi (As := [.int x1, .int (0 : Int32), .int (7 : Int32)]) (rest := []) C w (mtX5_in ) q7_0 q7_1 q1_5 q7_2 ydX5_in ⟨rfl, rfl⟩ ⟨by decide, by decide⟩ ⟨Nat.zero_le _, Nat.zero_le _⟩ hl.1 (Nat.le_of_ble_eq_true rfl) rfl dX5_setting_4 (fun H locs w => ?_)
  refine lv_if_eq (tgt := 25) hx hb dX5_setting_7 (by decide) (fun c1 => ?_) (fun c1 => ?_)
  · replace h := ite_t h c1
    refine lv_aload_n hx hb dX5_setting_25 rfl (lv_at hl 0 rfl) ?_
    refine lv_iconst (v := (1 : Int32)) hx hb dX5_setting_26 (by decide) ?_
    obtain ⟨vv5, M3, J4, hv2, h⟩ := bd3_of h
    refine x_cVi (As := [.int (1 : Int32)]) (rest := []) C w (v8 (by decide)) cel_8 rfl (mtX5_fails  hv2) q7_3 q7_4 q7_5 q1_5 q7_6 ydX5_fails ⟨rfl, rfl⟩ ⟨by decide, by decide⟩ ⟨Nat.zero_le _, Nat.zero_le _⟩ hl.1 (Nat.le_of_ble_eq_true rfl) rfl dX5_setting_27 (fun H locs w => ?_)
    obtain ⟨e1, e2, e3⟩ := rt3 h
    exact x_ri C w e1 (by rw [e2]) (by rw [e3]) dX5_setting_30
  · replace h := ite_f h c1
    refine lv_aload_n hx hb dX5_setting_10 rfl (lv_at hl 0 rfl) ?_
    refine lv_aload_n hx hb dX5_setting_11 rfl (lv_at hl 0 rfl) ?_
    refine gR_X5_s C w q3_16 dX5_setting_12 ?_
    refine lv_iconst (v := (2 : Int32)) hx hb dX5_setting_15 (by decide) ?_
    refine lv_iload_n hx hb dX5_setting_16 rfl (lv_at hl 1 rfl) ?_
    refine lv_iadd hx hb dX5_setting_17 ?_
    obtain ⟨ki6, h⟩ := chk_of h
    refine x_aldI_L C w (v8 (by decide)) c8_1 ki6 rfl dX5_setting_18 ?_
    obtain ⟨vv10, M8, J9, hv7, h⟩ := bd3_of h
    refine x_cVi (As := [.int (M 1 ((2 : Int32) + x1).toNatClampNeg)]) (rest := []) C w (v8 (by decide)) cel_8 rfl (mtX5_tells  hv7) q7_21 q7_22 q7_23 q1_5 q8_0 ydX5_tells ⟨rfl, rfl⟩ ⟨by decide, by decide⟩ ⟨Nat.zero_le _, Nat.zero_le _⟩ hl.1 (Nat.le_of_ble_eq_true rfl) rfl dX5_setting_19 (fun H locs w => ?_)
    refine lv_goto (tgt := 30) hx hb dX5_setting_22 (by decide) ?_
    obtain ⟨e1, e2, e3⟩ := rt3 h
    exact x_ri C w e1 (by rw [e2]) (by rw [e3]) dX5_setting_30
theorem mtX5_setting {rr : Int32} {MR : M2} {JR : J2}   {x1 : Int32}  (h : fX5_setting  x1 M J = some (rr, MR, JR)) : MtI l yX5_setting wdX5_setting rmX5_setting E [.ref (ad E 8 0), .int x1] (sg G 8 M) (sg K 8 J) rr (sg G 8 MR) (sg K 8 JR) := by
  intro sz
  refine Met.ofW (cc := cX5_setting) (maxL := 2) (ret := (some .int)) (by decide) rfl ?_
  intro p e s m args below meth c s₁ B hml hv
  obtain ⟨rfl, C, w⟩ := Cx.of (own := RX5) B rfl hml hv
  have hl := lv_entry ([.ref (ad E 8 0), .int x1]) (n := 2) (by first | exact Nat.le_of_ble_eq_true rfl)
  rw [lg_entry_eq]
  generalize (lg_sl ([.ref (ad E 8 0), .int x1]) ++ List.replicate (2 - (lg_sl ([.ref (ad E 8 0), .int x1])).length) Slot.unset).toArray = ls at hl ⊢
  exact TX5_setting C   h w hl
theorem ydX5_setting : yX5_setting.cls = RX5 ∧ yX5_setting.cls ≠ "java/lang/invoke/MethodHandle" ∧ yX5_setting.cls ≠ "java/lang/invoke/VarHandle" ∧ (parseMethodDescriptor yX5_setting.desc).map (fun d => d.parameters.length) = some 1 := by decide +kernel
/-! X5.booked(I)J -/
abbrev rmX5_booked : Room := { frames := 2, cells := 0, slots := 0, locals := 34 }
abbrev wdX5_booked : Cond := Cond.code yX5_booked cX5_booked 2 (some .long)
noncomputable def fX5_booked  (x1 : Int32) (M : M2) (J : J2) : Option (Int64 × M2 × J2) := (if ¬ (fX5_in x1 (0 : Int32) (5 : Int32)) = 0 then (bnd (up2 M 0 11 (0 : Int32)) (fun M2 => chk (inb x1 6) (some ((J 2 x1.toNatClampNeg), M2, J)))) else (bd3 (fX5_fails (1 : Int32) M J) (fun vv8 M6 J7 => some (vv8.toInt64, M6, J7))))
set_option maxRecDepth 20000 in
set_option maxHeartbeats 1000000 in
theorem TX5_booked {rr : Int64} {MR : M2} {JR : J2}  (C : Cx E A p s m args meth c wdX5_booked cX5_booked 2 (some .long) RX5)  {x1 : Int32}  (h : fX5_booked  x1 M J = some (rr, MR, JR)) (w : Wd E A s (sg G 8 M) (sg K 8 J) H locs) (hl : lv_has ls 2 [(0, .ref (ad E 8 0)), (1, .int x1)]) : W p l e rmX5_booked s m args below meth c H locs 0 0 (QL E A below args s rr (sg G 8 MR) (sg K 8 JR)) (F0 m 0 ls []) := by
  obtain ⟨hx, hb, hr, hml, hown, hts, hlocks, hKK, hA1, hA2⟩ := id C
  unfold fX5_booked at h
  refine lv_iload_n hx hb dX5_booked_0 rfl (lv_at hl 1 rfl) ?_
  refine lv_iconst (v := (0 : Int32)) hx hb dX5_booked_1 (by decide) ?_
  refine lv_iconst (v := (5 : Int32)) hx hb dX5_booked_2 (by decide) ?_
  refine x_cSi (As := [.int x1, .int (0 : Int32), .int (5 : Int32)]) (rest := []) C w (mtX5_in ) q7_0 q7_1 q1_5 q7_2 ydX5_in ⟨rfl, rfl⟩ ⟨by decide, by decide⟩ ⟨Nat.zero_le _, Nat.zero_le _⟩ hl.1 (Nat.le_of_ble_eq_true rfl) rfl dX5_booked_3 (fun H locs w => ?_)
  refine lv_if_ne (tgt := 16) hx hb dX5_booked_6 (by decide) (fun c1 => ?_) (fun c1 => ?_)
  · replace h := ite_t h c1
    refine lv_aload_n hx hb dX5_booked_16 rfl (lv_at hl 0 rfl) ?_
    refine lv_iconst (v := (0 : Int32)) hx hb dX5_booked_17 (by decide) ?_
    refine pL_X5_thrown C w q7_7 dX5_booked_18 (fun M2 H locs e3 w => ?_)
    replace h := bnd_of h e3
    refine lv_aload_n hx hb dX5_booked_21 rfl (lv_at hl 0 rfl) ?_
    refine gR_X5_b C w q3_17 dX5_booked_22 ?_
    refine lv_iload_n hx hb dX5_booked_25 rfl (lv_at hl 1 rfl) ?_
    obtain ⟨ki4, h⟩ := chk_of h
    refine x_aldJ_L C w (v8 (by decide)) c8_2 ki4 rfl dX5_booked_26 ?_
    obtain ⟨e1, e2, e3⟩ := rt3 h
    exact x_rl C w e1 (by rw [e2]) (by rw [e3]) dX5_booked_27
  · replace h := ite_f h (fun z => z c1)
    refine lv_aload_n hx hb dX5_booked_9 rfl (lv_at hl 0 rfl) ?_
    refine lv_iconst (v := (1 : Int32)) hx hb dX5_booked_10 (by decide) ?_
    obtain ⟨vv8, M6, J7, hv5, h⟩ := bd3_of h
    refine x_cVi (As := [.int (1 : Int32)]) (rest := []) C w (v8 (by decide)) cel_8 rfl (mtX5_fails  hv5) q7_3 q7_4 q7_5 q1_5 q7_6 ydX5_fails ⟨rfl, rfl⟩ ⟨by decide, by decide⟩ ⟨Nat.zero_le _, Nat.zero_le _⟩ hl.1 (Nat.le_of_ble_eq_true rfl) rfl dX5_booked_11 (fun H locs w => ?_)
    refine lv_i2l hx hb dX5_booked_14 rfl ?_
    obtain ⟨e1, e2, e3⟩ := rt3 h
    exact x_rl C w e1 (by rw [e2]) (by rw [e3]) dX5_booked_15
theorem mtX5_booked {rr : Int64} {MR : M2} {JR : J2}   {x1 : Int32}  (h : fX5_booked  x1 M J = some (rr, MR, JR)) : MtL l yX5_booked wdX5_booked rmX5_booked E [.ref (ad E 8 0), .int x1] (sg G 8 M) (sg K 8 J) rr (sg G 8 MR) (sg K 8 JR) := by
  intro sz
  refine Met.ofW (cc := cX5_booked) (maxL := 2) (ret := (some .long)) (by decide) rfl ?_
  intro p e s m args below meth c s₁ B hml hv
  obtain ⟨rfl, C, w⟩ := Cx.of (own := RX5) B rfl hml hv
  have hl := lv_entry ([.ref (ad E 8 0), .int x1]) (n := 2) (by first | exact Nat.le_of_ble_eq_true rfl)
  rw [lg_entry_eq]
  generalize (lg_sl ([.ref (ad E 8 0), .int x1]) ++ List.replicate (2 - (lg_sl ([.ref (ad E 8 0), .int x1])).length) Slot.unset).toArray = ls at hl ⊢
  exact TX5_booked C   h w hl
theorem ydX5_booked : yX5_booked.cls = RX5 ∧ yX5_booked.cls ≠ "java/lang/invoke/MethodHandle" ∧ yX5_booked.cls ≠ "java/lang/invoke/VarHandle" ∧ (parseMethodDescriptor yX5_booked.desc).map (fun d => d.parameters.length) = some 1 := by decide +kernel
/-! X5.result(I)I -/
abbrev rmX5_result : Room := { frames := 2, cells := 0, slots := 0, locals := 34 }
abbrev wdX5_result : Cond := Cond.code yX5_result cX5_result 2 (some .int)
noncomputable def fX5_result  (x1 : Int32) (M : M2) (J : J2) : Option (Int32 × M2 × J2) := (if (fX5_in x1 (0 : Int32) ((M 1 14) - (1 : Int32))) = 0 then (bd3 (fX5_fails (1 : Int32) M J) (fun vv5 M3 J4 => some (vv5, M3, J4))) else (chk (inb ((((15 : Int32) + (M 1 14)) - (1 : Int32)) - x1) 61) (bd3 (fX5_tells (M 1 ((((15 : Int32) + (M 1 14)) - (1 : Int32)) - x1).toNatClampNeg) M J) (fun vv10 M8 J9 => some (vv10, M8, J9)))))
set_option maxRecDepth 20000 in
set_option maxHeartbeats 1000000 in
theorem TX5_result {rr : Int32} {MR : M2} {JR : J2}  (C : Cx E A p s m args meth c wdX5_result cX5_result 2 (some .int) RX5)  {x1 : Int32}  (h : fX5_result  x1 M J = some (rr, MR, JR)) (w : Wd E A s (sg G 8 M) (sg K 8 J) H locs) (hl : lv_has ls 2 [(0, .ref (ad E 8 0)), (1, .int x1)]) : W p l e rmX5_result s m args below meth c H locs 0 0 (QI E A below args s rr (sg G 8 MR) (sg K 8 JR)) (F0 m 0 ls []) := by
  obtain ⟨hx, hb, hr, hml, hown, hts, hlocks, hKK, hA1, hA2⟩ := id C
  unfold fX5_result at h
  refine lv_iload_n hx hb dX5_result_0 rfl (lv_at hl 1 rfl) ?_
  refine lv_iconst (v := (0 : Int32)) hx hb dX5_result_1 (by decide) ?_
  refine lv_aload_n hx hb dX5_result_2 rfl (lv_at hl 0 rfl) ?_
  refine gR_X5_s C w q3_16 dX5_result_3 ?_
  refine lv_bipush (v := (14 : Int32)) hx hb dX5_result_6 (by decide) ?_
  refine x_aldI_L C w (v8 (by decide)) c8_1 (inb_k (k := 14) (by decide) (by decide)) cl_14 dX5_result_8 ?_
  refine lv_iconst (v := (1 : Int32)) hx hb dX5_result_9 (by decide) ?_
  refine lv_isub hx hb dX5_result_10 ?_
  refine x_cSi (As := [.int x1, .int (0 : Int32), .int ((M 1 14) - (1 : Int32))]) (rest := []) C w (mtX5_in ) q7_0 q7_1 q1_5 q7_2 ydX5_in ⟨rfl, rfl⟩ ⟨by decide, by decide⟩ ⟨Nat.zero_le _, Nat.zero_le _⟩ hl.1 (Nat.le_of_ble_eq_true rfl) rfl dX5_result_11 (fun H locs w => ?_)
  refine lv_if_eq (tgt := 43) hx hb dX5_result_14 (by decide) (fun c1 => ?_) (fun c1 => ?_)
  · replace h := ite_t h c1
    refine lv_aload_n hx hb dX5_result_43 rfl (lv_at hl 0 rfl) ?_
    refine lv_iconst (v := (1 : Int32)) hx hb dX5_result_44 (by decide) ?_
    obtain ⟨vv5, M3, J4, hv2, h⟩ := bd3_of h
    refine x_cVi (As := [.int (1 : Int32)]) (rest := []) C w (v8 (by decide)) cel_8 rfl (mtX5_fails  hv2) q7_3 q7_4 q7_5 q1_5 q7_6 ydX5_fails ⟨rfl, rfl⟩ ⟨by decide, by decide⟩ ⟨Nat.zero_le _, Nat.zero_le _⟩ hl.1 (Nat.le_of_ble_eq_true rfl) rfl dX5_result_45 (fun H locs w => ?_)
    obtain ⟨e1, e2, e3⟩ := rt3 h
    exact x_ri C w e1 (by rw [e2]) (by rw [e3]) dX5_result_48
  · replace h := ite_f h c1
    refine lv_aload_n hx hb dX5_result_17 rfl (lv_at hl 0 rfl) ?_
    refine lv_aload_n hx hb dX5_result_18 rfl (lv_at hl 0 rfl) ?_
    refine gR_X5_s C w q3_16 dX5_result_19 ?_
    refine lv_bipush (v := (15 : Int32)) hx hb dX5_result_22 (by decide) ?_
    refine lv_aload_n hx hb dX5_result_24 rfl (lv_at hl 0 rfl) ?_
    refine gR_X5_s C w q3_16 dX5_result_25 ?_
    refine lv_bipush (v := (14 : Int32)) hx hb dX5_result_28 (by decide) ?_
    refine x_aldI_L C w (v8 (by decide)) c8_1 (inb_k (k := 14) (by decide) (by decide)) cl_14 dX5_result_30 ?_
    refine lv_iadd hx hb dX5_result_31 ?_
    refine lv_iconst (v := (1 : Int32)) hx hb dX5_result_32 (by decide) ?_
    refine lv_isub hx hb dX5_result_33 ?_
    refine lv_iload_n hx hb dX5_result_34 rfl (lv_at hl 1 rfl) ?_
    refine lv_isub hx hb dX5_result_35 ?_
    obtain ⟨ki6, h⟩ := chk_of h
    refine x_aldI_L C w (v8 (by decide)) c8_1 ki6 rfl dX5_result_36 ?_
    obtain ⟨vv10, M8, J9, hv7, h⟩ := bd3_of h
    refine x_cVi (As := [.int (M 1 ((((15 : Int32) + (M 1 14)) - (1 : Int32)) - x1).toNatClampNeg)]) (rest := []) C w (v8 (by decide)) cel_8 rfl (mtX5_tells  hv7) q7_21 q7_22 q7_23 q1_5 q8_0 ydX5_tells ⟨rfl, rfl⟩ ⟨by decide, by decide⟩ ⟨Nat.zero_le _, Nat.zero_le _⟩ hl.1 (Nat.le_of_ble_eq_true rfl) rfl dX5_result_37 (fun H locs w => ?_)
    refine lv_goto (tgt := 48) hx hb dX5_result_40 (by decide) ?_
    obtain ⟨e1, e2, e3⟩ := rt3 h
    exact x_ri C w e1 (by rw [e2]) (by rw [e3]) dX5_result_48
theorem mtX5_result {rr : Int32} {MR : M2} {JR : J2}   {x1 : Int32}  (h : fX5_result  x1 M J = some (rr, MR, JR)) : MtI l yX5_result wdX5_result rmX5_result E [.ref (ad E 8 0), .int x1] (sg G 8 M) (sg K 8 J) rr (sg G 8 MR) (sg K 8 JR) := by
  intro sz
  refine Met.ofW (cc := cX5_result) (maxL := 2) (ret := (some .int)) (by decide) rfl ?_
  intro p e s m args below meth c s₁ B hml hv
  obtain ⟨rfl, C, w⟩ := Cx.of (own := RX5) B rfl hml hv
  have hl := lv_entry ([.ref (ad E 8 0), .int x1]) (n := 2) (by first | exact Nat.le_of_ble_eq_true rfl)
  rw [lg_entry_eq]
  generalize (lg_sl ([.ref (ad E 8 0), .int x1]) ++ List.replicate (2 - (lg_sl ([.ref (ad E 8 0), .int x1])).length) Slot.unset).toArray = ls at hl ⊢
  exact TX5_result C   h w hl
theorem ydX5_result : yX5_result.cls = RX5 ∧ yX5_result.cls ≠ "java/lang/invoke/MethodHandle" ∧ yX5_result.cls ≠ "java/lang/invoke/VarHandle" ∧ (parseMethodDescriptor yX5_result.desc).map (fun d => d.parameters.length) = some 1 := by decide +kernel
/-! X5.next(I)I -/
abbrev rmX5_next : Room := { frames := 4, cells := 0, slots := 0, locals := 78 }
abbrev wdX5_next : Cond := Cond.code yX5_next cX5_next 2 (some .int)
noncomputable def fX5_next (F : Nat)  (x1 : Int32) (M : M2) (J : J2) : Option (Int32 × M2 × J2) := (if (fX5_isOne M J x1) = 0 then (bd3 (fX5_fails (1 : Int32) M J) (fun vv5 M3 J4 => some (vv5, M3, J4))) else ((fX5_pressure M J).bind (fun vv7 => (fX5_nextOf F M J x1 vv7).bind (fun vv9 => bd3 (fX5_tells vv9 M J) (fun vv13 M11 J12 => some (vv13, M11, J12))))))
set_option maxRecDepth 20000 in
set_option maxHeartbeats 1000000 in
theorem TX5_next {rr : Int32} {MR : M2} {JR : J2}  (C : Cx E A p s m args meth c wdX5_next cX5_next 2 (some .int) RX5)  {x1 : Int32}  (h : fX5_next F  x1 M J = some (rr, MR, JR)) (w : Wd E A s (sg G 8 M) (sg K 8 J) H locs) (hl : lv_has ls 2 [(0, .ref (ad E 8 0)), (1, .int x1)]) : W p l e rmX5_next s m args below meth c H locs 0 0 (QI E A below args s rr (sg G 8 MR) (sg K 8 JR)) (F0 m 0 ls []) := by
  obtain ⟨hx, hb, hr, hml, hown, hts, hlocks, hKK, hA1, hA2⟩ := id C
  unfold fX5_next at h
  refine lv_aload_n hx hb dX5_next_0 rfl (lv_at hl 0 rfl) ?_
  refine lv_iload_n hx hb dX5_next_1 rfl (lv_at hl 1 rfl) ?_
  refine x_cVi (As := [.int x1]) (rest := []) C w (v8 (by decide)) cel_8 rfl (mtX5_isOne ) q11_1 q11_2 q11_3 q1_5 q11_4 ydX5_isOne ⟨rfl, rfl⟩ ⟨by decide, by decide⟩ ⟨Nat.zero_le _, Nat.zero_le _⟩ hl.1 (Nat.le_of_ble_eq_true rfl) rfl dX5_next_2 (fun H locs w => ?_)
  refine lv_if_eq (tgt := 24) hx hb dX5_next_5 (by decide) (fun c1 => ?_) (fun c1 => ?_)
  · replace h := ite_t h c1
    refine lv_aload_n hx hb dX5_next_24 rfl (lv_at hl 0 rfl) ?_
    refine lv_iconst (v := (1 : Int32)) hx hb dX5_next_25 (by decide) ?_
    obtain ⟨vv5, M3, J4, hv2, h⟩ := bd3_of h
    refine x_cVi (As := [.int (1 : Int32)]) (rest := []) C w (v8 (by decide)) cel_8 rfl (mtX5_fails  hv2) q7_3 q7_4 q7_5 q1_5 q7_6 ydX5_fails ⟨rfl, rfl⟩ ⟨by decide, by decide⟩ ⟨Nat.zero_le _, Nat.zero_le _⟩ hl.1 (Nat.le_of_ble_eq_true rfl) rfl dX5_next_26 (fun H locs w => ?_)
    obtain ⟨e1, e2, e3⟩ := rt3 h
    exact x_ri C w e1 (by rw [e2]) (by rw [e3]) dX5_next_29
  · replace h := ite_f h c1
    refine lv_aload_n hx hb dX5_next_8 rfl (lv_at hl 0 rfl) ?_
    refine lv_aload_n hx hb dX5_next_9 rfl (lv_at hl 0 rfl) ?_
    refine lv_iload_n hx hb dX5_next_10 rfl (lv_at hl 1 rfl) ?_
    refine lv_aload_n hx hb dX5_next_11 rfl (lv_at hl 0 rfl) ?_
    obtain ⟨vv7, hv6, h⟩ := bind_of h
    refine x_cVi (As := []) (rest := [.int x1, .ref (ad E 8 0), .ref (ad E 8 0)]) C w (v8 (by decide)) cel_8 rfl (mtX5_pressure  hv6) q7_17 q7_18 q7_19 q1_5 q7_20 ydX5_pressure ⟨rfl, rfl⟩ ⟨by decide, by decide⟩ ⟨Nat.zero_le _, Nat.zero_le _⟩ hl.1 (Nat.le_of_ble_eq_true rfl) rfl dX5_next_12 (fun H locs w => ?_)
    obtain ⟨vv9, hv8, h⟩ := bind_of h
    refine x_cVi (As := [.int x1, .int vv7]) (rest := [.ref (ad E 8 0)]) C w (v8 (by decide)) cel_8 rfl (mtX5_nextOf  hv8) q17_14 q17_15 q17_16 q1_5 q17_17 ydX5_nextOf ⟨rfl, rfl⟩ ⟨by decide, by decide⟩ ⟨Nat.zero_le _, Nat.zero_le _⟩ hl.1 (Nat.le_of_ble_eq_true rfl) rfl dX5_next_15 (fun H locs w => ?_)
    obtain ⟨vv13, M11, J12, hv10, h⟩ := bd3_of h
    refine x_cVi (As := [.int vv9]) (rest := []) C w (v8 (by decide)) cel_8 rfl (mtX5_tells  hv10) q7_21 q7_22 q7_23 q1_5 q8_0 ydX5_tells ⟨rfl, rfl⟩ ⟨by decide, by decide⟩ ⟨Nat.zero_le _, Nat.zero_le _⟩ hl.1 (Nat.le_of_ble_eq_true rfl) rfl dX5_next_18 (fun H locs w => ?_)
    refine lv_goto (tgt := 29) hx hb dX5_next_21 (by decide) ?_
    obtain ⟨e1, e2, e3⟩ := rt3 h
    exact x_ri C w e1 (by rw [e2]) (by rw [e3]) dX5_next_29
theorem mtX5_next {rr : Int32} {MR : M2} {JR : J2}   {x1 : Int32}  (h : fX5_next F  x1 M J = some (rr, MR, JR)) : MtI l yX5_next wdX5_next rmX5_next E [.ref (ad E 8 0), .int x1] (sg G 8 M) (sg K 8 J) rr (sg G 8 MR) (sg K 8 JR) := by
  intro sz
  refine Met.ofW (cc := cX5_next) (maxL := 2) (ret := (some .int)) (by decide) rfl ?_
  intro p e s m args below meth c s₁ B hml hv
  obtain ⟨rfl, C, w⟩ := Cx.of (own := RX5) B rfl hml hv
  have hl := lv_entry ([.ref (ad E 8 0), .int x1]) (n := 2) (by first | exact Nat.le_of_ble_eq_true rfl)
  rw [lg_entry_eq]
  generalize (lg_sl ([.ref (ad E 8 0), .int x1]) ++ List.replicate (2 - (lg_sl ([.ref (ad E 8 0), .int x1])).length) Slot.unset).toArray = ls at hl ⊢
  exact TX5_next C   h w hl
theorem ydX5_next : yX5_next.cls = RX5 ∧ yX5_next.cls ≠ "java/lang/invoke/MethodHandle" ∧ yX5_next.cls ≠ "java/lang/invoke/VarHandle" ∧ (parseMethodDescriptor yX5_next.desc).map (fun d => d.parameters.length) = some 1 := by decide +kernel
end XM3
