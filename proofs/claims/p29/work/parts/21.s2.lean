section XS2
variable {E : WE} {A : Nat → Prop} {p : Program} {l : Launch} {e : Env} {s : State} {m : MethodId} {args : Array Value} {below : List Frame} {meth : Method} {c : Code} {H : Heap} {locs : List Loc} {ls : Array Slot} {G : M3} {K : J3} {M : M2} {J : J2} {F g q : Nat} {g' q' : Nat}

/-! X3.doingOf(LAirStation$Compressor;I)I -/
abbrev rmX3_doingOf : Room := { frames := 2, cells := 0, slots := 0, locals := 33 }
abbrev wdX3_doingOf : Cond := Cond.code yX3_doingOf cX3_doingOf 3 (some .int)
noncomputable def fX3_doingOf (M : M2) (J : J2) (q1 : Nat) (x2 : Int32)  : Int32 := (if (M q1 1) = (0 : Int32) then ((if (M q1 6) ≤ 0 then ((if (fX3_limitForLoading M J q1) ≤ x2 then ((7 : Int32)) else ((2 : Int32)))) else ((1 : Int32)))) else if (M q1 1) = (1 : Int32) then ((if x2 ≤ (fX3_limitForUnloading M J q1) then ((3 : Int32)) else ((4 : Int32)))) else if (M q1 1) = (2 : Int32) then ((if (fX3_limitForLoading M J q1) ≤ x2 then ((if ((M q1 5) + (1 : Int32)) < (M 1 3) then ((5 : Int32)) else ((6 : Int32)))) else ((2 : Int32)))) else ((0 : Int32)))
set_option maxRecDepth 20000 in
set_option maxHeartbeats 1000000 in
theorem TX3_doingOf {rr : Int32}  (C : Cx E A p s m args meth c wdX3_doingOf cX3_doingOf 3 (some .int) RX3) (hg : g < 6) {q1 : Nat} {x2 : Int32} (hq1 : isC q1) (h : fX3_doingOf M J q1 x2 = rr) (w : Wd E A s (sg G g M) (sg K g J) H locs) (hl : lv_has ls 3 [(0, .ref (ad E g 0)), (1, .ref (ad E g q1)), (2, .int x2)]) : W p l e rmX3_doingOf s m args below meth c H locs 0 0 (QI E A below args s rr (sg G g M) (sg K g J)) (F0 m 0 ls []) := by
  obtain ⟨hx, hb, hr, hml, hown, hts, hlocks, hKK, hA1, hA2⟩ := id C
  unfold fX3_doingOf at h
  refine lv_aload_n hx hb dX3_doingOf_0 rfl (lv_at hl 1 rfl) ?_
  refine gL_X0_mode hg hq1 C w q5_1 dX3_doingOf_1 ?_
  by_cases c1 : (M q1 1) = (0 : Int32)
  · replace h := ite_t h c1
    refine lv_tableIn (tgt := 32) hx hb dX3_doingOf_4 (by rw [c1]; decide) (by rw [c1]; decide) (by rw [c1]; rfl) (by decide) ?_
    refine lv_aload_n hx hb dX3_doingOf_32 rfl (lv_at hl 1 rfl) ?_
    refine gL_X0_rest hg hq1 C w q6_16 dX3_doingOf_33 ?_
    refine lv_if_le (tgt := 41) hx hb dX3_doingOf_36 (by decide) (fun c4 => ?_) (fun c4 => ?_)
    · replace h := ite_t h c4
      refine lv_iload_n hx hb dX3_doingOf_41 rfl (lv_at hl 2 rfl) ?_
      refine lv_aload_n hx hb dX3_doingOf_42 rfl (lv_at hl 0 rfl) ?_
      refine lv_aload_n hx hb dX3_doingOf_43 rfl (lv_at hl 1 rfl) ?_
      refine x_cVi (As := [.ref (ad E g q1)]) (rest := [.int x2]) C w (vS hg (by decide)) (cel_S hg) rfl (mtX3_limitForLoading hg hq1) q6_18 q6_19 q6_20 q1_12 q6_21 ydX3_limitForLoading ⟨rfl, rfl⟩ ⟨by decide, by decide⟩ ⟨Nat.zero_le _, Nat.zero_le _⟩ hl.1 (Nat.le_of_ble_eq_true rfl) rfl dX3_doingOf_44 (fun H locs w => ?_)
      refine lv_icmp_ge (tgt := 54) hx hb dX3_doingOf_47 (by decide) (fun c5 => ?_) (fun c5 => ?_)
      · replace h := ite_t h c5
        refine lv_bipush (v := (7 : Int32)) hx hb dX3_doingOf_54 (by decide) ?_
        exact x_ri C w h rfl rfl dX3_doingOf_56
      · replace h := ite_f h c5
        refine lv_iconst (v := (2 : Int32)) hx hb dX3_doingOf_50 (by decide) ?_
        refine lv_goto (tgt := 56) hx hb dX3_doingOf_51 (by decide) ?_
        exact x_ri C w h rfl rfl dX3_doingOf_56
    · replace h := ite_f h c4
      refine lv_iconst (v := (1 : Int32)) hx hb dX3_doingOf_39 (by decide) ?_
      exact x_ri C w h rfl rfl dX3_doingOf_40
  replace h := ite_f h c1
  by_cases c2 : (M q1 1) = (1 : Int32)
  · replace h := ite_t h c2
    refine lv_tableIn (tgt := 57) hx hb dX3_doingOf_4 (by rw [c2]; decide) (by rw [c2]; decide) (by rw [c2]; rfl) (by decide) ?_
    refine lv_iload_n hx hb dX3_doingOf_57 rfl (lv_at hl 2 rfl) ?_
    refine lv_aload_n hx hb dX3_doingOf_58 rfl (lv_at hl 0 rfl) ?_
    refine lv_aload_n hx hb dX3_doingOf_59 rfl (lv_at hl 1 rfl) ?_
    refine x_cVi (As := [.ref (ad E g q1)]) (rest := [.int x2]) C w (vS hg (by decide)) (cel_S hg) rfl (mtX3_limitForUnloading hg hq1) q6_22 q6_23 q7_0 q1_12 q7_1 ydX3_limitForUnloading ⟨rfl, rfl⟩ ⟨by decide, by decide⟩ ⟨Nat.zero_le _, Nat.zero_le _⟩ hl.1 (Nat.le_of_ble_eq_true rfl) rfl dX3_doingOf_60 (fun H locs w => ?_)
    refine lv_icmp_le (tgt := 70) hx hb dX3_doingOf_63 (by decide) (fun c6 => ?_) (fun c6 => ?_)
    · replace h := ite_t h c6
      refine lv_iconst (v := (3 : Int32)) hx hb dX3_doingOf_70 (by decide) ?_
      exact x_ri C w h rfl rfl dX3_doingOf_71
    · replace h := ite_f h c6
      refine lv_iconst (v := (4 : Int32)) hx hb dX3_doingOf_66 (by decide) ?_
      refine lv_goto (tgt := 71) hx hb dX3_doingOf_67 (by decide) ?_
      exact x_ri C w h rfl rfl dX3_doingOf_71
  replace h := ite_f h c2
  by_cases c3 : (M q1 1) = (2 : Int32)
  · replace h := ite_t h c3
    refine lv_tableIn (tgt := 72) hx hb dX3_doingOf_4 (by rw [c3]; decide) (by rw [c3]; decide) (by rw [c3]; rfl) (by decide) ?_
    refine lv_iload_n hx hb dX3_doingOf_72 rfl (lv_at hl 2 rfl) ?_
    refine lv_aload_n hx hb dX3_doingOf_73 rfl (lv_at hl 0 rfl) ?_
    refine lv_aload_n hx hb dX3_doingOf_74 rfl (lv_at hl 1 rfl) ?_
    refine x_cVi (As := [.ref (ad E g q1)]) (rest := [.int x2]) C w (vS hg (by decide)) (cel_S hg) rfl (mtX3_limitForLoading hg hq1) q6_18 q6_19 q6_20 q1_12 q6_21 ydX3_limitForLoading ⟨rfl, rfl⟩ ⟨by decide, by decide⟩ ⟨Nat.zero_le _, Nat.zero_le _⟩ hl.1 (Nat.le_of_ble_eq_true rfl) rfl dX3_doingOf_75 (fun H locs w => ?_)
    refine lv_icmp_ge (tgt := 83) hx hb dX3_doingOf_78 (by decide) (fun c7 => ?_) (fun c7 => ?_)
    · replace h := ite_t h c7
      refine lv_aload_n hx hb dX3_doingOf_83 rfl (lv_at hl 1 rfl) ?_
      refine gL_X0_timer hg hq1 C w q6_15 dX3_doingOf_84 ?_
      refine lv_iconst (v := (1 : Int32)) hx hb dX3_doingOf_87 (by decide) ?_
      refine lv_iadd hx hb dX3_doingOf_88 ?_
      refine lv_aload_n hx hb dX3_doingOf_89 rfl (lv_at hl 0 rfl) ?_
      refine gR_X3_settings hg C w q2_6 dX3_doingOf_90 ?_
      refine lv_iconst (v := (3 : Int32)) hx hb dX3_doingOf_93 (by decide) ?_
      refine x_aldI_L C w (vS hg (by decide)) (cS1 hg) (inb_k (k := 3) (by decide) (by decide)) cl_3 dX3_doingOf_94 ?_
      refine lv_icmp_lt (tgt := 103) hx hb dX3_doingOf_95 (by decide) (fun c8 => ?_) (fun c8 => ?_)
      · replace h := ite_t h c8
        refine lv_iconst (v := (5 : Int32)) hx hb dX3_doingOf_103 (by decide) ?_
        exact x_ri C w h rfl rfl dX3_doingOf_104
      · replace h := ite_f h c8
        refine lv_bipush (v := (6 : Int32)) hx hb dX3_doingOf_98 (by decide) ?_
        refine lv_goto (tgt := 104) hx hb dX3_doingOf_100 (by decide) ?_
        exact x_ri C w h rfl rfl dX3_doingOf_104
    · replace h := ite_f h c7
      refine lv_iconst (v := (2 : Int32)) hx hb dX3_doingOf_81 (by decide) ?_
      exact x_ri C w h rfl rfl dX3_doingOf_82
  replace h := ite_f h c3
  have hsw : (M q1 1).toInt < 0 ∨ 2 < (M q1 1).toInt := by
    have n0 := ne_toInt c1
    have n1 := ne_toInt c2
    have n2 := ne_toInt c3
    have e0 : (0 : Int32).toInt = 0 := by decide
    have e1 : (1 : Int32).toInt = 1 := by decide
    have e2 : (2 : Int32).toInt = 2 := by decide
    simp only [e0, e1, e2] at n0 n1 n2
    omega
  refine lv_tableOut (tgt := 105) hx hb dX3_doingOf_4 hsw (by decide) ?_
  refine lv_iconst (v := (0 : Int32)) hx hb dX3_doingOf_105 (by decide) ?_
  exact x_ri C w h rfl rfl dX3_doingOf_106
theorem mtX3_doingOf  (hg : g < 6) {q1 : Nat} {x2 : Int32} (hq1 : isC q1)  : MtI l yX3_doingOf wdX3_doingOf rmX3_doingOf E [.ref (ad E g 0), .ref (ad E g q1), .int x2] (sg G g M) (sg K g J) (fX3_doingOf M J q1 x2) (sg G g M) (sg K g J) := by
  intro sz
  refine Met.ofW (cc := cX3_doingOf) (maxL := 3) (ret := (some .int)) (by decide) rfl ?_
  intro p e s m args below meth c s₁ B hml hv
  obtain ⟨rfl, C, w⟩ := Cx.of (own := RX3) B rfl hml hv
  have hl := lv_entry ([.ref (ad E g 0), .ref (ad E g q1), .int x2]) (n := 3) (by first | exact Nat.le_of_ble_eq_true rfl)
  rw [lg_entry_eq]
  generalize (lg_sl ([.ref (ad E g 0), .ref (ad E g q1), .int x2]) ++ List.replicate (3 - (lg_sl ([.ref (ad E g 0), .ref (ad E g q1), .int x2])).length) Slot.unset).toArray = ls at hl ⊢
  exact TX3_doingOf C hg hq1 rfl w hl
theorem ydX3_doingOf : yX3_doingOf.cls = RX3 ∧ yX3_doingOf.cls ≠ "java/lang/invoke/MethodHandle" ∧ yX3_doingOf.cls ≠ "java/lang/invoke/VarHandle" ∧ (parseMethodDescriptor yX3_doingOf.desc).map (fun d => d.parameters.length) = some 2 := by decide +kernel
/-! X3.lookAtAll(I)Z -/
abbrev rmX3_lookAtAll : Room := { frames := 3, cells := 0, slots := 0, locals := 55 }
abbrev wdX3_lookAtAll : Cond := Cond.code yX3_lookAtAll cX3_lookAtAll 6 (some .boolean)
noncomputable def fbX3_lookAtAll_59 (F : Nat) (k4 : Int32 → Int32 → Int32 → M2 → J2 → Option (Int32 × M2 × J2))  (a1 : Int32) (a2 : Int32) (a3 : Int32) (M : M2) (J : J2) : Option (Int32 × M2 × J2) := k4 a1 a2 (a3 + (1 : Int32)) M J
set_option maxRecDepth 20000 in
set_option maxHeartbeats 1000000 in
theorem TX3_lookAtAll_59 {rr : Int32} {MR : M2} {JR : J2}  {k4 : Int32 → Int32 → Int32 → M2 → J2 → Option (Int32 × M2 × J2)} (C : Cx E A p s m args meth c wdX3_lookAtAll cX3_lookAtAll 6 (some .boolean) RX3) (hg : g < 6) (hk4 : ∀ (a1 : Int32) (a2 : Int32) (a3 : Int32) (M : M2) (J : J2)  (ls : Array Slot) (H : Heap) (locs : List Loc), k4 a1 a2 a3 M J = some (rr, MR, JR) → Wd E A s (sg G g M) (sg K g J) H locs → lv_has ls 6 [(0, .ref (ad E g 0)), (1, .int a1), (2, .int a2), (3, .int a3)] → W p l e rmX3_lookAtAll s m args below meth c H locs 0 0 (QI E A below args s rr (sg G g MR) (sg K g JR)) (F0 m 4 ls [])) (a1 : Int32) (a2 : Int32) (a3 : Int32) (M : M2) (J : J2)  (h : fbX3_lookAtAll_59 F k4 a1 a2 a3 M J = some (rr, MR, JR)) (w : Wd E A s (sg G g M) (sg K g J) H locs) (hl : lv_has ls 6 [(0, .ref (ad E g 0)), (1, .int a1), (2, .int a2), (3, .int a3)]) : W p l e rmX3_lookAtAll s m args below meth c H locs 0 0 (QI E A below args s rr (sg G g MR) (sg K g JR)) (F0 m 59 ls []) := by
  obtain ⟨hx, hb, hr, hml, hown, hts, hlocks, hKK, hA1, hA2⟩ := id C
  unfold fbX3_lookAtAll_59 at h
  refine lv_iinc (v := (a3 + (1 : Int32))) (lv' := [(3, .int (a3 + (1 : Int32))), (0, .ref (ad E g 0)), (1, .int a1), (2, .int a2)]) hx hb dX3_lookAtAll_59 hl (k := 3) rfl (congrArg (HAdd.hAdd _) (by decide)) (by decide) rfl (fun ls hl => ?_)
  refine lv_goto (tgt := 4) hx hb dX3_lookAtAll_62 (by decide) ?_
  exact hk4 _ _ _ _ _ _ _ _ h w (lv_sub hl [1, 2, 3, 0] rfl)
noncomputable def fbX3_lookAtAll_58 (F : Nat) (k4 : Int32 → Int32 → Int32 → M2 → J2 → Option (Int32 × M2 × J2))  (a1 : Int32) (a3 : Int32) (s0 : Int32) (M : M2) (J : J2) : Option (Int32 × M2 × J2) := fbX3_lookAtAll_59 F k4 a1 s0 a3 M J
set_option maxRecDepth 20000 in
set_option maxHeartbeats 1000000 in
theorem TX3_lookAtAll_58 {rr : Int32} {MR : M2} {JR : J2}  {k4 : Int32 → Int32 → Int32 → M2 → J2 → Option (Int32 × M2 × J2)} (C : Cx E A p s m args meth c wdX3_lookAtAll cX3_lookAtAll 6 (some .boolean) RX3) (hg : g < 6) (hk4 : ∀ (a1 : Int32) (a2 : Int32) (a3 : Int32) (M : M2) (J : J2)  (ls : Array Slot) (H : Heap) (locs : List Loc), k4 a1 a2 a3 M J = some (rr, MR, JR) → Wd E A s (sg G g M) (sg K g J) H locs → lv_has ls 6 [(0, .ref (ad E g 0)), (1, .int a1), (2, .int a2), (3, .int a3)] → W p l e rmX3_lookAtAll s m args below meth c H locs 0 0 (QI E A below args s rr (sg G g MR) (sg K g JR)) (F0 m 4 ls [])) (a1 : Int32) (a3 : Int32) (s0 : Int32) (M : M2) (J : J2)  (h : fbX3_lookAtAll_58 F k4 a1 a3 s0 M J = some (rr, MR, JR)) (w : Wd E A s (sg G g M) (sg K g J) H locs) (hl : lv_has ls 6 [(0, .ref (ad E g 0)), (1, .int a1), (3, .int a3)]) : W p l e rmX3_lookAtAll s m args below meth c H locs 0 0 (QI E A below args s rr (sg G g MR) (sg K g JR)) (F0 m 58 ls [.int s0]) := by
  obtain ⟨hx, hb, hr, hml, hown, hts, hlocks, hKK, hA1, hA2⟩ := id C
  unfold fbX3_lookAtAll_58 at h
  refine lv_istore_n (lv' := [(2, .int s0), (0, .ref (ad E g 0)), (1, .int a1), (3, .int a3)]) hx hb dX3_lookAtAll_58 rfl hl (by decide) rfl (fun ls hl => ?_)
  exact TX3_lookAtAll_59 C hg hk4 _ _ _ _ _ h w (lv_sub hl [1, 2, 0, 3] rfl)
noncomputable def fbX3_lookAtAll_53 (F : Nat) (k4 : Int32 → Int32 → Int32 → M2 → J2 → Option (Int32 × M2 × J2))  (a1 : Int32) (a3 : Int32) (M : M2) (J : J2) : Option (Int32 × M2 × J2) := fbX3_lookAtAll_58 F k4 a1 a3 (1 : Int32) M J
set_option maxRecDepth 20000 in
set_option maxHeartbeats 1000000 in
theorem TX3_lookAtAll_53 {rr : Int32} {MR : M2} {JR : J2}  {k4 : Int32 → Int32 → Int32 → M2 → J2 → Option (Int32 × M2 × J2)} (C : Cx E A p s m args meth c wdX3_lookAtAll cX3_lookAtAll 6 (some .boolean) RX3) (hg : g < 6) (hk4 : ∀ (a1 : Int32) (a2 : Int32) (a3 : Int32) (M : M2) (J : J2)  (ls : Array Slot) (H : Heap) (locs : List Loc), k4 a1 a2 a3 M J = some (rr, MR, JR) → Wd E A s (sg G g M) (sg K g J) H locs → lv_has ls 6 [(0, .ref (ad E g 0)), (1, .int a1), (2, .int a2), (3, .int a3)] → W p l e rmX3_lookAtAll s m args below meth c H locs 0 0 (QI E A below args s rr (sg G g MR) (sg K g JR)) (F0 m 4 ls [])) (a1 : Int32) (a3 : Int32) (M : M2) (J : J2)  (h : fbX3_lookAtAll_53 F k4 a1 a3 M J = some (rr, MR, JR)) (w : Wd E A s (sg G g M) (sg K g J) H locs) (hl : lv_has ls 6 [(0, .ref (ad E g 0)), (1, .int a1), (3, .int a3)]) : W p l e rmX3_lookAtAll s m args below meth c H locs 0 0 (QI E A below args s rr (sg G g MR) (sg K g JR)) (F0 m 53 ls []) := by
  obtain ⟨hx, hb, hr, hml, hown, hts, hlocks, hKK, hA1, hA2⟩ := id C
  unfold fbX3_lookAtAll_53 at h
  refine lv_iconst (v := (1 : Int32)) hx hb dX3_lookAtAll_53 (by decide) ?_
  refine lv_goto (tgt := 58) hx hb dX3_lookAtAll_54 (by decide) ?_
  exact TX3_lookAtAll_58 C hg hk4 _ _ _ _ _ h w (lv_sub hl [0, 1, 2] rfl)
noncomputable def fsX3_lookAtAll_4 (F : Nat)   (k4 : Int32 → Int32 → Int32 → M2 → J2 → Option (Int32 × M2 × J2)) : Int32 → Int32 → Int32 → M2 → J2 → Option (Int32 × M2 × J2) := fun a1 a2 a3 M J => (if (5 : Int32) ≤ a3 then (chk (a2 = 0 ∨ a2 = 1) (some (a2, M, J))) else ((fX3_numbered M J a3).bind (fun vv4 => oc vv4 (fbX3_lookAtAll_59 F k4 a1 a2 a3 M J) (fun z5 => chk (isC z5) (bd2 (fX0_carryOn z5 (fX3_doingOf M J z5 a1) (M 1 4) M J) (fun M7 J8 => (if ¬ a2 = 0 then (fbX3_lookAtAll_53 F k4 a1 a3 M7 J8) else ((if ¬ (fX3_doingOf M J z5 a1) = (2 : Int32) then (fbX3_lookAtAll_58 F k4 a1 a3 (0 : Int32) M7 J8) else (fbX3_lookAtAll_53 F k4 a1 a3 M7 J8))))))))))
noncomputable def fbX3_lookAtAll_4 (F : Nat)   (n : Nat) : Int32 → Int32 → Int32 → M2 → J2 → Option (Int32 × M2 × J2) := itr (fsX3_lookAtAll_4 F ) (fun _ _ _ _ _ => none) n
set_option maxRecDepth 20000 in
set_option maxHeartbeats 1000000 in
theorem SX3_lookAtAll_4 {rr : Int32} {MR : M2} {JR : J2}   {k4 : Int32 → Int32 → Int32 → M2 → J2 → Option (Int32 × M2 × J2)} (C : Cx E A p s m args meth c wdX3_lookAtAll cX3_lookAtAll 6 (some .boolean) RX3) (hg : g < 6)  (hk4 : ∀ (a1 : Int32) (a2 : Int32) (a3 : Int32) (M : M2) (J : J2)  (ls : Array Slot) (H : Heap) (locs : List Loc), k4 a1 a2 a3 M J = some (rr, MR, JR) → Wd E A s (sg G g M) (sg K g J) H locs → lv_has ls 6 [(0, .ref (ad E g 0)), (1, .int a1), (2, .int a2), (3, .int a3)] → W p l e rmX3_lookAtAll s m args below meth c H locs 0 0 (QI E A below args s rr (sg G g MR) (sg K g JR)) (F0 m 4 ls [])) (a1 : Int32) (a2 : Int32) (a3 : Int32) (M : M2) (J : J2)  (h : fsX3_lookAtAll_4 F  k4 a1 a2 a3 M J = some (rr, MR, JR)) (w : Wd E A s (sg G g M) (sg K g J) H locs) (hl : lv_has ls 6 [(0, .ref (ad E g 0)), (1, .int a1), (2, .int a2), (3, .int a3)]) : W p l e rmX3_lookAtAll s m args below meth c H locs 0 0 (QI E A below args s rr (sg G g MR) (sg K g JR)) (F0 m 4 ls []) := by
  obtain ⟨hx, hb, hr, hml, hown, hts, hlocks, hKK, hA1, hA2⟩ := id C
  unfold fsX3_lookAtAll_4 at h
  refine lv_iload_n hx hb dX3_lookAtAll_4 rfl (lv_at hl 3 rfl) ?_
  refine lv_iconst (v := (5 : Int32)) hx hb dX3_lookAtAll_5 (by decide) ?_
  refine lv_icmp_ge (tgt := 65) hx hb dX3_lookAtAll_6 (by decide) (fun c1 => ?_) (fun c1 => ?_)
  · replace h := ite_t h c1
    refine lv_iload_n hx hb dX3_lookAtAll_65 rfl (lv_at hl 2 rfl) ?_
    obtain ⟨kb2, h⟩ := chk_of h
    obtain ⟨e1, e2, e3⟩ := rt3 h
    exact x_rz C w kb2 e1 (by rw [e2]) (by rw [e3]) dX3_lookAtAll_66
  · replace h := ite_f h c1
    refine lv_aload_n hx hb dX3_lookAtAll_9 rfl (lv_at hl 0 rfl) ?_
    refine lv_iload_n hx hb dX3_lookAtAll_10 rfl (lv_at hl 3 rfl) ?_
    obtain ⟨vv4, hv3, h⟩ := bind_of h
    refine x_cVq (As := [.int a3]) (rest := []) C w (vS hg (by decide)) (cel_S hg) rfl (mtX3_numbered hg hv3) q5_2 q5_3 q5_4 q1_12 q5_5 ydX3_numbered ⟨rfl, rfl⟩ ⟨by decide, by decide⟩ ⟨Nat.zero_le _, Nat.zero_le _⟩ hl.1 (Nat.le_of_ble_eq_true rfl) rfl dX3_lookAtAll_11 (fun H locs w => ?_)
    cases vv4 with
    | none =>
      replace h := oc_n h
      refine lv_astoreN (lv' := [(4, .null), (0, .ref (ad E g 0)), (1, .int a1), (2, .int a2), (3, .int a3)]) hx hb dX3_lookAtAll_14 hl (by decide) rfl (fun ls hl => ?_)
      refine lv_aloadN hx hb dX3_lookAtAll_16 (lv_at hl 0 rfl) ?_
      refine lv_ifnullN (tgt := 59) hx hb dX3_lookAtAll_18 (by decide) ?_
      exact TX3_lookAtAll_59 C hg hk4 _ _ _ _ _ h w (lv_sub hl [1, 2, 3, 4] rfl)
    | some z5 =>
      replace h := oc_s h
      obtain ⟨hz5, h⟩ := chk_of h
      refine lv_astore (lv' := [(4, .ref (ad E g z5)), (0, .ref (ad E g 0)), (1, .int a1), (2, .int a2), (3, .int a3)]) hx hb dX3_lookAtAll_14 hl (by decide) rfl (fun ls hl => ?_)
      refine lv_aload hx hb dX3_lookAtAll_16 (lv_at hl 0 rfl) ?_
      refine lv_ifnull hx hb dX3_lookAtAll_18 ?_
      refine lv_aload_n hx hb dX3_lookAtAll_21 rfl (lv_at hl 1 rfl) ?_
      refine lv_aload hx hb dX3_lookAtAll_22 (lv_at hl 0 rfl) ?_
      refine lv_iload_n hx hb dX3_lookAtAll_24 rfl (lv_at hl 2 rfl) ?_
      refine x_cVi (As := [.ref (ad E g z5), .int a1]) (rest := []) C w (vS hg (by decide)) (cel_S hg) rfl (mtX3_doingOf hg hz5) q15_5 q8_7 q8_8 q1_12 q8_9 ydX3_doingOf ⟨rfl, rfl⟩ ⟨by decide, by decide⟩ ⟨Nat.zero_le _, Nat.zero_le _⟩ hl.1 (Nat.le_of_ble_eq_true rfl) rfl dX3_lookAtAll_25 (fun H locs w => ?_)
      refine lv_istore (lv' := [(5, .int (fX3_doingOf M J z5 a1)), (4, .ref (ad E g z5)), (0, .ref (ad E g 0)), (1, .int a1), (2, .int a2), (3, .int a3)]) hx hb dX3_lookAtAll_28 hl (by decide) rfl (fun ls hl => ?_)
      refine lv_aload hx hb dX3_lookAtAll_30 (lv_at hl 1 rfl) ?_
      refine lv_iload hx hb dX3_lookAtAll_32 (lv_at hl 0 rfl) ?_
      refine lv_aload_n hx hb dX3_lookAtAll_34 rfl (lv_at hl 2 rfl) ?_
      refine gR_X3_settings hg C w q2_6 dX3_lookAtAll_35 ?_
      refine lv_iconst (v := (4 : Int32)) hx hb dX3_lookAtAll_38 (by decide) ?_
      refine x_aldI_L C w (vS hg (by decide)) (cS1 hg) (inb_k (k := 4) (by decide) (by decide)) cl_4 dX3_lookAtAll_39 ?_
      obtain ⟨M7, J8, hv6, h⟩ := bd2_of h
      refine x_cVv (As := [.int (fX3_doingOf M J z5 a1), .int (M 1 4)]) (rest := []) C w (vC hg hz5) (cel_C hg hz5.1) rfl (mtX0_carryOn hg hz5 hv6) q15_6 q15_7 q15_8 q2_17 q15_9 ydX0_carryOn ⟨rfl, rfl⟩ ⟨by decide, by decide⟩ ⟨Nat.zero_le _, Nat.zero_le _⟩ hl.1 (Nat.le_of_ble_eq_true rfl) rfl dX3_lookAtAll_40 (fun H locs w => ?_)
      refine lv_iload_n hx hb dX3_lookAtAll_43 rfl (lv_at hl 4 rfl) ?_
      refine lv_if_ne (tgt := 53) hx hb dX3_lookAtAll_44 (by decide) (fun c9 => ?_) (fun c9 => ?_)
      · replace h := ite_t h c9
        exact TX3_lookAtAll_53 C hg hk4 _ _ _ _ h w (lv_sub hl [2, 3, 5] rfl)
      · replace h := ite_f h (fun z => z c9)
        refine lv_iload hx hb dX3_lookAtAll_47 (lv_at hl 0 rfl) ?_
        refine lv_iconst (v := (2 : Int32)) hx hb dX3_lookAtAll_49 (by decide) ?_
        refine lv_icmp_ne (tgt := 57) hx hb dX3_lookAtAll_50 (by decide) (fun c10 => ?_) (fun c10 => ?_)
        · replace h := ite_t h c10
          refine lv_iconst (v := (0 : Int32)) hx hb dX3_lookAtAll_57 (by decide) ?_
          exact TX3_lookAtAll_58 C hg hk4 _ _ _ _ _ h w (lv_sub hl [2, 3, 5] rfl)
        · replace h := ite_f h (fun z => z c10)
          exact TX3_lookAtAll_53 C hg hk4 _ _ _ _ h w (lv_sub hl [2, 3, 5] rfl)
theorem TX3_lookAtAll_4 {rr : Int32} {MR : M2} {JR : J2}   (C : Cx E A p s m args meth c wdX3_lookAtAll cX3_lookAtAll 6 (some .boolean) RX3) (hg : g < 6)  : ∀ (n : Nat) (a1 : Int32) (a2 : Int32) (a3 : Int32) (M : M2) (J : J2)  (ls : Array Slot) (H : Heap) (locs : List Loc), fbX3_lookAtAll_4 F  n a1 a2 a3 M J = some (rr, MR, JR) → Wd E A s (sg G g M) (sg K g J) H locs → lv_has ls 6 [(0, .ref (ad E g 0)), (1, .int a1), (2, .int a2), (3, .int a3)] → W p l e rmX3_lookAtAll s m args below meth c H locs 0 0 (QI E A below args s rr (sg G g MR) (sg K g JR)) (F0 m 4 ls []) := by
  intro n
  induction n with
  | zero => intro a1 a2 a3 M J  ls H locs h; exact absurd (show none = _ from h) (fun z => nomatch z)
  | succ n ih => intro a1 a2 a3 M J  ls H locs h w hl; exact SX3_lookAtAll_4 (F := F) C hg  ih a1 a2 a3 M J  h w hl
noncomputable def fX3_lookAtAll (F : Nat)  (x1 : Int32) (M : M2) (J : J2) : Option (Int32 × M2 × J2) := fbX3_lookAtAll_4 F F x1 (0 : Int32) (0 : Int32) M J
set_option maxRecDepth 20000 in
set_option maxHeartbeats 1000000 in
theorem TX3_lookAtAll {rr : Int32} {MR : M2} {JR : J2}  (C : Cx E A p s m args meth c wdX3_lookAtAll cX3_lookAtAll 6 (some .boolean) RX3) (hg : g < 6) {x1 : Int32}  (h : fX3_lookAtAll F  x1 M J = some (rr, MR, JR)) (w : Wd E A s (sg G g M) (sg K g J) H locs) (hl : lv_has ls 6 [(0, .ref (ad E g 0)), (1, .int x1)]) : W p l e rmX3_lookAtAll s m args below meth c H locs 0 0 (QI E A below args s rr (sg G g MR) (sg K g JR)) (F0 m 0 ls []) := by
  obtain ⟨hx, hb, hr, hml, hown, hts, hlocks, hKK, hA1, hA2⟩ := id C
  unfold fX3_lookAtAll at h
  refine lv_iconst (v := (0 : Int32)) hx hb dX3_lookAtAll_0 (by decide) ?_
  refine lv_istore_n (lv' := [(2, .int (0 : Int32)), (0, .ref (ad E g 0)), (1, .int x1)]) hx hb dX3_lookAtAll_1 rfl hl (by decide) rfl (fun ls hl => ?_)
  refine lv_iconst (v := (0 : Int32)) hx hb dX3_lookAtAll_2 (by decide) ?_
  refine lv_istore_n (lv' := [(3, .int (0 : Int32)), (2, .int (0 : Int32)), (0, .ref (ad E g 0)), (1, .int x1)]) hx hb dX3_lookAtAll_3 rfl hl (by decide) rfl (fun ls hl => ?_)
  exact TX3_lookAtAll_4 C hg  _ _ _ _ _ _ _ _ _ h w (lv_sub hl [2, 3, 1, 0] rfl)
theorem mtX3_lookAtAll {rr : Int32} {MR : M2} {JR : J2}  (hg : g < 6) {x1 : Int32}  (h : fX3_lookAtAll F  x1 M J = some (rr, MR, JR)) : MtI l yX3_lookAtAll wdX3_lookAtAll rmX3_lookAtAll E [.ref (ad E g 0), .int x1] (sg G g M) (sg K g J) rr (sg G g MR) (sg K g JR) := by
  intro sz
  refine Met.ofW (cc := cX3_lookAtAll) (maxL := 6) (ret := (some .boolean)) (by decide) rfl ?_
  intro p e s m args below meth c s₁ B hml hv
  obtain ⟨rfl, C, w⟩ := Cx.of (own := RX3) B rfl hml hv
  have hl := lv_entry ([.ref (ad E g 0), .int x1]) (n := 6) (by first | exact Nat.le_of_ble_eq_true rfl)
  rw [lg_entry_eq]
  generalize (lg_sl ([.ref (ad E g 0), .int x1]) ++ List.replicate (6 - (lg_sl ([.ref (ad E g 0), .int x1])).length) Slot.unset).toArray = ls at hl ⊢
  exact TX3_lookAtAll C hg  h w hl
theorem ydX3_lookAtAll : yX3_lookAtAll.cls = RX3 ∧ yX3_lookAtAll.cls ≠ "java/lang/invoke/MethodHandle" ∧ yX3_lookAtAll.cls ≠ "java/lang/invoke/VarHandle" ∧ (parseMethodDescriptor yX3_lookAtAll.desc).map (fun d => d.parameters.length) = some 1 := by decide +kernel
/-! X3.runCompressors()V -/
abbrev rmX3_runCompressors : Room := { frames := 2, cells := 0, slots := 0, locals := 33 }
abbrev wdX3_runCompressors : Cond := Cond.code yX3_runCompressors cX3_runCompressors 3 none
noncomputable def fbX3_runCompressors_120 (F : Nat) (k2 : Int32 → M2 → J2 → Option (M2 × J2))  (a1 : Int32) (M : M2) (J : J2) : Option (M2 × J2) := k2 (a1 + (1 : Int32)) M J
set_option maxRecDepth 20000 in
set_option maxHeartbeats 1000000 in
theorem TX3_runCompressors_120 {MR : M2} {JR : J2}  {k2 : Int32 → M2 → J2 → Option (M2 × J2)} (C : Cx E A p s m args meth c wdX3_runCompressors cX3_runCompressors 3 none RX3) (hg : g < 6) (hk2 : ∀ (a1 : Int32) (M : M2) (J : J2)  (ls : Array Slot) (H : Heap) (locs : List Loc), k2 a1 M J = some (MR, JR) → Wd E A s (sg G g M) (sg K g J) H locs → lv_has ls 3 [(0, .ref (ad E g 0)), (1, .int a1)] → W p l e rmX3_runCompressors s m args below meth c H locs 0 0 (QV E A below args s  (sg G g MR) (sg K g JR)) (F0 m 2 ls [])) (a1 : Int32) (M : M2) (J : J2)  (h : fbX3_runCompressors_120 F k2 a1 M J = some (MR, JR)) (w : Wd E A s (sg G g M) (sg K g J) H locs) (hl : lv_has ls 3 [(0, .ref (ad E g 0)), (1, .int a1)]) : W p l e rmX3_runCompressors s m args below meth c H locs 0 0 (QV E A below args s  (sg G g MR) (sg K g JR)) (F0 m 120 ls []) := by
  obtain ⟨hx, hb, hr, hml, hown, hts, hlocks, hKK, hA1, hA2⟩ := id C
  unfold fbX3_runCompressors_120 at h
  refine lv_iinc (v := (a1 + (1 : Int32))) (lv' := [(1, .int (a1 + (1 : Int32))), (0, .ref (ad E g 0))]) hx hb dX3_runCompressors_120 hl (k := 1) rfl (congrArg (HAdd.hAdd _) (by decide)) (by decide) rfl (fun ls hl => ?_)
  refine lv_goto (tgt := 2) hx hb dX3_runCompressors_123 (by decide) ?_
  exact hk2 _ _ _ _ _ _ h w (lv_sub hl [1, 0] rfl)
noncomputable def fbX3_runCompressors_82 (F : Nat) (k2 : Int32 → M2 → J2 → Option (M2 × J2))  (a1 : Int32) (a2 : Option Nat) (M : M2) (J : J2) : Option (M2 × J2) := oc a2 (fbX3_runCompressors_120 F k2 a1 M J) (fun z1 => (if ¬ (M z1 1) = (2 : Int32) then (fbX3_runCompressors_120 F k2 a1 M J) else (bnd (up2 J 2 5 ((J 2 5) + ((3 : Int32) * (M z1 0)).toInt64)) (fun J3 => bnd (up2 M z1 4 ((M z1 4) + (1 : Int32))) (fun M5 => fbX3_runCompressors_120 F k2 a1 M5 J3)))))
set_option maxRecDepth 20000 in
set_option maxHeartbeats 1000000 in
theorem TX3_runCompressors_82 {MR : M2} {JR : J2}  {k2 : Int32 → M2 → J2 → Option (M2 × J2)} (C : Cx E A p s m args meth c wdX3_runCompressors cX3_runCompressors 3 none RX3) (hg : g < 6) (hk2 : ∀ (a1 : Int32) (M : M2) (J : J2)  (ls : Array Slot) (H : Heap) (locs : List Loc), k2 a1 M J = some (MR, JR) → Wd E A s (sg G g M) (sg K g J) H locs → lv_has ls 3 [(0, .ref (ad E g 0)), (1, .int a1)] → W p l e rmX3_runCompressors s m args below meth c H locs 0 0 (QV E A below args s  (sg G g MR) (sg K g JR)) (F0 m 2 ls [])) (a1 : Int32) (a2 : Option Nat) (M : M2) (J : J2) (ha2 : ∀ z, a2 = some z → isC z) (h : fbX3_runCompressors_82 F k2 a1 a2 M J = some (MR, JR)) (w : Wd E A s (sg G g M) (sg K g J) H locs) (hl : lv_has ls 3 [(0, .ref (ad E g 0)), (1, .int a1), (2, va_rf (a2.map (fun z => ad E g z)))]) : W p l e rmX3_runCompressors s m args below meth c H locs 0 0 (QV E A below args s  (sg G g MR) (sg K g JR)) (F0 m 82 ls []) := by
  obtain ⟨hx, hb, hr, hml, hown, hts, hlocks, hKK, hA1, hA2⟩ := id C
  unfold fbX3_runCompressors_82 at h
  cases a2 with
  | none =>
    replace h := oc_n h
    have hl : lv_has ls 3 [(0, .ref (ad E g 0)), (1, .int a1), (2, .null)] := hl
    refine lv_aload_nN hx hb dX3_runCompressors_82 rfl (lv_at hl 2 rfl) ?_
    refine lv_ifnullN (tgt := 120) hx hb dX3_runCompressors_83 (by decide) ?_
    exact TX3_runCompressors_120 C hg hk2 _ _ _ h w (lv_sub hl [0, 1] rfl)
  | some z1 =>
    replace h := oc_s h
    have hz1 : isC z1 := ha2 _ rfl
    have hl : lv_has ls 3 [(0, .ref (ad E g 0)), (1, .int a1), (2, .ref (ad E g z1))] := hl
    refine lv_aload_n hx hb dX3_runCompressors_82 rfl (lv_at hl 2 rfl) ?_
    refine lv_ifnull hx hb dX3_runCompressors_83 ?_
    refine lv_aload_n hx hb dX3_runCompressors_86 rfl (lv_at hl 2 rfl) ?_
    refine gL_X0_mode hg hz1 C w q5_1 dX3_runCompressors_87 ?_
    refine lv_iconst (v := (2 : Int32)) hx hb dX3_runCompressors_90 (by decide) ?_
    refine lv_icmp_ne (tgt := 120) hx hb dX3_runCompressors_91 (by decide) (fun c2 => ?_) (fun c2 => ?_)
    · replace h := ite_t h c2
      exact TX3_runCompressors_120 C hg hk2 _ _ _ h w (lv_sub hl [0, 1] rfl)
    · replace h := ite_f h (fun z => z c2)
      refine lv_aload_n hx hb dX3_runCompressors_94 rfl (lv_at hl 0 rfl) ?_
      refine gR_X3_amounts hg C w q2_8 dX3_runCompressors_95 ?_
      refine lv_iconst (v := (5 : Int32)) hx hb dX3_runCompressors_98 (by decide) ?_
      refine lv_dup2_11 hx hb dX3_runCompressors_99 rfl rfl ?_
      refine x_aldJ_L C w (vS hg (by decide)) (cS2 hg) (inb_k (k := 5) (by decide) (by decide)) cl_5 dX3_runCompressors_100 ?_
      refine lv_iconst (v := (3 : Int32)) hx hb dX3_runCompressors_101 (by decide) ?_
      refine lv_aload_n hx hb dX3_runCompressors_102 rfl (lv_at hl 2 rfl) ?_
      refine gL_X0_capacity hg hz1 C w q5_10 dX3_runCompressors_103 ?_
      refine lv_imul hx hb dX3_runCompressors_106 ?_
      refine lv_i2l hx hb dX3_runCompressors_107 rfl ?_
      refine lv_ladd hx hb dX3_runCompressors_108 ?_
      refine x_astJ_L C w (vS hg (by decide)) (cS2 hg) (inb_k (k := 5) (by decide) (by decide)) cl_5 dX3_runCompressors_109 (fun J3 H locs e4 w => ?_)
      replace h := bnd_of h e4
      refine lv_aload_n hx hb dX3_runCompressors_110 rfl (lv_at hl 2 rfl) ?_
      refine lv_dup hx hb dX3_runCompressors_111 rfl ?_
      refine gL_X0_unloadedMinutes hg hz1 C w q6_14 dX3_runCompressors_112 ?_
      refine lv_iconst (v := (1 : Int32)) hx hb dX3_runCompressors_115 (by decide) ?_
      refine lv_iadd hx hb dX3_runCompressors_116 ?_
      refine pL_X0_unloadedMinutes hg hz1 C w q6_14 dX3_runCompressors_117 (fun M5 H locs e6 w => ?_)
      replace h := bnd_of h e6
      exact TX3_runCompressors_120 C hg hk2 _ _ _ h w (lv_sub hl [0, 1] rfl)
noncomputable def fsX3_runCompressors_2 (F : Nat)   (k2 : Int32 → M2 → J2 → Option (M2 × J2)) : Int32 → M2 → J2 → Option (M2 × J2) := fun a1 M J => (if (5 : Int32) ≤ a1 then (some (M, J)) else ((fX3_numbered M J a1).bind (fun vv3 => oc vv3 (fbX3_runCompressors_82 F k2 a1 none M J) (fun z4 => chk (isC z4) ((if ¬ (M z4 1) = (1 : Int32) then (fbX3_runCompressors_82 F k2 a1 (some z4) M J) else (bnd (up2 M 0 1 ((M 0 1) + (M z4 0))) (fun M6 => bnd (up2 J 2 0 ((J 2 0) + (M6 z4 0).toInt64)) (fun J8 => bnd (up2 J8 2 5 ((J8 2 5) + ((10 : Int32) * (M6 z4 0)).toInt64)) (fun J10 => bnd (up2 M6 z4 3 ((M6 z4 3) + (1 : Int32))) (fun M12 => fbX3_runCompressors_120 F k2 a1 M12 J10)))))))))))
noncomputable def fbX3_runCompressors_2 (F : Nat)   (n : Nat) : Int32 → M2 → J2 → Option (M2 × J2) := itr (fsX3_runCompressors_2 F ) (fun _ _ _ => none) n
set_option maxRecDepth 20000 in
set_option maxHeartbeats 1000000 in
theorem SX3_runCompressors_2 {MR : M2} {JR : J2}   {k2 : Int32 → M2 → J2 → Option (M2 × J2)} (C : Cx E A p s m args meth c wdX3_runCompressors cX3_runCompressors 3 none RX3) (hg : g < 6)  (hk2 : ∀ (a1 : Int32) (M : M2) (J : J2)  (ls : Array Slot) (H : Heap) (locs : List Loc), k2 a1 M J = some (MR, JR) → Wd E A s (sg G g M) (sg K g J) H locs → lv_has ls 3 [(0, .ref (ad E g 0)), (1, .int a1)] → W p l e rmX3_runCompressors s m args below meth c H locs 0 0 (QV E A below args s  (sg G g MR) (sg K g JR)) (F0 m 2 ls [])) (a1 : Int32) (M : M2) (J : J2)  (h : fsX3_runCompressors_2 F  k2 a1 M J = some (MR, JR)) (w : Wd E A s (sg G g M) (sg K g J) H locs) (hl : lv_has ls 3 [(0, .ref (ad E g 0)), (1, .int a1)]) : W p l e rmX3_runCompressors s m args below meth c H locs 0 0 (QV E A below args s  (sg G g MR) (sg K g JR)) (F0 m 2 ls []) := by
  obtain ⟨hx, hb, hr, hml, hown, hts, hlocks, hKK, hA1, hA2⟩ := id C
  unfold fsX3_runCompressors_2 at h
  refine lv_iload_n hx hb dX3_runCompressors_2 rfl (lv_at hl 1 rfl) ?_
  refine lv_iconst (v := (5 : Int32)) hx hb dX3_runCompressors_3 (by decide) ?_
  refine lv_icmp_ge (tgt := 126) hx hb dX3_runCompressors_4 (by decide) (fun c1 => ?_) (fun c1 => ?_)
  · replace h := ite_t h c1
    obtain ⟨e2, e3⟩ := rt2 h
    exact x_rv C w (by rw [e2]) (by rw [e3]) dX3_runCompressors_126
  · replace h := ite_f h c1
    refine lv_aload_n hx hb dX3_runCompressors_7 rfl (lv_at hl 0 rfl) ?_
    refine lv_iload_n hx hb dX3_runCompressors_8 rfl (lv_at hl 1 rfl) ?_
    obtain ⟨vv3, hv2, h⟩ := bind_of h
    refine x_cVq (As := [.int a1]) (rest := []) C w (vS hg (by decide)) (cel_S hg) rfl (mtX3_numbered hg hv2) q5_2 q5_3 q5_4 q1_12 q5_5 ydX3_numbered ⟨rfl, rfl⟩ ⟨by decide, by decide⟩ ⟨Nat.zero_le _, Nat.zero_le _⟩ hl.1 (Nat.le_of_ble_eq_true rfl) rfl dX3_runCompressors_9 (fun H locs w => ?_)
    cases vv3 with
    | none =>
      replace h := oc_n h
      refine lv_astore_nN (lv' := [(2, .null), (0, .ref (ad E g 0)), (1, .int a1)]) hx hb dX3_runCompressors_12 rfl hl (by decide) rfl (fun ls hl => ?_)
      refine lv_aload_nN hx hb dX3_runCompressors_13 rfl (lv_at hl 0 rfl) ?_
      refine lv_ifnullN (tgt := 82) hx hb dX3_runCompressors_14 (by decide) ?_
      exact TX3_runCompressors_82 C hg hk2 _ _ _ _ (fun _ h => by cases h) h w (lv_sub hl [1, 2, 0] rfl)
    | some z4 =>
      replace h := oc_s h
      obtain ⟨hz4, h⟩ := chk_of h
      refine lv_astore_n (lv' := [(2, .ref (ad E g z4)), (0, .ref (ad E g 0)), (1, .int a1)]) hx hb dX3_runCompressors_12 rfl hl (by decide) rfl (fun ls hl => ?_)
      refine lv_aload_n hx hb dX3_runCompressors_13 rfl (lv_at hl 0 rfl) ?_
      refine lv_ifnull hx hb dX3_runCompressors_14 ?_
      refine lv_aload_n hx hb dX3_runCompressors_17 rfl (lv_at hl 0 rfl) ?_
      refine gL_X0_mode hg hz4 C w q5_1 dX3_runCompressors_18 ?_
      refine lv_iconst (v := (1 : Int32)) hx hb dX3_runCompressors_21 (by decide) ?_
      refine lv_icmp_ne (tgt := 82) hx hb dX3_runCompressors_22 (by decide) (fun c5 => ?_) (fun c5 => ?_)
      · replace h := ite_t h c5
        exact TX3_runCompressors_82 C hg hk2 _ _ _ _ (fun _ h => by cases h; exact hz4) h w (lv_sub hl [1, 2, 0] rfl)
      · replace h := ite_f h (fun z => z c5)
        refine lv_aload_n hx hb dX3_runCompressors_25 rfl (lv_at hl 1 rfl) ?_
        refine lv_dup hx hb dX3_runCompressors_26 rfl ?_
        refine gL_X3_air hg C w q2_4 dX3_runCompressors_27 ?_
        refine lv_aload_n hx hb dX3_runCompressors_30 rfl (lv_at hl 0 rfl) ?_
        refine gL_X0_capacity hg hz4 C w q5_10 dX3_runCompressors_31 ?_
        refine lv_iadd hx hb dX3_runCompressors_34 ?_
        refine pL_X3_air hg C w q2_4 dX3_runCompressors_35 (fun M6 H locs e7 w => ?_)
        replace h := bnd_of h e7
        refine lv_aload_n hx hb dX3_runCompressors_38 rfl (lv_at hl 1 rfl) ?_
        refine gR_X3_amounts hg C w q2_8 dX3_runCompressors_39 ?_
        refine lv_iconst (v := (0 : Int32)) hx hb dX3_runCompressors_42 (by decide) ?_
        refine lv_dup2_11 hx hb dX3_runCompressors_43 rfl rfl ?_
        refine x_aldJ_L C w (vS hg (by decide)) (cS2 hg) (inb_k (k := 0) (by decide) (by decide)) cl_0 dX3_runCompressors_44 ?_
        refine lv_aload_n hx hb dX3_runCompressors_45 rfl (lv_at hl 0 rfl) ?_
        refine gL_X0_capacity hg hz4 C w q5_10 dX3_runCompressors_46 ?_
        refine lv_i2l hx hb dX3_runCompressors_49 rfl ?_
        refine lv_ladd hx hb dX3_runCompressors_50 ?_
        refine x_astJ_L C w (vS hg (by decide)) (cS2 hg) (inb_k (k := 0) (by decide) (by decide)) cl_0 dX3_runCompressors_51 (fun J8 H locs e9 w => ?_)
        replace h := bnd_of h e9
        refine lv_aload_n hx hb dX3_runCompressors_52 rfl (lv_at hl 1 rfl) ?_
        refine gR_X3_amounts hg C w q2_8 dX3_runCompressors_53 ?_
        refine lv_iconst (v := (5 : Int32)) hx hb dX3_runCompressors_56 (by decide) ?_
        refine lv_dup2_11 hx hb dX3_runCompressors_57 rfl rfl ?_
        refine x_aldJ_L C w (vS hg (by decide)) (cS2 hg) (inb_k (k := 5) (by decide) (by decide)) cl_5 dX3_runCompressors_58 ?_
        refine lv_bipush (v := (10 : Int32)) hx hb dX3_runCompressors_59 (by decide) ?_
        refine lv_aload_n hx hb dX3_runCompressors_61 rfl (lv_at hl 0 rfl) ?_
        refine gL_X0_capacity hg hz4 C w q5_10 dX3_runCompressors_62 ?_
        refine lv_imul hx hb dX3_runCompressors_65 ?_
        refine lv_i2l hx hb dX3_runCompressors_66 rfl ?_
        refine lv_ladd hx hb dX3_runCompressors_67 ?_
        refine x_astJ_L C w (vS hg (by decide)) (cS2 hg) (inb_k (k := 5) (by decide) (by decide)) cl_5 dX3_runCompressors_68 (fun J10 H locs e11 w => ?_)
        replace h := bnd_of h e11
        refine lv_aload_n hx hb dX3_runCompressors_69 rfl (lv_at hl 0 rfl) ?_
        refine lv_dup hx hb dX3_runCompressors_70 rfl ?_
        refine gL_X0_loadedMinutes hg hz4 C w q6_13 dX3_runCompressors_71 ?_
        refine lv_iconst (v := (1 : Int32)) hx hb dX3_runCompressors_74 (by decide) ?_
        refine lv_iadd hx hb dX3_runCompressors_75 ?_
        refine pL_X0_loadedMinutes hg hz4 C w q6_13 dX3_runCompressors_76 (fun M12 H locs e13 w => ?_)
        replace h := bnd_of h e13
        refine lv_goto (tgt := 120) hx hb dX3_runCompressors_79 (by decide) ?_
        exact TX3_runCompressors_120 C hg hk2 _ _ _ h w (lv_sub hl [1, 2] rfl)
theorem TX3_runCompressors_2 {MR : M2} {JR : J2}   (C : Cx E A p s m args meth c wdX3_runCompressors cX3_runCompressors 3 none RX3) (hg : g < 6)  : ∀ (n : Nat) (a1 : Int32) (M : M2) (J : J2)  (ls : Array Slot) (H : Heap) (locs : List Loc), fbX3_runCompressors_2 F  n a1 M J = some (MR, JR) → Wd E A s (sg G g M) (sg K g J) H locs → lv_has ls 3 [(0, .ref (ad E g 0)), (1, .int a1)] → W p l e rmX3_runCompressors s m args below meth c H locs 0 0 (QV E A below args s  (sg G g MR) (sg K g JR)) (F0 m 2 ls []) := by
  intro n
  induction n with
  | zero => intro a1 M J  ls H locs h; exact absurd (show none = _ from h) (fun z => nomatch z)
  | succ n ih => intro a1 M J  ls H locs h w hl; exact SX3_runCompressors_2 (F := F) C hg  ih a1 M J  h w hl
noncomputable def fX3_runCompressors (F : Nat)   (M : M2) (J : J2) : Option (M2 × J2) := fbX3_runCompressors_2 F F (0 : Int32) M J
set_option maxRecDepth 20000 in
set_option maxHeartbeats 1000000 in
theorem TX3_runCompressors {MR : M2} {JR : J2}  (C : Cx E A p s m args meth c wdX3_runCompressors cX3_runCompressors 3 none RX3) (hg : g < 6)   (h : fX3_runCompressors F  M J = some (MR, JR)) (w : Wd E A s (sg G g M) (sg K g J) H locs) (hl : lv_has ls 3 [(0, .ref (ad E g 0))]) : W p l e rmX3_runCompressors s m args below meth c H locs 0 0 (QV E A below args s  (sg G g MR) (sg K g JR)) (F0 m 0 ls []) := by
  obtain ⟨hx, hb, hr, hml, hown, hts, hlocks, hKK, hA1, hA2⟩ := id C
  unfold fX3_runCompressors at h
  refine lv_iconst (v := (0 : Int32)) hx hb dX3_runCompressors_0 (by decide) ?_
  refine lv_istore_n (lv' := [(1, .int (0 : Int32)), (0, .ref (ad E g 0))]) hx hb dX3_runCompressors_1 rfl hl (by decide) rfl (fun ls hl => ?_)
  exact TX3_runCompressors_2 C hg  _ _ _ _ _ _ _ h w (lv_sub hl [1, 0] rfl)
theorem mtX3_runCompressors {MR : M2} {JR : J2}  (hg : g < 6)   (h : fX3_runCompressors F  M J = some (MR, JR)) : MtV l yX3_runCompressors wdX3_runCompressors rmX3_runCompressors E [.ref (ad E g 0)] (sg G g M) (sg K g J)  (sg G g MR) (sg K g JR) := by
  intro sz
  refine Met.ofW (cc := cX3_runCompressors) (maxL := 3) (ret := none) (by decide) rfl ?_
  intro p e s m args below meth c s₁ B hml hv
  obtain ⟨rfl, C, w⟩ := Cx.of (own := RX3) B rfl hml hv
  have hl := lv_entry ([.ref (ad E g 0)]) (n := 3) (by first | exact Nat.le_of_ble_eq_true rfl)
  rw [lg_entry_eq]
  generalize (lg_sl ([.ref (ad E g 0)]) ++ List.replicate (3 - (lg_sl ([.ref (ad E g 0)])).length) Slot.unset).toArray = ls at hl ⊢
  exact TX3_runCompressors C hg  h w hl
theorem ydX3_runCompressors : yX3_runCompressors.cls = RX3 ∧ yX3_runCompressors.cls ≠ "java/lang/invoke/MethodHandle" ∧ yX3_runCompressors.cls ≠ "java/lang/invoke/VarHandle" ∧ (parseMethodDescriptor yX3_runCompressors.desc).map (fun d => d.parameters.length) = some 0 := by decide +kernel
/-! X3.blowOff()V -/
abbrev rmX3_blowOff : Room := { frames := 2, cells := 0, slots := 0, locals := 33 }
abbrev wdX3_blowOff : Cond := Cond.code yX3_blowOff cX3_blowOff 2 none
noncomputable def fX3_blowOff   (M : M2) (J : J2) : Option (M2 × J2) := (fX4_pressureOf (M 0 1) (M 0 0)).bind (fun vv2 => (if vv2 ≤ (M 1 2) then (some (M, J)) else (bnd (up2 J 2 4 ((J 2 4) + ((M 0 1) - (((M 1 2) * (M 0 0)) / (1000 : Int32))).toInt64)) (fun J4 => bnd (up2 M 0 1 (((M 1 2) * (M 0 0)) / (1000 : Int32))) (fun M6 => some (M6, J4))))))
set_option maxRecDepth 20000 in
set_option maxHeartbeats 1000000 in
theorem TX3_blowOff {MR : M2} {JR : J2}  (C : Cx E A p s m args meth c wdX3_blowOff cX3_blowOff 2 none RX3) (hg : g < 6)   (h : fX3_blowOff  M J = some (MR, JR)) (w : Wd E A s (sg G g M) (sg K g J) H locs) (hl : lv_has ls 2 [(0, .ref (ad E g 0))]) : W p l e rmX3_blowOff s m args below meth c H locs 0 0 (QV E A below args s  (sg G g MR) (sg K g JR)) (F0 m 0 ls []) := by
  obtain ⟨hx, hb, hr, hml, hown, hts, hlocks, hKK, hA1, hA2⟩ := id C
  unfold fX3_blowOff at h
  refine lv_aload_n hx hb dX3_blowOff_0 rfl (lv_at hl 0 rfl) ?_
  refine gL_X3_air hg C w q2_4 dX3_blowOff_1 ?_
  refine lv_aload_n hx hb dX3_blowOff_4 rfl (lv_at hl 0 rfl) ?_
  refine gL_X3_volume hg C w q2_3 dX3_blowOff_5 ?_
  obtain ⟨vv2, hv1, h⟩ := bind_of h
  refine x_cNi (As := [.int (M 0 1), .int (M 0 0)]) (rest := []) C w (mtX4_pressureOf  hv1) (List.mem_of_getElem? (i := 0) rfl) q4_19 q1_2 q4_20 ynX4_pressureOf ⟨rfl, rfl⟩ ⟨by decide, by decide⟩ ⟨Nat.zero_le _, Nat.zero_le _⟩ hl.1 (Nat.le_of_ble_eq_true rfl) rfl dX3_blowOff_8 (fun H locs w => ?_)
  refine lv_aload_n hx hb dX3_blowOff_11 rfl (lv_at hl 0 rfl) ?_
  refine gR_X3_settings hg C w q2_6 dX3_blowOff_12 ?_
  refine lv_iconst (v := (2 : Int32)) hx hb dX3_blowOff_15 (by decide) ?_
  refine x_aldI_L C w (vS hg (by decide)) (cS1 hg) (inb_k (k := 2) (by decide) (by decide)) cl_2 dX3_blowOff_16 ?_
  refine lv_icmp_le (tgt := 57) hx hb dX3_blowOff_17 (by decide) (fun c3 => ?_) (fun c3 => ?_)
  · replace h := ite_t h c3
    obtain ⟨e2, e3⟩ := rt2 h
    exact x_rv C w (by rw [e2]) (by rw [e3]) dX3_blowOff_57
  · replace h := ite_f h c3
    refine lv_aload_n hx hb dX3_blowOff_20 rfl (lv_at hl 0 rfl) ?_
    refine gR_X3_settings hg C w q2_6 dX3_blowOff_21 ?_
    refine lv_iconst (v := (2 : Int32)) hx hb dX3_blowOff_24 (by decide) ?_
    refine x_aldI_L C w (vS hg (by decide)) (cS1 hg) (inb_k (k := 2) (by decide) (by decide)) cl_2 dX3_blowOff_25 ?_
    refine lv_aload_n hx hb dX3_blowOff_26 rfl (lv_at hl 0 rfl) ?_
    refine gL_X3_volume hg C w q2_3 dX3_blowOff_27 ?_
    refine lv_imul hx hb dX3_blowOff_30 ?_
    refine lv_sipush (v := (1000 : Int32)) hx hb dX3_blowOff_31 (by decide) ?_
    refine lv_idiv hx hb dX3_blowOff_34 (by decide) ?_
    refine lv_istore_n (lv' := [(1, .int (((M 1 2) * (M 0 0)) / (1000 : Int32))), (0, .ref (ad E g 0))]) hx hb dX3_blowOff_35 rfl hl (by decide) rfl (fun ls hl => ?_)
    refine lv_aload_n hx hb dX3_blowOff_36 rfl (lv_at hl 1 rfl) ?_
    refine gR_X3_amounts hg C w q2_8 dX3_blowOff_37 ?_
    refine lv_iconst (v := (4 : Int32)) hx hb dX3_blowOff_40 (by decide) ?_
    refine lv_dup2_11 hx hb dX3_blowOff_41 rfl rfl ?_
    refine x_aldJ_L C w (vS hg (by decide)) (cS2 hg) (inb_k (k := 4) (by decide) (by decide)) cl_4 dX3_blowOff_42 ?_
    refine lv_aload_n hx hb dX3_blowOff_43 rfl (lv_at hl 1 rfl) ?_
    refine gL_X3_air hg C w q2_4 dX3_blowOff_44 ?_
    refine lv_iload_n hx hb dX3_blowOff_47 rfl (lv_at hl 0 rfl) ?_
    refine lv_isub hx hb dX3_blowOff_48 ?_
    refine lv_i2l hx hb dX3_blowOff_49 rfl ?_
    refine lv_ladd hx hb dX3_blowOff_50 ?_
    refine x_astJ_L C w (vS hg (by decide)) (cS2 hg) (inb_k (k := 4) (by decide) (by decide)) cl_4 dX3_blowOff_51 (fun J4 H locs e5 w => ?_)
    replace h := bnd_of h e5
    refine lv_aload_n hx hb dX3_blowOff_52 rfl (lv_at hl 1 rfl) ?_
    refine lv_iload_n hx hb dX3_blowOff_53 rfl (lv_at hl 0 rfl) ?_
    refine pL_X3_air hg C w q2_4 dX3_blowOff_54 (fun M6 H locs e7 w => ?_)
    replace h := bnd_of h e7
    obtain ⟨e2, e3⟩ := rt2 h
    exact x_rv C w (by rw [e2]) (by rw [e3]) dX3_blowOff_57
theorem mtX3_blowOff {MR : M2} {JR : J2}  (hg : g < 6)   (h : fX3_blowOff  M J = some (MR, JR)) : MtV l yX3_blowOff wdX3_blowOff rmX3_blowOff E [.ref (ad E g 0)] (sg G g M) (sg K g J)  (sg G g MR) (sg K g JR) := by
  intro sz
  refine Met.ofW (cc := cX3_blowOff) (maxL := 2) (ret := none) (by decide) rfl ?_
  intro p e s m args below meth c s₁ B hml hv
  obtain ⟨rfl, C, w⟩ := Cx.of (own := RX3) B rfl hml hv
  have hl := lv_entry ([.ref (ad E g 0)]) (n := 2) (by first | exact Nat.le_of_ble_eq_true rfl)
  rw [lg_entry_eq]
  generalize (lg_sl ([.ref (ad E g 0)]) ++ List.replicate (2 - (lg_sl ([.ref (ad E g 0)])).length) Slot.unset).toArray = ls at hl ⊢
  exact TX3_blowOff C hg  h w hl
theorem ydX3_blowOff : yX3_blowOff.cls = RX3 ∧ yX3_blowOff.cls ≠ "java/lang/invoke/MethodHandle" ∧ yX3_blowOff.cls ≠ "java/lang/invoke/VarHandle" ∧ (parseMethodDescriptor yX3_blowOff.desc).map (fun d => d.parameters.length) = some 0 := by decide +kernel
/-! X3.runFlows(II)I -/
abbrev rmX3_runFlows : Room := { frames := 3, cells := 0, slots := 0, locals := 55 }
abbrev wdX3_runFlows : Cond := Cond.code yX3_runFlows cX3_runFlows 5 (some .int)
noncomputable def fX3_runFlows (F : Nat)  (x1 : Int32) (x2 : Int32) (M : M2) (J : J2) : Option (Int32 × M2 × J2) := bd2 (fX3_runCompressors F M J) (fun M2 J3 => bnd (up2 M2 0 1 ((M2 0 1) - (if (M2 0 1) < (fX3_leakAt M2 J3 x1) then (M2 0 1) else (fX3_leakAt M2 J3 x1)))) (fun M4 => bnd (up2 M4 0 1 ((M4 0 1) - (if (M4 0 1) < x2 then (M4 0 1) else x2))) (fun M6 => bnd (up2 J3 2 1 ((J3 2 1) + (if (M2 0 1) < (fX3_leakAt M2 J3 x1) then (M2 0 1) else (fX3_leakAt M2 J3 x1)).toInt64)) (fun J8 => bnd (up2 J8 2 2 ((J8 2 2) + (if (M4 0 1) < x2 then (M4 0 1) else x2).toInt64)) (fun J10 => bnd (up2 J10 2 3 ((J10 2 3) + (x2 - (if (M4 0 1) < x2 then (M4 0 1) else x2)).toInt64)) (fun J12 => bd2 (fX3_blowOff M6 J12) (fun M15 J16 => bnd (up2 M15 0 2 ((M15 0 2) + (1 : Int32))) (fun M17 => bnd (up2 M17 0 3 ((M17 0 3) + (1 : Int32))) (fun M19 => some ((if (M2 0 1) < (fX3_leakAt M2 J3 x1) then (M2 0 1) else (fX3_leakAt M2 J3 x1)), M19, J16))))))))))
set_option maxRecDepth 20000 in
set_option maxHeartbeats 1000000 in
theorem TX3_runFlows {rr : Int32} {MR : M2} {JR : J2}  (C : Cx E A p s m args meth c wdX3_runFlows cX3_runFlows 5 (some .int) RX3) (hg : g < 6) {x1 : Int32} {x2 : Int32}  (h : fX3_runFlows F  x1 x2 M J = some (rr, MR, JR)) (w : Wd E A s (sg G g M) (sg K g J) H locs) (hl : lv_has ls 5 [(0, .ref (ad E g 0)), (1, .int x1), (2, .int x2)]) : W p l e rmX3_runFlows s m args below meth c H locs 0 0 (QI E A below args s rr (sg G g MR) (sg K g JR)) (F0 m 0 ls []) := by
  obtain ⟨hx, hb, hr, hml, hown, hts, hlocks, hKK, hA1, hA2⟩ := id C
  unfold fX3_runFlows at h
  refine lv_aload_n hx hb dX3_runFlows_0 rfl (lv_at hl 0 rfl) ?_
  obtain ⟨M2, J3, hv1, h⟩ := bd2_of h
  refine x_cVv (As := []) (rest := []) C w (vS hg (by decide)) (cel_S hg) rfl (mtX3_runCompressors hg hv1) q13_13 q13_14 q13_15 q1_12 q13_16 ydX3_runCompressors ⟨rfl, rfl⟩ ⟨by decide, by decide⟩ ⟨Nat.zero_le _, Nat.zero_le _⟩ hl.1 (Nat.le_of_ble_eq_true rfl) rfl dX3_runFlows_1 (fun H locs w => ?_)
  refine lv_aload_n hx hb dX3_runFlows_4 rfl (lv_at hl 0 rfl) ?_
  refine lv_iload_n hx hb dX3_runFlows_5 rfl (lv_at hl 1 rfl) ?_
  refine x_cVi (As := [.int x1]) (rest := []) C w (vS hg (by decide)) (cel_S hg) rfl (mtX3_leakAt hg) q13_17 q13_18 q13_19 q1_12 q13_20 ydX3_leakAt ⟨rfl, rfl⟩ ⟨by decide, by decide⟩ ⟨Nat.zero_le _, Nat.zero_le _⟩ hl.1 (Nat.le_of_ble_eq_true rfl) rfl dX3_runFlows_6 (fun H locs w => ?_)
  refine lv_aload_n hx hb dX3_runFlows_9 rfl (lv_at hl 0 rfl) ?_
  refine gL_X3_air hg C w q2_4 dX3_runFlows_10 ?_
  refine x_min C hl.1 q13_12 q9_8 q9_9 q9_10 (by decide) (show _ ≤ _ from Nat.le_of_ble_eq_true rfl) (Nat.zero_le _) (Nat.zero_le _) dX3_runFlows_13 ?_
  refine lv_istore_n (lv' := [(3, .int (if (M2 0 1) < (fX3_leakAt M2 J3 x1) then (M2 0 1) else (fX3_leakAt M2 J3 x1))), (0, .ref (ad E g 0)), (1, .int x1), (2, .int x2)]) hx hb dX3_runFlows_16 rfl hl (by decide) rfl (fun ls hl => ?_)
  refine lv_aload_n hx hb dX3_runFlows_17 rfl (lv_at hl 1 rfl) ?_
  refine lv_dup hx hb dX3_runFlows_18 rfl ?_
  refine gL_X3_air hg C w q2_4 dX3_runFlows_19 ?_
  refine lv_iload_n hx hb dX3_runFlows_22 rfl (lv_at hl 0 rfl) ?_
  refine lv_isub hx hb dX3_runFlows_23 ?_
  refine pL_X3_air hg C w q2_4 dX3_runFlows_24 (fun M4 H locs e5 w => ?_)
  replace h := bnd_of h e5
  refine lv_iload_n hx hb dX3_runFlows_27 rfl (lv_at hl 3 rfl) ?_
  refine lv_aload_n hx hb dX3_runFlows_28 rfl (lv_at hl 1 rfl) ?_
  refine gL_X3_air hg C w q2_4 dX3_runFlows_29 ?_
  refine x_min C hl.1 q13_12 q9_8 q9_9 q9_10 (by decide) (show _ ≤ _ from Nat.le_of_ble_eq_true rfl) (Nat.zero_le _) (Nat.zero_le _) dX3_runFlows_32 ?_
  refine lv_istore (lv' := [(4, .int (if (M4 0 1) < x2 then (M4 0 1) else x2)), (3, .int (if (M2 0 1) < (fX3_leakAt M2 J3 x1) then (M2 0 1) else (fX3_leakAt M2 J3 x1))), (0, .ref (ad E g 0)), (1, .int x1), (2, .int x2)]) hx hb dX3_runFlows_35 hl (by decide) rfl (fun ls hl => ?_)
  refine lv_aload_n hx hb dX3_runFlows_37 rfl (lv_at hl 2 rfl) ?_
  refine lv_dup hx hb dX3_runFlows_38 rfl ?_
  refine gL_X3_air hg C w q2_4 dX3_runFlows_39 ?_
  refine lv_iload hx hb dX3_runFlows_42 (lv_at hl 0 rfl) ?_
  refine lv_isub hx hb dX3_runFlows_44 ?_
  refine pL_X3_air hg C w q2_4 dX3_runFlows_45 (fun M6 H locs e7 w => ?_)
  replace h := bnd_of h e7
  refine lv_aload_n hx hb dX3_runFlows_48 rfl (lv_at hl 2 rfl) ?_
  refine gR_X3_amounts hg C w q2_8 dX3_runFlows_49 ?_
  refine lv_iconst (v := (1 : Int32)) hx hb dX3_runFlows_52 (by decide) ?_
  refine lv_dup2_11 hx hb dX3_runFlows_53 rfl rfl ?_
  refine x_aldJ_L C w (vS hg (by decide)) (cS2 hg) (inb_k (k := 1) (by decide) (by decide)) cl_1 dX3_runFlows_54 ?_
  refine lv_iload_n hx hb dX3_runFlows_55 rfl (lv_at hl 1 rfl) ?_
  refine lv_i2l hx hb dX3_runFlows_56 rfl ?_
  refine lv_ladd hx hb dX3_runFlows_57 ?_
  refine x_astJ_L C w (vS hg (by decide)) (cS2 hg) (inb_k (k := 1) (by decide) (by decide)) cl_1 dX3_runFlows_58 (fun J8 H locs e9 w => ?_)
  replace h := bnd_of h e9
  refine lv_aload_n hx hb dX3_runFlows_59 rfl (lv_at hl 2 rfl) ?_
  refine gR_X3_amounts hg C w q2_8 dX3_runFlows_60 ?_
  refine lv_iconst (v := (2 : Int32)) hx hb dX3_runFlows_63 (by decide) ?_
  refine lv_dup2_11 hx hb dX3_runFlows_64 rfl rfl ?_
  refine x_aldJ_L C w (vS hg (by decide)) (cS2 hg) (inb_k (k := 2) (by decide) (by decide)) cl_2 dX3_runFlows_65 ?_
  refine lv_iload hx hb dX3_runFlows_66 (lv_at hl 0 rfl) ?_
  refine lv_i2l hx hb dX3_runFlows_68 rfl ?_
  refine lv_ladd hx hb dX3_runFlows_69 ?_
  refine x_astJ_L C w (vS hg (by decide)) (cS2 hg) (inb_k (k := 2) (by decide) (by decide)) cl_2 dX3_runFlows_70 (fun J10 H locs e11 w => ?_)
  replace h := bnd_of h e11
  refine lv_aload_n hx hb dX3_runFlows_71 rfl (lv_at hl 2 rfl) ?_
  refine gR_X3_amounts hg C w q2_8 dX3_runFlows_72 ?_
  refine lv_iconst (v := (3 : Int32)) hx hb dX3_runFlows_75 (by decide) ?_
  refine lv_dup2_11 hx hb dX3_runFlows_76 rfl rfl ?_
  refine x_aldJ_L C w (vS hg (by decide)) (cS2 hg) (inb_k (k := 3) (by decide) (by decide)) cl_3 dX3_runFlows_77 ?_
  refine lv_iload_n hx hb dX3_runFlows_78 rfl (lv_at hl 4 rfl) ?_
  refine lv_iload hx hb dX3_runFlows_79 (lv_at hl 0 rfl) ?_
  refine lv_isub hx hb dX3_runFlows_81 ?_
  refine lv_i2l hx hb dX3_runFlows_82 rfl ?_
  refine lv_ladd hx hb dX3_runFlows_83 ?_
  refine x_astJ_L C w (vS hg (by decide)) (cS2 hg) (inb_k (k := 3) (by decide) (by decide)) cl_3 dX3_runFlows_84 (fun J12 H locs e13 w => ?_)
  replace h := bnd_of h e13
  refine lv_aload_n hx hb dX3_runFlows_85 rfl (lv_at hl 2 rfl) ?_
  obtain ⟨M15, J16, hv14, h⟩ := bd2_of h
  refine x_cVv (As := []) (rest := []) C w (vS hg (by decide)) (cel_S hg) rfl (mtX3_blowOff hg hv14) q13_21 q13_22 q13_23 q1_12 q14_0 ydX3_blowOff ⟨rfl, rfl⟩ ⟨by decide, by decide⟩ ⟨Nat.zero_le _, Nat.zero_le _⟩ hl.1 (Nat.le_of_ble_eq_true rfl) rfl dX3_runFlows_86 (fun H locs w => ?_)
  refine lv_aload_n hx hb dX3_runFlows_89 rfl (lv_at hl 2 rfl) ?_
  refine lv_dup hx hb dX3_runFlows_90 rfl ?_
  refine gL_X3_time hg C w q4_11 dX3_runFlows_91 ?_
  refine lv_iconst (v := (1 : Int32)) hx hb dX3_runFlows_94 (by decide) ?_
  refine lv_iadd hx hb dX3_runFlows_95 ?_
  refine pL_X3_time hg C w q4_11 dX3_runFlows_96 (fun M17 H locs e18 w => ?_)
  replace h := bnd_of h e18
  refine lv_aload_n hx hb dX3_runFlows_99 rfl (lv_at hl 2 rfl) ?_
  refine lv_dup hx hb dX3_runFlows_100 rfl ?_
  refine gL_X3_sinceRotation hg C w q4_12 dX3_runFlows_101 ?_
  refine lv_iconst (v := (1 : Int32)) hx hb dX3_runFlows_104 (by decide) ?_
  refine lv_iadd hx hb dX3_runFlows_105 ?_
  refine pL_X3_sinceRotation hg C w q4_12 dX3_runFlows_106 (fun M19 H locs e20 w => ?_)
  replace h := bnd_of h e20
  refine lv_iload_n hx hb dX3_runFlows_109 rfl (lv_at hl 1 rfl) ?_
  obtain ⟨e1, e2, e3⟩ := rt3 h
  exact x_ri C w e1 (by rw [e2]) (by rw [e3]) dX3_runFlows_110
theorem mtX3_runFlows {rr : Int32} {MR : M2} {JR : J2}  (hg : g < 6) {x1 : Int32} {x2 : Int32}  (h : fX3_runFlows F  x1 x2 M J = some (rr, MR, JR)) : MtI l yX3_runFlows wdX3_runFlows rmX3_runFlows E [.ref (ad E g 0), .int x1, .int x2] (sg G g M) (sg K g J) rr (sg G g MR) (sg K g JR) := by
  intro sz
  refine Met.ofW (cc := cX3_runFlows) (maxL := 5) (ret := (some .int)) (by decide) rfl ?_
  intro p e s m args below meth c s₁ B hml hv
  obtain ⟨rfl, C, w⟩ := Cx.of (own := RX3) B rfl hml hv
  have hl := lv_entry ([.ref (ad E g 0), .int x1, .int x2]) (n := 5) (by first | exact Nat.le_of_ble_eq_true rfl)
  rw [lg_entry_eq]
  generalize (lg_sl ([.ref (ad E g 0), .int x1, .int x2]) ++ List.replicate (5 - (lg_sl ([.ref (ad E g 0), .int x1, .int x2])).length) Slot.unset).toArray = ls at hl ⊢
  exact TX3_runFlows C hg  h w hl
theorem ydX3_runFlows : yX3_runFlows.cls = RX3 ∧ yX3_runFlows.cls ≠ "java/lang/invoke/MethodHandle" ∧ yX3_runFlows.cls ≠ "java/lang/invoke/VarHandle" ∧ (parseMethodDescriptor yX3_runFlows.desc).map (fun d => d.parameters.length) = some 2 := by decide +kernel
/-! X3.runMinute()Z -/
abbrev rmX3_runMinute : Room := { frames := 4, cells := 0, slots := 0, locals := 82 }
abbrev wdX3_runMinute : Cond := Cond.code yX3_runMinute cX3_runMinute 3 (some .boolean)
noncomputable def fbX3_runMinute_19 (F : Nat)    (M : M2) (J : J2) : Option (Int32 × M2 × J2) := (fX3_pressure M J).bind (fun vv2 => bd3 (fX3_lookAtAll F vv2 M J) (fun vv6 M4 J5 => bd3 (fX3_runFlows F vv2 (M4 1 6) M4 J5) (fun vv10 M8 J9 => chk (vv6 = 0 ∨ vv6 = 1) (some (vv6, M8, J9)))))
set_option maxRecDepth 20000 in
set_option maxHeartbeats 1000000 in
theorem TX3_runMinute_19 {rr : Int32} {MR : M2} {JR : J2}   (C : Cx E A p s m args meth c wdX3_runMinute cX3_runMinute 3 (some .boolean) RX3) (hg : g < 6)   (M : M2) (J : J2)  (h : fbX3_runMinute_19 F  M J = some (rr, MR, JR)) (w : Wd E A s (sg G g M) (sg K g J) H locs) (hl : lv_has ls 3 [(0, .ref (ad E g 0))]) : W p l e rmX3_runMinute s m args below meth c H locs 0 0 (QI E A below args s rr (sg G g MR) (sg K g JR)) (F0 m 19 ls []) := by
  obtain ⟨hx, hb, hr, hml, hown, hts, hlocks, hKK, hA1, hA2⟩ := id C
  unfold fbX3_runMinute_19 at h
  refine lv_aload_n hx hb dX3_runMinute_19 rfl (lv_at hl 0 rfl) ?_
  obtain ⟨vv2, hv1, h⟩ := bind_of h
  refine x_cVi (As := []) (rest := []) C w (vS hg (by decide)) (cel_S hg) rfl (mtX3_pressure hg hv1) q4_15 q4_16 q4_17 q1_12 q4_18 ydX3_pressure ⟨rfl, rfl⟩ ⟨by decide, by decide⟩ ⟨Nat.zero_le _, Nat.zero_le _⟩ hl.1 (Nat.le_of_ble_eq_true rfl) rfl dX3_runMinute_20 (fun H locs w => ?_)
  refine lv_istore_n (lv' := [(1, .int vv2), (0, .ref (ad E g 0))]) hx hb dX3_runMinute_23 rfl hl (by decide) rfl (fun ls hl => ?_)
  refine lv_aload_n hx hb dX3_runMinute_24 rfl (lv_at hl 1 rfl) ?_
  refine lv_iload_n hx hb dX3_runMinute_25 rfl (lv_at hl 0 rfl) ?_
  obtain ⟨vv6, M4, J5, hv3, h⟩ := bd3_of h
  refine x_cVi (As := [.int vv2]) (rest := []) C w (vS hg (by decide)) (cel_S hg) rfl (mtX3_lookAtAll hg hv3) q15_1 q15_2 q15_3 q1_12 q15_4 ydX3_lookAtAll ⟨rfl, rfl⟩ ⟨by decide, by decide⟩ ⟨Nat.zero_le _, Nat.zero_le _⟩ hl.1 (Nat.le_of_ble_eq_true rfl) rfl dX3_runMinute_26 (fun H locs w => ?_)
  refine lv_istore_n (lv' := [(2, .int vv6), (1, .int vv2), (0, .ref (ad E g 0))]) hx hb dX3_runMinute_29 rfl hl (by decide) rfl (fun ls hl => ?_)
  refine lv_aload_n hx hb dX3_runMinute_30 rfl (lv_at hl 2 rfl) ?_
  refine lv_iload_n hx hb dX3_runMinute_31 rfl (lv_at hl 1 rfl) ?_
  refine lv_aload_n hx hb dX3_runMinute_32 rfl (lv_at hl 2 rfl) ?_
  refine gR_X3_settings hg C w q2_6 dX3_runMinute_33 ?_
  refine lv_bipush (v := (6 : Int32)) hx hb dX3_runMinute_36 (by decide) ?_
  refine x_aldI_L C w (vS hg (by decide)) (cS1 hg) (inb_k (k := 6) (by decide) (by decide)) cl_6 dX3_runMinute_38 ?_
  obtain ⟨vv10, M8, J9, hv7, h⟩ := bd3_of h
  refine x_cVi (As := [.int vv2, .int (M4 1 6)]) (rest := []) C w (vS hg (by decide)) (cel_S hg) rfl (mtX3_runFlows hg hv7) q13_8 q13_9 q13_10 q1_12 q13_11 ydX3_runFlows ⟨rfl, rfl⟩ ⟨by decide, by decide⟩ ⟨Nat.zero_le _, Nat.zero_le _⟩ hl.1 (Nat.le_of_ble_eq_true rfl) rfl dX3_runMinute_39 (fun H locs w => ?_)
  refine lv_pop hx hb dX3_runMinute_42 rfl ?_
  refine lv_iload_n hx hb dX3_runMinute_43 rfl (lv_at hl 0 rfl) ?_
  obtain ⟨kb11, h⟩ := chk_of h
  obtain ⟨e1, e2, e3⟩ := rt3 h
  exact x_rz C w kb11 e1 (by rw [e2]) (by rw [e3]) dX3_runMinute_44
noncomputable def fX3_runMinute (F : Nat)   (M : M2) (J : J2) : Option (Int32 × M2 × J2) := (if (M 0 3) < (M 1 7) then (fbX3_runMinute_19 F  M J) else (bd3 (fX3_reorder F M J) (fun vv5 M3 J4 => fbX3_runMinute_19 F  M3 J4)))
set_option maxRecDepth 20000 in
set_option maxHeartbeats 1000000 in
theorem TX3_runMinute {rr : Int32} {MR : M2} {JR : J2}  (C : Cx E A p s m args meth c wdX3_runMinute cX3_runMinute 3 (some .boolean) RX3) (hg : g < 6)   (h : fX3_runMinute F  M J = some (rr, MR, JR)) (w : Wd E A s (sg G g M) (sg K g J) H locs) (hl : lv_has ls 3 [(0, .ref (ad E g 0))]) : W p l e rmX3_runMinute s m args below meth c H locs 0 0 (QI E A below args s rr (sg G g MR) (sg K g JR)) (F0 m 0 ls []) := by
  obtain ⟨hx, hb, hr, hml, hown, hts, hlocks, hKK, hA1, hA2⟩ := id C
  unfold fX3_runMinute at h
  refine lv_aload_n hx hb dX3_runMinute_0 rfl (lv_at hl 0 rfl) ?_
  refine gL_X3_sinceRotation hg C w q4_12 dX3_runMinute_1 ?_
  refine lv_aload_n hx hb dX3_runMinute_4 rfl (lv_at hl 0 rfl) ?_
  refine gR_X3_settings hg C w q2_6 dX3_runMinute_5 ?_
  refine lv_bipush (v := (7 : Int32)) hx hb dX3_runMinute_8 (by decide) ?_
  refine x_aldI_L C w (vS hg (by decide)) (cS1 hg) (inb_k (k := 7) (by decide) (by decide)) cl_7 dX3_runMinute_10 ?_
  refine lv_icmp_lt (tgt := 19) hx hb dX3_runMinute_11 (by decide) (fun c1 => ?_) (fun c1 => ?_)
  · replace h := ite_t h c1
    exact TX3_runMinute_19 C hg  _ _ h w (lv_sub hl [0] rfl)
  · replace h := ite_f h c1
    refine lv_aload_n hx hb dX3_runMinute_14 rfl (lv_at hl 0 rfl) ?_
    obtain ⟨vv5, M3, J4, hv2, h⟩ := bd3_of h
    refine x_cVi (As := []) (rest := []) C w (vS hg (by decide)) (cel_S hg) rfl (mtX3_reorder hg hv2) q13_0 q13_1 q13_2 q1_12 q13_3 ydX3_reorder ⟨rfl, rfl⟩ ⟨by decide, by decide⟩ ⟨Nat.zero_le _, Nat.zero_le _⟩ hl.1 (Nat.le_of_ble_eq_true rfl) rfl dX3_runMinute_15 (fun H locs w => ?_)
    refine lv_pop hx hb dX3_runMinute_18 rfl ?_
    exact TX3_runMinute_19 C hg  _ _ h w (lv_sub hl [0] rfl)
theorem mtX3_runMinute {rr : Int32} {MR : M2} {JR : J2}  (hg : g < 6)   (h : fX3_runMinute F  M J = some (rr, MR, JR)) : MtI l yX3_runMinute wdX3_runMinute rmX3_runMinute E [.ref (ad E g 0)] (sg G g M) (sg K g J) rr (sg G g MR) (sg K g JR) := by
  intro sz
  refine Met.ofW (cc := cX3_runMinute) (maxL := 3) (ret := (some .boolean)) (by decide) rfl ?_
  intro p e s m args below meth c s₁ B hml hv
  obtain ⟨rfl, C, w⟩ := Cx.of (own := RX3) B rfl hml hv
  have hl := lv_entry ([.ref (ad E g 0)]) (n := 3) (by first | exact Nat.le_of_ble_eq_true rfl)
  rw [lg_entry_eq]
  generalize (lg_sl ([.ref (ad E g 0)]) ++ List.replicate (3 - (lg_sl ([.ref (ad E g 0)])).length) Slot.unset).toArray = ls at hl ⊢
  exact TX3_runMinute C hg  h w hl
theorem ydX3_runMinute : yX3_runMinute.cls = RX3 ∧ yX3_runMinute.cls ≠ "java/lang/invoke/MethodHandle" ∧ yX3_runMinute.cls ≠ "java/lang/invoke/VarHandle" ∧ (parseMethodDescriptor yX3_runMinute.desc).map (fun d => d.parameters.length) = some 0 := by decide +kernel
/-! X3.runMinutes(I)V -/
abbrev rmX3_runMinutes : Room := { frames := 5, cells := 0, slots := 0, locals := 104 }
abbrev wdX3_runMinutes : Cond := Cond.code yX3_runMinutes cX3_runMinutes 3 none
noncomputable def fsX3_runMinutes_2 (F : Nat)   (k2 : Int32 → Int32 → M2 → J2 → Option (M2 × J2)) : Int32 → Int32 → M2 → J2 → Option (M2 × J2) := fun a1 a2 M J => (if a1 ≤ a2 then (some (M, J)) else (bd3 (fX3_runMinute F M J) (fun vv5 M3 J4 => k2 a1 (a2 + (1 : Int32)) M3 J4)))
noncomputable def fbX3_runMinutes_2 (F : Nat)   (n : Nat) : Int32 → Int32 → M2 → J2 → Option (M2 × J2) := itr (fsX3_runMinutes_2 F ) (fun _ _ _ _ => none) n
set_option maxRecDepth 20000 in
set_option maxHeartbeats 1000000 in
theorem SX3_runMinutes_2 {MR : M2} {JR : J2}   {k2 : Int32 → Int32 → M2 → J2 → Option (M2 × J2)} (C : Cx E A p s m args meth c wdX3_runMinutes cX3_runMinutes 3 none RX3) (hg : g < 6)  (hk2 : ∀ (a1 : Int32) (a2 : Int32) (M : M2) (J : J2)  (ls : Array Slot) (H : Heap) (locs : List Loc), k2 a1 a2 M J = some (MR, JR) → Wd E A s (sg G g M) (sg K g J) H locs → lv_has ls 3 [(0, .ref (ad E g 0)), (1, .int a1), (2, .int a2)] → W p l e rmX3_runMinutes s m args below meth c H locs 0 0 (QV E A below args s  (sg G g MR) (sg K g JR)) (F0 m 2 ls [])) (a1 : Int32) (a2 : Int32) (M : M2) (J : J2)  (h : fsX3_runMinutes_2 F  k2 a1 a2 M J = some (MR, JR)) (w : Wd E A s (sg G g M) (sg K g J) H locs) (hl : lv_has ls 3 [(0, .ref (ad E g 0)), (1, .int a1), (2, .int a2)]) : W p l e rmX3_runMinutes s m args below meth c H locs 0 0 (QV E A below args s  (sg G g MR) (sg K g JR)) (F0 m 2 ls []) := by
  obtain ⟨hx, hb, hr, hml, hown, hts, hlocks, hKK, hA1, hA2⟩ := id C
  unfold fsX3_runMinutes_2 at h
  refine lv_iload_n hx hb dX3_runMinutes_2 rfl (lv_at hl 2 rfl) ?_
  refine lv_iload_n hx hb dX3_runMinutes_3 rfl (lv_at hl 1 rfl) ?_
  refine lv_icmp_ge (tgt := 18) hx hb dX3_runMinutes_4 (by decide) (fun c1 => ?_) (fun c1 => ?_)
  · replace h := ite_t h c1
    obtain ⟨e2, e3⟩ := rt2 h
    exact x_rv C w (by rw [e2]) (by rw [e3]) dX3_runMinutes_18
  · replace h := ite_f h c1
    refine lv_aload_n hx hb dX3_runMinutes_7 rfl (lv_at hl 0 rfl) ?_
    obtain ⟨vv5, M3, J4, hv2, h⟩ := bd3_of h
    refine x_cVi (As := []) (rest := []) C w (vS hg (by decide)) (cel_S hg) rfl (mtX3_runMinute hg hv2) q14_21 q14_22 q14_23 q1_12 q15_0 ydX3_runMinute ⟨rfl, rfl⟩ ⟨by decide, by decide⟩ ⟨Nat.zero_le _, Nat.zero_le _⟩ hl.1 (Nat.le_of_ble_eq_true rfl) rfl dX3_runMinutes_8 (fun H locs w => ?_)
    refine lv_pop hx hb dX3_runMinutes_11 rfl ?_
    refine lv_iinc (v := (a2 + (1 : Int32))) (lv' := [(2, .int (a2 + (1 : Int32))), (0, .ref (ad E g 0)), (1, .int a1)]) hx hb dX3_runMinutes_12 hl (k := 2) rfl (congrArg (HAdd.hAdd _) (by decide)) (by decide) rfl (fun ls hl => ?_)
    refine lv_goto (tgt := 2) hx hb dX3_runMinutes_15 (by decide) ?_
    exact hk2 _ _ _ _ _ _ _ h w (lv_sub hl [1, 2, 0] rfl)
theorem TX3_runMinutes_2 {MR : M2} {JR : J2}   (C : Cx E A p s m args meth c wdX3_runMinutes cX3_runMinutes 3 none RX3) (hg : g < 6)  : ∀ (n : Nat) (a1 : Int32) (a2 : Int32) (M : M2) (J : J2)  (ls : Array Slot) (H : Heap) (locs : List Loc), fbX3_runMinutes_2 F  n a1 a2 M J = some (MR, JR) → Wd E A s (sg G g M) (sg K g J) H locs → lv_has ls 3 [(0, .ref (ad E g 0)), (1, .int a1), (2, .int a2)] → W p l e rmX3_runMinutes s m args below meth c H locs 0 0 (QV E A below args s  (sg G g MR) (sg K g JR)) (F0 m 2 ls []) := by
  intro n
  induction n with
  | zero => intro a1 a2 M J  ls H locs h; exact absurd (show none = _ from h) (fun z => nomatch z)
  | succ n ih => intro a1 a2 M J  ls H locs h w hl; exact SX3_runMinutes_2 (F := F) C hg  ih a1 a2 M J  h w hl
noncomputable def fX3_runMinutes (F : Nat)  (x1 : Int32) (M : M2) (J : J2) : Option (M2 × J2) := fbX3_runMinutes_2 F F x1 (0 : Int32) M J
set_option maxRecDepth 20000 in
set_option maxHeartbeats 1000000 in
theorem TX3_runMinutes {MR : M2} {JR : J2}  (C : Cx E A p s m args meth c wdX3_runMinutes cX3_runMinutes 3 none RX3) (hg : g < 6) {x1 : Int32}  (h : fX3_runMinutes F  x1 M J = some (MR, JR)) (w : Wd E A s (sg G g M) (sg K g J) H locs) (hl : lv_has ls 3 [(0, .ref (ad E g 0)), (1, .int x1)]) : W p l e rmX3_runMinutes s m args below meth c H locs 0 0 (QV E A below args s  (sg G g MR) (sg K g JR)) (F0 m 0 ls []) := by
  obtain ⟨hx, hb, hr, hml, hown, hts, hlocks, hKK, hA1, hA2⟩ := id C
  unfold fX3_runMinutes at h
  refine lv_iconst (v := (0 : Int32)) hx hb dX3_runMinutes_0 (by decide) ?_
  refine lv_istore_n (lv' := [(2, .int (0 : Int32)), (0, .ref (ad E g 0)), (1, .int x1)]) hx hb dX3_runMinutes_1 rfl hl (by decide) rfl (fun ls hl => ?_)
  exact TX3_runMinutes_2 C hg  _ _ _ _ _ _ _ _ h w (lv_sub hl [1, 2, 0] rfl)
theorem mtX3_runMinutes {MR : M2} {JR : J2}  (hg : g < 6) {x1 : Int32}  (h : fX3_runMinutes F  x1 M J = some (MR, JR)) : MtV l yX3_runMinutes wdX3_runMinutes rmX3_runMinutes E [.ref (ad E g 0), .int x1] (sg G g M) (sg K g J)  (sg G g MR) (sg K g JR) := by
  intro sz
  refine Met.ofW (cc := cX3_runMinutes) (maxL := 3) (ret := none) (by decide) rfl ?_
  intro p e s m args below meth c s₁ B hml hv
  obtain ⟨rfl, C, w⟩ := Cx.of (own := RX3) B rfl hml hv
  have hl := lv_entry ([.ref (ad E g 0), .int x1]) (n := 3) (by first | exact Nat.le_of_ble_eq_true rfl)
  rw [lg_entry_eq]
  generalize (lg_sl ([.ref (ad E g 0), .int x1]) ++ List.replicate (3 - (lg_sl ([.ref (ad E g 0), .int x1])).length) Slot.unset).toArray = ls at hl ⊢
  exact TX3_runMinutes C hg  h w hl
theorem ydX3_runMinutes : yX3_runMinutes.cls = RX3 ∧ yX3_runMinutes.cls ≠ "java/lang/invoke/MethodHandle" ∧ yX3_runMinutes.cls ≠ "java/lang/invoke/VarHandle" ∧ (parseMethodDescriptor yX3_runMinutes.desc).map (fun d => d.parameters.length) = some 1 := by decide +kernel
/-! X3.unloadAll()V -/
abbrev rmX3_unloadAll : Room := { frames := 2, cells := 0, slots := 0, locals := 33 }
abbrev wdX3_unloadAll : Cond := Cond.code yX3_unloadAll cX3_unloadAll 3 none
noncomputable def fbX3_unloadAll_29 (F : Nat) (k2 : Int32 → M2 → J2 → Option (M2 × J2))  (a1 : Int32) (M : M2) (J : J2) : Option (M2 × J2) := k2 (a1 + (1 : Int32)) M J
set_option maxRecDepth 20000 in
set_option maxHeartbeats 1000000 in
theorem TX3_unloadAll_29 {MR : M2} {JR : J2}  {k2 : Int32 → M2 → J2 → Option (M2 × J2)} (C : Cx E A p s m args meth c wdX3_unloadAll cX3_unloadAll 3 none RX3) (hg : g < 6) (hk2 : ∀ (a1 : Int32) (M : M2) (J : J2)  (ls : Array Slot) (H : Heap) (locs : List Loc), k2 a1 M J = some (MR, JR) → Wd E A s (sg G g M) (sg K g J) H locs → lv_has ls 3 [(0, .ref (ad E g 0)), (1, .int a1)] → W p l e rmX3_unloadAll s m args below meth c H locs 0 0 (QV E A below args s  (sg G g MR) (sg K g JR)) (F0 m 2 ls [])) (a1 : Int32) (M : M2) (J : J2)  (h : fbX3_unloadAll_29 F k2 a1 M J = some (MR, JR)) (w : Wd E A s (sg G g M) (sg K g J) H locs) (hl : lv_has ls 3 [(0, .ref (ad E g 0)), (1, .int a1)]) : W p l e rmX3_unloadAll s m args below meth c H locs 0 0 (QV E A below args s  (sg G g MR) (sg K g JR)) (F0 m 29 ls []) := by
  obtain ⟨hx, hb, hr, hml, hown, hts, hlocks, hKK, hA1, hA2⟩ := id C
  unfold fbX3_unloadAll_29 at h
  refine lv_iinc (v := (a1 + (1 : Int32))) (lv' := [(1, .int (a1 + (1 : Int32))), (0, .ref (ad E g 0))]) hx hb dX3_unloadAll_29 hl (k := 1) rfl (congrArg (HAdd.hAdd _) (by decide)) (by decide) rfl (fun ls hl => ?_)
  refine lv_goto (tgt := 2) hx hb dX3_unloadAll_32 (by decide) ?_
  exact hk2 _ _ _ _ _ _ h w (lv_sub hl [1, 0] rfl)
noncomputable def fsX3_unloadAll_2 (F : Nat)   (k2 : Int32 → M2 → J2 → Option (M2 × J2)) : Int32 → M2 → J2 → Option (M2 × J2) := fun a1 M J => (if (5 : Int32) ≤ a1 then (some (M, J)) else ((fX3_numbered M J a1).bind (fun vv3 => oc vv3 (fbX3_unloadAll_29 F k2 a1 M J) (fun z4 => chk (isC z4) ((if ¬ (M z4 1) = (1 : Int32) then (fbX3_unloadAll_29 F k2 a1 M J) else (bd2 (fX0_unload z4 M J) (fun M7 J8 => fbX3_unloadAll_29 F k2 a1 M7 J8))))))))
noncomputable def fbX3_unloadAll_2 (F : Nat)   (n : Nat) : Int32 → M2 → J2 → Option (M2 × J2) := itr (fsX3_unloadAll_2 F ) (fun _ _ _ => none) n
set_option maxRecDepth 20000 in
set_option maxHeartbeats 1000000 in
theorem SX3_unloadAll_2 {MR : M2} {JR : J2}   {k2 : Int32 → M2 → J2 → Option (M2 × J2)} (C : Cx E A p s m args meth c wdX3_unloadAll cX3_unloadAll 3 none RX3) (hg : g < 6)  (hk2 : ∀ (a1 : Int32) (M : M2) (J : J2)  (ls : Array Slot) (H : Heap) (locs : List Loc), k2 a1 M J = some (MR, JR) → Wd E A s (sg G g M) (sg K g J) H locs → lv_has ls 3 [(0, .ref (ad E g 0)), (1, .int a1)] → W p l e rmX3_unloadAll s m args below meth c H locs 0 0 (QV E A below args s  (sg G g MR) (sg K g JR)) (F0 m 2 ls [])) (a1 : Int32) (M : M2) (J : J2)  (h : fsX3_unloadAll_2 F  k2 a1 M J = some (MR, JR)) (w : Wd E A s (sg G g M) (sg K g J) H locs) (hl : lv_has ls 3 [(0, .ref (ad E g 0)), (1, .int a1)]) : W p l e rmX3_unloadAll s m args below meth c H locs 0 0 (QV E A below args s  (sg G g MR) (sg K g JR)) (F0 m 2 ls []) := by
  obtain ⟨hx, hb, hr, hml, hown, hts, hlocks, hKK, hA1, hA2⟩ := id C
  unfold fsX3_unloadAll_2 at h
  refine lv_iload_n hx hb dX3_unloadAll_2 rfl (lv_at hl 1 rfl) ?_
  refine lv_iconst (v := (5 : Int32)) hx hb dX3_unloadAll_3 (by decide) ?_
  refine lv_icmp_ge (tgt := 35) hx hb dX3_unloadAll_4 (by decide) (fun c1 => ?_) (fun c1 => ?_)
  · replace h := ite_t h c1
    obtain ⟨e2, e3⟩ := rt2 h
    exact x_rv C w (by rw [e2]) (by rw [e3]) dX3_unloadAll_35
  · replace h := ite_f h c1
    refine lv_aload_n hx hb dX3_unloadAll_7 rfl (lv_at hl 0 rfl) ?_
    refine lv_iload_n hx hb dX3_unloadAll_8 rfl (lv_at hl 1 rfl) ?_
    obtain ⟨vv3, hv2, h⟩ := bind_of h
    refine x_cVq (As := [.int a1]) (rest := []) C w (vS hg (by decide)) (cel_S hg) rfl (mtX3_numbered hg hv2) q5_2 q5_3 q5_4 q1_12 q5_5 ydX3_numbered ⟨rfl, rfl⟩ ⟨by decide, by decide⟩ ⟨Nat.zero_le _, Nat.zero_le _⟩ hl.1 (Nat.le_of_ble_eq_true rfl) rfl dX3_unloadAll_9 (fun H locs w => ?_)
    cases vv3 with
    | none =>
      replace h := oc_n h
      refine lv_astore_nN (lv' := [(2, .null), (0, .ref (ad E g 0)), (1, .int a1)]) hx hb dX3_unloadAll_12 rfl hl (by decide) rfl (fun ls hl => ?_)
      refine lv_aload_nN hx hb dX3_unloadAll_13 rfl (lv_at hl 0 rfl) ?_
      refine lv_ifnullN (tgt := 29) hx hb dX3_unloadAll_14 (by decide) ?_
      exact TX3_unloadAll_29 C hg hk2 _ _ _ h w (lv_sub hl [1, 2] rfl)
    | some z4 =>
      replace h := oc_s h
      obtain ⟨hz4, h⟩ := chk_of h
      refine lv_astore_n (lv' := [(2, .ref (ad E g z4)), (0, .ref (ad E g 0)), (1, .int a1)]) hx hb dX3_unloadAll_12 rfl hl (by decide) rfl (fun ls hl => ?_)
      refine lv_aload_n hx hb dX3_unloadAll_13 rfl (lv_at hl 0 rfl) ?_
      refine lv_ifnull hx hb dX3_unloadAll_14 ?_
      refine lv_aload_n hx hb dX3_unloadAll_17 rfl (lv_at hl 0 rfl) ?_
      refine gL_X0_mode hg hz4 C w q5_1 dX3_unloadAll_18 ?_
      refine lv_iconst (v := (1 : Int32)) hx hb dX3_unloadAll_21 (by decide) ?_
      refine lv_icmp_ne (tgt := 29) hx hb dX3_unloadAll_22 (by decide) (fun c5 => ?_) (fun c5 => ?_)
      · replace h := ite_t h c5
        exact TX3_unloadAll_29 C hg hk2 _ _ _ h w (lv_sub hl [1, 2] rfl)
      · replace h := ite_f h (fun z => z c5)
        refine lv_aload_n hx hb dX3_unloadAll_25 rfl (lv_at hl 0 rfl) ?_
        obtain ⟨M7, J8, hv6, h⟩ := bd2_of h
        refine x_cVv (As := []) (rest := []) C w (vC hg hz4) (cel_C hg hz4.1) rfl (mtX0_unload hg hz4 hv6) q12_20 q12_21 q12_22 q2_17 q12_23 ydX0_unload ⟨rfl, rfl⟩ ⟨by decide, by decide⟩ ⟨Nat.zero_le _, Nat.zero_le _⟩ hl.1 (Nat.le_of_ble_eq_true rfl) rfl dX3_unloadAll_26 (fun H locs w => ?_)
        exact TX3_unloadAll_29 C hg hk2 _ _ _ h w (lv_sub hl [1, 2] rfl)
theorem TX3_unloadAll_2 {MR : M2} {JR : J2}   (C : Cx E A p s m args meth c wdX3_unloadAll cX3_unloadAll 3 none RX3) (hg : g < 6)  : ∀ (n : Nat) (a1 : Int32) (M : M2) (J : J2)  (ls : Array Slot) (H : Heap) (locs : List Loc), fbX3_unloadAll_2 F  n a1 M J = some (MR, JR) → Wd E A s (sg G g M) (sg K g J) H locs → lv_has ls 3 [(0, .ref (ad E g 0)), (1, .int a1)] → W p l e rmX3_unloadAll s m args below meth c H locs 0 0 (QV E A below args s  (sg G g MR) (sg K g JR)) (F0 m 2 ls []) := by
  intro n
  induction n with
  | zero => intro a1 M J  ls H locs h; exact absurd (show none = _ from h) (fun z => nomatch z)
  | succ n ih => intro a1 M J  ls H locs h w hl; exact SX3_unloadAll_2 (F := F) C hg  ih a1 M J  h w hl
noncomputable def fX3_unloadAll (F : Nat)   (M : M2) (J : J2) : Option (M2 × J2) := fbX3_unloadAll_2 F F (0 : Int32) M J
set_option maxRecDepth 20000 in
set_option maxHeartbeats 1000000 in
theorem TX3_unloadAll {MR : M2} {JR : J2}  (C : Cx E A p s m args meth c wdX3_unloadAll cX3_unloadAll 3 none RX3) (hg : g < 6)   (h : fX3_unloadAll F  M J = some (MR, JR)) (w : Wd E A s (sg G g M) (sg K g J) H locs) (hl : lv_has ls 3 [(0, .ref (ad E g 0))]) : W p l e rmX3_unloadAll s m args below meth c H locs 0 0 (QV E A below args s  (sg G g MR) (sg K g JR)) (F0 m 0 ls []) := by
  obtain ⟨hx, hb, hr, hml, hown, hts, hlocks, hKK, hA1, hA2⟩ := id C
  unfold fX3_unloadAll at h
  refine lv_iconst (v := (0 : Int32)) hx hb dX3_unloadAll_0 (by decide) ?_
  refine lv_istore_n (lv' := [(1, .int (0 : Int32)), (0, .ref (ad E g 0))]) hx hb dX3_unloadAll_1 rfl hl (by decide) rfl (fun ls hl => ?_)
  exact TX3_unloadAll_2 C hg  _ _ _ _ _ _ _ h w (lv_sub hl [1, 0] rfl)
theorem mtX3_unloadAll {MR : M2} {JR : J2}  (hg : g < 6)   (h : fX3_unloadAll F  M J = some (MR, JR)) : MtV l yX3_unloadAll wdX3_unloadAll rmX3_unloadAll E [.ref (ad E g 0)] (sg G g M) (sg K g J)  (sg G g MR) (sg K g JR) := by
  intro sz
  refine Met.ofW (cc := cX3_unloadAll) (maxL := 3) (ret := none) (by decide) rfl ?_
  intro p e s m args below meth c s₁ B hml hv
  obtain ⟨rfl, C, w⟩ := Cx.of (own := RX3) B rfl hml hv
  have hl := lv_entry ([.ref (ad E g 0)]) (n := 3) (by first | exact Nat.le_of_ble_eq_true rfl)
  rw [lg_entry_eq]
  generalize (lg_sl ([.ref (ad E g 0)]) ++ List.replicate (3 - (lg_sl ([.ref (ad E g 0)])).length) Slot.unset).toArray = ls at hl ⊢
  exact TX3_unloadAll C hg  h w hl
theorem ydX3_unloadAll : yX3_unloadAll.cls = RX3 ∧ yX3_unloadAll.cls ≠ "java/lang/invoke/MethodHandle" ∧ yX3_unloadAll.cls ≠ "java/lang/invoke/VarHandle" ∧ (parseMethodDescriptor yX3_unloadAll.desc).map (fun d => d.parameters.length) = some 0 := by decide +kernel
/-! X3.keepResult(I)V -/
abbrev rmX3_keepResult : Room := { frames := 1, cells := 0, slots := 0, locals := 21 }
abbrev wdX3_keepResult : Cond := Cond.code yX3_keepResult cX3_keepResult 3 none
noncomputable def fsX3_keepResult_2 (F : Nat)   (k2 : Int32 → Int32 → M2 → J2 → Option (M2 × J2)) : Int32 → Int32 → M2 → J2 → Option (M2 × J2) := fun a1 a2 M J => (if a2 ≤ 0 then (bnd (up2 M 3 0 a1) (fun M2 => bnd (up2 M2 0 6 (if (6 : Int32) < ((M2 0 6) + (1 : Int32)) then (6 : Int32) else ((M2 0 6) + (1 : Int32)))) (fun M4 => some (M4, J)))) else (chk (inb (a2 - (1 : Int32)) 6) (chk (inb a2 6) (bnd (up2 M 3 (a2.toNatClampNeg) (M 3 (a2 - (1 : Int32)).toNatClampNeg)) (fun M8 => k2 a1 (a2 + (-1 : Int32)) M8 J)))))
noncomputable def fbX3_keepResult_2 (F : Nat)   (n : Nat) : Int32 → Int32 → M2 → J2 → Option (M2 × J2) := itr (fsX3_keepResult_2 F ) (fun _ _ _ _ => none) n
set_option maxRecDepth 20000 in
set_option maxHeartbeats 1000000 in
theorem SX3_keepResult_2 {MR : M2} {JR : J2}   {k2 : Int32 → Int32 → M2 → J2 → Option (M2 × J2)} (C : Cx E A p s m args meth c wdX3_keepResult cX3_keepResult 3 none RX3) (hg : g < 6)  (hk2 : ∀ (a1 : Int32) (a2 : Int32) (M : M2) (J : J2)  (ls : Array Slot) (H : Heap) (locs : List Loc), k2 a1 a2 M J = some (MR, JR) → Wd E A s (sg G g M) (sg K g J) H locs → lv_has ls 3 [(0, .ref (ad E g 0)), (1, .int a1), (2, .int a2)] → W p l e rmX3_keepResult s m args below meth c H locs 0 0 (QV E A below args s  (sg G g MR) (sg K g JR)) (F0 m 2 ls [])) (a1 : Int32) (a2 : Int32) (M : M2) (J : J2)  (h : fsX3_keepResult_2 F  k2 a1 a2 M J = some (MR, JR)) (w : Wd E A s (sg G g M) (sg K g J) H locs) (hl : lv_has ls 3 [(0, .ref (ad E g 0)), (1, .int a1), (2, .int a2)]) : W p l e rmX3_keepResult s m args below meth c H locs 0 0 (QV E A below args s  (sg G g MR) (sg K g JR)) (F0 m 2 ls []) := by
  obtain ⟨hx, hb, hr, hml, hown, hts, hlocks, hKK, hA1, hA2⟩ := id C
  unfold fsX3_keepResult_2 at h
  refine lv_iload_n hx hb dX3_keepResult_2 rfl (lv_at hl 2 rfl) ?_
  refine lv_if_le (tgt := 26) hx hb dX3_keepResult_3 (by decide) (fun c1 => ?_) (fun c1 => ?_)
  · replace h := ite_t h c1
    refine lv_aload_n hx hb dX3_keepResult_26 rfl (lv_at hl 0 rfl) ?_
    refine gR_X3_results hg C w q2_9 dX3_keepResult_27 ?_
    refine lv_iconst (v := (0 : Int32)) hx hb dX3_keepResult_30 (by decide) ?_
    refine lv_iload_n hx hb dX3_keepResult_31 rfl (lv_at hl 1 rfl) ?_
    refine x_astI_L C w (vS hg (by decide)) (cS3 hg) (inb_k (k := 0) (by decide) (by decide)) cl_0 dX3_keepResult_32 (fun M2 H locs e3 w => ?_)
    replace h := bnd_of h e3
    refine lv_aload_n hx hb dX3_keepResult_33 rfl (lv_at hl 0 rfl) ?_
    refine lv_aload_n hx hb dX3_keepResult_34 rfl (lv_at hl 0 rfl) ?_
    refine gL_X3_kept hg C w q4_14 dX3_keepResult_35 ?_
    refine lv_iconst (v := (1 : Int32)) hx hb dX3_keepResult_38 (by decide) ?_
    refine lv_iadd hx hb dX3_keepResult_39 ?_
    refine lv_bipush (v := (6 : Int32)) hx hb dX3_keepResult_40 (by decide) ?_
    refine x_min C hl.1 q13_12 q9_8 q9_9 q9_10 (by decide) (show _ ≤ _ from Nat.le_of_ble_eq_true rfl) (Nat.zero_le _) (Nat.zero_le _) dX3_keepResult_42 ?_
    refine pL_X3_kept hg C w q4_14 dX3_keepResult_45 (fun M4 H locs e5 w => ?_)
    replace h := bnd_of h e5
    obtain ⟨e2, e3⟩ := rt2 h
    exact x_rv C w (by rw [e2]) (by rw [e3]) dX3_keepResult_48
  · replace h := ite_f h c1
    refine lv_aload_n hx hb dX3_keepResult_6 rfl (lv_at hl 0 rfl) ?_
    refine gR_X3_results hg C w q2_9 dX3_keepResult_7 ?_
    refine lv_iload_n hx hb dX3_keepResult_10 rfl (lv_at hl 2 rfl) ?_
    refine lv_aload_n hx hb dX3_keepResult_11 rfl (lv_at hl 0 rfl) ?_
    refine gR_X3_results hg C w q2_9 dX3_keepResult_12 ?_
    refine lv_iload_n hx hb dX3_keepResult_15 rfl (lv_at hl 2 rfl) ?_
    refine lv_iconst (v := (1 : Int32)) hx hb dX3_keepResult_16 (by decide) ?_
    refine lv_isub hx hb dX3_keepResult_17 ?_
    obtain ⟨ki6, h⟩ := chk_of h
    refine x_aldI_L C w (vS hg (by decide)) (cS3 hg) ki6 rfl dX3_keepResult_18 ?_
    obtain ⟨ki7, h⟩ := chk_of h
    refine x_astI_L C w (vS hg (by decide)) (cS3 hg) ki7 rfl dX3_keepResult_19 (fun M8 H locs e9 w => ?_)
    replace h := bnd_of h e9
    refine lv_iinc (v := (a2 + (-1 : Int32))) (lv' := [(2, .int (a2 + (-1 : Int32))), (0, .ref (ad E g 0)), (1, .int a1)]) hx hb dX3_keepResult_20 hl (k := 2) rfl (congrArg (HAdd.hAdd _) (by decide)) (by decide) rfl (fun ls hl => ?_)
    refine lv_goto (tgt := 2) hx hb dX3_keepResult_23 (by decide) ?_
    exact hk2 _ _ _ _ _ _ _ h w (lv_sub hl [1, 2, 0] rfl)
theorem TX3_keepResult_2 {MR : M2} {JR : J2}   (C : Cx E A p s m args meth c wdX3_keepResult cX3_keepResult 3 none RX3) (hg : g < 6)  : ∀ (n : Nat) (a1 : Int32) (a2 : Int32) (M : M2) (J : J2)  (ls : Array Slot) (H : Heap) (locs : List Loc), fbX3_keepResult_2 F  n a1 a2 M J = some (MR, JR) → Wd E A s (sg G g M) (sg K g J) H locs → lv_has ls 3 [(0, .ref (ad E g 0)), (1, .int a1), (2, .int a2)] → W p l e rmX3_keepResult s m args below meth c H locs 0 0 (QV E A below args s  (sg G g MR) (sg K g JR)) (F0 m 2 ls []) := by
  intro n
  induction n with
  | zero => intro a1 a2 M J  ls H locs h; exact absurd (show none = _ from h) (fun z => nomatch z)
  | succ n ih => intro a1 a2 M J  ls H locs h w hl; exact SX3_keepResult_2 (F := F) C hg  ih a1 a2 M J  h w hl
noncomputable def fX3_keepResult (F : Nat)  (x1 : Int32) (M : M2) (J : J2) : Option (M2 × J2) := fbX3_keepResult_2 F F x1 (5 : Int32) M J
set_option maxRecDepth 20000 in
set_option maxHeartbeats 1000000 in
theorem TX3_keepResult {MR : M2} {JR : J2}  (C : Cx E A p s m args meth c wdX3_keepResult cX3_keepResult 3 none RX3) (hg : g < 6) {x1 : Int32}  (h : fX3_keepResult F  x1 M J = some (MR, JR)) (w : Wd E A s (sg G g M) (sg K g J) H locs) (hl : lv_has ls 3 [(0, .ref (ad E g 0)), (1, .int x1)]) : W p l e rmX3_keepResult s m args below meth c H locs 0 0 (QV E A below args s  (sg G g MR) (sg K g JR)) (F0 m 0 ls []) := by
  obtain ⟨hx, hb, hr, hml, hown, hts, hlocks, hKK, hA1, hA2⟩ := id C
  unfold fX3_keepResult at h
  refine lv_iconst (v := (5 : Int32)) hx hb dX3_keepResult_0 (by decide) ?_
  refine lv_istore_n (lv' := [(2, .int (5 : Int32)), (0, .ref (ad E g 0)), (1, .int x1)]) hx hb dX3_keepResult_1 rfl hl (by decide) rfl (fun ls hl => ?_)
  exact TX3_keepResult_2 C hg  _ _ _ _ _ _ _ _ h w (lv_sub hl [1, 2, 0] rfl)
theorem mtX3_keepResult {MR : M2} {JR : J2}  (hg : g < 6) {x1 : Int32}  (h : fX3_keepResult F  x1 M J = some (MR, JR)) : MtV l yX3_keepResult wdX3_keepResult rmX3_keepResult E [.ref (ad E g 0), .int x1] (sg G g M) (sg K g J)  (sg G g MR) (sg K g JR) := by
  intro sz
  refine Met.ofW (cc := cX3_keepResult) (maxL := 3) (ret := none) (by decide) rfl ?_
  intro p e s m args below meth c s₁ B hml hv
  obtain ⟨rfl, C, w⟩ := Cx.of (own := RX3) B rfl hml hv
  have hl := lv_entry ([.ref (ad E g 0), .int x1]) (n := 3) (by first | exact Nat.le_of_ble_eq_true rfl)
  rw [lg_entry_eq]
  generalize (lg_sl ([.ref (ad E g 0), .int x1]) ++ List.replicate (3 - (lg_sl ([.ref (ad E g 0), .int x1])).length) Slot.unset).toArray = ls at hl ⊢
  exact TX3_keepResult C hg  h w hl
theorem ydX3_keepResult : yX3_keepResult.cls = RX3 ∧ yX3_keepResult.cls ≠ "java/lang/invoke/MethodHandle" ∧ yX3_keepResult.cls ≠ "java/lang/invoke/VarHandle" ∧ (parseMethodDescriptor yX3_keepResult.desc).map (fun d => d.parameters.length) = some 1 := by decide +kernel
/-! X3.runLeakTest(I)I -/
abbrev rmX3_runLeakTest : Room := { frames := 4, cells := 0, slots := 0, locals := 82 }
abbrev wdX3_runLeakTest : Cond := Cond.code yX3_runLeakTest cX3_runLeakTest 4 (some .int)
noncomputable def fbX3_runLeakTest_32 (F : Nat) (k8 : Int32 → Int32 → Int32 → M2 → J2 → Option (Int32 × M2 × J2))  (a1 : Int32) (a2 : Int32) (a3 : Int32) (M : M2) (J : J2) : Option (Int32 × M2 × J2) := (fX3_pressure M J).bind (fun vv2 => bd3 (fX3_runFlows F vv2 (0 : Int32) M J) (fun vv6 M4 J5 => k8 a1 (a2 + vv6) (a3 + (1 : Int32)) M4 J5))
set_option maxRecDepth 20000 in
set_option maxHeartbeats 1000000 in
theorem TX3_runLeakTest_32 {rr : Int32} {MR : M2} {JR : J2}  {k8 : Int32 → Int32 → Int32 → M2 → J2 → Option (Int32 × M2 × J2)} (C : Cx E A p s m args meth c wdX3_runLeakTest cX3_runLeakTest 4 (some .int) RX3) (hg : g < 6) (hk8 : ∀ (a1 : Int32) (a2 : Int32) (a3 : Int32) (M : M2) (J : J2)  (ls : Array Slot) (H : Heap) (locs : List Loc), k8 a1 a2 a3 M J = some (rr, MR, JR) → Wd E A s (sg G g M) (sg K g J) H locs → lv_has ls 4 [(0, .ref (ad E g 0)), (1, .int a1), (2, .int a2), (3, .int a3)] → W p l e rmX3_runLeakTest s m args below meth c H locs 0 0 (QI E A below args s rr (sg G g MR) (sg K g JR)) (F0 m 8 ls [])) (a1 : Int32) (a2 : Int32) (a3 : Int32) (M : M2) (J : J2)  (h : fbX3_runLeakTest_32 F k8 a1 a2 a3 M J = some (rr, MR, JR)) (w : Wd E A s (sg G g M) (sg K g J) H locs) (hl : lv_has ls 4 [(0, .ref (ad E g 0)), (1, .int a1), (2, .int a2), (3, .int a3)]) : W p l e rmX3_runLeakTest s m args below meth c H locs 0 0 (QI E A below args s rr (sg G g MR) (sg K g JR)) (F0 m 32 ls []) := by
  obtain ⟨hx, hb, hr, hml, hown, hts, hlocks, hKK, hA1, hA2⟩ := id C
  unfold fbX3_runLeakTest_32 at h
  refine lv_iload_n hx hb dX3_runLeakTest_32 rfl (lv_at hl 2 rfl) ?_
  refine lv_aload_n hx hb dX3_runLeakTest_33 rfl (lv_at hl 0 rfl) ?_
  refine lv_aload_n hx hb dX3_runLeakTest_34 rfl (lv_at hl 0 rfl) ?_
  obtain ⟨vv2, hv1, h⟩ := bind_of h
  refine x_cVi (As := []) (rest := [.ref (ad E g 0), .int a2]) C w (vS hg (by decide)) (cel_S hg) rfl (mtX3_pressure hg hv1) q4_15 q4_16 q4_17 q1_12 q4_18 ydX3_pressure ⟨rfl, rfl⟩ ⟨by decide, by decide⟩ ⟨Nat.zero_le _, Nat.zero_le _⟩ hl.1 (Nat.le_of_ble_eq_true rfl) rfl dX3_runLeakTest_35 (fun H locs w => ?_)
  refine lv_iconst (v := (0 : Int32)) hx hb dX3_runLeakTest_38 (by decide) ?_
  obtain ⟨vv6, M4, J5, hv3, h⟩ := bd3_of h
  refine x_cVi (As := [.int vv2, .int (0 : Int32)]) (rest := [.int a2]) C w (vS hg (by decide)) (cel_S hg) rfl (mtX3_runFlows hg hv3) q13_8 q13_9 q13_10 q1_12 q13_11 ydX3_runFlows ⟨rfl, rfl⟩ ⟨by decide, by decide⟩ ⟨Nat.zero_le _, Nat.zero_le _⟩ hl.1 (Nat.le_of_ble_eq_true rfl) rfl dX3_runLeakTest_39 (fun H locs w => ?_)
  refine lv_iadd hx hb dX3_runLeakTest_42 ?_
  refine lv_istore_n (lv' := [(2, .int (a2 + vv6)), (0, .ref (ad E g 0)), (1, .int a1), (3, .int a3)]) hx hb dX3_runLeakTest_43 rfl hl (by decide) rfl (fun ls hl => ?_)
  refine lv_iinc (v := (a3 + (1 : Int32))) (lv' := [(3, .int (a3 + (1 : Int32))), (2, .int (a2 + vv6)), (0, .ref (ad E g 0)), (1, .int a1)]) hx hb dX3_runLeakTest_44 hl (k := 3) rfl (congrArg (HAdd.hAdd _) (by decide)) (by decide) rfl (fun ls hl => ?_)
  refine lv_goto (tgt := 8) hx hb dX3_runLeakTest_47 (by decide) ?_
  exact hk8 _ _ _ _ _ _ _ _ h w (lv_sub hl [2, 3, 1, 0] rfl)
noncomputable def fsX3_runLeakTest_8 (F : Nat)   (k8 : Int32 → Int32 → Int32 → M2 → J2 → Option (Int32 × M2 × J2)) : Int32 → Int32 → Int32 → M2 → J2 → Option (Int32 × M2 × J2) := fun a1 a2 a3 M J => (if a1 ≤ a3 then (bd2 (fX3_keepResult F a2 M J) (fun M3 J4 => some (a2, M3, J4))) else ((if (M 0 3) < (M 1 7) then (fbX3_runLeakTest_32 F k8 a1 a2 a3 M J) else (bd3 (fX3_reorder F M J) (fun vv9 M7 J8 => fbX3_runLeakTest_32 F k8 a1 a2 a3 M7 J8)))))
noncomputable def fbX3_runLeakTest_8 (F : Nat)   (n : Nat) : Int32 → Int32 → Int32 → M2 → J2 → Option (Int32 × M2 × J2) := itr (fsX3_runLeakTest_8 F ) (fun _ _ _ _ _ => none) n
set_option maxRecDepth 20000 in
set_option maxHeartbeats 1000000 in
theorem SX3_runLeakTest_8 {rr : Int32} {MR : M2} {JR : J2}   {k8 : Int32 → Int32 → Int32 → M2 → J2 → Option (Int32 × M2 × J2)} (C : Cx E A p s m args meth c wdX3_runLeakTest cX3_runLeakTest 4 (some .int) RX3) (hg : g < 6)  (hk8 : ∀ (a1 : Int32) (a2 : Int32) (a3 : Int32) (M : M2) (J : J2)  (ls : Array Slot) (H : Heap) (locs : List Loc), k8 a1 a2 a3 M J = some (rr, MR, JR) → Wd E A s (sg G g M) (sg K g J) H locs → lv_has ls 4 [(0, .ref (ad E g 0)), (1, .int a1), (2, .int a2), (3, .int a3)] → W p l e rmX3_runLeakTest s m args below meth c H locs 0 0 (QI E A below args s rr (sg G g MR) (sg K g JR)) (F0 m 8 ls [])) (a1 : Int32) (a2 : Int32) (a3 : Int32) (M : M2) (J : J2)  (h : fsX3_runLeakTest_8 F  k8 a1 a2 a3 M J = some (rr, MR, JR)) (w : Wd E A s (sg G g M) (sg K g J) H locs) (hl : lv_has ls 4 [(0, .ref (ad E g 0)), (1, .int a1), (2, .int a2), (3, .int a3)]) : W p l e rmX3_runLeakTest s m args below meth c H locs 0 0 (QI E A below args s rr (sg G g MR) (sg K g JR)) (F0 m 8 ls []) := by
  obtain ⟨hx, hb, hr, hml, hown, hts, hlocks, hKK, hA1, hA2⟩ := id C
  unfold fsX3_runLeakTest_8 at h
  refine lv_iload_n hx hb dX3_runLeakTest_8 rfl (lv_at hl 3 rfl) ?_
  refine lv_iload_n hx hb dX3_runLeakTest_9 rfl (lv_at hl 1 rfl) ?_
  refine lv_icmp_ge (tgt := 50) hx hb dX3_runLeakTest_10 (by decide) (fun c1 => ?_) (fun c1 => ?_)
  · replace h := ite_t h c1
    refine lv_aload_n hx hb dX3_runLeakTest_50 rfl (lv_at hl 0 rfl) ?_
    refine lv_iload_n hx hb dX3_runLeakTest_51 rfl (lv_at hl 2 rfl) ?_
    obtain ⟨M3, J4, hv2, h⟩ := bd2_of h
    refine x_cVv (As := [.int a2]) (rest := []) C w (vS hg (by decide)) (cel_S hg) rfl (mtX3_keepResult hg hv2) q14_1 q14_2 q14_3 q1_12 q14_4 ydX3_keepResult ⟨rfl, rfl⟩ ⟨by decide, by decide⟩ ⟨Nat.zero_le _, Nat.zero_le _⟩ hl.1 (Nat.le_of_ble_eq_true rfl) rfl dX3_runLeakTest_52 (fun H locs w => ?_)
    refine lv_iload_n hx hb dX3_runLeakTest_55 rfl (lv_at hl 2 rfl) ?_
    obtain ⟨e1, e2, e3⟩ := rt3 h
    exact x_ri C w e1 (by rw [e2]) (by rw [e3]) dX3_runLeakTest_56
  · replace h := ite_f h c1
    refine lv_aload_n hx hb dX3_runLeakTest_13 rfl (lv_at hl 0 rfl) ?_
    refine gL_X3_sinceRotation hg C w q4_12 dX3_runLeakTest_14 ?_
    refine lv_aload_n hx hb dX3_runLeakTest_17 rfl (lv_at hl 0 rfl) ?_
    refine gR_X3_settings hg C w q2_6 dX3_runLeakTest_18 ?_
    refine lv_bipush (v := (7 : Int32)) hx hb dX3_runLeakTest_21 (by decide) ?_
    refine x_aldI_L C w (vS hg (by decide)) (cS1 hg) (inb_k (k := 7) (by decide) (by decide)) cl_7 dX3_runLeakTest_23 ?_
    refine lv_icmp_lt (tgt := 32) hx hb dX3_runLeakTest_24 (by decide) (fun c5 => ?_) (fun c5 => ?_)
    · replace h := ite_t h c5
      exact TX3_runLeakTest_32 C hg hk8 _ _ _ _ _ h w (lv_sub hl [0, 1, 2, 3] rfl)
    · replace h := ite_f h c5
      refine lv_aload_n hx hb dX3_runLeakTest_27 rfl (lv_at hl 0 rfl) ?_
      obtain ⟨vv9, M7, J8, hv6, h⟩ := bd3_of h
      refine x_cVi (As := []) (rest := []) C w (vS hg (by decide)) (cel_S hg) rfl (mtX3_reorder hg hv6) q13_0 q13_1 q13_2 q1_12 q13_3 ydX3_reorder ⟨rfl, rfl⟩ ⟨by decide, by decide⟩ ⟨Nat.zero_le _, Nat.zero_le _⟩ hl.1 (Nat.le_of_ble_eq_true rfl) rfl dX3_runLeakTest_28 (fun H locs w => ?_)
      refine lv_pop hx hb dX3_runLeakTest_31 rfl ?_
      exact TX3_runLeakTest_32 C hg hk8 _ _ _ _ _ h w (lv_sub hl [0, 1, 2, 3] rfl)
theorem TX3_runLeakTest_8 {rr : Int32} {MR : M2} {JR : J2}   (C : Cx E A p s m args meth c wdX3_runLeakTest cX3_runLeakTest 4 (some .int) RX3) (hg : g < 6)  : ∀ (n : Nat) (a1 : Int32) (a2 : Int32) (a3 : Int32) (M : M2) (J : J2)  (ls : Array Slot) (H : Heap) (locs : List Loc), fbX3_runLeakTest_8 F  n a1 a2 a3 M J = some (rr, MR, JR) → Wd E A s (sg G g M) (sg K g J) H locs → lv_has ls 4 [(0, .ref (ad E g 0)), (1, .int a1), (2, .int a2), (3, .int a3)] → W p l e rmX3_runLeakTest s m args below meth c H locs 0 0 (QI E A below args s rr (sg G g MR) (sg K g JR)) (F0 m 8 ls []) := by
  intro n
  induction n with
  | zero => intro a1 a2 a3 M J  ls H locs h; exact absurd (show none = _ from h) (fun z => nomatch z)
  | succ n ih => intro a1 a2 a3 M J  ls H locs h w hl; exact SX3_runLeakTest_8 (F := F) C hg  ih a1 a2 a3 M J  h w hl
noncomputable def fX3_runLeakTest (F : Nat)  (x1 : Int32) (M : M2) (J : J2) : Option (Int32 × M2 × J2) := bd2 (fX3_unloadAll F M J) (fun M2 J3 => fbX3_runLeakTest_8 F F x1 (0 : Int32) (0 : Int32) M2 J3)
set_option maxRecDepth 20000 in
set_option maxHeartbeats 1000000 in
theorem TX3_runLeakTest {rr : Int32} {MR : M2} {JR : J2}  (C : Cx E A p s m args meth c wdX3_runLeakTest cX3_runLeakTest 4 (some .int) RX3) (hg : g < 6) {x1 : Int32}  (h : fX3_runLeakTest F  x1 M J = some (rr, MR, JR)) (w : Wd E A s (sg G g M) (sg K g J) H locs) (hl : lv_has ls 4 [(0, .ref (ad E g 0)), (1, .int x1)]) : W p l e rmX3_runLeakTest s m args below meth c H locs 0 0 (QI E A below args s rr (sg G g MR) (sg K g JR)) (F0 m 0 ls []) := by
  obtain ⟨hx, hb, hr, hml, hown, hts, hlocks, hKK, hA1, hA2⟩ := id C
  unfold fX3_runLeakTest at h
  refine lv_aload_n hx hb dX3_runLeakTest_0 rfl (lv_at hl 0 rfl) ?_
  obtain ⟨M2, J3, hv1, h⟩ := bd2_of h
  refine x_cVv (As := []) (rest := []) C w (vS hg (by decide)) (cel_S hg) rfl (mtX3_unloadAll hg hv1) q12_16 q12_17 q12_18 q1_12 q12_19 ydX3_unloadAll ⟨rfl, rfl⟩ ⟨by decide, by decide⟩ ⟨Nat.zero_le _, Nat.zero_le _⟩ hl.1 (Nat.le_of_ble_eq_true rfl) rfl dX3_runLeakTest_1 (fun H locs w => ?_)
  refine lv_iconst (v := (0 : Int32)) hx hb dX3_runLeakTest_4 (by decide) ?_
  refine lv_istore_n (lv' := [(2, .int (0 : Int32)), (0, .ref (ad E g 0)), (1, .int x1)]) hx hb dX3_runLeakTest_5 rfl hl (by decide) rfl (fun ls hl => ?_)
  refine lv_iconst (v := (0 : Int32)) hx hb dX3_runLeakTest_6 (by decide) ?_
  refine lv_istore_n (lv' := [(3, .int (0 : Int32)), (2, .int (0 : Int32)), (0, .ref (ad E g 0)), (1, .int x1)]) hx hb dX3_runLeakTest_7 rfl hl (by decide) rfl (fun ls hl => ?_)
  exact TX3_runLeakTest_8 C hg  _ _ _ _ _ _ _ _ _ h w (lv_sub hl [2, 3, 1, 0] rfl)
theorem mtX3_runLeakTest {rr : Int32} {MR : M2} {JR : J2}  (hg : g < 6) {x1 : Int32}  (h : fX3_runLeakTest F  x1 M J = some (rr, MR, JR)) : MtI l yX3_runLeakTest wdX3_runLeakTest rmX3_runLeakTest E [.ref (ad E g 0), .int x1] (sg G g M) (sg K g J) rr (sg G g MR) (sg K g JR) := by
  intro sz
  refine Met.ofW (cc := cX3_runLeakTest) (maxL := 4) (ret := (some .int)) (by decide) rfl ?_
  intro p e s m args below meth c s₁ B hml hv
  obtain ⟨rfl, C, w⟩ := Cx.of (own := RX3) B rfl hml hv
  have hl := lv_entry ([.ref (ad E g 0), .int x1]) (n := 4) (by first | exact Nat.le_of_ble_eq_true rfl)
  rw [lg_entry_eq]
  generalize (lg_sl ([.ref (ad E g 0), .int x1]) ++ List.replicate (4 - (lg_sl ([.ref (ad E g 0), .int x1])).length) Slot.unset).toArray = ls at hl ⊢
  exact TX3_runLeakTest C hg  h w hl
theorem ydX3_runLeakTest : yX3_runLeakTest.cls = RX3 ∧ yX3_runLeakTest.cls ≠ "java/lang/invoke/MethodHandle" ∧ yX3_runLeakTest.cls ≠ "java/lang/invoke/VarHandle" ∧ (parseMethodDescriptor yX3_runLeakTest.desc).map (fun d => d.parameters.length) = some 1 := by decide +kernel
/-! X3.numberOf(I)I -/
abbrev rmX3_numberOf : Room := { frames := 3, cells := 0, slots := 0, locals := 57 }
abbrev wdX3_numberOf : Cond := Cond.code yX3_numberOf cX3_numberOf 2 (some .int)
noncomputable def fX3_numberOf (F : Nat) (M : M2) (J : J2) (x1 : Int32)  : Option Int32 := (if x1 = (0 : Int32) then (some (M 0 0)) else if x1 = (1 : Int32) then (some (M 0 1)) else if x1 = (2 : Int32) then ((fX3_pressure M J).bind (fun vv13 => some vv13)) else if x1 = (3 : Int32) then (some (M 0 5)) else if x1 = (4 : Int32) then ((fX3_countOf F M J (1 : Int32)).bind (fun vv15 => some vv15)) else if x1 = (5 : Int32) then ((fX3_countOf F M J (2 : Int32)).bind (fun vv17 => some vv17)) else if x1 = (6 : Int32) then ((fX3_countOf F M J (3 : Int32)).bind (fun vv19 => some vv19)) else if x1 = (7 : Int32) then (some (M 0 2)) else if x1 = (8 : Int32) then (some (M 0 3)) else if x1 = (9 : Int32) then (some (M 0 4)) else if x1 = (10 : Int32) then ((fX3_capacityOf F M J (1 : Int32)).bind (fun vv21 => some vv21)) else (some (M 0 6)))
set_option maxRecDepth 20000 in
set_option maxHeartbeats 1000000 in
theorem TX3_numberOf {rr : Int32}  (C : Cx E A p s m args meth c wdX3_numberOf cX3_numberOf 2 (some .int) RX3) (hg : g < 6) {x1 : Int32}  (h : fX3_numberOf F M J x1 = some rr) (w : Wd E A s (sg G g M) (sg K g J) H locs) (hl : lv_has ls 2 [(0, .ref (ad E g 0)), (1, .int x1)]) : W p l e rmX3_numberOf s m args below meth c H locs 0 0 (QI E A below args s rr (sg G g M) (sg K g J)) (F0 m 0 ls []) := by
  obtain ⟨hx, hb, hr, hml, hown, hts, hlocks, hKK, hA1, hA2⟩ := id C
  unfold fX3_numberOf at h
  refine lv_iload_n hx hb dX3_numberOf_0 rfl (lv_at hl 1 rfl) ?_
  by_cases c1 : x1 = (0 : Int32)
  · replace h := ite_t h c1
    refine lv_tableIn (tgt := 60) hx hb dX3_numberOf_1 (by rw [c1]; decide) (by rw [c1]; decide) (by rw [c1]; rfl) (by decide) ?_
    refine lv_aload_n hx hb dX3_numberOf_60 rfl (lv_at hl 0 rfl) ?_
    refine gL_X3_volume hg C w q2_3 dX3_numberOf_61 ?_
    have e1 := Option.some.inj h
    exact x_ri C w e1 rfl rfl dX3_numberOf_64
  replace h := ite_f h c1
  by_cases c2 : x1 = (1 : Int32)
  · replace h := ite_t h c2
    refine lv_tableIn (tgt := 65) hx hb dX3_numberOf_1 (by rw [c2]; decide) (by rw [c2]; decide) (by rw [c2]; rfl) (by decide) ?_
    refine lv_aload_n hx hb dX3_numberOf_65 rfl (lv_at hl 0 rfl) ?_
    refine gL_X3_air hg C w q2_4 dX3_numberOf_66 ?_
    have e1 := Option.some.inj h
    exact x_ri C w e1 rfl rfl dX3_numberOf_69
  replace h := ite_f h c2
  by_cases c3 : x1 = (2 : Int32)
  · replace h := ite_t h c3
    refine lv_tableIn (tgt := 70) hx hb dX3_numberOf_1 (by rw [c3]; decide) (by rw [c3]; decide) (by rw [c3]; rfl) (by decide) ?_
    refine lv_aload_n hx hb dX3_numberOf_70 rfl (lv_at hl 0 rfl) ?_
    obtain ⟨vv13, hv12, h⟩ := bind_of h
    refine x_cVi (As := []) (rest := []) C w (vS hg (by decide)) (cel_S hg) rfl (mtX3_pressure hg hv12) q4_15 q4_16 q4_17 q1_12 q4_18 ydX3_pressure ⟨rfl, rfl⟩ ⟨by decide, by decide⟩ ⟨Nat.zero_le _, Nat.zero_le _⟩ hl.1 (Nat.le_of_ble_eq_true rfl) rfl dX3_numberOf_71 (fun H locs w => ?_)
    have e1 := Option.some.inj h
    exact x_ri C w e1 rfl rfl dX3_numberOf_74
  replace h := ite_f h c3
  by_cases c4 : x1 = (3 : Int32)
  · replace h := ite_t h c4
    refine lv_tableIn (tgt := 75) hx hb dX3_numberOf_1 (by rw [c4]; decide) (by rw [c4]; decide) (by rw [c4]; rfl) (by decide) ?_
    refine lv_aload_n hx hb dX3_numberOf_75 rfl (lv_at hl 0 rfl) ?_
    refine gL_X3_count hg C w q4_10 dX3_numberOf_76 ?_
    have e1 := Option.some.inj h
    exact x_ri C w e1 rfl rfl dX3_numberOf_79
  replace h := ite_f h c4
  by_cases c5 : x1 = (4 : Int32)
  · replace h := ite_t h c5
    refine lv_tableIn (tgt := 80) hx hb dX3_numberOf_1 (by rw [c5]; decide) (by rw [c5]; decide) (by rw [c5]; rfl) (by decide) ?_
    refine lv_aload_n hx hb dX3_numberOf_80 rfl (lv_at hl 0 rfl) ?_
    refine lv_iconst (v := (1 : Int32)) hx hb dX3_numberOf_81 (by decide) ?_
    obtain ⟨vv15, hv14, h⟩ := bind_of h
    refine x_cVi (As := [.int (1 : Int32)]) (rest := []) C w (vS hg (by decide)) (cel_S hg) rfl (mtX3_countOf hg hv14) q4_21 q4_22 q4_23 q1_12 q5_0 ydX3_countOf ⟨rfl, rfl⟩ ⟨by decide, by decide⟩ ⟨Nat.zero_le _, Nat.zero_le _⟩ hl.1 (Nat.le_of_ble_eq_true rfl) rfl dX3_numberOf_82 (fun H locs w => ?_)
    have e1 := Option.some.inj h
    exact x_ri C w e1 rfl rfl dX3_numberOf_85
  replace h := ite_f h c5
  by_cases c6 : x1 = (5 : Int32)
  · replace h := ite_t h c6
    refine lv_tableIn (tgt := 86) hx hb dX3_numberOf_1 (by rw [c6]; decide) (by rw [c6]; decide) (by rw [c6]; rfl) (by decide) ?_
    refine lv_aload_n hx hb dX3_numberOf_86 rfl (lv_at hl 0 rfl) ?_
    refine lv_iconst (v := (2 : Int32)) hx hb dX3_numberOf_87 (by decide) ?_
    obtain ⟨vv17, hv16, h⟩ := bind_of h
    refine x_cVi (As := [.int (2 : Int32)]) (rest := []) C w (vS hg (by decide)) (cel_S hg) rfl (mtX3_countOf hg hv16) q4_21 q4_22 q4_23 q1_12 q5_0 ydX3_countOf ⟨rfl, rfl⟩ ⟨by decide, by decide⟩ ⟨Nat.zero_le _, Nat.zero_le _⟩ hl.1 (Nat.le_of_ble_eq_true rfl) rfl dX3_numberOf_88 (fun H locs w => ?_)
    have e1 := Option.some.inj h
    exact x_ri C w e1 rfl rfl dX3_numberOf_91
  replace h := ite_f h c6
  by_cases c7 : x1 = (6 : Int32)
  · replace h := ite_t h c7
    refine lv_tableIn (tgt := 92) hx hb dX3_numberOf_1 (by rw [c7]; decide) (by rw [c7]; decide) (by rw [c7]; rfl) (by decide) ?_
    refine lv_aload_n hx hb dX3_numberOf_92 rfl (lv_at hl 0 rfl) ?_
    refine lv_iconst (v := (3 : Int32)) hx hb dX3_numberOf_93 (by decide) ?_
    obtain ⟨vv19, hv18, h⟩ := bind_of h
    refine x_cVi (As := [.int (3 : Int32)]) (rest := []) C w (vS hg (by decide)) (cel_S hg) rfl (mtX3_countOf hg hv18) q4_21 q4_22 q4_23 q1_12 q5_0 ydX3_countOf ⟨rfl, rfl⟩ ⟨by decide, by decide⟩ ⟨Nat.zero_le _, Nat.zero_le _⟩ hl.1 (Nat.le_of_ble_eq_true rfl) rfl dX3_numberOf_94 (fun H locs w => ?_)
    have e1 := Option.some.inj h
    exact x_ri C w e1 rfl rfl dX3_numberOf_97
  replace h := ite_f h c7
  by_cases c8 : x1 = (7 : Int32)
  · replace h := ite_t h c8
    refine lv_tableIn (tgt := 98) hx hb dX3_numberOf_1 (by rw [c8]; decide) (by rw [c8]; decide) (by rw [c8]; rfl) (by decide) ?_
    refine lv_aload_n hx hb dX3_numberOf_98 rfl (lv_at hl 0 rfl) ?_
    refine gL_X3_time hg C w q4_11 dX3_numberOf_99 ?_
    have e1 := Option.some.inj h
    exact x_ri C w e1 rfl rfl dX3_numberOf_102
  replace h := ite_f h c8
  by_cases c9 : x1 = (8 : Int32)
  · replace h := ite_t h c9
    refine lv_tableIn (tgt := 103) hx hb dX3_numberOf_1 (by rw [c9]; decide) (by rw [c9]; decide) (by rw [c9]; rfl) (by decide) ?_
    refine lv_aload_n hx hb dX3_numberOf_103 rfl (lv_at hl 0 rfl) ?_
    refine gL_X3_sinceRotation hg C w q4_12 dX3_numberOf_104 ?_
    have e1 := Option.some.inj h
    exact x_ri C w e1 rfl rfl dX3_numberOf_107
  replace h := ite_f h c9
  by_cases c10 : x1 = (9 : Int32)
  · replace h := ite_t h c10
    refine lv_tableIn (tgt := 108) hx hb dX3_numberOf_1 (by rw [c10]; decide) (by rw [c10]; decide) (by rw [c10]; rfl) (by decide) ?_
    refine lv_aload_n hx hb dX3_numberOf_108 rfl (lv_at hl 0 rfl) ?_
    refine gL_X3_rotations hg C w q4_13 dX3_numberOf_109 ?_
    have e1 := Option.some.inj h
    exact x_ri C w e1 rfl rfl dX3_numberOf_112
  replace h := ite_f h c10
  by_cases c11 : x1 = (10 : Int32)
  · replace h := ite_t h c11
    refine lv_tableIn (tgt := 113) hx hb dX3_numberOf_1 (by rw [c11]; decide) (by rw [c11]; decide) (by rw [c11]; rfl) (by decide) ?_
    refine lv_aload_n hx hb dX3_numberOf_113 rfl (lv_at hl 0 rfl) ?_
    refine lv_iconst (v := (1 : Int32)) hx hb dX3_numberOf_114 (by decide) ?_
    obtain ⟨vv21, hv20, h⟩ := bind_of h
    refine x_cVi (As := [.int (1 : Int32)]) (rest := []) C w (vS hg (by decide)) (cel_S hg) rfl (mtX3_capacityOf hg hv20) q5_6 q5_7 q5_8 q1_12 q5_9 ydX3_capacityOf ⟨rfl, rfl⟩ ⟨by decide, by decide⟩ ⟨Nat.zero_le _, Nat.zero_le _⟩ hl.1 (Nat.le_of_ble_eq_true rfl) rfl dX3_numberOf_115 (fun H locs w => ?_)
    have e1 := Option.some.inj h
    exact x_ri C w e1 rfl rfl dX3_numberOf_118
  replace h := ite_f h c11
  have hsw : x1.toInt < 0 ∨ 10 < x1.toInt := by
    have n0 := ne_toInt c1
    have n1 := ne_toInt c2
    have n2 := ne_toInt c3
    have n3 := ne_toInt c4
    have n4 := ne_toInt c5
    have n5 := ne_toInt c6
    have n6 := ne_toInt c7
    have n7 := ne_toInt c8
    have n8 := ne_toInt c9
    have n9 := ne_toInt c10
    have n10 := ne_toInt c11
    have e0 : (0 : Int32).toInt = 0 := by decide
    have e1 : (1 : Int32).toInt = 1 := by decide
    have e2 : (2 : Int32).toInt = 2 := by decide
    have e3 : (3 : Int32).toInt = 3 := by decide
    have e4 : (4 : Int32).toInt = 4 := by decide
    have e5 : (5 : Int32).toInt = 5 := by decide
    have e6 : (6 : Int32).toInt = 6 := by decide
    have e7 : (7 : Int32).toInt = 7 := by decide
    have e8 : (8 : Int32).toInt = 8 := by decide
    have e9 : (9 : Int32).toInt = 9 := by decide
    have e10 : (10 : Int32).toInt = 10 := by decide
    simp only [e0, e1, e2, e3, e4, e5, e6, e7, e8, e9, e10] at n0 n1 n2 n3 n4 n5 n6 n7 n8 n9 n10
    omega
  refine lv_tableOut (tgt := 119) hx hb dX3_numberOf_1 hsw (by decide) ?_
  refine lv_aload_n hx hb dX3_numberOf_119 rfl (lv_at hl 0 rfl) ?_
  refine gL_X3_kept hg C w q4_14 dX3_numberOf_120 ?_
  have e1 := Option.some.inj h
  exact x_ri C w e1 rfl rfl dX3_numberOf_123
theorem mtX3_numberOf {rr : Int32}  (hg : g < 6) {x1 : Int32}  (h : fX3_numberOf F M J x1 = some rr) : MtI l yX3_numberOf wdX3_numberOf rmX3_numberOf E [.ref (ad E g 0), .int x1] (sg G g M) (sg K g J) rr (sg G g M) (sg K g J) := by
  intro sz
  refine Met.ofW (cc := cX3_numberOf) (maxL := 2) (ret := (some .int)) (by decide) rfl ?_
  intro p e s m args below meth c s₁ B hml hv
  obtain ⟨rfl, C, w⟩ := Cx.of (own := RX3) B rfl hml hv
  have hl := lv_entry ([.ref (ad E g 0), .int x1]) (n := 2) (by first | exact Nat.le_of_ble_eq_true rfl)
  rw [lg_entry_eq]
  generalize (lg_sl ([.ref (ad E g 0), .int x1]) ++ List.replicate (2 - (lg_sl ([.ref (ad E g 0), .int x1])).length) Slot.unset).toArray = ls at hl ⊢
  exact TX3_numberOf C hg  h w hl
theorem ydX3_numberOf : yX3_numberOf.cls = RX3 ∧ yX3_numberOf.cls ≠ "java/lang/invoke/MethodHandle" ∧ yX3_numberOf.cls ≠ "java/lang/invoke/VarHandle" ∧ (parseMethodDescriptor yX3_numberOf.desc).map (fun d => d.parameters.length) = some 1 := by decide +kernel
/-! X3.numberAbout(LAirStation$Compressor;I)I -/
abbrev rmX3_numberAbout : Room := { frames := 2, cells := 0, slots := 0, locals := 33 }
abbrev wdX3_numberAbout : Cond := Cond.code yX3_numberAbout cX3_numberAbout 3 (some .int)
noncomputable def fX3_numberAbout (M : M2) (J : J2) (q1 : Nat) (x2 : Int32)  : Int32 := (if x2 = (0 : Int32) then ((M q1 0)) else if x2 = (1 : Int32) then ((M q1 1)) else if x2 = (2 : Int32) then ((M q1 2)) else if x2 = (3 : Int32) then ((M q1 3)) else if x2 = (4 : Int32) then ((M q1 4)) else if x2 = (5 : Int32) then ((M q1 5)) else if x2 = (6 : Int32) then ((M q1 6)) else if x2 = (7 : Int32) then ((M q1 7)) else if x2 = (8 : Int32) then ((fX3_limitForLoading M J q1)) else ((fX3_limitForUnloading M J q1)))
set_option maxRecDepth 20000 in
set_option maxHeartbeats 1000000 in
theorem TX3_numberAbout {rr : Int32}  (C : Cx E A p s m args meth c wdX3_numberAbout cX3_numberAbout 3 (some .int) RX3) (hg : g < 6) {q1 : Nat} {x2 : Int32} (hq1 : isC q1) (h : fX3_numberAbout M J q1 x2 = rr) (w : Wd E A s (sg G g M) (sg K g J) H locs) (hl : lv_has ls 3 [(0, .ref (ad E g 0)), (1, .ref (ad E g q1)), (2, .int x2)]) : W p l e rmX3_numberAbout s m args below meth c H locs 0 0 (QI E A below args s rr (sg G g M) (sg K g J)) (F0 m 0 ls []) := by
  obtain ⟨hx, hb, hr, hml, hown, hts, hlocks, hKK, hA1, hA2⟩ := id C
  unfold fX3_numberAbout at h
  refine lv_iload_n hx hb dX3_numberAbout_0 rfl (lv_at hl 2 rfl) ?_
  by_cases c1 : x2 = (0 : Int32)
  · replace h := ite_t h c1
    refine lv_tableIn (tgt := 52) hx hb dX3_numberAbout_1 (by rw [c1]; decide) (by rw [c1]; decide) (by rw [c1]; rfl) (by decide) ?_
    refine lv_aload_n hx hb dX3_numberAbout_52 rfl (lv_at hl 1 rfl) ?_
    refine gL_X0_capacity hg hq1 C w q5_10 dX3_numberAbout_53 ?_
    exact x_ri C w h rfl rfl dX3_numberAbout_56
  replace h := ite_f h c1
  by_cases c2 : x2 = (1 : Int32)
  · replace h := ite_t h c2
    refine lv_tableIn (tgt := 57) hx hb dX3_numberAbout_1 (by rw [c2]; decide) (by rw [c2]; decide) (by rw [c2]; rfl) (by decide) ?_
    refine lv_aload_n hx hb dX3_numberAbout_57 rfl (lv_at hl 1 rfl) ?_
    refine gL_X0_mode hg hq1 C w q5_1 dX3_numberAbout_58 ?_
    exact x_ri C w h rfl rfl dX3_numberAbout_61
  replace h := ite_f h c2
  by_cases c3 : x2 = (2 : Int32)
  · replace h := ite_t h c3
    refine lv_tableIn (tgt := 62) hx hb dX3_numberAbout_1 (by rw [c3]; decide) (by rw [c3]; decide) (by rw [c3]; rfl) (by decide) ?_
    refine lv_aload_n hx hb dX3_numberAbout_62 rfl (lv_at hl 1 rfl) ?_
    refine gL_X0_stage hg hq1 C w q6_12 dX3_numberAbout_63 ?_
    exact x_ri C w h rfl rfl dX3_numberAbout_66
  replace h := ite_f h c3
  by_cases c4 : x2 = (3 : Int32)
  · replace h := ite_t h c4
    refine lv_tableIn (tgt := 67) hx hb dX3_numberAbout_1 (by rw [c4]; decide) (by rw [c4]; decide) (by rw [c4]; rfl) (by decide) ?_
    refine lv_aload_n hx hb dX3_numberAbout_67 rfl (lv_at hl 1 rfl) ?_
    refine gL_X0_loadedMinutes hg hq1 C w q6_13 dX3_numberAbout_68 ?_
    exact x_ri C w h rfl rfl dX3_numberAbout_71
  replace h := ite_f h c4
  by_cases c5 : x2 = (4 : Int32)
  · replace h := ite_t h c5
    refine lv_tableIn (tgt := 72) hx hb dX3_numberAbout_1 (by rw [c5]; decide) (by rw [c5]; decide) (by rw [c5]; rfl) (by decide) ?_
    refine lv_aload_n hx hb dX3_numberAbout_72 rfl (lv_at hl 1 rfl) ?_
    refine gL_X0_unloadedMinutes hg hq1 C w q6_14 dX3_numberAbout_73 ?_
    exact x_ri C w h rfl rfl dX3_numberAbout_76
  replace h := ite_f h c5
  by_cases c6 : x2 = (5 : Int32)
  · replace h := ite_t h c6
    refine lv_tableIn (tgt := 77) hx hb dX3_numberAbout_1 (by rw [c6]; decide) (by rw [c6]; decide) (by rw [c6]; rfl) (by decide) ?_
    refine lv_aload_n hx hb dX3_numberAbout_77 rfl (lv_at hl 1 rfl) ?_
    refine gL_X0_timer hg hq1 C w q6_15 dX3_numberAbout_78 ?_
    exact x_ri C w h rfl rfl dX3_numberAbout_81
  replace h := ite_f h c6
  by_cases c7 : x2 = (6 : Int32)
  · replace h := ite_t h c7
    refine lv_tableIn (tgt := 82) hx hb dX3_numberAbout_1 (by rw [c7]; decide) (by rw [c7]; decide) (by rw [c7]; rfl) (by decide) ?_
    refine lv_aload_n hx hb dX3_numberAbout_82 rfl (lv_at hl 1 rfl) ?_
    refine gL_X0_rest hg hq1 C w q6_16 dX3_numberAbout_83 ?_
    exact x_ri C w h rfl rfl dX3_numberAbout_86
  replace h := ite_f h c7
  by_cases c8 : x2 = (7 : Int32)
  · replace h := ite_t h c8
    refine lv_tableIn (tgt := 87) hx hb dX3_numberAbout_1 (by rw [c8]; decide) (by rw [c8]; decide) (by rw [c8]; rfl) (by decide) ?_
    refine lv_aload_n hx hb dX3_numberAbout_87 rfl (lv_at hl 1 rfl) ?_
    refine gL_X0_starts hg hq1 C w q6_17 dX3_numberAbout_88 ?_
    exact x_ri C w h rfl rfl dX3_numberAbout_91
  replace h := ite_f h c8
  by_cases c9 : x2 = (8 : Int32)
  · replace h := ite_t h c9
    refine lv_tableIn (tgt := 92) hx hb dX3_numberAbout_1 (by rw [c9]; decide) (by rw [c9]; decide) (by rw [c9]; rfl) (by decide) ?_
    refine lv_aload_n hx hb dX3_numberAbout_92 rfl (lv_at hl 0 rfl) ?_
    refine lv_aload_n hx hb dX3_numberAbout_93 rfl (lv_at hl 1 rfl) ?_
    refine x_cVi (As := [.ref (ad E g q1)]) (rest := []) C w (vS hg (by decide)) (cel_S hg) rfl (mtX3_limitForLoading hg hq1) q6_18 q6_19 q6_20 q1_12 q6_21 ydX3_limitForLoading ⟨rfl, rfl⟩ ⟨by decide, by decide⟩ ⟨Nat.zero_le _, Nat.zero_le _⟩ hl.1 (Nat.le_of_ble_eq_true rfl) rfl dX3_numberAbout_94 (fun H locs w => ?_)
    exact x_ri C w h rfl rfl dX3_numberAbout_97
  replace h := ite_f h c9
  have hsw : x2.toInt < 0 ∨ 8 < x2.toInt := by
    have n0 := ne_toInt c1
    have n1 := ne_toInt c2
    have n2 := ne_toInt c3
    have n3 := ne_toInt c4
    have n4 := ne_toInt c5
    have n5 := ne_toInt c6
    have n6 := ne_toInt c7
    have n7 := ne_toInt c8
    have n8 := ne_toInt c9
    have e0 : (0 : Int32).toInt = 0 := by decide
    have e1 : (1 : Int32).toInt = 1 := by decide
    have e2 : (2 : Int32).toInt = 2 := by decide
    have e3 : (3 : Int32).toInt = 3 := by decide
    have e4 : (4 : Int32).toInt = 4 := by decide
    have e5 : (5 : Int32).toInt = 5 := by decide
    have e6 : (6 : Int32).toInt = 6 := by decide
    have e7 : (7 : Int32).toInt = 7 := by decide
    have e8 : (8 : Int32).toInt = 8 := by decide
    simp only [e0, e1, e2, e3, e4, e5, e6, e7, e8] at n0 n1 n2 n3 n4 n5 n6 n7 n8
    omega
  refine lv_tableOut (tgt := 98) hx hb dX3_numberAbout_1 hsw (by decide) ?_
  refine lv_aload_n hx hb dX3_numberAbout_98 rfl (lv_at hl 0 rfl) ?_
  refine lv_aload_n hx hb dX3_numberAbout_99 rfl (lv_at hl 1 rfl) ?_
  refine x_cVi (As := [.ref (ad E g q1)]) (rest := []) C w (vS hg (by decide)) (cel_S hg) rfl (mtX3_limitForUnloading hg hq1) q6_22 q6_23 q7_0 q1_12 q7_1 ydX3_limitForUnloading ⟨rfl, rfl⟩ ⟨by decide, by decide⟩ ⟨Nat.zero_le _, Nat.zero_le _⟩ hl.1 (Nat.le_of_ble_eq_true rfl) rfl dX3_numberAbout_100 (fun H locs w => ?_)
  exact x_ri C w h rfl rfl dX3_numberAbout_103
theorem mtX3_numberAbout  (hg : g < 6) {q1 : Nat} {x2 : Int32} (hq1 : isC q1)  : MtI l yX3_numberAbout wdX3_numberAbout rmX3_numberAbout E [.ref (ad E g 0), .ref (ad E g q1), .int x2] (sg G g M) (sg K g J) (fX3_numberAbout M J q1 x2) (sg G g M) (sg K g J) := by
  intro sz
  refine Met.ofW (cc := cX3_numberAbout) (maxL := 3) (ret := (some .int)) (by decide) rfl ?_
  intro p e s m args below meth c s₁ B hml hv
  obtain ⟨rfl, C, w⟩ := Cx.of (own := RX3) B rfl hml hv
  have hl := lv_entry ([.ref (ad E g 0), .ref (ad E g q1), .int x2]) (n := 3) (by first | exact Nat.le_of_ble_eq_true rfl)
  rw [lg_entry_eq]
  generalize (lg_sl ([.ref (ad E g 0), .ref (ad E g q1), .int x2]) ++ List.replicate (3 - (lg_sl ([.ref (ad E g 0), .ref (ad E g q1), .int x2])).length) Slot.unset).toArray = ls at hl ⊢
  exact TX3_numberAbout C hg hq1 rfl w hl
theorem ydX3_numberAbout : yX3_numberAbout.cls = RX3 ∧ yX3_numberAbout.cls ≠ "java/lang/invoke/MethodHandle" ∧ yX3_numberAbout.cls ≠ "java/lang/invoke/VarHandle" ∧ (parseMethodDescriptor yX3_numberAbout.desc).map (fun d => d.parameters.length) = some 2 := by decide +kernel
/-! X3.install(I)I -/
abbrev rmX3_install : Room := { frames := 2, cells := 0, slots := 0, locals := 34 }
abbrev wdX3_install : Cond := Cond.code yX3_install cX3_install 4 (some .int)
noncomputable def fX3_install  (x1 : Int32) (M : M2) (J : J2) : Option (Int32 × M2 × J2) := bnd (up2 M 0 5 ((M 0 5) + (1 : Int32))) (fun M1 => (fX3_numbered M1 J (M 0 5)).bind (fun vv4 => oc vv4 (some ((M 0 5), M1, J)) (fun z5 => chk (isC z5) (bd2 (fX0_begin z5 x1 (M 0 5) M1 J) (fun M7 J8 => some ((M 0 5), M7, J8))))))
set_option maxRecDepth 20000 in
set_option maxHeartbeats 1000000 in
theorem TX3_install {rr : Int32} {MR : M2} {JR : J2}  (C : Cx E A p s m args meth c wdX3_install cX3_install 4 (some .int) RX3) (hg : g < 6) {x1 : Int32}  (h : fX3_install  x1 M J = some (rr, MR, JR)) (w : Wd E A s (sg G g M) (sg K g J) H locs) (hl : lv_has ls 4 [(0, .ref (ad E g 0)), (1, .int x1)]) : W p l e rmX3_install s m args below meth c H locs 0 0 (QI E A below args s rr (sg G g MR) (sg K g JR)) (F0 m 0 ls []) := by
  obtain ⟨hx, hb, hr, hml, hown, hts, hlocks, hKK, hA1, hA2⟩ := id C
  unfold fX3_install at h
  refine lv_aload_n hx hb dX3_install_0 rfl (lv_at hl 0 rfl) ?_
  refine gL_X3_count hg C w q4_10 dX3_install_1 ?_
  refine lv_istore_n (lv' := [(2, .int (M 0 5)), (0, .ref (ad E g 0)), (1, .int x1)]) hx hb dX3_install_4 rfl hl (by decide) rfl (fun ls hl => ?_)
  refine lv_aload_n hx hb dX3_install_5 rfl (lv_at hl 1 rfl) ?_
  refine lv_dup hx hb dX3_install_6 rfl ?_
  refine gL_X3_count hg C w q4_10 dX3_install_7 ?_
  refine lv_iconst (v := (1 : Int32)) hx hb dX3_install_10 (by decide) ?_
  refine lv_iadd hx hb dX3_install_11 ?_
  refine pL_X3_count hg C w q4_10 dX3_install_12 (fun M1 H locs e2 w => ?_)
  replace h := bnd_of h e2
  refine lv_aload_n hx hb dX3_install_15 rfl (lv_at hl 1 rfl) ?_
  refine lv_iload_n hx hb dX3_install_16 rfl (lv_at hl 0 rfl) ?_
  obtain ⟨vv4, hv3, h⟩ := bind_of h
  refine x_cVq (As := [.int (M 0 5)]) (rest := []) C w (vS hg (by decide)) (cel_S hg) rfl (mtX3_numbered hg hv3) q5_2 q5_3 q5_4 q1_12 q5_5 ydX3_numbered ⟨rfl, rfl⟩ ⟨by decide, by decide⟩ ⟨Nat.zero_le _, Nat.zero_le _⟩ hl.1 (Nat.le_of_ble_eq_true rfl) rfl dX3_install_17 (fun H locs w => ?_)
  cases vv4 with
  | none =>
    replace h := oc_n h
    refine lv_astore_nN (lv' := [(3, .null), (2, .int (M 0 5)), (0, .ref (ad E g 0)), (1, .int x1)]) hx hb dX3_install_20 rfl hl (by decide) rfl (fun ls hl => ?_)
    refine lv_aload_nN hx hb dX3_install_21 rfl (lv_at hl 0 rfl) ?_
    refine lv_ifnullN (tgt := 31) hx hb dX3_install_22 (by decide) ?_
    refine lv_iload_n hx hb dX3_install_31 rfl (lv_at hl 1 rfl) ?_
    obtain ⟨e1, e2, e3⟩ := rt3 h
    exact x_ri C w e1 (by rw [e2]) (by rw [e3]) dX3_install_32
  | some z5 =>
    replace h := oc_s h
    obtain ⟨hz5, h⟩ := chk_of h
    refine lv_astore_n (lv' := [(3, .ref (ad E g z5)), (2, .int (M 0 5)), (0, .ref (ad E g 0)), (1, .int x1)]) hx hb dX3_install_20 rfl hl (by decide) rfl (fun ls hl => ?_)
    refine lv_aload_n hx hb dX3_install_21 rfl (lv_at hl 0 rfl) ?_
    refine lv_ifnull hx hb dX3_install_22 ?_
    refine lv_aload_n hx hb dX3_install_25 rfl (lv_at hl 0 rfl) ?_
    refine lv_iload_n hx hb dX3_install_26 rfl (lv_at hl 3 rfl) ?_
    refine lv_iload_n hx hb dX3_install_27 rfl (lv_at hl 1 rfl) ?_
    obtain ⟨M7, J8, hv6, h⟩ := bd2_of h
    refine x_cVv (As := [.int x1, .int (M 0 5)]) (rest := []) C w (vC hg hz5) (cel_C hg hz5.1) rfl (mtX0_begin hg hz5 hv6) q10_11 q10_12 q10_13 q2_17 q10_14 ydX0_begin ⟨rfl, rfl⟩ ⟨by decide, by decide⟩ ⟨Nat.zero_le _, Nat.zero_le _⟩ hl.1 (Nat.le_of_ble_eq_true rfl) rfl dX3_install_28 (fun H locs w => ?_)
    refine lv_iload_n hx hb dX3_install_31 rfl (lv_at hl 1 rfl) ?_
    obtain ⟨e1, e2, e3⟩ := rt3 h
    exact x_ri C w e1 (by rw [e2]) (by rw [e3]) dX3_install_32
theorem mtX3_install {rr : Int32} {MR : M2} {JR : J2}  (hg : g < 6) {x1 : Int32}  (h : fX3_install  x1 M J = some (rr, MR, JR)) : MtI l yX3_install wdX3_install rmX3_install E [.ref (ad E g 0), .int x1] (sg G g M) (sg K g J) rr (sg G g MR) (sg K g JR) := by
  intro sz
  refine Met.ofW (cc := cX3_install) (maxL := 4) (ret := (some .int)) (by decide) rfl ?_
  intro p e s m args below meth c s₁ B hml hv
  obtain ⟨rfl, C, w⟩ := Cx.of (own := RX3) B rfl hml hv
  have hl := lv_entry ([.ref (ad E g 0), .int x1]) (n := 4) (by first | exact Nat.le_of_ble_eq_true rfl)
  rw [lg_entry_eq]
  generalize (lg_sl ([.ref (ad E g 0), .int x1]) ++ List.replicate (4 - (lg_sl ([.ref (ad E g 0), .int x1])).length) Slot.unset).toArray = ls at hl ⊢
  exact TX3_install C hg  h w hl
theorem ydX3_install : yX3_install.cls = RX3 ∧ yX3_install.cls ≠ "java/lang/invoke/MethodHandle" ∧ yX3_install.cls ≠ "java/lang/invoke/VarHandle" ∧ (parseMethodDescriptor yX3_install.desc).map (fun d => d.parameters.length) = some 1 := by decide +kernel
/-! X3.takeOver(LAirStation$State;)V -/
abbrev rmX3_takeOver : Room := { frames := 2, cells := 0, slots := 0, locals := 40 }
abbrev wdX3_takeOver : Cond := Cond.code yX3_takeOver cX3_takeOver 5 none
noncomputable def fbX3_takeOver_136 (F : Nat) (k103 : Int32 → M3 → J3 → Option (M3 × J3)) (g : Nat) (g' : Nat) (a2 : Int32) (G : M3) (K : J3) : Option (M3 × J3) := k103 (a2 + (1 : Int32)) G K
set_option maxRecDepth 20000 in
set_option maxHeartbeats 1000000 in
theorem TX3_takeOver_136 {GR : M3} {KR : J3}  {k103 : Int32 → M3 → J3 → Option (M3 × J3)} (C : Cx E A p s m args meth c wdX3_takeOver cX3_takeOver 5 none RX3) (hg : g < 6) (hg' : g' < 6) (hk103 : ∀ (a2 : Int32) (G : M3) (K : J3)  (ls : Array Slot) (H : Heap) (locs : List Loc), k103 a2 G K = some (GR, KR) → Wd E A s G K H locs → lv_has ls 5 [(0, .ref (ad E g 0)), (1, .ref (ad E g' 0)), (2, .int a2)] → W p l e rmX3_takeOver s m args below meth c H locs 0 0 (QV E A below args s  GR KR) (F0 m 103 ls [])) (a2 : Int32) (G : M3) (K : J3)  (h : fbX3_takeOver_136 F k103 g g' a2 G K = some (GR, KR)) (w : Wd E A s G K H locs) (hl : lv_has ls 5 [(0, .ref (ad E g 0)), (1, .ref (ad E g' 0)), (2, .int a2)]) : W p l e rmX3_takeOver s m args below meth c H locs 0 0 (QV E A below args s  GR KR) (F0 m 136 ls []) := by
  obtain ⟨hx, hb, hr, hml, hown, hts, hlocks, hKK, hA1, hA2⟩ := id C
  unfold fbX3_takeOver_136 at h
  refine lv_iinc (v := (a2 + (1 : Int32))) (lv' := [(2, .int (a2 + (1 : Int32))), (0, .ref (ad E g 0)), (1, .ref (ad E g' 0))]) hx hb dX3_takeOver_136 hl (k := 2) rfl (congrArg (HAdd.hAdd _) (by decide)) (by decide) rfl (fun ls hl => ?_)
  refine lv_goto (tgt := 103) hx hb dX3_takeOver_139 (by decide) ?_
  exact hk103 _ _ _ _ _ _ h w (lv_sub hl [1, 2, 0] rfl)
noncomputable def fsX3_takeOver_103 (F : Nat)  (g : Nat) (g' : Nat) (k103 : Int32 → M3 → J3 → Option (M3 × J3)) : Int32 → M3 → J3 → Option (M3 × J3) := fun a2 G K => (if (5 : Int32) ≤ a2 then (some (G, K)) else ((fX3_numbered (G g) (K g) a2).bind (fun vv3 => oc vv3 ((fX3_numbered (G g') (K g') a2).bind (fun vv6 => oc vv6 (fbX3_takeOver_136 F k103 g g' a2 G K) (fun z7 => chk (isC z7) (fbX3_takeOver_136 F k103 g g' a2 G K)))) (fun z4 => chk (isC z4) ((fX3_numbered (G g') (K g') a2).bind (fun vv9 => oc vv9 (fbX3_takeOver_136 F k103 g g' a2 G K) (fun z10 => chk (isC z10) (bd2 (fX0_takeOver g z4 g' z10 G K) (fun G12 K13 => fbX3_takeOver_136 F k103 g g' a2 G12 K13)))))))))
noncomputable def fbX3_takeOver_103 (F : Nat)  (g : Nat) (g' : Nat) (n : Nat) : Int32 → M3 → J3 → Option (M3 × J3) := itr (fsX3_takeOver_103 F g g') (fun _ _ _ => none) n
set_option maxRecDepth 20000 in
set_option maxHeartbeats 1000000 in
theorem SX3_takeOver_103 {GR : M3} {KR : J3}   {k103 : Int32 → M3 → J3 → Option (M3 × J3)} (C : Cx E A p s m args meth c wdX3_takeOver cX3_takeOver 5 none RX3) (hg : g < 6) (hg' : g' < 6)  (hk103 : ∀ (a2 : Int32) (G : M3) (K : J3)  (ls : Array Slot) (H : Heap) (locs : List Loc), k103 a2 G K = some (GR, KR) → Wd E A s G K H locs → lv_has ls 5 [(0, .ref (ad E g 0)), (1, .ref (ad E g' 0)), (2, .int a2)] → W p l e rmX3_takeOver s m args below meth c H locs 0 0 (QV E A below args s  GR KR) (F0 m 103 ls [])) (a2 : Int32) (G : M3) (K : J3)  (h : fsX3_takeOver_103 F g g' k103 a2 G K = some (GR, KR)) (w : Wd E A s G K H locs) (hl : lv_has ls 5 [(0, .ref (ad E g 0)), (1, .ref (ad E g' 0)), (2, .int a2)]) : W p l e rmX3_takeOver s m args below meth c H locs 0 0 (QV E A below args s  GR KR) (F0 m 103 ls []) := by
  obtain ⟨hx, hb, hr, hml, hown, hts, hlocks, hKK, hA1, hA2⟩ := id C
  unfold fsX3_takeOver_103 at h
  refine lv_iload_n hx hb dX3_takeOver_103 rfl (lv_at hl 2 rfl) ?_
  refine lv_iconst (v := (5 : Int32)) hx hb dX3_takeOver_104 (by decide) ?_
  refine lv_icmp_ge (tgt := 142) hx hb dX3_takeOver_105 (by decide) (fun c1 => ?_) (fun c1 => ?_)
  · replace h := ite_t h c1
    obtain ⟨e2, e3⟩ := rt2 h
    exact x_rv C w (by rw [e2]) (by rw [e3]) dX3_takeOver_142
  · replace h := ite_f h c1
    refine lv_aload_n hx hb dX3_takeOver_108 rfl (lv_at hl 0 rfl) ?_
    refine lv_iload_n hx hb dX3_takeOver_109 rfl (lv_at hl 2 rfl) ?_
    obtain ⟨vv3, hv2, h⟩ := bind_of h
    refine x_cVq (As := [.int a2]) (rest := []) C (Wd.ofS g w) (vS hg (by decide)) (cel_S hg) rfl (mtX3_numbered hg hv2) q5_2 q5_3 q5_4 q1_12 q5_5 ydX3_numbered ⟨rfl, rfl⟩ ⟨by decide, by decide⟩ ⟨Nat.zero_le _, Nat.zero_le _⟩ hl.1 (Nat.le_of_ble_eq_true rfl) rfl dX3_takeOver_110 (fun H locs w => ?_)
    have w := Wd.back w
    cases vv3 with
    | none =>
      replace h := oc_n h
      refine lv_astore_nN (lv' := [(3, .null), (0, .ref (ad E g 0)), (1, .ref (ad E g' 0)), (2, .int a2)]) hx hb dX3_takeOver_113 rfl hl (by decide) rfl (fun ls hl => ?_)
      refine lv_aload_n hx hb dX3_takeOver_114 rfl (lv_at hl 2 rfl) ?_
      refine lv_iload_n hx hb dX3_takeOver_115 rfl (lv_at hl 3 rfl) ?_
      obtain ⟨vv6, hv5, h⟩ := bind_of h
      refine x_cVq (As := [.int a2]) (rest := []) C (Wd.ofS g' w) (vS hg' (by decide)) (cel_S hg') rfl (mtX3_numbered hg' hv5) q5_2 q5_3 q5_4 q1_12 q5_5 ydX3_numbered ⟨rfl, rfl⟩ ⟨by decide, by decide⟩ ⟨Nat.zero_le _, Nat.zero_le _⟩ hl.1 (Nat.le_of_ble_eq_true rfl) rfl dX3_takeOver_116 (fun H locs w => ?_)
      have w := Wd.back w
      cases vv6 with
      | none =>
        replace h := oc_n h
        refine lv_astoreN (lv' := [(4, .null), (3, .null), (0, .ref (ad E g 0)), (1, .ref (ad E g' 0)), (2, .int a2)]) hx hb dX3_takeOver_119 hl (by decide) rfl (fun ls hl => ?_)
        refine lv_aload_nN hx hb dX3_takeOver_121 rfl (lv_at hl 1 rfl) ?_
        refine lv_ifnullN (tgt := 136) hx hb dX3_takeOver_122 (by decide) ?_
        exact TX3_takeOver_136 C hg hg' hk103 _ _ _ h w (lv_sub hl [2, 3, 4] rfl)
      | some z7 =>
        replace h := oc_s h
        obtain ⟨hz7, h⟩ := chk_of h
        refine lv_astore (lv' := [(4, .ref (ad E g' z7)), (3, .null), (0, .ref (ad E g 0)), (1, .ref (ad E g' 0)), (2, .int a2)]) hx hb dX3_takeOver_119 hl (by decide) rfl (fun ls hl => ?_)
        refine lv_aload_nN hx hb dX3_takeOver_121 rfl (lv_at hl 1 rfl) ?_
        refine lv_ifnullN (tgt := 136) hx hb dX3_takeOver_122 (by decide) ?_
        exact TX3_takeOver_136 C hg hg' hk103 _ _ _ h w (lv_sub hl [2, 3, 4] rfl)
    | some z4 =>
      replace h := oc_s h
      obtain ⟨hz4, h⟩ := chk_of h
      refine lv_astore_n (lv' := [(3, .ref (ad E g z4)), (0, .ref (ad E g 0)), (1, .ref (ad E g' 0)), (2, .int a2)]) hx hb dX3_takeOver_113 rfl hl (by decide) rfl (fun ls hl => ?_)
      refine lv_aload_n hx hb dX3_takeOver_114 rfl (lv_at hl 2 rfl) ?_
      refine lv_iload_n hx hb dX3_takeOver_115 rfl (lv_at hl 3 rfl) ?_
      obtain ⟨vv9, hv8, h⟩ := bind_of h
      refine x_cVq (As := [.int a2]) (rest := []) C (Wd.ofS g' w) (vS hg' (by decide)) (cel_S hg') rfl (mtX3_numbered hg' hv8) q5_2 q5_3 q5_4 q1_12 q5_5 ydX3_numbered ⟨rfl, rfl⟩ ⟨by decide, by decide⟩ ⟨Nat.zero_le _, Nat.zero_le _⟩ hl.1 (Nat.le_of_ble_eq_true rfl) rfl dX3_takeOver_116 (fun H locs w => ?_)
      have w := Wd.back w
      cases vv9 with
      | none =>
        replace h := oc_n h
        refine lv_astoreN (lv' := [(4, .null), (3, .ref (ad E g z4)), (0, .ref (ad E g 0)), (1, .ref (ad E g' 0)), (2, .int a2)]) hx hb dX3_takeOver_119 hl (by decide) rfl (fun ls hl => ?_)
        refine lv_aload_n hx hb dX3_takeOver_121 rfl (lv_at hl 1 rfl) ?_
        refine lv_ifnull hx hb dX3_takeOver_122 ?_
        refine lv_aloadN hx hb dX3_takeOver_125 (lv_at hl 0 rfl) ?_
        refine lv_ifnullN (tgt := 136) hx hb dX3_takeOver_127 (by decide) ?_
        exact TX3_takeOver_136 C hg hg' hk103 _ _ _ h w (lv_sub hl [2, 3, 4] rfl)
      | some z10 =>
        replace h := oc_s h
        obtain ⟨hz10, h⟩ := chk_of h
        refine lv_astore (lv' := [(4, .ref (ad E g' z10)), (3, .ref (ad E g z4)), (0, .ref (ad E g 0)), (1, .ref (ad E g' 0)), (2, .int a2)]) hx hb dX3_takeOver_119 hl (by decide) rfl (fun ls hl => ?_)
        refine lv_aload_n hx hb dX3_takeOver_121 rfl (lv_at hl 1 rfl) ?_
        refine lv_ifnull hx hb dX3_takeOver_122 ?_
        refine lv_aload hx hb dX3_takeOver_125 (lv_at hl 0 rfl) ?_
        refine lv_ifnull hx hb dX3_takeOver_127 ?_
        refine lv_aload_n hx hb dX3_takeOver_130 rfl (lv_at hl 1 rfl) ?_
        refine lv_aload hx hb dX3_takeOver_131 (lv_at hl 0 rfl) ?_
        obtain ⟨G12, K13, hv11, h⟩ := bd2_of h
        refine x_cVv (As := [.ref (ad E g' z10)]) (rest := []) C w (vC hg hz4) (cel_C hg hz4.1) rfl (mtX0_takeOver hg hz4 hg' hz10 hv11) q9_19 q9_20 q9_21 q2_17 q9_22 ydX0_takeOver ⟨rfl, rfl⟩ ⟨by decide, by decide⟩ ⟨Nat.zero_le _, Nat.zero_le _⟩ hl.1 (Nat.le_of_ble_eq_true rfl) rfl dX3_takeOver_133 (fun H locs w => ?_)
        exact TX3_takeOver_136 C hg hg' hk103 _ _ _ h w (lv_sub hl [2, 3, 4] rfl)
theorem TX3_takeOver_103 {GR : M3} {KR : J3}   (C : Cx E A p s m args meth c wdX3_takeOver cX3_takeOver 5 none RX3) (hg : g < 6) (hg' : g' < 6)  : ∀ (n : Nat) (a2 : Int32) (G : M3) (K : J3)  (ls : Array Slot) (H : Heap) (locs : List Loc), fbX3_takeOver_103 F g g' n a2 G K = some (GR, KR) → Wd E A s G K H locs → lv_has ls 5 [(0, .ref (ad E g 0)), (1, .ref (ad E g' 0)), (2, .int a2)] → W p l e rmX3_takeOver s m args below meth c H locs 0 0 (QV E A below args s  GR KR) (F0 m 103 ls []) := by
  intro n
  induction n with
  | zero => intro a2 G K  ls H locs h; exact absurd (show none = _ from h) (fun z => nomatch z)
  | succ n ih => intro a2 G K  ls H locs h w hl; exact SX3_takeOver_103 (F := F) C hg hg'  ih a2 G K  h w hl
noncomputable def fX3_takeOver (F : Nat) (g : Nat) (g' : Nat)  (G : M3) (K : J3) : Option (M3 × J3) := bnd (up3 G g 0 0 (G g' 0 0)) (fun G1 => bnd (up3 G1 g 0 1 (G1 g' 0 1)) (fun G3 => bnd (up3 G3 g 0 2 (G3 g' 0 2)) (fun G5 => bnd (up3 G5 g 0 3 (G5 g' 0 3)) (fun G7 => bnd (up3 G7 g 0 4 (G7 g' 0 4)) (fun G9 => bnd (up3 G9 g 0 5 (G9 g' 0 5)) (fun G11 => bnd (up3 G11 g 0 6 (G11 g' 0 6)) (fun G13 => bnd (sg G13 g (sg (G13 g) 1 (cpy (G13 g' 1) (G13 g 1) 8))) (fun G15 => bnd (sg K g (sg (K g) 2 (cpy (K g' 2) (K g 2) 6))) (fun K17 => bnd (sg G15 g (sg (G15 g) 3 (cpy (G15 g' 3) (G15 g 3) 6))) (fun G19 => fbX3_takeOver_103 F g g' F (0 : Int32) G19 K17))))))))))
set_option maxRecDepth 20000 in
set_option maxHeartbeats 1000000 in
theorem TX3_takeOver {GR : M3} {KR : J3}  (C : Cx E A p s m args meth c wdX3_takeOver cX3_takeOver 5 none RX3) (hg : g < 6) (hg' : g' < 6)   (h : fX3_takeOver F g g' G K = some (GR, KR)) (w : Wd E A s G K H locs) (hl : lv_has ls 5 [(0, .ref (ad E g 0)), (1, .ref (ad E g' 0))]) : W p l e rmX3_takeOver s m args below meth c H locs 0 0 (QV E A below args s  GR KR) (F0 m 0 ls []) := by
  obtain ⟨hx, hb, hr, hml, hown, hts, hlocks, hKK, hA1, hA2⟩ := id C
  unfold fX3_takeOver at h
  refine lv_aload_n hx hb dX3_takeOver_0 rfl (lv_at hl 0 rfl) ?_
  refine lv_aload_n hx hb dX3_takeOver_1 rfl (lv_at hl 1 rfl) ?_
  refine gG_X3_volume hg' C w q2_3 dX3_takeOver_2 ?_
  refine pG_X3_volume hg C w q2_3 dX3_takeOver_5 (fun G1 H locs e2 w => ?_)
  replace h := bnd_of h e2
  refine lv_aload_n hx hb dX3_takeOver_8 rfl (lv_at hl 0 rfl) ?_
  refine lv_aload_n hx hb dX3_takeOver_9 rfl (lv_at hl 1 rfl) ?_
  refine gG_X3_air hg' C w q2_4 dX3_takeOver_10 ?_
  refine pG_X3_air hg C w q2_4 dX3_takeOver_13 (fun G3 H locs e4 w => ?_)
  replace h := bnd_of h e4
  refine lv_aload_n hx hb dX3_takeOver_16 rfl (lv_at hl 0 rfl) ?_
  refine lv_aload_n hx hb dX3_takeOver_17 rfl (lv_at hl 1 rfl) ?_
  refine gG_X3_time hg' C w q4_11 dX3_takeOver_18 ?_
  refine pG_X3_time hg C w q4_11 dX3_takeOver_21 (fun G5 H locs e6 w => ?_)
  replace h := bnd_of h e6
  refine lv_aload_n hx hb dX3_takeOver_24 rfl (lv_at hl 0 rfl) ?_
  refine lv_aload_n hx hb dX3_takeOver_25 rfl (lv_at hl 1 rfl) ?_
  refine gG_X3_sinceRotation hg' C w q4_12 dX3_takeOver_26 ?_
  refine pG_X3_sinceRotation hg C w q4_12 dX3_takeOver_29 (fun G7 H locs e8 w => ?_)
  replace h := bnd_of h e8
  refine lv_aload_n hx hb dX3_takeOver_32 rfl (lv_at hl 0 rfl) ?_
  refine lv_aload_n hx hb dX3_takeOver_33 rfl (lv_at hl 1 rfl) ?_
  refine gG_X3_rotations hg' C w q4_13 dX3_takeOver_34 ?_
  refine pG_X3_rotations hg C w q4_13 dX3_takeOver_37 (fun G9 H locs e10 w => ?_)
  replace h := bnd_of h e10
  refine lv_aload_n hx hb dX3_takeOver_40 rfl (lv_at hl 0 rfl) ?_
  refine lv_aload_n hx hb dX3_takeOver_41 rfl (lv_at hl 1 rfl) ?_
  refine gG_X3_count hg' C w q4_10 dX3_takeOver_42 ?_
  refine pG_X3_count hg C w q4_10 dX3_takeOver_45 (fun G11 H locs e12 w => ?_)
  replace h := bnd_of h e12
  refine lv_aload_n hx hb dX3_takeOver_48 rfl (lv_at hl 0 rfl) ?_
  refine lv_aload_n hx hb dX3_takeOver_49 rfl (lv_at hl 1 rfl) ?_
  refine gG_X3_kept hg' C w q4_14 dX3_takeOver_50 ?_
  refine pG_X3_kept hg C w q4_14 dX3_takeOver_53 (fun G13 H locs e14 w => ?_)
  replace h := bnd_of h e14
  refine lv_aload_n hx hb dX3_takeOver_56 rfl (lv_at hl 1 rfl) ?_
  refine gR_X3_settings hg' C w q2_6 dX3_takeOver_57 ?_
  refine lv_iconst (v := (0 : Int32)) hx hb dX3_takeOver_60 (by decide) ?_
  refine lv_aload_n hx hb dX3_takeOver_61 rfl (lv_at hl 0 rfl) ?_
  refine gR_X3_settings hg C w q2_6 dX3_takeOver_62 ?_
  refine lv_iconst (v := (0 : Int32)) hx hb dX3_takeOver_65 (by decide) ?_
  refine lv_bipush (v := (8 : Int32)) hx hb dX3_takeOver_66 (by decide) ?_
  refine x_cpyI C w hl.1 (vS hg' (by decide)) (vS hg (by decide)) (cS1 hg') (cS1 hg) (by decide) cl_8 (by decide) (by decide) q2_12 q2_13 q2_14 q2_15 (by decide) (by decide +kernel) dX3_takeOver_68 (fun H locs w => ?_)
  obtain ⟨G15, e16⟩ : ∃ z, z = sg G13 g (sg (G13 g) 1 (cpy (G13 g' 1) (G13 g 1) 8)) := ⟨_, rfl⟩
  rw [← e16] at w
  replace h := bnd_of h e16
  refine lv_aload_n hx hb dX3_takeOver_71 rfl (lv_at hl 1 rfl) ?_
  refine gR_X3_amounts hg' C w q2_8 dX3_takeOver_72 ?_
  refine lv_iconst (v := (0 : Int32)) hx hb dX3_takeOver_75 (by decide) ?_
  refine lv_aload_n hx hb dX3_takeOver_76 rfl (lv_at hl 0 rfl) ?_
  refine gR_X3_amounts hg C w q2_8 dX3_takeOver_77 ?_
  refine lv_iconst (v := (0 : Int32)) hx hb dX3_takeOver_80 (by decide) ?_
  refine lv_bipush (v := (6 : Int32)) hx hb dX3_takeOver_81 (by decide) ?_
  refine x_cpyJ C w hl.1 (vS hg' (by decide)) (vS hg (by decide)) (cS2 hg') (cS2 hg) (by decide) cl_6 (by decide) (by decide) q2_12 q2_13 q2_14 q2_15 (by decide) (by decide +kernel) dX3_takeOver_83 (fun H locs w => ?_)
  obtain ⟨K17, e18⟩ : ∃ z, z = sg K g (sg (K g) 2 (cpy (K g' 2) (K g 2) 6)) := ⟨_, rfl⟩
  rw [← e18] at w
  replace h := bnd_of h e18
  refine lv_aload_n hx hb dX3_takeOver_86 rfl (lv_at hl 1 rfl) ?_
  refine gR_X3_results hg' C w q2_9 dX3_takeOver_87 ?_
  refine lv_iconst (v := (0 : Int32)) hx hb dX3_takeOver_90 (by decide) ?_
  refine lv_aload_n hx hb dX3_takeOver_91 rfl (lv_at hl 0 rfl) ?_
  refine gR_X3_results hg C w q2_9 dX3_takeOver_92 ?_
  refine lv_iconst (v := (0 : Int32)) hx hb dX3_takeOver_95 (by decide) ?_
  refine lv_bipush (v := (6 : Int32)) hx hb dX3_takeOver_96 (by decide) ?_
  refine x_cpyI C w hl.1 (vS hg' (by decide)) (vS hg (by decide)) (cS3 hg') (cS3 hg) (by decide) cl_6 (by decide) (by decide) q2_12 q2_13 q2_14 q2_15 (by decide) (by decide +kernel) dX3_takeOver_98 (fun H locs w => ?_)
  obtain ⟨G19, e20⟩ : ∃ z, z = sg G15 g (sg (G15 g) 3 (cpy (G15 g' 3) (G15 g 3) 6)) := ⟨_, rfl⟩
  rw [← e20] at w
  replace h := bnd_of h e20
  refine lv_iconst (v := (0 : Int32)) hx hb dX3_takeOver_101 (by decide) ?_
  refine lv_istore_n (lv' := [(2, .int (0 : Int32)), (0, .ref (ad E g 0)), (1, .ref (ad E g' 0))]) hx hb dX3_takeOver_102 rfl hl (by decide) rfl (fun ls hl => ?_)
  exact TX3_takeOver_103 C hg hg'  _ _ _ _ _ _ _ h w (lv_sub hl [1, 2, 0] rfl)
theorem mtX3_takeOver {GR : M3} {KR : J3}  (hg : g < 6) (hg' : g' < 6)   (h : fX3_takeOver F g g' G K = some (GR, KR)) : MtV l yX3_takeOver wdX3_takeOver rmX3_takeOver E [.ref (ad E g 0), .ref (ad E g' 0)] G K  GR KR := by
  intro sz
  refine Met.ofW (cc := cX3_takeOver) (maxL := 5) (ret := none) (by decide) rfl ?_
  intro p e s m args below meth c s₁ B hml hv
  obtain ⟨rfl, C, w⟩ := Cx.of (own := RX3) B rfl hml hv
  have hl := lv_entry ([.ref (ad E g 0), .ref (ad E g' 0)]) (n := 5) (by first | exact Nat.le_of_ble_eq_true rfl)
  rw [lg_entry_eq]
  generalize (lg_sl ([.ref (ad E g 0), .ref (ad E g' 0)]) ++ List.replicate (5 - (lg_sl ([.ref (ad E g 0), .ref (ad E g' 0)])).length) Slot.unset).toArray = ls at hl ⊢
  exact TX3_takeOver C hg hg'  h w hl
theorem ydX3_takeOver : yX3_takeOver.cls = RX3 ∧ yX3_takeOver.cls ≠ "java/lang/invoke/MethodHandle" ∧ yX3_takeOver.cls ≠ "java/lang/invoke/VarHandle" ∧ (parseMethodDescriptor yX3_takeOver.desc).map (fun d => d.parameters.length) = some 1 := by decide +kernel
end XS2
