section XA1
variable {E : WE} {A : Nat → Prop} {p : Program} {l : Launch} {e : Env} {s : State} {m : MethodId} {args : Array Value} {below : List Frame} {meth : Method} {c : Code} {H : Heap} {locs : List Loc} {ls : Array Slot} {G : M3} {K : J3} {M : M2} {J : J2} {F g q : Nat} {g' q' : Nat}

/-! X4.rotate()I -/
abbrev rmX4_rotate : Room := { frames := 4, cells := 0, slots := 0, locals := 86 }
abbrev wdX4_rotate : Cond := Cond.code yX4_rotate cX4_rotate 1 (some .int)
noncomputable def fX4_rotate (F : Nat)   (G : M3) (K : J3) : Option (Int32 × M3 × J3) := bd2 (fX1_save F 0 G K) (fun G2 K3 => bd3 (fX3_reorder F (G2 0) (K3 0)) (fun vv11 M5 J6 => bnd (sg G2 0 M5) (fun G7 => bnd (sg K3 0 J6) (fun K8 => some (vv11, G7, K8)))))
set_option maxRecDepth 20000 in
set_option maxHeartbeats 1000000 in
theorem TX4_rotate {rr : Int32} {GR : M3} {KR : J3}  (C : Cx E A p s m args meth c wdX4_rotate cX4_rotate 1 (some .int) RX4)    (h : fX4_rotate F  G K = some (rr, GR, KR)) (w : Wd E A s G K H locs) (hl : lv_has ls 1 [(0, .ref (ad E 6 0))]) : W p l e rmX4_rotate s m args below meth c H locs 0 0 (QI E A below args s rr GR KR) (F0 m 0 ls []) := by
  obtain ⟨hx, hb, hr, hml, hown, hts, hlocks, hKK, hA1, hA2⟩ := id C
  unfold fX4_rotate at h
  refine lv_aload_n hx hb dX4_rotate_0 rfl (lv_at hl 0 rfl) ?_
  refine gR_X4_history C w q1_18 dX4_rotate_1 ?_
  refine lv_aload_n hx hb dX4_rotate_4 rfl (lv_at hl 0 rfl) ?_
  refine gR_X4_state C w q1_13 dX4_rotate_5 ?_
  obtain ⟨G2, K3, hv1, h⟩ := bd2_of h
  refine x_cVv (As := [.ref (ad E 0 0)]) (rest := []) C w (v6 (by decide)) cel_6 rfl (mtX1_save (show (0 : Nat) < 6 by decide) hv1) q9_1 q9_2 q9_3 q1_17 q9_4 ydX1_save ⟨rfl, rfl⟩ ⟨by decide, by decide⟩ ⟨Nat.zero_le _, Nat.zero_le _⟩ hl.1 (Nat.le_of_ble_eq_true rfl) rfl dX4_rotate_8 (fun H locs w => ?_)
  refine lv_aload_n hx hb dX4_rotate_11 rfl (lv_at hl 0 rfl) ?_
  refine gR_X4_state C w q1_13 dX4_rotate_12 ?_
  obtain ⟨vv11, M5, J6, hv4, h⟩ := bd3_of h
  refine x_cVi (As := []) (rest := []) C (Wd.ofS 0 w) (vS (show (0 : Nat) < 6 by decide) (by decide)) (cel_S (show (0 : Nat) < 6 by decide)) rfl (mtX3_reorder (show (0 : Nat) < 6 by decide) hv4) q14_9 q13_1 q13_2 q1_12 q13_3 ydX3_reorder ⟨rfl, rfl⟩ ⟨by decide, by decide⟩ ⟨Nat.zero_le _, Nat.zero_le _⟩ hl.1 (Nat.le_of_ble_eq_true rfl) rfl dX4_rotate_15 (fun H locs w => ?_)
  obtain ⟨G7, e9⟩ : ∃ z, z = sg G2 0 M5 := ⟨_, rfl⟩
  obtain ⟨K8, e10⟩ : ∃ z, z = sg K3 0 J6 := ⟨_, rfl⟩
  rw [← e9, ← e10] at w
  replace h := bnd_of h e9
  replace h := bnd_of h e10
  obtain ⟨e1, e2, e3⟩ := rt3 h
  exact x_ri C w e1 (by rw [e2]) (by rw [e3]) dX4_rotate_18
theorem mtX4_rotate {rr : Int32} {GR : M3} {KR : J3}     (h : fX4_rotate F  G K = some (rr, GR, KR)) : MtI l yX4_rotate wdX4_rotate rmX4_rotate E [.ref (ad E 6 0)] G K rr GR KR := by
  intro sz
  refine Met.ofW (cc := cX4_rotate) (maxL := 1) (ret := (some .int)) (by decide) rfl ?_
  intro p e s m args below meth c s₁ B hml hv
  obtain ⟨rfl, C, w⟩ := Cx.of (own := RX4) B rfl hml hv
  have hl := lv_entry ([.ref (ad E 6 0)]) (n := 1) (by first | exact Nat.le_of_ble_eq_true rfl)
  rw [lg_entry_eq]
  generalize (lg_sl ([.ref (ad E 6 0)]) ++ List.replicate (1 - (lg_sl ([.ref (ad E 6 0)])).length) Slot.unset).toArray = ls at hl ⊢
  exact TX4_rotate C   h w hl
theorem ydX4_rotate : yX4_rotate.cls = RX4 ∧ yX4_rotate.cls ≠ "java/lang/invoke/MethodHandle" ∧ yX4_rotate.cls ≠ "java/lang/invoke/VarHandle" ∧ (parseMethodDescriptor yX4_rotate.desc).map (fun d => d.parameters.length) = some 0 := by decide +kernel
/-! X4.minutesToLoad()I -/
abbrev rmX4_minutesToLoad : Room := { frames := 5, cells := 0, slots := 0, locals := 104 }
abbrev wdX4_minutesToLoad : Cond := Cond.code yX4_minutesToLoad cX4_minutesToLoad 2 (some .int)
noncomputable def fsX4_minutesToLoad_13 (F : Nat)   (k13 : Int32 → M3 → J3 → Option (Int32 × M3 × J3)) : Int32 → M3 → J3 → Option (Int32 × M3 × J3) := fun a1 G K => (if (600 : Int32) < a1 then (some ((-1 : Int32), G, K)) else (bd3 (fX3_runMinute F (G 1) (K 1)) (fun vv9 M3 J4 => bnd (sg G 1 M3) (fun G5 => bnd (sg K 1 J4) (fun K6 => (if vv9 = 0 then (k13 (a1 + (1 : Int32)) G5 K6) else (some (a1, G5, K6))))))))
noncomputable def fbX4_minutesToLoad_13 (F : Nat)   (n : Nat) : Int32 → M3 → J3 → Option (Int32 × M3 × J3) := itr (fsX4_minutesToLoad_13 F ) (fun _ _ _ => none) n
set_option maxRecDepth 20000 in
set_option maxHeartbeats 1000000 in
theorem SX4_minutesToLoad_13 {rr : Int32} {GR : M3} {KR : J3}   {k13 : Int32 → M3 → J3 → Option (Int32 × M3 × J3)} (C : Cx E A p s m args meth c wdX4_minutesToLoad cX4_minutesToLoad 2 (some .int) RX4)   (hk13 : ∀ (a1 : Int32) (G : M3) (K : J3)  (ls : Array Slot) (H : Heap) (locs : List Loc), k13 a1 G K = some (rr, GR, KR) → Wd E A s G K H locs → lv_has ls 2 [(0, .ref (ad E 6 0)), (1, .int a1)] → W p l e rmX4_minutesToLoad s m args below meth c H locs 0 0 (QI E A below args s rr GR KR) (F0 m 13 ls [])) (a1 : Int32) (G : M3) (K : J3)  (h : fsX4_minutesToLoad_13 F  k13 a1 G K = some (rr, GR, KR)) (w : Wd E A s G K H locs) (hl : lv_has ls 2 [(0, .ref (ad E 6 0)), (1, .int a1)]) : W p l e rmX4_minutesToLoad s m args below meth c H locs 0 0 (QI E A below args s rr GR KR) (F0 m 13 ls []) := by
  obtain ⟨hx, hb, hr, hml, hown, hts, hlocks, hKK, hA1, hA2⟩ := id C
  unfold fsX4_minutesToLoad_13 at h
  refine lv_iload_n hx hb dX4_minutesToLoad_13 rfl (lv_at hl 1 rfl) ?_
  refine lv_sipush (v := (600 : Int32)) hx hb dX4_minutesToLoad_14 (by decide) ?_
  refine lv_icmp_gt (tgt := 38) hx hb dX4_minutesToLoad_17 (by decide) (fun c1 => ?_) (fun c1 => ?_)
  · replace h := ite_t h c1
    refine lv_iconst (v := (-1 : Int32)) hx hb dX4_minutesToLoad_38 (by decide) ?_
    obtain ⟨e1, e2, e3⟩ := rt3 h
    exact x_ri C w e1 (by rw [e2]) (by rw [e3]) dX4_minutesToLoad_39
  · replace h := ite_f h c1
    refine lv_aload_n hx hb dX4_minutesToLoad_20 rfl (lv_at hl 0 rfl) ?_
    refine gR_X4_trial C w q1_14 dX4_minutesToLoad_21 ?_
    obtain ⟨vv9, M3, J4, hv2, h⟩ := bd3_of h
    refine x_cVi (As := []) (rest := []) C (Wd.ofS 1 w) (vS (show (1 : Nat) < 6 by decide) (by decide)) (cel_S (show (1 : Nat) < 6 by decide)) rfl (mtX3_runMinute (show (1 : Nat) < 6 by decide) hv2) q16_11 q14_22 q14_23 q1_12 q15_0 ydX3_runMinute ⟨rfl, rfl⟩ ⟨by decide, by decide⟩ ⟨Nat.zero_le _, Nat.zero_le _⟩ hl.1 (Nat.le_of_ble_eq_true rfl) rfl dX4_minutesToLoad_24 (fun H locs w => ?_)
    obtain ⟨G5, e7⟩ : ∃ z, z = sg G 1 M3 := ⟨_, rfl⟩
    obtain ⟨K6, e8⟩ : ∃ z, z = sg K 1 J4 := ⟨_, rfl⟩
    rw [← e7, ← e8] at w
    replace h := bnd_of h e7
    replace h := bnd_of h e8
    refine lv_if_eq (tgt := 32) hx hb dX4_minutesToLoad_27 (by decide) (fun c10 => ?_) (fun c10 => ?_)
    · replace h := ite_t h c10
      refine lv_iinc (v := (a1 + (1 : Int32))) (lv' := [(1, .int (a1 + (1 : Int32))), (0, .ref (ad E 6 0))]) hx hb dX4_minutesToLoad_32 hl (k := 1) rfl (congrArg (HAdd.hAdd _) (by decide)) (by decide) rfl (fun ls hl => ?_)
      refine lv_goto (tgt := 13) hx hb dX4_minutesToLoad_35 (by decide) ?_
      exact hk13 _ _ _ _ _ _ h w (lv_sub hl [1, 0] rfl)
    · replace h := ite_f h c10
      refine lv_iload_n hx hb dX4_minutesToLoad_30 rfl (lv_at hl 1 rfl) ?_
      obtain ⟨e1, e2, e3⟩ := rt3 h
      exact x_ri C w e1 (by rw [e2]) (by rw [e3]) dX4_minutesToLoad_31
theorem TX4_minutesToLoad_13 {rr : Int32} {GR : M3} {KR : J3}   (C : Cx E A p s m args meth c wdX4_minutesToLoad cX4_minutesToLoad 2 (some .int) RX4)   : ∀ (n : Nat) (a1 : Int32) (G : M3) (K : J3)  (ls : Array Slot) (H : Heap) (locs : List Loc), fbX4_minutesToLoad_13 F  n a1 G K = some (rr, GR, KR) → Wd E A s G K H locs → lv_has ls 2 [(0, .ref (ad E 6 0)), (1, .int a1)] → W p l e rmX4_minutesToLoad s m args below meth c H locs 0 0 (QI E A below args s rr GR KR) (F0 m 13 ls []) := by
  intro n
  induction n with
  | zero => intro a1 G K  ls H locs h; exact absurd (show none = _ from h) (fun z => nomatch z)
  | succ n ih => intro a1 G K  ls H locs h w hl; exact SX4_minutesToLoad_13 (F := F) C   ih a1 G K  h w hl
noncomputable def fX4_minutesToLoad (F : Nat)   (G : M3) (K : J3) : Option (Int32 × M3 × J3) := bd2 (fX3_takeOver F 1 0 G K) (fun G2 K3 => fbX4_minutesToLoad_13 F F (1 : Int32) G2 K3)
set_option maxRecDepth 20000 in
set_option maxHeartbeats 1000000 in
theorem TX4_minutesToLoad {rr : Int32} {GR : M3} {KR : J3}  (C : Cx E A p s m args meth c wdX4_minutesToLoad cX4_minutesToLoad 2 (some .int) RX4)    (h : fX4_minutesToLoad F  G K = some (rr, GR, KR)) (w : Wd E A s G K H locs) (hl : lv_has ls 2 [(0, .ref (ad E 6 0))]) : W p l e rmX4_minutesToLoad s m args below meth c H locs 0 0 (QI E A below args s rr GR KR) (F0 m 0 ls []) := by
  obtain ⟨hx, hb, hr, hml, hown, hts, hlocks, hKK, hA1, hA2⟩ := id C
  unfold fX4_minutesToLoad at h
  refine lv_aload_n hx hb dX4_minutesToLoad_0 rfl (lv_at hl 0 rfl) ?_
  refine gR_X4_trial C w q1_14 dX4_minutesToLoad_1 ?_
  refine lv_aload_n hx hb dX4_minutesToLoad_4 rfl (lv_at hl 0 rfl) ?_
  refine gR_X4_state C w q1_13 dX4_minutesToLoad_5 ?_
  obtain ⟨G2, K3, hv1, h⟩ := bd2_of h
  refine x_cVv (As := [.ref (ad E 0 0)]) (rest := []) C w (vS (show (1 : Nat) < 6 by decide) (by decide)) (cel_S (show (1 : Nat) < 6 by decide)) rfl (mtX3_takeOver (show (1 : Nat) < 6 by decide) (show (0 : Nat) < 6 by decide) hv1) q16_10 q9_16 q9_17 q1_12 q9_18 ydX3_takeOver ⟨rfl, rfl⟩ ⟨by decide, by decide⟩ ⟨Nat.zero_le _, Nat.zero_le _⟩ hl.1 (Nat.le_of_ble_eq_true rfl) rfl dX4_minutesToLoad_8 (fun H locs w => ?_)
  refine lv_iconst (v := (1 : Int32)) hx hb dX4_minutesToLoad_11 (by decide) ?_
  refine lv_istore_n (lv' := [(1, .int (1 : Int32)), (0, .ref (ad E 6 0))]) hx hb dX4_minutesToLoad_12 rfl hl (by decide) rfl (fun ls hl => ?_)
  exact TX4_minutesToLoad_13 C   _ _ _ _ _ _ _ h w (lv_sub hl [1, 0] rfl)
theorem mtX4_minutesToLoad {rr : Int32} {GR : M3} {KR : J3}     (h : fX4_minutesToLoad F  G K = some (rr, GR, KR)) : MtI l yX4_minutesToLoad wdX4_minutesToLoad rmX4_minutesToLoad E [.ref (ad E 6 0)] G K rr GR KR := by
  intro sz
  refine Met.ofW (cc := cX4_minutesToLoad) (maxL := 2) (ret := (some .int)) (by decide) rfl ?_
  intro p e s m args below meth c s₁ B hml hv
  obtain ⟨rfl, C, w⟩ := Cx.of (own := RX4) B rfl hml hv
  have hl := lv_entry ([.ref (ad E 6 0)]) (n := 2) (by first | exact Nat.le_of_ble_eq_true rfl)
  rw [lg_entry_eq]
  generalize (lg_sl ([.ref (ad E 6 0)]) ++ List.replicate (2 - (lg_sl ([.ref (ad E 6 0)])).length) Slot.unset).toArray = ls at hl ⊢
  exact TX4_minutesToLoad C   h w hl
theorem ydX4_minutesToLoad : yX4_minutesToLoad.cls = RX4 ∧ yX4_minutesToLoad.cls ≠ "java/lang/invoke/MethodHandle" ∧ yX4_minutesToLoad.cls ≠ "java/lang/invoke/VarHandle" ∧ (parseMethodDescriptor yX4_minutesToLoad.desc).map (fun d => d.parameters.length) = some 0 := by decide +kernel
/-! X4.digestWith(JLAirStation$Compressor;)J -/
abbrev rmX4_digestWith : Room := { frames := 3, cells := 0, slots := 0, locals := 55 }
abbrev wdX4_digestWith : Cond := Cond.code yX4_digestWith cX4_digestWith 7 (some .long)
noncomputable def fsX4_digestWith_12 (F : Nat)  (G : M3) (K : J3) (k12 : Nat → Int64 → Int32 → Option Int64) : Nat → Int64 → Int32 → Option Int64 := fun a3 a4 a6 => (if (10 : Int32) ≤ a6 then ((fX3_pressure (G 0) (K 0)).bind (fun vv3 => some (((31 : Int64) * a4) + (fX3_doingOf (G 0) (K 0) a3 vv3).toInt64))) else (k12 a3 (((31 : Int64) * a4) + (fX3_numberAbout (G 0) (K 0) a3 a6).toInt64) (a6 + (1 : Int32))))
noncomputable def fbX4_digestWith_12 (F : Nat)  (G : M3) (K : J3) (n : Nat) : Nat → Int64 → Int32 → Option Int64 := itr (fsX4_digestWith_12 F G K) (fun _ _ _ => none) n
set_option maxRecDepth 20000 in
set_option maxHeartbeats 1000000 in
theorem SX4_digestWith_12 {rr : Int64}   {k12 : Nat → Int64 → Int32 → Option Int64} (C : Cx E A p s m args meth c wdX4_digestWith cX4_digestWith 7 (some .long) RX4)   (hk12 : ∀ (a3 : Nat) (a4 : Int64) (a6 : Int32)  (ha3 : isC a3) (ls : Array Slot) (H : Heap) (locs : List Loc), k12 a3 a4 a6 = some rr → Wd E A s G K H locs → lv_has ls 7 [(0, .ref (ad E 6 0)), (3, .ref (ad E 0 a3)), (4, .long a4), (6, .int a6)] → W p l e rmX4_digestWith s m args below meth c H locs 0 0 (QL E A below args s rr G K) (F0 m 12 ls [])) (a3 : Nat) (a4 : Int64) (a6 : Int32)  (ha3 : isC a3) (h : fsX4_digestWith_12 F G K k12 a3 a4 a6 = some rr) (w : Wd E A s G K H locs) (hl : lv_has ls 7 [(0, .ref (ad E 6 0)), (3, .ref (ad E 0 a3)), (4, .long a4), (6, .int a6)]) : W p l e rmX4_digestWith s m args below meth c H locs 0 0 (QL E A below args s rr G K) (F0 m 12 ls []) := by
  obtain ⟨hx, hb, hr, hml, hown, hts, hlocks, hKK, hA1, hA2⟩ := id C
  unfold fsX4_digestWith_12 at h
  refine lv_iload hx hb dX4_digestWith_12 (lv_at hl 3 rfl) ?_
  refine lv_bipush (v := (10 : Int32)) hx hb dX4_digestWith_14 (by decide) ?_
  refine lv_icmp_ge (tgt := 45) hx hb dX4_digestWith_16 (by decide) (fun c1 => ?_) (fun c1 => ?_)
  · replace h := ite_t h c1
    refine lv_ldc2 hx hb hown (x_hts C q15_22) dX4_digestWith_45 ?_
    refine lv_lload hx hb dX4_digestWith_48 (lv_at hl 2 rfl) ?_
    refine lv_lmul hx hb dX4_digestWith_50 ?_
    refine lv_aload_n hx hb dX4_digestWith_51 rfl (lv_at hl 0 rfl) ?_
    refine gR_X4_state C w q1_13 dX4_digestWith_52 ?_
    refine lv_aload_n hx hb dX4_digestWith_55 rfl (lv_at hl 1 rfl) ?_
    refine lv_aload_n hx hb dX4_digestWith_56 rfl (lv_at hl 0 rfl) ?_
    refine gR_X4_state C w q1_13 dX4_digestWith_57 ?_
    obtain ⟨vv3, hv2, h⟩ := bind_of h
    refine x_cVi (As := []) (rest := [.ref (ad E 0 a3), .ref (ad E 0 0), .long ((31 : Int64) * a4)]) C (Wd.ofS 0 w) (vS (show (0 : Nat) < 6 by decide) (by decide)) (cel_S (show (0 : Nat) < 6 by decide)) rfl (mtX3_pressure (show (0 : Nat) < 6 by decide) hv2) q8_5 q4_16 q4_17 q1_12 q4_18 ydX3_pressure ⟨rfl, rfl⟩ ⟨by decide, by decide⟩ ⟨Nat.zero_le _, Nat.zero_le _⟩ hl.1 (Nat.le_of_ble_eq_true rfl) rfl dX4_digestWith_60 (fun H locs w => ?_)
    have w := Wd.back w
    refine x_cVi (As := [.ref (ad E 0 a3), .int vv3]) (rest := [.long ((31 : Int64) * a4)]) C (Wd.ofS 0 w) (vS (show (0 : Nat) < 6 by decide) (by decide)) (cel_S (show (0 : Nat) < 6 by decide)) rfl (mtX3_doingOf (show (0 : Nat) < 6 by decide) ha3) q8_6 q8_7 q8_8 q1_12 q8_9 ydX3_doingOf ⟨rfl, rfl⟩ ⟨by decide, by decide⟩ ⟨Nat.zero_le _, Nat.zero_le _⟩ hl.1 (Nat.le_of_ble_eq_true rfl) rfl dX4_digestWith_63 (fun H locs w => ?_)
    have w := Wd.back w
    refine lv_i2l hx hb dX4_digestWith_66 rfl ?_
    refine lv_ladd hx hb dX4_digestWith_67 ?_
    have e1 := Option.some.inj h
    exact x_rl C w e1 rfl rfl dX4_digestWith_68
  · replace h := ite_f h c1
    refine lv_ldc2 hx hb hown (x_hts C q15_22) dX4_digestWith_19 ?_
    refine lv_lload hx hb dX4_digestWith_22 (lv_at hl 2 rfl) ?_
    refine lv_lmul hx hb dX4_digestWith_24 ?_
    refine lv_aload_n hx hb dX4_digestWith_25 rfl (lv_at hl 0 rfl) ?_
    refine gR_X4_state C w q1_13 dX4_digestWith_26 ?_
    refine lv_aload_n hx hb dX4_digestWith_29 rfl (lv_at hl 1 rfl) ?_
    refine lv_iload hx hb dX4_digestWith_30 (lv_at hl 3 rfl) ?_
    refine x_cVi (As := [.ref (ad E 0 a3), .int a6]) (rest := [.long ((31 : Int64) * a4)]) C (Wd.ofS 0 w) (vS (show (0 : Nat) < 6 by decide) (by decide)) (cel_S (show (0 : Nat) < 6 by decide)) rfl (mtX3_numberAbout (show (0 : Nat) < 6 by decide) ha3) q6_8 q6_9 q6_10 q1_12 q6_11 ydX3_numberAbout ⟨rfl, rfl⟩ ⟨by decide, by decide⟩ ⟨Nat.zero_le _, Nat.zero_le _⟩ hl.1 (Nat.le_of_ble_eq_true rfl) rfl dX4_digestWith_32 (fun H locs w => ?_)
    have w := Wd.back w
    refine lv_i2l hx hb dX4_digestWith_35 rfl ?_
    refine lv_ladd hx hb dX4_digestWith_36 ?_
    refine lv_lstore (lv' := [(4, .long (((31 : Int64) * a4) + (fX3_numberAbout (G 0) (K 0) a3 a6).toInt64)), (0, .ref (ad E 6 0)), (3, .ref (ad E 0 a3)), (6, .int a6)]) hx hb dX4_digestWith_37 hl (by decide) rfl (fun ls hl => ?_)
    refine lv_iinc (v := (a6 + (1 : Int32))) (lv' := [(6, .int (a6 + (1 : Int32))), (4, .long (((31 : Int64) * a4) + (fX3_numberAbout (G 0) (K 0) a3 a6).toInt64)), (0, .ref (ad E 6 0)), (3, .ref (ad E 0 a3))]) hx hb dX4_digestWith_39 hl (k := 3) rfl (congrArg (HAdd.hAdd _) (by decide)) (by decide) rfl (fun ls hl => ?_)
    refine lv_goto (tgt := 12) hx hb dX4_digestWith_42 (by decide) ?_
    exact hk12 _ _ _ ha3 _ _ _ h w (lv_sub hl [2, 3, 1, 0] rfl)
theorem TX4_digestWith_12 {rr : Int64}   (C : Cx E A p s m args meth c wdX4_digestWith cX4_digestWith 7 (some .long) RX4)   : ∀ (n : Nat) (a3 : Nat) (a4 : Int64) (a6 : Int32)  (ha3 : isC a3) (ls : Array Slot) (H : Heap) (locs : List Loc), fbX4_digestWith_12 F G K n a3 a4 a6 = some rr → Wd E A s G K H locs → lv_has ls 7 [(0, .ref (ad E 6 0)), (3, .ref (ad E 0 a3)), (4, .long a4), (6, .int a6)] → W p l e rmX4_digestWith s m args below meth c H locs 0 0 (QL E A below args s rr G K) (F0 m 12 ls []) := by
  intro n
  induction n with
  | zero => intro a3 a4 a6 u0 ls H locs h; exact absurd (show none = _ from h) (fun z => nomatch z)
  | succ n ih => intro a3 a4 a6 u0 ls H locs h w hl; exact SX4_digestWith_12 (F := F) C   ih a3 a4 a6 u0 h w hl
noncomputable def fX4_digestWith (F : Nat) (G : M3) (K : J3) (x1 : Int64) (y2 : Option Nat)  : Option Int64 := oc y2 (some x1) (fun z1 => chk (isC z1) (fbX4_digestWith_12 F G K F z1 x1 (0 : Int32)))
set_option maxRecDepth 20000 in
set_option maxHeartbeats 1000000 in
theorem TX4_digestWith {rr : Int64}  (C : Cx E A p s m args meth c wdX4_digestWith cX4_digestWith 7 (some .long) RX4)  {x1 : Int64} {y2 : Option Nat} (hy2 : ∀ z, y2 = some z → isC z) (h : fX4_digestWith F G K x1 y2 = some rr) (w : Wd E A s G K H locs) (hl : lv_has ls 7 [(0, .ref (ad E 6 0)), (1, .long x1), (3, va_rf (y2.map (fun z => ad E 0 z)))]) : W p l e rmX4_digestWith s m args below meth c H locs 0 0 (QL E A below args s rr G K) (F0 m 0 ls []) := by
  obtain ⟨hx, hb, hr, hml, hown, hts, hlocks, hKK, hA1, hA2⟩ := id C
  unfold fX4_digestWith at h
  cases y2 with
  | none =>
    replace h := oc_n h
    have hl : lv_has ls 7 [(0, .ref (ad E 6 0)), (1, .long x1), (3, .null)] := hl
    refine lv_aload_nN hx hb dX4_digestWith_0 rfl (lv_at hl 2 rfl) ?_
    refine lv_ifnonnullN hx hb dX4_digestWith_1 ?_
    refine lv_lload_n hx hb dX4_digestWith_4 rfl (lv_at hl 1 rfl) ?_
    have e1 := Option.some.inj h
    exact x_rl C w e1 rfl rfl dX4_digestWith_5
  | some z1 =>
    replace h := oc_s h
    obtain ⟨hz1, h⟩ := chk_of h
    have hl : lv_has ls 7 [(0, .ref (ad E 6 0)), (1, .long x1), (3, .ref (ad E 0 z1))] := hl
    refine lv_aload_n hx hb dX4_digestWith_0 rfl (lv_at hl 2 rfl) ?_
    refine lv_ifnonnull (tgt := 6) hx hb dX4_digestWith_1 (by decide) ?_
    refine lv_lload_n hx hb dX4_digestWith_6 rfl (lv_at hl 1 rfl) ?_
    refine lv_lstore (lv' := [(4, .long x1), (0, .ref (ad E 6 0)), (1, .long x1), (3, .ref (ad E 0 z1))]) hx hb dX4_digestWith_7 hl (by decide) rfl (fun ls hl => ?_)
    refine lv_iconst (v := (0 : Int32)) hx hb dX4_digestWith_9 (by decide) ?_
    refine lv_istore (lv' := [(6, .int (0 : Int32)), (4, .long x1), (0, .ref (ad E 6 0)), (1, .long x1), (3, .ref (ad E 0 z1))]) hx hb dX4_digestWith_10 hl (by decide) rfl (fun ls hl => ?_)
    exact TX4_digestWith_12 C   _ _ _ _ hz1 _ _ _ h w (lv_sub hl [2, 4, 1, 0] rfl)
theorem mtX4_digestWith {rr : Int64}   {x1 : Int64} {y2 : Option Nat} (hy2 : ∀ z, y2 = some z → isC z) (h : fX4_digestWith F G K x1 y2 = some rr) : MtL l yX4_digestWith wdX4_digestWith rmX4_digestWith E [.ref (ad E 6 0), .long x1, va_rf (y2.map (fun z => ad E 0 z))] G K rr G K := by
  intro sz
  refine Met.ofW (cc := cX4_digestWith) (maxL := 7) (ret := (some .long)) (by decide) rfl ?_
  intro p e s m args below meth c s₁ B hml hv
  obtain ⟨rfl, C, w⟩ := Cx.of (own := RX4) B rfl hml hv
  have hl := lv_entry ([.ref (ad E 6 0), .long x1, va_rf (y2.map (fun z => ad E 0 z))]) (n := 7) (by first | exact Nat.le_of_ble_eq_true rfl | (cases y2 <;> exact Nat.le_of_ble_eq_true rfl))
  rw [lg_entry_eq]
  generalize (lg_sl ([.ref (ad E 6 0), .long x1, va_rf (y2.map (fun z => ad E 0 z))]) ++ List.replicate (7 - (lg_sl ([.ref (ad E 6 0), .long x1, va_rf (y2.map (fun z => ad E 0 z))])).length) Slot.unset).toArray = ls at hl ⊢
  exact TX4_digestWith C  hy2 h w hl
theorem ydX4_digestWith : yX4_digestWith.cls = RX4 ∧ yX4_digestWith.cls ≠ "java/lang/invoke/MethodHandle" ∧ yX4_digestWith.cls ≠ "java/lang/invoke/VarHandle" ∧ (parseMethodDescriptor yX4_digestWith.desc).map (fun d => d.parameters.length) = some 2 := by decide +kernel
/-! X4.digest()J -/
abbrev rmX4_digest : Room := { frames := 4, cells := 0, slots := 0, locals := 81 }
abbrev wdX4_digest : Cond := Cond.code yX4_digest cX4_digest 4 (some .long)
noncomputable def fbX4_digest_173 (F : Nat)  (G : M3) (K : J3) (a1 : Int64)  : Option Int64 := some (((31 : Int64) * a1) + (G 6 1 0).toInt64)
set_option maxRecDepth 20000 in
set_option maxHeartbeats 1000000 in
theorem TX4_digest_173 {rr : Int64}   (C : Cx E A p s m args meth c wdX4_digest cX4_digest 4 (some .long) RX4)   (a1 : Int64)   (h : fbX4_digest_173 F G K a1 = some rr) (w : Wd E A s G K H locs) (hl : lv_has ls 4 [(0, .ref (ad E 6 0)), (1, .long a1)]) : W p l e rmX4_digest s m args below meth c H locs 0 0 (QL E A below args s rr G K) (F0 m 173 ls []) := by
  obtain ⟨hx, hb, hr, hml, hown, hts, hlocks, hKK, hA1, hA2⟩ := id C
  unfold fbX4_digest_173 at h
  refine lv_ldc2 hx hb hown (x_hts C q15_22) dX4_digest_173 ?_
  refine lv_lload_n hx hb dX4_digest_176 rfl (lv_at hl 1 rfl) ?_
  refine lv_lmul hx hb dX4_digest_177 ?_
  refine lv_aload_n hx hb dX4_digest_178 rfl (lv_at hl 0 rfl) ?_
  refine gR_X4_history C w q1_18 dX4_digest_179 ?_
  refine gG_X1_kept C w q16_1 dX4_digest_182 ?_
  refine lv_i2l hx hb dX4_digest_185 rfl ?_
  refine lv_ladd hx hb dX4_digest_186 ?_
  have e1 := Option.some.inj h
  exact x_rl C w e1 rfl rfl dX4_digest_187
noncomputable def fsX4_digest_133 (F : Nat)  (G : M3) (K : J3) (k133 : Int64 → Int32 → Option Int64) : Int64 → Int32 → Option Int64 := fun a1 a3 => (if (G 0 0 6) ≤ a3 then (fbX4_digest_173 F G K a1) else ((if (6 : Int32) ≤ a3 then (fbX4_digest_173 F G K a1) else (chk (inb a3 6) (k133 (((31 : Int64) * a1) + (G 0 3 a3.toNatClampNeg).toInt64) (a3 + (1 : Int32)))))))
noncomputable def fbX4_digest_133 (F : Nat)  (G : M3) (K : J3) (n : Nat) : Int64 → Int32 → Option Int64 := itr (fsX4_digest_133 F G K) (fun _ _ => none) n
set_option maxRecDepth 20000 in
set_option maxHeartbeats 1000000 in
theorem SX4_digest_133 {rr : Int64}   {k133 : Int64 → Int32 → Option Int64} (C : Cx E A p s m args meth c wdX4_digest cX4_digest 4 (some .long) RX4)   (hk133 : ∀ (a1 : Int64) (a3 : Int32)   (ls : Array Slot) (H : Heap) (locs : List Loc), k133 a1 a3 = some rr → Wd E A s G K H locs → lv_has ls 4 [(0, .ref (ad E 6 0)), (1, .long a1), (3, .int a3)] → W p l e rmX4_digest s m args below meth c H locs 0 0 (QL E A below args s rr G K) (F0 m 133 ls [])) (a1 : Int64) (a3 : Int32)   (h : fsX4_digest_133 F G K k133 a1 a3 = some rr) (w : Wd E A s G K H locs) (hl : lv_has ls 4 [(0, .ref (ad E 6 0)), (1, .long a1), (3, .int a3)]) : W p l e rmX4_digest s m args below meth c H locs 0 0 (QL E A below args s rr G K) (F0 m 133 ls []) := by
  obtain ⟨hx, hb, hr, hml, hown, hts, hlocks, hKK, hA1, hA2⟩ := id C
  unfold fsX4_digest_133 at h
  refine lv_iload_n hx hb dX4_digest_133 rfl (lv_at hl 2 rfl) ?_
  refine lv_aload_n hx hb dX4_digest_134 rfl (lv_at hl 0 rfl) ?_
  refine gR_X4_state C w q1_13 dX4_digest_135 ?_
  refine gG_X3_kept (show (0 : Nat) < 6 by decide) C w q15_23 dX4_digest_138 ?_
  refine lv_icmp_ge (tgt := 173) hx hb dX4_digest_141 (by decide) (fun c1 => ?_) (fun c1 => ?_)
  · replace h := ite_t h c1
    exact TX4_digest_173 C   _ h w (lv_sub hl [0, 1] rfl)
  · replace h := ite_f h c1
    refine lv_iload_n hx hb dX4_digest_144 rfl (lv_at hl 2 rfl) ?_
    refine lv_bipush (v := (6 : Int32)) hx hb dX4_digest_145 (by decide) ?_
    refine lv_icmp_ge (tgt := 173) hx hb dX4_digest_147 (by decide) (fun c2 => ?_) (fun c2 => ?_)
    · replace h := ite_t h c2
      exact TX4_digest_173 C   _ h w (lv_sub hl [0, 1] rfl)
    · replace h := ite_f h c2
      refine lv_ldc2 hx hb hown (x_hts C q15_22) dX4_digest_150 ?_
      refine lv_lload_n hx hb dX4_digest_153 rfl (lv_at hl 1 rfl) ?_
      refine lv_lmul hx hb dX4_digest_154 ?_
      refine lv_aload_n hx hb dX4_digest_155 rfl (lv_at hl 0 rfl) ?_
      refine gR_X4_state C w q1_13 dX4_digest_156 ?_
      refine gR_X3_results (show (0 : Nat) < 6 by decide) C w q16_0 dX4_digest_159 ?_
      refine lv_iload_n hx hb dX4_digest_162 rfl (lv_at hl 2 rfl) ?_
      obtain ⟨ki3, h⟩ := chk_of h
      refine x_aldI C w (vS (show (0 : Nat) < 6 by decide) (by decide)) (cS3 (show (0 : Nat) < 6 by decide)) ki3 rfl dX4_digest_163 ?_
      refine lv_i2l hx hb dX4_digest_164 rfl ?_
      refine lv_ladd hx hb dX4_digest_165 ?_
      refine lv_lstore_n (lv' := [(1, .long (((31 : Int64) * a1) + (G 0 3 a3.toNatClampNeg).toInt64)), (0, .ref (ad E 6 0)), (3, .int a3)]) hx hb dX4_digest_166 rfl hl (by decide) rfl (fun ls hl => ?_)
      refine lv_iinc (v := (a3 + (1 : Int32))) (lv' := [(3, .int (a3 + (1 : Int32))), (1, .long (((31 : Int64) * a1) + (G 0 3 a3.toNatClampNeg).toInt64)), (0, .ref (ad E 6 0))]) hx hb dX4_digest_167 hl (k := 2) rfl (congrArg (HAdd.hAdd _) (by decide)) (by decide) rfl (fun ls hl => ?_)
      refine lv_goto (tgt := 133) hx hb dX4_digest_170 (by decide) ?_
      exact hk133 _ _ _ _ _ h w (lv_sub hl [2, 1, 0] rfl)
theorem TX4_digest_133 {rr : Int64}   (C : Cx E A p s m args meth c wdX4_digest cX4_digest 4 (some .long) RX4)   : ∀ (n : Nat) (a1 : Int64) (a3 : Int32)   (ls : Array Slot) (H : Heap) (locs : List Loc), fbX4_digest_133 F G K n a1 a3 = some rr → Wd E A s G K H locs → lv_has ls 4 [(0, .ref (ad E 6 0)), (1, .long a1), (3, .int a3)] → W p l e rmX4_digest s m args below meth c H locs 0 0 (QL E A below args s rr G K) (F0 m 133 ls []) := by
  intro n
  induction n with
  | zero => intro a1 a3  ls H locs h; exact absurd (show none = _ from h) (fun z => nomatch z)
  | succ n ih => intro a1 a3  ls H locs h w hl; exact SX4_digest_133 (F := F) C   ih a1 a3  h w hl
noncomputable def fsX4_digest_106 (F : Nat)  (G : M3) (K : J3) (k106 : Int64 → Int32 → Option Int64) : Int64 → Int32 → Option Int64 := fun a1 a3 => (if (5 : Int32) ≤ a3 then (fbX4_digest_133 F G K F a1 (0 : Int32)) else ((fX3_numbered (G 0) (K 0) a3).bind (fun vv3 => oc vv3 ((fX4_digestWith F G K a1 none).bind (fun vv6 => k106 vv6 (a3 + (1 : Int32)))) (fun z4 => chk (isC z4) ((fX4_digestWith F G K a1 (some z4)).bind (fun vv8 => k106 vv8 (a3 + (1 : Int32))))))))
noncomputable def fbX4_digest_106 (F : Nat)  (G : M3) (K : J3) (n : Nat) : Int64 → Int32 → Option Int64 := itr (fsX4_digest_106 F G K) (fun _ _ => none) n
set_option maxRecDepth 20000 in
set_option maxHeartbeats 1000000 in
theorem SX4_digest_106 {rr : Int64}   {k106 : Int64 → Int32 → Option Int64} (C : Cx E A p s m args meth c wdX4_digest cX4_digest 4 (some .long) RX4)   (hk106 : ∀ (a1 : Int64) (a3 : Int32)   (ls : Array Slot) (H : Heap) (locs : List Loc), k106 a1 a3 = some rr → Wd E A s G K H locs → lv_has ls 4 [(0, .ref (ad E 6 0)), (1, .long a1), (3, .int a3)] → W p l e rmX4_digest s m args below meth c H locs 0 0 (QL E A below args s rr G K) (F0 m 106 ls [])) (a1 : Int64) (a3 : Int32)   (h : fsX4_digest_106 F G K k106 a1 a3 = some rr) (w : Wd E A s G K H locs) (hl : lv_has ls 4 [(0, .ref (ad E 6 0)), (1, .long a1), (3, .int a3)]) : W p l e rmX4_digest s m args below meth c H locs 0 0 (QL E A below args s rr G K) (F0 m 106 ls []) := by
  obtain ⟨hx, hb, hr, hml, hown, hts, hlocks, hKK, hA1, hA2⟩ := id C
  unfold fsX4_digest_106 at h
  refine lv_iload_n hx hb dX4_digest_106 rfl (lv_at hl 2 rfl) ?_
  refine lv_iconst (v := (5 : Int32)) hx hb dX4_digest_107 (by decide) ?_
  refine lv_icmp_ge (tgt := 131) hx hb dX4_digest_108 (by decide) (fun c1 => ?_) (fun c1 => ?_)
  · replace h := ite_t h c1
    refine lv_iconst (v := (0 : Int32)) hx hb dX4_digest_131 (by decide) ?_
    refine lv_istore_n (lv' := [(3, .int (0 : Int32)), (0, .ref (ad E 6 0)), (1, .long a1)]) hx hb dX4_digest_132 rfl hl (by decide) rfl (fun ls hl => ?_)
    exact TX4_digest_133 C   _ _ _ _ _ _ h w (lv_sub hl [1, 2, 0] rfl)
  · replace h := ite_f h c1
    refine lv_aload_n hx hb dX4_digest_111 rfl (lv_at hl 0 rfl) ?_
    refine lv_lload_n hx hb dX4_digest_112 rfl (lv_at hl 1 rfl) ?_
    refine lv_aload_n hx hb dX4_digest_113 rfl (lv_at hl 0 rfl) ?_
    refine gR_X4_state C w q1_13 dX4_digest_114 ?_
    refine lv_iload_n hx hb dX4_digest_117 rfl (lv_at hl 2 rfl) ?_
    obtain ⟨vv3, hv2, h⟩ := bind_of h
    refine x_cVq (As := [.int a3]) (rest := [.long a1, .ref (ad E 6 0)]) C (Wd.ofS 0 w) (vS (show (0 : Nat) < 6 by decide) (by decide)) (cel_S (show (0 : Nat) < 6 by decide)) rfl (mtX3_numbered (show (0 : Nat) < 6 by decide) hv2) q6_7 q5_3 q5_4 q1_12 q5_5 ydX3_numbered ⟨rfl, rfl⟩ ⟨by decide, by decide⟩ ⟨Nat.zero_le _, Nat.zero_le _⟩ hl.1 (Nat.le_of_ble_eq_true rfl) rfl dX4_digest_118 (fun H locs w => ?_)
    have w := Wd.back w
    cases vv3 with
    | none =>
      replace h := oc_n h
      obtain ⟨vv6, hv5, h⟩ := bind_of h
      refine x_cVl (As := [.long a1, .null]) (rest := []) C w (v6 (by decide)) cel_6 rfl (mtX4_digestWith (fun _ h => by cases h) hv5) q16_2 q16_3 q16_4 q1_2 q16_5 ydX4_digestWith ⟨rfl, rfl⟩ ⟨by decide, by decide⟩ ⟨Nat.zero_le _, Nat.zero_le _⟩ hl.1 (Nat.le_of_ble_eq_true rfl) rfl dX4_digest_121 (fun H locs w => ?_)
      refine lv_lstore_n (lv' := [(1, .long vv6), (0, .ref (ad E 6 0)), (3, .int a3)]) hx hb dX4_digest_124 rfl hl (by decide) rfl (fun ls hl => ?_)
      refine lv_iinc (v := (a3 + (1 : Int32))) (lv' := [(3, .int (a3 + (1 : Int32))), (1, .long vv6), (0, .ref (ad E 6 0))]) hx hb dX4_digest_125 hl (k := 2) rfl (congrArg (HAdd.hAdd _) (by decide)) (by decide) rfl (fun ls hl => ?_)
      refine lv_goto (tgt := 106) hx hb dX4_digest_128 (by decide) ?_
      exact hk106 _ _ _ _ _ h w (lv_sub hl [2, 1, 0] rfl)
    | some z4 =>
      replace h := oc_s h
      obtain ⟨hz4, h⟩ := chk_of h
      obtain ⟨vv8, hv7, h⟩ := bind_of h
      refine x_cVl (As := [.long a1, .ref (ad E 0 z4)]) (rest := []) C w (v6 (by decide)) cel_6 rfl (mtX4_digestWith (fun _ h => by cases h; exact hz4) hv7) q16_2 q16_3 q16_4 q1_2 q16_5 ydX4_digestWith ⟨rfl, rfl⟩ ⟨by decide, by decide⟩ ⟨Nat.zero_le _, Nat.zero_le _⟩ hl.1 (Nat.le_of_ble_eq_true rfl) rfl dX4_digest_121 (fun H locs w => ?_)
      refine lv_lstore_n (lv' := [(1, .long vv8), (0, .ref (ad E 6 0)), (3, .int a3)]) hx hb dX4_digest_124 rfl hl (by decide) rfl (fun ls hl => ?_)
      refine lv_iinc (v := (a3 + (1 : Int32))) (lv' := [(3, .int (a3 + (1 : Int32))), (1, .long vv8), (0, .ref (ad E 6 0))]) hx hb dX4_digest_125 hl (k := 2) rfl (congrArg (HAdd.hAdd _) (by decide)) (by decide) rfl (fun ls hl => ?_)
      refine lv_goto (tgt := 106) hx hb dX4_digest_128 (by decide) ?_
      exact hk106 _ _ _ _ _ h w (lv_sub hl [2, 1, 0] rfl)
theorem TX4_digest_106 {rr : Int64}   (C : Cx E A p s m args meth c wdX4_digest cX4_digest 4 (some .long) RX4)   : ∀ (n : Nat) (a1 : Int64) (a3 : Int32)   (ls : Array Slot) (H : Heap) (locs : List Loc), fbX4_digest_106 F G K n a1 a3 = some rr → Wd E A s G K H locs → lv_has ls 4 [(0, .ref (ad E 6 0)), (1, .long a1), (3, .int a3)] → W p l e rmX4_digest s m args below meth c H locs 0 0 (QL E A below args s rr G K) (F0 m 106 ls []) := by
  intro n
  induction n with
  | zero => intro a1 a3  ls H locs h; exact absurd (show none = _ from h) (fun z => nomatch z)
  | succ n ih => intro a1 a3  ls H locs h w hl; exact SX4_digest_106 (F := F) C   ih a1 a3  h w hl
noncomputable def fsX4_digest_76 (F : Nat)  (G : M3) (K : J3) (k76 : Int64 → Int32 → Option Int64) : Int64 → Int32 → Option Int64 := fun a1 a3 => (if (6 : Int32) ≤ a3 then (fbX4_digest_106 F G K F a1 (0 : Int32)) else (chk (inb a3 6) (k76 (((31 : Int64) * a1) + (K 0 2 a3.toNatClampNeg)) (a3 + (1 : Int32)))))
noncomputable def fbX4_digest_76 (F : Nat)  (G : M3) (K : J3) (n : Nat) : Int64 → Int32 → Option Int64 := itr (fsX4_digest_76 F G K) (fun _ _ => none) n
set_option maxRecDepth 20000 in
set_option maxHeartbeats 1000000 in
theorem SX4_digest_76 {rr : Int64}   {k76 : Int64 → Int32 → Option Int64} (C : Cx E A p s m args meth c wdX4_digest cX4_digest 4 (some .long) RX4)   (hk76 : ∀ (a1 : Int64) (a3 : Int32)   (ls : Array Slot) (H : Heap) (locs : List Loc), k76 a1 a3 = some rr → Wd E A s G K H locs → lv_has ls 4 [(0, .ref (ad E 6 0)), (1, .long a1), (3, .int a3)] → W p l e rmX4_digest s m args below meth c H locs 0 0 (QL E A below args s rr G K) (F0 m 76 ls [])) (a1 : Int64) (a3 : Int32)   (h : fsX4_digest_76 F G K k76 a1 a3 = some rr) (w : Wd E A s G K H locs) (hl : lv_has ls 4 [(0, .ref (ad E 6 0)), (1, .long a1), (3, .int a3)]) : W p l e rmX4_digest s m args below meth c H locs 0 0 (QL E A below args s rr G K) (F0 m 76 ls []) := by
  obtain ⟨hx, hb, hr, hml, hown, hts, hlocks, hKK, hA1, hA2⟩ := id C
  unfold fsX4_digest_76 at h
  refine lv_iload_n hx hb dX4_digest_76 rfl (lv_at hl 2 rfl) ?_
  refine lv_bipush (v := (6 : Int32)) hx hb dX4_digest_77 (by decide) ?_
  refine lv_icmp_ge (tgt := 104) hx hb dX4_digest_79 (by decide) (fun c1 => ?_) (fun c1 => ?_)
  · replace h := ite_t h c1
    refine lv_iconst (v := (0 : Int32)) hx hb dX4_digest_104 (by decide) ?_
    refine lv_istore_n (lv' := [(3, .int (0 : Int32)), (0, .ref (ad E 6 0)), (1, .long a1)]) hx hb dX4_digest_105 rfl hl (by decide) rfl (fun ls hl => ?_)
    exact TX4_digest_106 C   _ _ _ _ _ _ h w (lv_sub hl [1, 2, 0] rfl)
  · replace h := ite_f h c1
    refine lv_ldc2 hx hb hown (x_hts C q15_22) dX4_digest_82 ?_
    refine lv_lload_n hx hb dX4_digest_85 rfl (lv_at hl 1 rfl) ?_
    refine lv_lmul hx hb dX4_digest_86 ?_
    refine lv_aload_n hx hb dX4_digest_87 rfl (lv_at hl 0 rfl) ?_
    refine gR_X4_state C w q1_13 dX4_digest_88 ?_
    refine gR_X3_amounts (show (0 : Nat) < 6 by decide) C w q5_19 dX4_digest_91 ?_
    refine lv_iload_n hx hb dX4_digest_94 rfl (lv_at hl 2 rfl) ?_
    obtain ⟨ki2, h⟩ := chk_of h
    refine x_aldJ C w (vS (show (0 : Nat) < 6 by decide) (by decide)) (cS2 (show (0 : Nat) < 6 by decide)) ki2 rfl dX4_digest_95 ?_
    refine lv_ladd hx hb dX4_digest_96 ?_
    refine lv_lstore_n (lv' := [(1, .long (((31 : Int64) * a1) + (K 0 2 a3.toNatClampNeg))), (0, .ref (ad E 6 0)), (3, .int a3)]) hx hb dX4_digest_97 rfl hl (by decide) rfl (fun ls hl => ?_)
    refine lv_iinc (v := (a3 + (1 : Int32))) (lv' := [(3, .int (a3 + (1 : Int32))), (1, .long (((31 : Int64) * a1) + (K 0 2 a3.toNatClampNeg))), (0, .ref (ad E 6 0))]) hx hb dX4_digest_98 hl (k := 2) rfl (congrArg (HAdd.hAdd _) (by decide)) (by decide) rfl (fun ls hl => ?_)
    refine lv_goto (tgt := 76) hx hb dX4_digest_101 (by decide) ?_
    exact hk76 _ _ _ _ _ h w (lv_sub hl [2, 1, 0] rfl)
theorem TX4_digest_76 {rr : Int64}   (C : Cx E A p s m args meth c wdX4_digest cX4_digest 4 (some .long) RX4)   : ∀ (n : Nat) (a1 : Int64) (a3 : Int32)   (ls : Array Slot) (H : Heap) (locs : List Loc), fbX4_digest_76 F G K n a1 a3 = some rr → Wd E A s G K H locs → lv_has ls 4 [(0, .ref (ad E 6 0)), (1, .long a1), (3, .int a3)] → W p l e rmX4_digest s m args below meth c H locs 0 0 (QL E A below args s rr G K) (F0 m 76 ls []) := by
  intro n
  induction n with
  | zero => intro a1 a3  ls H locs h; exact absurd (show none = _ from h) (fun z => nomatch z)
  | succ n ih => intro a1 a3  ls H locs h w hl; exact SX4_digest_76 (F := F) C   ih a1 a3  h w hl
noncomputable def fsX4_digest_45 (F : Nat)  (G : M3) (K : J3) (k45 : Int64 → Int32 → Option Int64) : Int64 → Int32 → Option Int64 := fun a1 a3 => (if (8 : Int32) ≤ a3 then (fbX4_digest_76 F G K F a1 (0 : Int32)) else (chk (inb a3 8) (k45 (((31 : Int64) * a1) + (G 0 1 a3.toNatClampNeg).toInt64) (a3 + (1 : Int32)))))
noncomputable def fbX4_digest_45 (F : Nat)  (G : M3) (K : J3) (n : Nat) : Int64 → Int32 → Option Int64 := itr (fsX4_digest_45 F G K) (fun _ _ => none) n
set_option maxRecDepth 20000 in
set_option maxHeartbeats 1000000 in
theorem SX4_digest_45 {rr : Int64}   {k45 : Int64 → Int32 → Option Int64} (C : Cx E A p s m args meth c wdX4_digest cX4_digest 4 (some .long) RX4)   (hk45 : ∀ (a1 : Int64) (a3 : Int32)   (ls : Array Slot) (H : Heap) (locs : List Loc), k45 a1 a3 = some rr → Wd E A s G K H locs → lv_has ls 4 [(0, .ref (ad E 6 0)), (1, .long a1), (3, .int a3)] → W p l e rmX4_digest s m args below meth c H locs 0 0 (QL E A below args s rr G K) (F0 m 45 ls [])) (a1 : Int64) (a3 : Int32)   (h : fsX4_digest_45 F G K k45 a1 a3 = some rr) (w : Wd E A s G K H locs) (hl : lv_has ls 4 [(0, .ref (ad E 6 0)), (1, .long a1), (3, .int a3)]) : W p l e rmX4_digest s m args below meth c H locs 0 0 (QL E A below args s rr G K) (F0 m 45 ls []) := by
  obtain ⟨hx, hb, hr, hml, hown, hts, hlocks, hKK, hA1, hA2⟩ := id C
  unfold fsX4_digest_45 at h
  refine lv_iload_n hx hb dX4_digest_45 rfl (lv_at hl 2 rfl) ?_
  refine lv_bipush (v := (8 : Int32)) hx hb dX4_digest_46 (by decide) ?_
  refine lv_icmp_ge (tgt := 74) hx hb dX4_digest_48 (by decide) (fun c1 => ?_) (fun c1 => ?_)
  · replace h := ite_t h c1
    refine lv_iconst (v := (0 : Int32)) hx hb dX4_digest_74 (by decide) ?_
    refine lv_istore_n (lv' := [(3, .int (0 : Int32)), (0, .ref (ad E 6 0)), (1, .long a1)]) hx hb dX4_digest_75 rfl hl (by decide) rfl (fun ls hl => ?_)
    exact TX4_digest_76 C   _ _ _ _ _ _ h w (lv_sub hl [1, 2, 0] rfl)
  · replace h := ite_f h c1
    refine lv_ldc2 hx hb hown (x_hts C q15_22) dX4_digest_51 ?_
    refine lv_lload_n hx hb dX4_digest_54 rfl (lv_at hl 1 rfl) ?_
    refine lv_lmul hx hb dX4_digest_55 ?_
    refine lv_aload_n hx hb dX4_digest_56 rfl (lv_at hl 0 rfl) ?_
    refine gR_X4_state C w q1_13 dX4_digest_57 ?_
    refine gR_X3_settings (show (0 : Nat) < 6 by decide) C w q7_21 dX4_digest_60 ?_
    refine lv_iload_n hx hb dX4_digest_63 rfl (lv_at hl 2 rfl) ?_
    obtain ⟨ki2, h⟩ := chk_of h
    refine x_aldI C w (vS (show (0 : Nat) < 6 by decide) (by decide)) (cS1 (show (0 : Nat) < 6 by decide)) ki2 rfl dX4_digest_64 ?_
    refine lv_i2l hx hb dX4_digest_65 rfl ?_
    refine lv_ladd hx hb dX4_digest_66 ?_
    refine lv_lstore_n (lv' := [(1, .long (((31 : Int64) * a1) + (G 0 1 a3.toNatClampNeg).toInt64)), (0, .ref (ad E 6 0)), (3, .int a3)]) hx hb dX4_digest_67 rfl hl (by decide) rfl (fun ls hl => ?_)
    refine lv_iinc (v := (a3 + (1 : Int32))) (lv' := [(3, .int (a3 + (1 : Int32))), (1, .long (((31 : Int64) * a1) + (G 0 1 a3.toNatClampNeg).toInt64)), (0, .ref (ad E 6 0))]) hx hb dX4_digest_68 hl (k := 2) rfl (congrArg (HAdd.hAdd _) (by decide)) (by decide) rfl (fun ls hl => ?_)
    refine lv_goto (tgt := 45) hx hb dX4_digest_71 (by decide) ?_
    exact hk45 _ _ _ _ _ h w (lv_sub hl [2, 1, 0] rfl)
theorem TX4_digest_45 {rr : Int64}   (C : Cx E A p s m args meth c wdX4_digest cX4_digest 4 (some .long) RX4)   : ∀ (n : Nat) (a1 : Int64) (a3 : Int32)   (ls : Array Slot) (H : Heap) (locs : List Loc), fbX4_digest_45 F G K n a1 a3 = some rr → Wd E A s G K H locs → lv_has ls 4 [(0, .ref (ad E 6 0)), (1, .long a1), (3, .int a3)] → W p l e rmX4_digest s m args below meth c H locs 0 0 (QL E A below args s rr G K) (F0 m 45 ls []) := by
  intro n
  induction n with
  | zero => intro a1 a3  ls H locs h; exact absurd (show none = _ from h) (fun z => nomatch z)
  | succ n ih => intro a1 a3  ls H locs h w hl; exact SX4_digest_45 (F := F) C   ih a1 a3  h w hl
noncomputable def fsX4_digest_15 (F : Nat)  (G : M3) (K : J3) (k15 : Int64 → Int32 → Option Int64) : Int64 → Int32 → Option Int64 := fun a1 a3 => (if (12 : Int32) ≤ a3 then (fbX4_digest_45 F G K F a1 (0 : Int32)) else ((fX3_numberOf F (G 0) (K 0) a3).bind (fun vv3 => k15 (((31 : Int64) * a1) + vv3.toInt64) (a3 + (1 : Int32)))))
noncomputable def fbX4_digest_15 (F : Nat)  (G : M3) (K : J3) (n : Nat) : Int64 → Int32 → Option Int64 := itr (fsX4_digest_15 F G K) (fun _ _ => none) n
set_option maxRecDepth 20000 in
set_option maxHeartbeats 1000000 in
theorem SX4_digest_15 {rr : Int64}   {k15 : Int64 → Int32 → Option Int64} (C : Cx E A p s m args meth c wdX4_digest cX4_digest 4 (some .long) RX4)   (hk15 : ∀ (a1 : Int64) (a3 : Int32)   (ls : Array Slot) (H : Heap) (locs : List Loc), k15 a1 a3 = some rr → Wd E A s G K H locs → lv_has ls 4 [(0, .ref (ad E 6 0)), (1, .long a1), (3, .int a3)] → W p l e rmX4_digest s m args below meth c H locs 0 0 (QL E A below args s rr G K) (F0 m 15 ls [])) (a1 : Int64) (a3 : Int32)   (h : fsX4_digest_15 F G K k15 a1 a3 = some rr) (w : Wd E A s G K H locs) (hl : lv_has ls 4 [(0, .ref (ad E 6 0)), (1, .long a1), (3, .int a3)]) : W p l e rmX4_digest s m args below meth c H locs 0 0 (QL E A below args s rr G K) (F0 m 15 ls []) := by
  obtain ⟨hx, hb, hr, hml, hown, hts, hlocks, hKK, hA1, hA2⟩ := id C
  unfold fsX4_digest_15 at h
  refine lv_iload_n hx hb dX4_digest_15 rfl (lv_at hl 2 rfl) ?_
  refine lv_bipush (v := (12 : Int32)) hx hb dX4_digest_16 (by decide) ?_
  refine lv_icmp_ge (tgt := 43) hx hb dX4_digest_18 (by decide) (fun c1 => ?_) (fun c1 => ?_)
  · replace h := ite_t h c1
    refine lv_iconst (v := (0 : Int32)) hx hb dX4_digest_43 (by decide) ?_
    refine lv_istore_n (lv' := [(3, .int (0 : Int32)), (0, .ref (ad E 6 0)), (1, .long a1)]) hx hb dX4_digest_44 rfl hl (by decide) rfl (fun ls hl => ?_)
    exact TX4_digest_45 C   _ _ _ _ _ _ h w (lv_sub hl [1, 2, 0] rfl)
  · replace h := ite_f h c1
    refine lv_ldc2 hx hb hown (x_hts C q15_22) dX4_digest_21 ?_
    refine lv_lload_n hx hb dX4_digest_24 rfl (lv_at hl 1 rfl) ?_
    refine lv_lmul hx hb dX4_digest_25 ?_
    refine lv_aload_n hx hb dX4_digest_26 rfl (lv_at hl 0 rfl) ?_
    refine gR_X4_state C w q1_13 dX4_digest_27 ?_
    refine lv_iload_n hx hb dX4_digest_30 rfl (lv_at hl 2 rfl) ?_
    obtain ⟨vv3, hv2, h⟩ := bind_of h
    refine x_cVi (As := [.int a3]) (rest := [.long ((31 : Int64) * a1)]) C (Wd.ofS 0 w) (vS (show (0 : Nat) < 6 by decide) (by decide)) (cel_S (show (0 : Nat) < 6 by decide)) rfl (mtX3_numberOf (show (0 : Nat) < 6 by decide) hv2) q4_6 q4_7 q4_8 q1_12 q4_9 ydX3_numberOf ⟨rfl, rfl⟩ ⟨by decide, by decide⟩ ⟨Nat.zero_le _, Nat.zero_le _⟩ hl.1 (Nat.le_of_ble_eq_true rfl) rfl dX4_digest_31 (fun H locs w => ?_)
    have w := Wd.back w
    refine lv_i2l hx hb dX4_digest_34 rfl ?_
    refine lv_ladd hx hb dX4_digest_35 ?_
    refine lv_lstore_n (lv' := [(1, .long (((31 : Int64) * a1) + vv3.toInt64)), (0, .ref (ad E 6 0)), (3, .int a3)]) hx hb dX4_digest_36 rfl hl (by decide) rfl (fun ls hl => ?_)
    refine lv_iinc (v := (a3 + (1 : Int32))) (lv' := [(3, .int (a3 + (1 : Int32))), (1, .long (((31 : Int64) * a1) + vv3.toInt64)), (0, .ref (ad E 6 0))]) hx hb dX4_digest_37 hl (k := 2) rfl (congrArg (HAdd.hAdd _) (by decide)) (by decide) rfl (fun ls hl => ?_)
    refine lv_goto (tgt := 15) hx hb dX4_digest_40 (by decide) ?_
    exact hk15 _ _ _ _ _ h w (lv_sub hl [2, 1, 0] rfl)
theorem TX4_digest_15 {rr : Int64}   (C : Cx E A p s m args meth c wdX4_digest cX4_digest 4 (some .long) RX4)   : ∀ (n : Nat) (a1 : Int64) (a3 : Int32)   (ls : Array Slot) (H : Heap) (locs : List Loc), fbX4_digest_15 F G K n a1 a3 = some rr → Wd E A s G K H locs → lv_has ls 4 [(0, .ref (ad E 6 0)), (1, .long a1), (3, .int a3)] → W p l e rmX4_digest s m args below meth c H locs 0 0 (QL E A below args s rr G K) (F0 m 15 ls []) := by
  intro n
  induction n with
  | zero => intro a1 a3  ls H locs h; exact absurd (show none = _ from h) (fun z => nomatch z)
  | succ n ih => intro a1 a3  ls H locs h w hl; exact SX4_digest_15 (F := F) C   ih a1 a3  h w hl
noncomputable def fX4_digest (F : Nat) (G : M3) (K : J3)   : Option Int64 := fbX4_digest_15 F G K F ((112561 : Int64) + (G 7 0 0).toInt64) (0 : Int32)
set_option maxRecDepth 20000 in
set_option maxHeartbeats 1000000 in
theorem TX4_digest {rr : Int64}  (C : Cx E A p s m args meth c wdX4_digest cX4_digest 4 (some .long) RX4)    (h : fX4_digest F G K  = some rr) (w : Wd E A s G K H locs) (hl : lv_has ls 4 [(0, .ref (ad E 6 0))]) : W p l e rmX4_digest s m args below meth c H locs 0 0 (QL E A below args s rr G K) (F0 m 0 ls []) := by
  obtain ⟨hx, hb, hr, hml, hown, hts, hlocks, hKK, hA1, hA2⟩ := id C
  unfold fX4_digest at h
  refine lv_ldc2 hx hb hown (x_hts C q15_20) dX4_digest_0 ?_
  refine lv_aload_n hx hb dX4_digest_3 rfl (lv_at hl 0 rfl) ?_
  refine gR_X4_program C w q1_22 dX4_digest_4 ?_
  refine gG_X2_length C w q15_21 dX4_digest_7 ?_
  refine lv_i2l hx hb dX4_digest_10 rfl ?_
  refine lv_ladd hx hb dX4_digest_11 ?_
  refine lv_lstore_n (lv' := [(1, .long ((112561 : Int64) + (G 7 0 0).toInt64)), (0, .ref (ad E 6 0))]) hx hb dX4_digest_12 rfl hl (by decide) rfl (fun ls hl => ?_)
  refine lv_iconst (v := (0 : Int32)) hx hb dX4_digest_13 (by decide) ?_
  refine lv_istore_n (lv' := [(3, .int (0 : Int32)), (1, .long ((112561 : Int64) + (G 7 0 0).toInt64)), (0, .ref (ad E 6 0))]) hx hb dX4_digest_14 rfl hl (by decide) rfl (fun ls hl => ?_)
  exact TX4_digest_15 C   _ _ _ _ _ _ h w (lv_sub hl [2, 1, 0] rfl)
theorem mtX4_digest {rr : Int64}     (h : fX4_digest F G K  = some rr) : MtL l yX4_digest wdX4_digest rmX4_digest E [.ref (ad E 6 0)] G K rr G K := by
  intro sz
  refine Met.ofW (cc := cX4_digest) (maxL := 4) (ret := (some .long)) (by decide) rfl ?_
  intro p e s m args below meth c s₁ B hml hv
  obtain ⟨rfl, C, w⟩ := Cx.of (own := RX4) B rfl hml hv
  have hl := lv_entry ([.ref (ad E 6 0)]) (n := 4) (by first | exact Nat.le_of_ble_eq_true rfl)
  rw [lg_entry_eq]
  generalize (lg_sl ([.ref (ad E 6 0)]) ++ List.replicate (4 - (lg_sl ([.ref (ad E 6 0)])).length) Slot.unset).toArray = ls at hl ⊢
  exact TX4_digest C   h w hl
theorem ydX4_digest : yX4_digest.cls = RX4 ∧ yX4_digest.cls ≠ "java/lang/invoke/MethodHandle" ∧ yX4_digest.cls ≠ "java/lang/invoke/VarHandle" ∧ (parseMethodDescriptor yX4_digest.desc).map (fun d => d.parameters.length) = some 0 := by decide +kernel
end XA1
