section XP1
variable {E : WE} {A : Nat → Prop} {p : Program} {l : Launch} {e : Env} {s : State} {m : MethodId} {args : Array Value} {below : List Frame} {meth : Method} {c : Code} {H : Heap} {locs : List Loc} {ls : Array Slot} {G : M3} {K : J3} {M : M2} {J : J2} {F g q : Nat} {g' q' : Nat}

/-! X1.savedAt(I)LAirStation$State; -/
abbrev rmX1_savedAt : Room := { frames := 1, cells := 0, slots := 0, locals := 12 }
abbrev wdX1_savedAt : Cond := Cond.code yX1_savedAt cX1_savedAt 2 (some (.object "AirStation$State"))
noncomputable def fX1_savedAt (G : M3) (K : J3) (x1 : Int32)  : Option (Option Nat) := (if x1 < 0 then (some none) else ((if (4 : Int32) ≤ x1 then (some none) else (chk (inb x1 4) (some (some (2 + x1.toNatClampNeg)))))))
set_option maxRecDepth 20000 in
set_option maxHeartbeats 1000000 in
theorem TX1_savedAt {rr : Option Nat}  (C : Cx E A p s m args meth c wdX1_savedAt cX1_savedAt 2 (some (.object "AirStation$State")) RX1)  {x1 : Int32}  (h : fX1_savedAt G K x1 = some rr) (w : Wd E A s G K H locs) (hl : lv_has ls 2 [(0, .ref (ad E 6 1)), (1, .int x1)]) : W p l e rmX1_savedAt s m args below meth c H locs 0 0 (QQ E A below args s (rr.map (fun z => ad E z 0)) G K) (F0 m 0 ls []) := by
  obtain ⟨hx, hb, hr, hml, hown, hts, hlocks, hKK, hA1, hA2⟩ := id C
  unfold fX1_savedAt at h
  refine lv_iload_n hx hb dX1_savedAt_0 rfl (lv_at hl 1 rfl) ?_
  refine lv_if_lt (tgt := 22) hx hb dX1_savedAt_1 (by decide) (fun c1 => ?_) (fun c1 => ?_)
  · replace h := ite_t h c1
    refine lv_null hx hb dX1_savedAt_22 ?_
    have e1 := Option.some.inj h
    exact x_rq C w (v := none) rfl (by rw [← e1]; rfl) rfl rfl dX1_savedAt_23
  · replace h := ite_f h c1
    refine lv_iload_n hx hb dX1_savedAt_4 rfl (lv_at hl 1 rfl) ?_
    refine lv_aload_n hx hb dX1_savedAt_5 rfl (lv_at hl 0 rfl) ?_
    refine gR_X1_saved C w q3_2 dX1_savedAt_6 ?_
    refine x_alen (n := 4) (v := (4 : Int32)) (t0 := 3) C w (v6 (by decide)) cel_6 rfl (by decide) dX1_savedAt_9 ?_
    refine lv_icmp_ge (tgt := 22) hx hb dX1_savedAt_10 (by decide) (fun c2 => ?_) (fun c2 => ?_)
    · replace h := ite_t h c2
      refine lv_null hx hb dX1_savedAt_22 ?_
      have e1 := Option.some.inj h
      exact x_rq C w (v := none) rfl (by rw [← e1]; rfl) rfl rfl dX1_savedAt_23
    · replace h := ite_f h c2
      refine lv_aload_n hx hb dX1_savedAt_13 rfl (lv_at hl 0 rfl) ?_
      refine gR_X1_saved C w q3_2 dX1_savedAt_14 ?_
      refine lv_iload_n hx hb dX1_savedAt_17 rfl (lv_at hl 1 rfl) ?_
      obtain ⟨ki3, h⟩ := chk_of h
      have hs4 := isS_ald ki3
      refine x_aldS C w ki3 dX1_savedAt_18 ?_
      refine lv_goto (tgt := 23) hx hb dX1_savedAt_19 (by decide) ?_
      have e1 := Option.some.inj h
      exact x_rq C w (v := (some (ad E (2 + x1.toNatClampNeg) 0))) rfl (by rw [← e1]; rfl) rfl rfl dX1_savedAt_23
theorem mtX1_savedAt {rr : Option Nat}   {x1 : Int32}  (h : fX1_savedAt G K x1 = some rr) : MtQ l yX1_savedAt wdX1_savedAt rmX1_savedAt E [.ref (ad E 6 1), .int x1] G K (rr.map (fun z => ad E z 0)) G K := by
  intro sz
  refine Met.ofW (cc := cX1_savedAt) (maxL := 2) (ret := (some (.object "AirStation$State"))) (by decide) rfl ?_
  intro p e s m args below meth c s₁ B hml hv
  obtain ⟨rfl, C, w⟩ := Cx.of (own := RX1) B rfl hml hv
  have hl := lv_entry ([.ref (ad E 6 1), .int x1]) (n := 2) (by first | exact Nat.le_of_ble_eq_true rfl)
  rw [lg_entry_eq]
  generalize (lg_sl ([.ref (ad E 6 1), .int x1]) ++ List.replicate (2 - (lg_sl ([.ref (ad E 6 1), .int x1])).length) Slot.unset).toArray = ls at hl ⊢
  exact TX1_savedAt C   h w hl
theorem ydX1_savedAt : yX1_savedAt.cls = RX1 ∧ yX1_savedAt.cls ≠ "java/lang/invoke/MethodHandle" ∧ yX1_savedAt.cls ≠ "java/lang/invoke/VarHandle" ∧ (parseMethodDescriptor yX1_savedAt.desc).map (fun d => d.parameters.length) = some 1 := by decide +kernel
/-! X1.save(LAirStation$State;)V -/
abbrev rmX1_save : Room := { frames := 3, cells := 0, slots := 0, locals := 64 }
abbrev wdX1_save : Cond := Cond.code yX1_save cX1_save 3 none
noncomputable def fbX1_save_42 (F : Nat)  (g' : Nat)  (G : M3) (K : J3) : Option (M3 × J3) := bnd (up3 G 6 1 0 (if (4 : Int32) < ((G 6 1 0) + (1 : Int32)) then (4 : Int32) else ((G 6 1 0) + (1 : Int32)))) (fun G1 => some (G1, K))
set_option maxRecDepth 20000 in
set_option maxHeartbeats 1000000 in
theorem TX1_save_42 {GR : M3} {KR : J3}   (C : Cx E A p s m args meth c wdX1_save cX1_save 3 none RX1) (hg' : g' < 6)   (G : M3) (K : J3)  (h : fbX1_save_42 F g' G K = some (GR, KR)) (w : Wd E A s G K H locs) (hl : lv_has ls 3 [(0, .ref (ad E 6 1))]) : W p l e rmX1_save s m args below meth c H locs 0 0 (QV E A below args s  GR KR) (F0 m 42 ls []) := by
  obtain ⟨hx, hb, hr, hml, hown, hts, hlocks, hKK, hA1, hA2⟩ := id C
  unfold fbX1_save_42 at h
  refine lv_aload_n hx hb dX1_save_42 rfl (lv_at hl 0 rfl) ?_
  refine lv_aload_n hx hb dX1_save_43 rfl (lv_at hl 0 rfl) ?_
  refine gG_X1_kept C w q9_6 dX1_save_44 ?_
  refine lv_iconst (v := (1 : Int32)) hx hb dX1_save_47 (by decide) ?_
  refine lv_iadd hx hb dX1_save_48 ?_
  refine lv_iconst (v := (4 : Int32)) hx hb dX1_save_49 (by decide) ?_
  refine x_min C hl.1 q9_7 q9_8 q9_9 q9_10 (by decide) (show _ ≤ _ from Nat.le_of_ble_eq_true rfl) (Nat.zero_le _) (Nat.zero_le _) dX1_save_50 ?_
  refine pG_X1_kept C w q9_6 dX1_save_53 (fun G1 H locs e2 w => ?_)
  replace h := bnd_of h e2
  obtain ⟨e2, e3⟩ := rt2 h
  exact x_rv C w (by rw [e2]) (by rw [e3]) dX1_save_56
noncomputable def fbX1_save_21 (F : Nat)  (g' : Nat) (s0 : Int32) (G : M3) (K : J3) : Option (M3 × J3) := bnd (up3 G 6 1 1 s0) (fun G1 => (fX1_savedAt G1 K (G1 6 1 1)).bind (fun vv4 => oc vv4 (fbX1_save_42 F g'  G1 K) (fun z5 => chk (isS z5) (bd2 (fX3_takeOver F z5 g' G1 K) (fun G7 K8 => fbX1_save_42 F g'  G7 K8)))))
set_option maxRecDepth 20000 in
set_option maxHeartbeats 1000000 in
theorem TX1_save_21 {GR : M3} {KR : J3}   (C : Cx E A p s m args meth c wdX1_save cX1_save 3 none RX1) (hg' : g' < 6)  (s0 : Int32) (G : M3) (K : J3)  (h : fbX1_save_21 F g' s0 G K = some (GR, KR)) (w : Wd E A s G K H locs) (hl : lv_has ls 3 [(0, .ref (ad E 6 1)), (1, .ref (ad E g' 0))]) : W p l e rmX1_save s m args below meth c H locs 0 0 (QV E A below args s  GR KR) (F0 m 21 ls [.int s0, .ref (ad E 6 1)]) := by
  obtain ⟨hx, hb, hr, hml, hown, hts, hlocks, hKK, hA1, hA2⟩ := id C
  unfold fbX1_save_21 at h
  refine pG_X1_newest C w q9_5 dX1_save_21 (fun G1 H locs e2 w => ?_)
  replace h := bnd_of h e2
  refine lv_aload_n hx hb dX1_save_24 rfl (lv_at hl 0 rfl) ?_
  refine lv_aload_n hx hb dX1_save_25 rfl (lv_at hl 0 rfl) ?_
  refine gG_X1_newest C w q9_5 dX1_save_26 ?_
  obtain ⟨vv4, hv3, h⟩ := bind_of h
  refine x_cVq (As := [.int (G1 6 1 1)]) (rest := []) C w (v6 (by decide)) cel_6 rfl (mtX1_savedAt  hv3) q9_11 q9_12 q9_13 q1_17 q9_14 ydX1_savedAt ⟨rfl, rfl⟩ ⟨by decide, by decide⟩ ⟨Nat.zero_le _, Nat.zero_le _⟩ hl.1 (Nat.le_of_ble_eq_true rfl) rfl dX1_save_29 (fun H locs w => ?_)
  cases vv4 with
  | none =>
    replace h := oc_n h
    refine lv_astore_nN (lv' := [(2, .null), (0, .ref (ad E 6 1)), (1, .ref (ad E g' 0))]) hx hb dX1_save_32 rfl hl (by decide) rfl (fun ls hl => ?_)
    refine lv_aload_nN hx hb dX1_save_33 rfl (lv_at hl 0 rfl) ?_
    refine lv_ifnullN (tgt := 42) hx hb dX1_save_34 (by decide) ?_
    exact TX1_save_42 C hg'  _ _ h w (lv_sub hl [1] rfl)
  | some z5 =>
    replace h := oc_s h
    obtain ⟨hz5, h⟩ := chk_of h
    refine lv_astore_n (lv' := [(2, .ref (ad E z5 0)), (0, .ref (ad E 6 1)), (1, .ref (ad E g' 0))]) hx hb dX1_save_32 rfl hl (by decide) rfl (fun ls hl => ?_)
    refine lv_aload_n hx hb dX1_save_33 rfl (lv_at hl 0 rfl) ?_
    refine lv_ifnull hx hb dX1_save_34 ?_
    refine lv_aload_n hx hb dX1_save_37 rfl (lv_at hl 0 rfl) ?_
    refine lv_aload_n hx hb dX1_save_38 rfl (lv_at hl 2 rfl) ?_
    obtain ⟨G7, K8, hv6, h⟩ := bd2_of h
    refine x_cVv (As := [.ref (ad E g' 0)]) (rest := []) C w (vS hz5 (by decide)) (cel_S hz5) rfl (mtX3_takeOver hz5 hg' hv6) q9_15 q9_16 q9_17 q1_12 q9_18 ydX3_takeOver ⟨rfl, rfl⟩ ⟨by decide, by decide⟩ ⟨Nat.zero_le _, Nat.zero_le _⟩ hl.1 (Nat.le_of_ble_eq_true rfl) rfl dX1_save_39 (fun H locs w => ?_)
    exact TX1_save_42 C hg'  _ _ h w (lv_sub hl [1] rfl)
noncomputable def fX1_save (F : Nat) (g' : Nat)  (G : M3) (K : J3) : Option (M3 × J3) := (if (4 : Int32) ≤ ((G 6 1 1) + (1 : Int32)) then (fbX1_save_21 F g' (0 : Int32) G K) else (fbX1_save_21 F g' ((G 6 1 1) + (1 : Int32)) G K))
set_option maxRecDepth 20000 in
set_option maxHeartbeats 1000000 in
theorem TX1_save {GR : M3} {KR : J3}  (C : Cx E A p s m args meth c wdX1_save cX1_save 3 none RX1) (hg' : g' < 6)   (h : fX1_save F g' G K = some (GR, KR)) (w : Wd E A s G K H locs) (hl : lv_has ls 3 [(0, .ref (ad E 6 1)), (1, .ref (ad E g' 0))]) : W p l e rmX1_save s m args below meth c H locs 0 0 (QV E A below args s  GR KR) (F0 m 0 ls []) := by
  obtain ⟨hx, hb, hr, hml, hown, hts, hlocks, hKK, hA1, hA2⟩ := id C
  unfold fX1_save at h
  refine lv_aload_n hx hb dX1_save_0 rfl (lv_at hl 0 rfl) ?_
  refine lv_aload_n hx hb dX1_save_1 rfl (lv_at hl 0 rfl) ?_
  refine gG_X1_newest C w q9_5 dX1_save_2 ?_
  refine lv_iconst (v := (1 : Int32)) hx hb dX1_save_5 (by decide) ?_
  refine lv_iadd hx hb dX1_save_6 ?_
  refine lv_iconst (v := (4 : Int32)) hx hb dX1_save_7 (by decide) ?_
  refine lv_icmp_ge (tgt := 20) hx hb dX1_save_8 (by decide) (fun c1 => ?_) (fun c1 => ?_)
  · replace h := ite_t h c1
    refine lv_iconst (v := (0 : Int32)) hx hb dX1_save_20 (by decide) ?_
    exact TX1_save_21 C hg'  _ _ _ h w (lv_sub hl [0, 1] rfl)
  · replace h := ite_f h c1
    refine lv_aload_n hx hb dX1_save_11 rfl (lv_at hl 0 rfl) ?_
    refine gG_X1_newest C w q9_5 dX1_save_12 ?_
    refine lv_iconst (v := (1 : Int32)) hx hb dX1_save_15 (by decide) ?_
    refine lv_iadd hx hb dX1_save_16 ?_
    refine lv_goto (tgt := 21) hx hb dX1_save_17 (by decide) ?_
    exact TX1_save_21 C hg'  _ _ _ h w (lv_sub hl [0, 1] rfl)
theorem mtX1_save {GR : M3} {KR : J3}  (hg' : g' < 6)   (h : fX1_save F g' G K = some (GR, KR)) : MtV l yX1_save wdX1_save rmX1_save E [.ref (ad E 6 1), .ref (ad E g' 0)] G K  GR KR := by
  intro sz
  refine Met.ofW (cc := cX1_save) (maxL := 3) (ret := none) (by decide) rfl ?_
  intro p e s m args below meth c s₁ B hml hv
  obtain ⟨rfl, C, w⟩ := Cx.of (own := RX1) B rfl hml hv
  have hl := lv_entry ([.ref (ad E 6 1), .ref (ad E g' 0)]) (n := 3) (by first | exact Nat.le_of_ble_eq_true rfl)
  rw [lg_entry_eq]
  generalize (lg_sl ([.ref (ad E 6 1), .ref (ad E g' 0)]) ++ List.replicate (3 - (lg_sl ([.ref (ad E 6 1), .ref (ad E g' 0)])).length) Slot.unset).toArray = ls at hl ⊢
  exact TX1_save C hg'  h w hl
theorem ydX1_save : yX1_save.cls = RX1 ∧ yX1_save.cls ≠ "java/lang/invoke/MethodHandle" ∧ yX1_save.cls ≠ "java/lang/invoke/VarHandle" ∧ (parseMethodDescriptor yX1_save.desc).map (fun d => d.parameters.length) = some 1 := by decide +kernel
/-! X1.restore(LAirStation$State;)V -/
abbrev rmX1_restore : Room := { frames := 3, cells := 0, slots := 0, locals := 64 }
abbrev wdX1_restore : Cond := Cond.code yX1_restore cX1_restore 3 none
noncomputable def fbX1_restore_36 (F : Nat)  (g' : Nat) (s0 : Int32) (G : M3) (K : J3) : Option (M3 × J3) := bnd (up3 G 6 1 1 s0) (fun G1 => bnd (up3 G1 6 1 0 (if ((G1 6 1 0) - (1 : Int32)) < (0 : Int32) then (0 : Int32) else ((G1 6 1 0) - (1 : Int32)))) (fun G3 => some (G3, K)))
set_option maxRecDepth 20000 in
set_option maxHeartbeats 1000000 in
theorem TX1_restore_36 {GR : M3} {KR : J3}   (C : Cx E A p s m args meth c wdX1_restore cX1_restore 3 none RX1) (hg' : g' < 6)  (s0 : Int32) (G : M3) (K : J3)  (h : fbX1_restore_36 F g' s0 G K = some (GR, KR)) (w : Wd E A s G K H locs) (hl : lv_has ls 3 [(0, .ref (ad E 6 1))]) : W p l e rmX1_restore s m args below meth c H locs 0 0 (QV E A below args s  GR KR) (F0 m 36 ls [.int s0, .ref (ad E 6 1)]) := by
  obtain ⟨hx, hb, hr, hml, hown, hts, hlocks, hKK, hA1, hA2⟩ := id C
  unfold fbX1_restore_36 at h
  refine pG_X1_newest C w q9_5 dX1_restore_36 (fun G1 H locs e2 w => ?_)
  replace h := bnd_of h e2
  refine lv_aload_n hx hb dX1_restore_39 rfl (lv_at hl 0 rfl) ?_
  refine lv_aload_n hx hb dX1_restore_40 rfl (lv_at hl 0 rfl) ?_
  refine gG_X1_kept C w q9_6 dX1_restore_41 ?_
  refine lv_iconst (v := (1 : Int32)) hx hb dX1_restore_44 (by decide) ?_
  refine lv_isub hx hb dX1_restore_45 ?_
  refine lv_iconst (v := (0 : Int32)) hx hb dX1_restore_46 (by decide) ?_
  refine x_max C hl.1 q16_23 q17_0 q9_9 q17_1 (by decide) (show _ ≤ _ from Nat.le_of_ble_eq_true rfl) (Nat.zero_le _) (Nat.zero_le _) dX1_restore_47 ?_
  refine pG_X1_kept C w q9_6 dX1_restore_50 (fun G3 H locs e4 w => ?_)
  replace h := bnd_of h e4
  obtain ⟨e2, e3⟩ := rt2 h
  exact x_rv C w (by rw [e2]) (by rw [e3]) dX1_restore_53
noncomputable def fbX1_restore_18 (F : Nat)  (g' : Nat)  (G : M3) (K : J3) : Option (M3 × J3) := (if (G 6 1 1) ≤ 0 then (fbX1_restore_36 F g' (3 : Int32) G K) else (fbX1_restore_36 F g' ((G 6 1 1) - (1 : Int32)) G K))
set_option maxRecDepth 20000 in
set_option maxHeartbeats 1000000 in
theorem TX1_restore_18 {GR : M3} {KR : J3}   (C : Cx E A p s m args meth c wdX1_restore cX1_restore 3 none RX1) (hg' : g' < 6)   (G : M3) (K : J3)  (h : fbX1_restore_18 F g' G K = some (GR, KR)) (w : Wd E A s G K H locs) (hl : lv_has ls 3 [(0, .ref (ad E 6 1))]) : W p l e rmX1_restore s m args below meth c H locs 0 0 (QV E A below args s  GR KR) (F0 m 18 ls []) := by
  obtain ⟨hx, hb, hr, hml, hown, hts, hlocks, hKK, hA1, hA2⟩ := id C
  unfold fbX1_restore_18 at h
  refine lv_aload_n hx hb dX1_restore_18 rfl (lv_at hl 0 rfl) ?_
  refine lv_aload_n hx hb dX1_restore_19 rfl (lv_at hl 0 rfl) ?_
  refine gG_X1_newest C w q9_5 dX1_restore_20 ?_
  refine lv_if_le (tgt := 35) hx hb dX1_restore_23 (by decide) (fun c1 => ?_) (fun c1 => ?_)
  · replace h := ite_t h c1
    refine lv_iconst (v := (3 : Int32)) hx hb dX1_restore_35 (by decide) ?_
    exact TX1_restore_36 C hg'  _ _ _ h w (lv_sub hl [0] rfl)
  · replace h := ite_f h c1
    refine lv_aload_n hx hb dX1_restore_26 rfl (lv_at hl 0 rfl) ?_
    refine gG_X1_newest C w q9_5 dX1_restore_27 ?_
    refine lv_iconst (v := (1 : Int32)) hx hb dX1_restore_30 (by decide) ?_
    refine lv_isub hx hb dX1_restore_31 ?_
    refine lv_goto (tgt := 36) hx hb dX1_restore_32 (by decide) ?_
    exact TX1_restore_36 C hg'  _ _ _ h w (lv_sub hl [0] rfl)
noncomputable def fX1_restore (F : Nat) (g' : Nat)  (G : M3) (K : J3) : Option (M3 × J3) := (fX1_savedAt G K (G 6 1 1)).bind (fun vv2 => oc vv2 (fbX1_restore_18 F g'  G K) (fun z3 => chk (isS z3) (bd2 (fX3_takeOver F g' z3 G K) (fun G5 K6 => fbX1_restore_18 F g'  G5 K6))))
set_option maxRecDepth 20000 in
set_option maxHeartbeats 1000000 in
theorem TX1_restore {GR : M3} {KR : J3}  (C : Cx E A p s m args meth c wdX1_restore cX1_restore 3 none RX1) (hg' : g' < 6)   (h : fX1_restore F g' G K = some (GR, KR)) (w : Wd E A s G K H locs) (hl : lv_has ls 3 [(0, .ref (ad E 6 1)), (1, .ref (ad E g' 0))]) : W p l e rmX1_restore s m args below meth c H locs 0 0 (QV E A below args s  GR KR) (F0 m 0 ls []) := by
  obtain ⟨hx, hb, hr, hml, hown, hts, hlocks, hKK, hA1, hA2⟩ := id C
  unfold fX1_restore at h
  refine lv_aload_n hx hb dX1_restore_0 rfl (lv_at hl 0 rfl) ?_
  refine lv_aload_n hx hb dX1_restore_1 rfl (lv_at hl 0 rfl) ?_
  refine gG_X1_newest C w q9_5 dX1_restore_2 ?_
  obtain ⟨vv2, hv1, h⟩ := bind_of h
  refine x_cVq (As := [.int (G 6 1 1)]) (rest := []) C w (v6 (by decide)) cel_6 rfl (mtX1_savedAt  hv1) q9_11 q9_12 q9_13 q1_17 q9_14 ydX1_savedAt ⟨rfl, rfl⟩ ⟨by decide, by decide⟩ ⟨Nat.zero_le _, Nat.zero_le _⟩ hl.1 (Nat.le_of_ble_eq_true rfl) rfl dX1_restore_5 (fun H locs w => ?_)
  cases vv2 with
  | none =>
    replace h := oc_n h
    refine lv_astore_nN (lv' := [(2, .null), (0, .ref (ad E 6 1)), (1, .ref (ad E g' 0))]) hx hb dX1_restore_8 rfl hl (by decide) rfl (fun ls hl => ?_)
    refine lv_aload_nN hx hb dX1_restore_9 rfl (lv_at hl 0 rfl) ?_
    refine lv_ifnullN (tgt := 18) hx hb dX1_restore_10 (by decide) ?_
    exact TX1_restore_18 C hg'  _ _ h w (lv_sub hl [1] rfl)
  | some z3 =>
    replace h := oc_s h
    obtain ⟨hz3, h⟩ := chk_of h
    refine lv_astore_n (lv' := [(2, .ref (ad E z3 0)), (0, .ref (ad E 6 1)), (1, .ref (ad E g' 0))]) hx hb dX1_restore_8 rfl hl (by decide) rfl (fun ls hl => ?_)
    refine lv_aload_n hx hb dX1_restore_9 rfl (lv_at hl 0 rfl) ?_
    refine lv_ifnull hx hb dX1_restore_10 ?_
    refine lv_aload_n hx hb dX1_restore_13 rfl (lv_at hl 2 rfl) ?_
    refine lv_aload_n hx hb dX1_restore_14 rfl (lv_at hl 0 rfl) ?_
    obtain ⟨G5, K6, hv4, h⟩ := bd2_of h
    refine x_cVv (As := [.ref (ad E z3 0)]) (rest := []) C w (vS hg' (by decide)) (cel_S hg') rfl (mtX3_takeOver hg' hz3 hv4) q9_15 q9_16 q9_17 q1_12 q9_18 ydX3_takeOver ⟨rfl, rfl⟩ ⟨by decide, by decide⟩ ⟨Nat.zero_le _, Nat.zero_le _⟩ hl.1 (Nat.le_of_ble_eq_true rfl) rfl dX1_restore_15 (fun H locs w => ?_)
    exact TX1_restore_18 C hg'  _ _ h w (lv_sub hl [1] rfl)
theorem mtX1_restore {GR : M3} {KR : J3}  (hg' : g' < 6)   (h : fX1_restore F g' G K = some (GR, KR)) : MtV l yX1_restore wdX1_restore rmX1_restore E [.ref (ad E 6 1), .ref (ad E g' 0)] G K  GR KR := by
  intro sz
  refine Met.ofW (cc := cX1_restore) (maxL := 3) (ret := none) (by decide) rfl ?_
  intro p e s m args below meth c s₁ B hml hv
  obtain ⟨rfl, C, w⟩ := Cx.of (own := RX1) B rfl hml hv
  have hl := lv_entry ([.ref (ad E 6 1), .ref (ad E g' 0)]) (n := 3) (by first | exact Nat.le_of_ble_eq_true rfl)
  rw [lg_entry_eq]
  generalize (lg_sl ([.ref (ad E 6 1), .ref (ad E g' 0)]) ++ List.replicate (3 - (lg_sl ([.ref (ad E 6 1), .ref (ad E g' 0)])).length) Slot.unset).toArray = ls at hl ⊢
  exact TX1_restore C hg'  h w hl
theorem ydX1_restore : yX1_restore.cls = RX1 ∧ yX1_restore.cls ≠ "java/lang/invoke/MethodHandle" ∧ yX1_restore.cls ≠ "java/lang/invoke/VarHandle" ∧ (parseMethodDescriptor yX1_restore.desc).map (fun d => d.parameters.length) = some 1 := by decide +kernel
end XP1
