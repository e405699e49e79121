section XM5
variable {E : WE} {A : Nat → Prop} {p : Program} {l : Launch} {e : Env} {s : State} {m : MethodId} {args : Array Value} {below : List Frame} {meth : Method} {c : Code} {H : Heap} {locs : List Loc} {ls : Array Slot} {G : M3} {K : J3} {M : M2} {J : J2} {F g q : Nat} {g' q' : Nat}

/-! X5.loadedShare()D -/
abbrev rmX5_loadedShare : Room := { frames := 2, cells := 0, slots := 0, locals := 34 }
abbrev wdX5_loadedShare : Cond := Cond.code yX5_loadedShare cX5_loadedShare 4 (some .double)
noncomputable def fsX5_loadedShare_9 (F : Nat)   (k9 : Int64 → Int32 → M2 → J2 → Option (UInt64 × M2 × J2)) : Int64 → Int32 → M2 → J2 → Option (UInt64 × M2 × J2) := fun a1 a3 M J => (if (M 1 10) ≤ a3 then ((if ¬ (lg_cmp (J 2 5) (0 : Int64)) = 0 then (chk (nNaN (FP.ddiv (FP.l2d ((10 : Int64) * a1)) (FP.l2d (J 2 5)))) (some ((FP.ddiv (FP.l2d ((10 : Int64) * a1)) (FP.l2d (J 2 5))), M, J))) else (some ((0 : UInt64), M, J)))) else ((fX5_its M J a3 (0 : Int32)).bind (fun vv5 => (fX5_its M J a3 (2 : Int32)).bind (fun vv7 => k9 (a1 + (vv5.toInt64 * vv7.toInt64)) (a3 + (1 : Int32)) M J))))
noncomputable def fbX5_loadedShare_9 (F : Nat)   (n : Nat) : Int64 → Int32 → M2 → J2 → Option (UInt64 × M2 × J2) := itr (fsX5_loadedShare_9 F ) (fun _ _ _ _ => none) n
set_option maxRecDepth 20000 in
set_option maxHeartbeats 1000000 in
theorem SX5_loadedShare_9 {rr : UInt64} {MR : M2} {JR : J2}   {k9 : Int64 → Int32 → M2 → J2 → Option (UInt64 × M2 × J2)} (C : Cx E A p s m args meth c wdX5_loadedShare cX5_loadedShare 4 (some .double) RX5)   (hk9 : ∀ (a1 : Int64) (a3 : Int32) (M : M2) (J : J2)  (ls : Array Slot) (H : Heap) (locs : List Loc), k9 a1 a3 M J = some (rr, MR, JR) → Wd E A s (sg G 8 M) (sg K 8 J) H locs → lv_has ls 4 [(0, .ref (ad E 8 0)), (1, .long a1), (3, .int a3)] → W p l e rmX5_loadedShare s m args below meth c H locs 0 0 (QD E A below args s rr (sg G 8 MR) (sg K 8 JR)) (F0 m 9 ls [])) (a1 : Int64) (a3 : Int32) (M : M2) (J : J2)  (h : fsX5_loadedShare_9 F  k9 a1 a3 M J = some (rr, MR, JR)) (w : Wd E A s (sg G 8 M) (sg K 8 J) H locs) (hl : lv_has ls 4 [(0, .ref (ad E 8 0)), (1, .long a1), (3, .int a3)]) : W p l e rmX5_loadedShare s m args below meth c H locs 0 0 (QD E A below args s rr (sg G 8 MR) (sg K 8 JR)) (F0 m 9 ls []) := by
  obtain ⟨hx, hb, hr, hml, hown, hts, hlocks, hKK, hA1, hA2⟩ := id C
  unfold fsX5_loadedShare_9 at h
  refine lv_iload_n hx hb dX5_loadedShare_9 rfl (lv_at hl 2 rfl) ?_
  refine lv_aload_n hx hb dX5_loadedShare_10 rfl (lv_at hl 0 rfl) ?_
  refine gR_X5_s C w q3_16 dX5_loadedShare_11 ?_
  refine lv_bipush (v := (10 : Int32)) hx hb dX5_loadedShare_14 (by decide) ?_
  refine x_aldI_L C w (v8 (by decide)) c8_1 (inb_k (k := 10) (by decide) (by decide)) cl_10 dX5_loadedShare_16 ?_
  refine lv_icmp_ge (tgt := 44) hx hb dX5_loadedShare_17 (by decide) (fun c1 => ?_) (fun c1 => ?_)
  · replace h := ite_t h c1
    refine lv_aload_n hx hb dX5_loadedShare_44 rfl (lv_at hl 0 rfl) ?_
    refine gR_X5_b C w q3_17 dX5_loadedShare_45 ?_
    refine lv_iconst (v := (5 : Int32)) hx hb dX5_loadedShare_48 (by decide) ?_
    refine x_aldJ_L C w (v8 (by decide)) c8_2 (inb_k (k := 5) (by decide) (by decide)) cl_5 dX5_loadedShare_49 ?_
    refine lv_lconst (v := (0 : Int64)) hx hb dX5_loadedShare_50 (by decide) ?_
    refine W.lcmp hx hb dX5_loadedShare_51 ?_
    refine lv_if_ne (tgt := 59) hx hb dX5_loadedShare_52 (by decide) (fun c2 => ?_) (fun c2 => ?_)
    · replace h := ite_t h c2
      refine lv_ldc2 hx hb hown (x_hts C q28_7) dX5_loadedShare_59 ?_
      refine lv_lload_n hx hb dX5_loadedShare_62 rfl (lv_at hl 1 rfl) ?_
      refine lv_lmul hx hb dX5_loadedShare_63 ?_
      refine lv_l2d hx hb dX5_loadedShare_64 ?_
      refine lv_aload_n hx hb dX5_loadedShare_65 rfl (lv_at hl 0 rfl) ?_
      refine gR_X5_b C w q3_17 dX5_loadedShare_66 ?_
      refine lv_iconst (v := (5 : Int32)) hx hb dX5_loadedShare_69 (by decide) ?_
      refine x_aldJ_L C w (v8 (by decide)) c8_2 (inb_k (k := 5) (by decide) (by decide)) cl_5 dX5_loadedShare_70 ?_
      refine lv_l2d hx hb dX5_loadedShare_71 ?_
      obtain ⟨kn3, h⟩ := chk_of h
      refine lv_ddiv hx hb dX5_loadedShare_72 kn3 ?_
      obtain ⟨e1, e2, e3⟩ := rt3 h
      exact x_rd C w e1 (by rw [e2]) (by rw [e3]) dX5_loadedShare_73
    · replace h := ite_f h (fun z => z c2)
      refine lv_dconst0 hx hb dX5_loadedShare_55 ?_
      refine lv_goto (tgt := 73) hx hb dX5_loadedShare_56 (by decide) ?_
      obtain ⟨e1, e2, e3⟩ := rt3 h
      exact x_rd C w e1 (by rw [e2]) (by rw [e3]) dX5_loadedShare_73
  · replace h := ite_f h c1
    refine lv_lload_n hx hb dX5_loadedShare_20 rfl (lv_at hl 1 rfl) ?_
    refine lv_aload_n hx hb dX5_loadedShare_21 rfl (lv_at hl 0 rfl) ?_
    refine lv_iload_n hx hb dX5_loadedShare_22 rfl (lv_at hl 2 rfl) ?_
    refine lv_iconst (v := (0 : Int32)) hx hb dX5_loadedShare_23 (by decide) ?_
    obtain ⟨vv5, hv4, h⟩ := bind_of h
    refine x_cVi (As := [.int a3, .int (0 : Int32)]) (rest := [.long a1]) C w (v8 (by decide)) cel_8 rfl (mtX5_its  hv4) q11_5 q11_6 q11_7 q1_5 q11_8 ydX5_its ⟨rfl, rfl⟩ ⟨by decide, by decide⟩ ⟨Nat.zero_le _, Nat.zero_le _⟩ hl.1 (Nat.le_of_ble_eq_true rfl) rfl dX5_loadedShare_24 (fun H locs w => ?_)
    refine lv_i2l hx hb dX5_loadedShare_27 rfl ?_
    refine lv_aload_n hx hb dX5_loadedShare_28 rfl (lv_at hl 0 rfl) ?_
    refine lv_iload_n hx hb dX5_loadedShare_29 rfl (lv_at hl 2 rfl) ?_
    refine lv_iconst (v := (2 : Int32)) hx hb dX5_loadedShare_30 (by decide) ?_
    obtain ⟨vv7, hv6, h⟩ := bind_of h
    refine x_cVi (As := [.int a3, .int (2 : Int32)]) (rest := [.long vv5.toInt64, .long a1]) C w (v8 (by decide)) cel_8 rfl (mtX5_its  hv6) q11_5 q11_6 q11_7 q1_5 q11_8 ydX5_its ⟨rfl, rfl⟩ ⟨by decide, by decide⟩ ⟨Nat.zero_le _, Nat.zero_le _⟩ hl.1 (Nat.le_of_ble_eq_true rfl) rfl dX5_loadedShare_31 (fun H locs w => ?_)
    refine lv_i2l hx hb dX5_loadedShare_34 rfl ?_
    refine lv_lmul hx hb dX5_loadedShare_35 ?_
    refine lv_ladd hx hb dX5_loadedShare_36 ?_
    refine lv_lstore_n (lv' := [(1, .long (a1 + (vv5.toInt64 * vv7.toInt64))), (0, .ref (ad E 8 0)), (3, .int a3)]) hx hb dX5_loadedShare_37 rfl hl (by decide) rfl (fun ls hl => ?_)
    refine lv_iinc (v := (a3 + (1 : Int32))) (lv' := [(3, .int (a3 + (1 : Int32))), (1, .long (a1 + (vv5.toInt64 * vv7.toInt64))), (0, .ref (ad E 8 0))]) hx hb dX5_loadedShare_38 hl (k := 2) rfl (congrArg (HAdd.hAdd _) (by decide)) (by decide) rfl (fun ls hl => ?_)
    refine lv_goto (tgt := 9) hx hb dX5_loadedShare_41 (by decide) ?_
    exact hk9 _ _ _ _ _ _ _ h w (lv_sub hl [2, 1, 0] rfl)
theorem TX5_loadedShare_9 {rr : UInt64} {MR : M2} {JR : J2}   (C : Cx E A p s m args meth c wdX5_loadedShare cX5_loadedShare 4 (some .double) RX5)   : ∀ (n : Nat) (a1 : Int64) (a3 : Int32) (M : M2) (J : J2)  (ls : Array Slot) (H : Heap) (locs : List Loc), fbX5_loadedShare_9 F  n a1 a3 M J = some (rr, MR, JR) → Wd E A s (sg G 8 M) (sg K 8 J) H locs → lv_has ls 4 [(0, .ref (ad E 8 0)), (1, .long a1), (3, .int a3)] → W p l e rmX5_loadedShare s m args below meth c H locs 0 0 (QD E A below args s rr (sg G 8 MR) (sg K 8 JR)) (F0 m 9 ls []) := by
  intro n
  induction n with
  | zero => intro a1 a3 M J  ls H locs h; exact absurd (show none = _ from h) (fun z => nomatch z)
  | succ n ih => intro a1 a3 M J  ls H locs h w hl; exact SX5_loadedShare_9 (F := F) C   ih a1 a3 M J  h w hl
noncomputable def fX5_loadedShare (F : Nat)   (M : M2) (J : J2) : Option (UInt64 × M2 × J2) := bnd (up2 M 0 11 (0 : Int32)) (fun M1 => fbX5_loadedShare_9 F F (0 : Int64) (0 : Int32) M1 J)
set_option maxRecDepth 20000 in
set_option maxHeartbeats 1000000 in
theorem TX5_loadedShare {rr : UInt64} {MR : M2} {JR : J2}  (C : Cx E A p s m args meth c wdX5_loadedShare cX5_loadedShare 4 (some .double) RX5)    (h : fX5_loadedShare F  M J = some (rr, MR, JR)) (w : Wd E A s (sg G 8 M) (sg K 8 J) H locs) (hl : lv_has ls 4 [(0, .ref (ad E 8 0))]) : W p l e rmX5_loadedShare s m args below meth c H locs 0 0 (QD E A below args s rr (sg G 8 MR) (sg K 8 JR)) (F0 m 0 ls []) := by
  obtain ⟨hx, hb, hr, hml, hown, hts, hlocks, hKK, hA1, hA2⟩ := id C
  unfold fX5_loadedShare at h
  refine lv_aload_n hx hb dX5_loadedShare_0 rfl (lv_at hl 0 rfl) ?_
  refine lv_iconst (v := (0 : Int32)) hx hb dX5_loadedShare_1 (by decide) ?_
  refine pL_X5_thrown C w q7_7 dX5_loadedShare_2 (fun M1 H locs e2 w => ?_)
  replace h := bnd_of h e2
  refine lv_lconst (v := (0 : Int64)) hx hb dX5_loadedShare_5 (by decide) ?_
  refine lv_lstore_n (lv' := [(1, .long (0 : Int64)), (0, .ref (ad E 8 0))]) hx hb dX5_loadedShare_6 rfl hl (by decide) rfl (fun ls hl => ?_)
  refine lv_iconst (v := (0 : Int32)) hx hb dX5_loadedShare_7 (by decide) ?_
  refine lv_istore_n (lv' := [(3, .int (0 : Int32)), (1, .long (0 : Int64)), (0, .ref (ad E 8 0))]) hx hb dX5_loadedShare_8 rfl hl (by decide) rfl (fun ls hl => ?_)
  exact TX5_loadedShare_9 C   _ _ _ _ _ _ _ _ h w (lv_sub hl [2, 1, 0] rfl)
theorem mtX5_loadedShare {rr : UInt64} {MR : M2} {JR : J2}     (h : fX5_loadedShare F  M J = some (rr, MR, JR)) : MtD l yX5_loadedShare wdX5_loadedShare rmX5_loadedShare E [.ref (ad E 8 0)] (sg G 8 M) (sg K 8 J) rr (sg G 8 MR) (sg K 8 JR) := by
  intro sz
  refine Met.ofW (cc := cX5_loadedShare) (maxL := 4) (ret := (some .double)) (by decide) rfl ?_
  intro p e s m args below meth c s₁ B hml hv
  obtain ⟨rfl, C, w⟩ := Cx.of (own := RX5) B rfl hml hv
  have hl := lv_entry ([.ref (ad E 8 0)]) (n := 4) (by first | exact Nat.le_of_ble_eq_true rfl)
  rw [lg_entry_eq]
  generalize (lg_sl ([.ref (ad E 8 0)]) ++ List.replicate (4 - (lg_sl ([.ref (ad E 8 0)])).length) Slot.unset).toArray = ls at hl ⊢
  exact TX5_loadedShare C   h w hl
theorem ydX5_loadedShare : yX5_loadedShare.cls = RX5 ∧ yX5_loadedShare.cls ≠ "java/lang/invoke/MethodHandle" ∧ yX5_loadedShare.cls ≠ "java/lang/invoke/VarHandle" ∧ (parseMethodDescriptor yX5_loadedShare.desc).map (fun d => d.parameters.length) = some 0 := by decide +kernel
/-! X5.append(I)I -/
abbrev rmX5_append : Room := { frames := 2, cells := 0, slots := 0, locals := 34 }
abbrev wdX5_append : Cond := Cond.code yX5_append cX5_append 2 (some .int)
noncomputable def fX5_append  (x1 : Int32) (M : M2) (J : J2) : Option (Int32 × M2 × J2) := (if ¬ (fX5_in x1 (0 : Int32) (127 : Int32)) = 0 then ((if ¬ (M 0 10) = (100 : Int32) then (chk (inb (M 0 10) 100) (bnd (up2 M 9 ((M 0 10).toNatClampNeg) x1) (fun M4 => bnd (up2 M4 0 10 ((M4 0 10) + (1 : Int32))) (fun M6 => bd3 (fX5_tells (M6 0 10) M6 J) (fun vv11 M9 J10 => some (vv11, M9, J10)))))) else (bd3 (fX5_fails (2 : Int32) M J) (fun vv15 M13 J14 => some (vv15, M13, J14))))) else (bd3 (fX5_fails (1 : Int32) M J) (fun vv19 M17 J18 => some (vv19, M17, J18))))
set_option maxRecDepth 20000 in
set_option maxHeartbeats 1000000 in
theorem TX5_append {rr : Int32} {MR : M2} {JR : J2}  (C : Cx E A p s m args meth c wdX5_append cX5_append 2 (some .int) RX5)  {x1 : Int32}  (h : fX5_append  x1 M J = some (rr, MR, JR)) (w : Wd E A s (sg G 8 M) (sg K 8 J) H locs) (hl : lv_has ls 2 [(0, .ref (ad E 8 0)), (1, .int x1)]) : W p l e rmX5_append s m args below meth c H locs 0 0 (QI E A below args s rr (sg G 8 MR) (sg K 8 JR)) (F0 m 0 ls []) := by
  obtain ⟨hx, hb, hr, hml, hown, hts, hlocks, hKK, hA1, hA2⟩ := id C
  unfold fX5_append at h
  refine lv_iload_n hx hb dX5_append_0 rfl (lv_at hl 1 rfl) ?_
  refine lv_iconst (v := (0 : Int32)) hx hb dX5_append_1 (by decide) ?_
  refine lv_bipush (v := (127 : Int32)) hx hb dX5_append_2 (by decide) ?_
  refine x_cSi (As := [.int x1, .int (0 : Int32), .int (127 : Int32)]) (rest := []) C w (mtX5_in ) q7_0 q7_1 q1_5 q7_2 ydX5_in ⟨rfl, rfl⟩ ⟨by decide, by decide⟩ ⟨Nat.zero_le _, Nat.zero_le _⟩ hl.1 (Nat.le_of_ble_eq_true rfl) rfl dX5_append_4 (fun H locs w => ?_)
  refine lv_if_ne (tgt := 16) hx hb dX5_append_7 (by decide) (fun c1 => ?_) (fun c1 => ?_)
  · replace h := ite_t h c1
    refine lv_aload_n hx hb dX5_append_16 rfl (lv_at hl 0 rfl) ?_
    refine gL_X5_typed C w q29_1 dX5_append_17 ?_
    refine lv_bipush (v := (100 : Int32)) hx hb dX5_append_20 (by decide) ?_
    refine lv_icmp_ne (tgt := 31) hx hb dX5_append_22 (by decide) (fun c2 => ?_) (fun c2 => ?_)
    · replace h := ite_t h c2
      refine lv_aload_n hx hb dX5_append_31 rfl (lv_at hl 0 rfl) ?_
      refine gR_X5_text C w q4_0 dX5_append_32 ?_
      refine lv_aload_n hx hb dX5_append_35 rfl (lv_at hl 0 rfl) ?_
      refine gL_X5_typed C w q29_1 dX5_append_36 ?_
      refine lv_iload_n hx hb dX5_append_39 rfl (lv_at hl 1 rfl) ?_
      obtain ⟨ki3, h⟩ := chk_of h
      refine x_astI_L C w (v8 (by decide)) c8_9 ki3 rfl dX5_append_40 (fun M4 H locs e5 w => ?_)
      replace h := bnd_of h e5
      refine lv_aload_n hx hb dX5_append_41 rfl (lv_at hl 0 rfl) ?_
      refine lv_dup hx hb dX5_append_42 rfl ?_
      refine gL_X5_typed C w q29_1 dX5_append_43 ?_
      refine lv_iconst (v := (1 : Int32)) hx hb dX5_append_46 (by decide) ?_
      refine lv_iadd hx hb dX5_append_47 ?_
      refine pL_X5_typed C w q29_1 dX5_append_48 (fun M6 H locs e7 w => ?_)
      replace h := bnd_of h e7
      refine lv_aload_n hx hb dX5_append_51 rfl (lv_at hl 0 rfl) ?_
      refine lv_aload_n hx hb dX5_append_52 rfl (lv_at hl 0 rfl) ?_
      refine gL_X5_typed C w q29_1 dX5_append_53 ?_
      obtain ⟨vv11, M9, J10, hv8, h⟩ := bd3_of h
      refine x_cVi (As := [.int (M6 0 10)]) (rest := []) C w (v8 (by decide)) cel_8 rfl (mtX5_tells  hv8) q7_21 q7_22 q7_23 q1_5 q8_0 ydX5_tells ⟨rfl, rfl⟩ ⟨by decide, by decide⟩ ⟨Nat.zero_le _, Nat.zero_le _⟩ hl.1 (Nat.le_of_ble_eq_true rfl) rfl dX5_append_56 (fun H locs w => ?_)
      obtain ⟨e1, e2, e3⟩ := rt3 h
      exact x_ri C w e1 (by rw [e2]) (by rw [e3]) dX5_append_59
    · replace h := ite_f h (fun z => z c2)
      refine lv_aload_n hx hb dX5_append_25 rfl (lv_at hl 0 rfl) ?_
      refine lv_iconst (v := (2 : Int32)) hx hb dX5_append_26 (by decide) ?_
      obtain ⟨vv15, M13, J14, hv12, h⟩ := bd3_of h
      refine x_cVi (As := [.int (2 : Int32)]) (rest := []) C w (v8 (by decide)) cel_8 rfl (mtX5_fails  hv12) q7_3 q7_4 q7_5 q1_5 q7_6 ydX5_fails ⟨rfl, rfl⟩ ⟨by decide, by decide⟩ ⟨Nat.zero_le _, Nat.zero_le _⟩ hl.1 (Nat.le_of_ble_eq_true rfl) rfl dX5_append_27 (fun H locs w => ?_)
      obtain ⟨e1, e2, e3⟩ := rt3 h
      exact x_ri C w e1 (by rw [e2]) (by rw [e3]) dX5_append_30
  · replace h := ite_f h (fun z => z c1)
    refine lv_aload_n hx hb dX5_append_10 rfl (lv_at hl 0 rfl) ?_
    refine lv_iconst (v := (1 : Int32)) hx hb dX5_append_11 (by decide) ?_
    obtain ⟨vv19, M17, J18, hv16, h⟩ := bd3_of h
    refine x_cVi (As := [.int (1 : Int32)]) (rest := []) C w (v8 (by decide)) cel_8 rfl (mtX5_fails  hv16) q7_3 q7_4 q7_5 q1_5 q7_6 ydX5_fails ⟨rfl, rfl⟩ ⟨by decide, by decide⟩ ⟨Nat.zero_le _, Nat.zero_le _⟩ hl.1 (Nat.le_of_ble_eq_true rfl) rfl dX5_append_12 (fun H locs w => ?_)
    obtain ⟨e1, e2, e3⟩ := rt3 h
    exact x_ri C w e1 (by rw [e2]) (by rw [e3]) dX5_append_15
theorem mtX5_append {rr : Int32} {MR : M2} {JR : J2}   {x1 : Int32}  (h : fX5_append  x1 M J = some (rr, MR, JR)) : MtI l yX5_append wdX5_append rmX5_append E [.ref (ad E 8 0), .int x1] (sg G 8 M) (sg K 8 J) rr (sg G 8 MR) (sg K 8 JR) := by
  intro sz
  refine Met.ofW (cc := cX5_append) (maxL := 2) (ret := (some .int)) (by decide) rfl ?_
  intro p e s m args below meth c s₁ B hml hv
  obtain ⟨rfl, C, w⟩ := Cx.of (own := RX5) B rfl hml hv
  have hl := lv_entry ([.ref (ad E 8 0), .int x1]) (n := 2) (by first | exact Nat.le_of_ble_eq_true rfl)
  rw [lg_entry_eq]
  generalize (lg_sl ([.ref (ad E 8 0), .int x1]) ++ List.replicate (2 - (lg_sl ([.ref (ad E 8 0), .int x1])).length) Slot.unset).toArray = ls at hl ⊢
  exact TX5_append C   h w hl
theorem ydX5_append : yX5_append.cls = RX5 ∧ yX5_append.cls ≠ "java/lang/invoke/MethodHandle" ∧ yX5_append.cls ≠ "java/lang/invoke/VarHandle" ∧ (parseMethodDescriptor yX5_append.desc).map (fun d => d.parameters.length) = some 1 := by decide +kernel
/-! X5.clearText()I -/
abbrev rmX5_clearText : Room := { frames := 2, cells := 0, slots := 0, locals := 33 }
abbrev wdX5_clearText : Cond := Cond.code yX5_clearText cX5_clearText 2 (some .int)
noncomputable def fX5_clearText   (M : M2) (J : J2) : Option (Int32 × M2 × J2) := bnd (up2 M 0 10 (0 : Int32)) (fun M1 => bd3 (fX5_tells (M 0 10) M1 J) (fun vv6 M4 J5 => some (vv6, M4, J5)))
set_option maxRecDepth 20000 in
set_option maxHeartbeats 1000000 in
theorem TX5_clearText {rr : Int32} {MR : M2} {JR : J2}  (C : Cx E A p s m args meth c wdX5_clearText cX5_clearText 2 (some .int) RX5)    (h : fX5_clearText  M J = some (rr, MR, JR)) (w : Wd E A s (sg G 8 M) (sg K 8 J) H locs) (hl : lv_has ls 2 [(0, .ref (ad E 8 0))]) : W p l e rmX5_clearText s m args below meth c H locs 0 0 (QI E A below args s rr (sg G 8 MR) (sg K 8 JR)) (F0 m 0 ls []) := by
  obtain ⟨hx, hb, hr, hml, hown, hts, hlocks, hKK, hA1, hA2⟩ := id C
  unfold fX5_clearText at h
  refine lv_aload_n hx hb dX5_clearText_0 rfl (lv_at hl 0 rfl) ?_
  refine gL_X5_typed C w q29_1 dX5_clearText_1 ?_
  refine lv_istore_n (lv' := [(1, .int (M 0 10)), (0, .ref (ad E 8 0))]) hx hb dX5_clearText_4 rfl hl (by decide) rfl (fun ls hl => ?_)
  refine lv_aload_n hx hb dX5_clearText_5 rfl (lv_at hl 1 rfl) ?_
  refine lv_iconst (v := (0 : Int32)) hx hb dX5_clearText_6 (by decide) ?_
  refine pL_X5_typed C w q29_1 dX5_clearText_7 (fun M1 H locs e2 w => ?_)
  replace h := bnd_of h e2
  refine lv_aload_n hx hb dX5_clearText_10 rfl (lv_at hl 1 rfl) ?_
  refine lv_iload_n hx hb dX5_clearText_11 rfl (lv_at hl 0 rfl) ?_
  obtain ⟨vv6, M4, J5, hv3, h⟩ := bd3_of h
  refine x_cVi (As := [.int (M 0 10)]) (rest := []) C w (v8 (by decide)) cel_8 rfl (mtX5_tells  hv3) q7_21 q7_22 q7_23 q1_5 q8_0 ydX5_tells ⟨rfl, rfl⟩ ⟨by decide, by decide⟩ ⟨Nat.zero_le _, Nat.zero_le _⟩ hl.1 (Nat.le_of_ble_eq_true rfl) rfl dX5_clearText_12 (fun H locs w => ?_)
  obtain ⟨e1, e2, e3⟩ := rt3 h
  exact x_ri C w e1 (by rw [e2]) (by rw [e3]) dX5_clearText_15
theorem mtX5_clearText {rr : Int32} {MR : M2} {JR : J2}     (h : fX5_clearText  M J = some (rr, MR, JR)) : MtI l yX5_clearText wdX5_clearText rmX5_clearText E [.ref (ad E 8 0)] (sg G 8 M) (sg K 8 J) rr (sg G 8 MR) (sg K 8 JR) := by
  intro sz
  refine Met.ofW (cc := cX5_clearText) (maxL := 2) (ret := (some .int)) (by decide) rfl ?_
  intro p e s m args below meth c s₁ B hml hv
  obtain ⟨rfl, C, w⟩ := Cx.of (own := RX5) B rfl hml hv
  have hl := lv_entry ([.ref (ad E 8 0)]) (n := 2) (by first | exact Nat.le_of_ble_eq_true rfl)
  rw [lg_entry_eq]
  generalize (lg_sl ([.ref (ad E 8 0)]) ++ List.replicate (2 - (lg_sl ([.ref (ad E 8 0)])).length) Slot.unset).toArray = ls at hl ⊢
  exact TX5_clearText C   h w hl
theorem ydX5_clearText : yX5_clearText.cls = RX5 ∧ yX5_clearText.cls ≠ "java/lang/invoke/MethodHandle" ∧ yX5_clearText.cls ≠ "java/lang/invoke/VarHandle" ∧ (parseMethodDescriptor yX5_clearText.desc).map (fun d => d.parameters.length) = some 0 := by decide +kernel
/-! X5.byteAt()I -/
abbrev rmX5_byteAt : Room := { frames := 1, cells := 0, slots := 0, locals := 12 }
abbrev wdX5_byteAt : Cond := Cond.code yX5_byteAt cX5_byteAt 1 (some .int)
noncomputable def fX5_byteAt (M : M2) (J : J2)   : Option Int32 := (if (M 0 10) ≤ (M 0 14) then (some (-1 : Int32)) else (chk (inb (M 0 14) 100) (some (M 9 (M 0 14).toNatClampNeg))))
set_option maxRecDepth 20000 in
set_option maxHeartbeats 1000000 in
theorem TX5_byteAt {rr : Int32}  (C : Cx E A p s m args meth c wdX5_byteAt cX5_byteAt 1 (some .int) RX5)    (h : fX5_byteAt M J  = some rr) (w : Wd E A s (sg G 8 M) (sg K 8 J) H locs) (hl : lv_has ls 1 [(0, .ref (ad E 8 0))]) : W p l e rmX5_byteAt s m args below meth c H locs 0 0 (QI E A below args s rr (sg G 8 M) (sg K 8 J)) (F0 m 0 ls []) := by
  obtain ⟨hx, hb, hr, hml, hown, hts, hlocks, hKK, hA1, hA2⟩ := id C
  unfold fX5_byteAt at h
  refine lv_aload_n hx hb dX5_byteAt_0 rfl (lv_at hl 0 rfl) ?_
  refine gL_X5_at C w q32_1 dX5_byteAt_1 ?_
  refine lv_aload_n hx hb dX5_byteAt_4 rfl (lv_at hl 0 rfl) ?_
  refine gL_X5_typed C w q29_1 dX5_byteAt_5 ?_
  refine lv_icmp_ge (tgt := 23) hx hb dX5_byteAt_8 (by decide) (fun c1 => ?_) (fun c1 => ?_)
  · replace h := ite_t h c1
    refine lv_iconst (v := (-1 : Int32)) hx hb dX5_byteAt_23 (by decide) ?_
    have e1 := Option.some.inj h
    exact x_ri C w e1 rfl rfl dX5_byteAt_24
  · replace h := ite_f h c1
    refine lv_aload_n hx hb dX5_byteAt_11 rfl (lv_at hl 0 rfl) ?_
    refine gR_X5_text C w q4_0 dX5_byteAt_12 ?_
    refine lv_aload_n hx hb dX5_byteAt_15 rfl (lv_at hl 0 rfl) ?_
    refine gL_X5_at C w q32_1 dX5_byteAt_16 ?_
    obtain ⟨ki2, h⟩ := chk_of h
    refine x_aldI_L C w (v8 (by decide)) c8_9 ki2 rfl dX5_byteAt_19 ?_
    refine lv_goto (tgt := 24) hx hb dX5_byteAt_20 (by decide) ?_
    have e1 := Option.some.inj h
    exact x_ri C w e1 rfl rfl dX5_byteAt_24
theorem mtX5_byteAt {rr : Int32}     (h : fX5_byteAt M J  = some rr) : MtI l yX5_byteAt wdX5_byteAt rmX5_byteAt E [.ref (ad E 8 0)] (sg G 8 M) (sg K 8 J) rr (sg G 8 M) (sg K 8 J) := by
  intro sz
  refine Met.ofW (cc := cX5_byteAt) (maxL := 1) (ret := (some .int)) (by decide) rfl ?_
  intro p e s m args below meth c s₁ B hml hv
  obtain ⟨rfl, C, w⟩ := Cx.of (own := RX5) B rfl hml hv
  have hl := lv_entry ([.ref (ad E 8 0)]) (n := 1) (by first | exact Nat.le_of_ble_eq_true rfl)
  rw [lg_entry_eq]
  generalize (lg_sl ([.ref (ad E 8 0)]) ++ List.replicate (1 - (lg_sl ([.ref (ad E 8 0)])).length) Slot.unset).toArray = ls at hl ⊢
  exact TX5_byteAt C   h w hl
theorem ydX5_byteAt : yX5_byteAt.cls = RX5 ∧ yX5_byteAt.cls ≠ "java/lang/invoke/MethodHandle" ∧ yX5_byteAt.cls ≠ "java/lang/invoke/VarHandle" ∧ (parseMethodDescriptor yX5_byteAt.desc).map (fun d => d.parameters.length) = some 0 := by decide +kernel
/-! X5.reads(III)I -/
abbrev rmX5_reads : Room := { frames := 2, cells := 0, slots := 0, locals := 34 }
abbrev wdX5_reads : Cond := Cond.code yX5_reads cX5_reads 5 (some .int)
noncomputable def fbX5_reads_68 (F : Nat)   (a2 : Int32) (a3 : Int32) (a4 : Int32) (M : M2) (J : J2) : Option (Int32 × M2 × J2) := (if (M 0 14) = a4 then (some ((M 0 14), M, J)) else ((fX5_byteAt M J).bind (fun vv3 => (if (fX5_in vv3 (48 : Int32) (57 : Int32)) = 0 then ((if (fX5_in (M 0 15) a2 a3) = 0 then (some (a4, M, J)) else (some ((-1 : Int32), M, J)))) else (some ((M 0 14), M, J))))))
set_option maxRecDepth 20000 in
set_option maxHeartbeats 1000000 in
theorem TX5_reads_68 {rr : Int32} {MR : M2} {JR : J2}   (C : Cx E A p s m args meth c wdX5_reads cX5_reads 5 (some .int) RX5)   (a2 : Int32) (a3 : Int32) (a4 : Int32) (M : M2) (J : J2)  (h : fbX5_reads_68 F  a2 a3 a4 M J = some (rr, MR, JR)) (w : Wd E A s (sg G 8 M) (sg K 8 J) H locs) (hl : lv_has ls 5 [(0, .ref (ad E 8 0)), (2, .int a2), (3, .int a3), (4, .int a4)]) : W p l e rmX5_reads s m args below meth c H locs 0 0 (QI E A below args s rr (sg G 8 MR) (sg K 8 JR)) (F0 m 68 ls []) := by
  obtain ⟨hx, hb, hr, hml, hown, hts, hlocks, hKK, hA1, hA2⟩ := id C
  unfold fbX5_reads_68 at h
  refine lv_aload_n hx hb dX5_reads_68 rfl (lv_at hl 0 rfl) ?_
  refine gL_X5_at C w q32_1 dX5_reads_69 ?_
  refine lv_iload hx hb dX5_reads_72 (lv_at hl 3 rfl) ?_
  refine lv_icmp_eq (tgt := 91) hx hb dX5_reads_74 (by decide) (fun c1 => ?_) (fun c1 => ?_)
  · replace h := ite_t h c1
    refine lv_aload_n hx hb dX5_reads_91 rfl (lv_at hl 0 rfl) ?_
    refine gL_X5_at C w q32_1 dX5_reads_92 ?_
    obtain ⟨e1, e2, e3⟩ := rt3 h
    exact x_ri C w e1 (by rw [e2]) (by rw [e3]) dX5_reads_95
  · replace h := ite_f h c1
    refine lv_aload_n hx hb dX5_reads_77 rfl (lv_at hl 0 rfl) ?_
    obtain ⟨vv3, hv2, h⟩ := bind_of h
    refine x_cVi (As := []) (rest := []) C w (v8 (by decide)) cel_8 rfl (mtX5_byteAt  hv2) q32_7 q32_8 q32_9 q1_5 q32_10 ydX5_byteAt ⟨rfl, rfl⟩ ⟨by decide, by decide⟩ ⟨Nat.zero_le _, Nat.zero_le _⟩ hl.1 (Nat.le_of_ble_eq_true rfl) rfl dX5_reads_78 (fun H locs w => ?_)
    refine lv_bipush (v := (48 : Int32)) hx hb dX5_reads_81 (by decide) ?_
    refine lv_bipush (v := (57 : Int32)) hx hb dX5_reads_83 (by decide) ?_
    refine x_cSi (As := [.int vv3, .int (48 : Int32), .int (57 : Int32)]) (rest := []) C w (mtX5_in ) q7_0 q7_1 q1_5 q7_2 ydX5_in ⟨rfl, rfl⟩ ⟨by decide, by decide⟩ ⟨Nat.zero_le _, Nat.zero_le _⟩ hl.1 (Nat.le_of_ble_eq_true rfl) rfl dX5_reads_85 (fun H locs w => ?_)
    refine lv_if_eq (tgt := 96) hx hb dX5_reads_88 (by decide) (fun c4 => ?_) (fun c4 => ?_)
    · replace h := ite_t h c4
      refine lv_aload_n hx hb dX5_reads_96 rfl (lv_at hl 0 rfl) ?_
      refine gL_X5_got C w q32_6 dX5_reads_97 ?_
      refine lv_iload_n hx hb dX5_reads_100 rfl (lv_at hl 1 rfl) ?_
      refine lv_iload_n hx hb dX5_reads_101 rfl (lv_at hl 2 rfl) ?_
      refine x_cSi (As := [.int (M 0 15), .int a2, .int a3]) (rest := []) C w (mtX5_in ) q7_0 q7_1 q1_5 q7_2 ydX5_in ⟨rfl, rfl⟩ ⟨by decide, by decide⟩ ⟨Nat.zero_le _, Nat.zero_le _⟩ hl.1 (Nat.le_of_ble_eq_true rfl) rfl dX5_reads_102 (fun H locs w => ?_)
      refine lv_if_eq (tgt := 112) hx hb dX5_reads_105 (by decide) (fun c5 => ?_) (fun c5 => ?_)
      · replace h := ite_t h c5
        refine lv_iload hx hb dX5_reads_112 (lv_at hl 3 rfl) ?_
        obtain ⟨e1, e2, e3⟩ := rt3 h
        exact x_ri C w e1 (by rw [e2]) (by rw [e3]) dX5_reads_114
      · replace h := ite_f h c5
        refine lv_iconst (v := (-1 : Int32)) hx hb dX5_reads_108 (by decide) ?_
        refine lv_goto (tgt := 114) hx hb dX5_reads_109 (by decide) ?_
        obtain ⟨e1, e2, e3⟩ := rt3 h
        exact x_ri C w e1 (by rw [e2]) (by rw [e3]) dX5_reads_114
    · replace h := ite_f h c4
      refine lv_aload_n hx hb dX5_reads_91 rfl (lv_at hl 0 rfl) ?_
      refine gL_X5_at C w q32_1 dX5_reads_92 ?_
      obtain ⟨e1, e2, e3⟩ := rt3 h
      exact x_ri C w e1 (by rw [e2]) (by rw [e3]) dX5_reads_95
noncomputable def fsX5_reads_11 (F : Nat)   (k11 : Int32 → Int32 → Int32 → Int32 → M2 → J2 → Option (Int32 × M2 × J2)) : Int32 → Int32 → Int32 → Int32 → M2 → J2 → Option (Int32 × M2 × J2) := fun a1 a2 a3 a4 M J => (if (a4 + a1) ≤ (M 0 14) then (fbX5_reads_68 F a2 a3 a4 M J) else ((fX5_byteAt M J).bind (fun vv3 => (if (fX5_in vv3 (48 : Int32) (57 : Int32)) = 0 then (fbX5_reads_68 F a2 a3 a4 M J) else ((fX5_byteAt M J).bind (fun vv6 => bnd (up2 M 0 15 ((((10 : Int32) * (M 0 15)) + vv6) - (48 : Int32))) (fun M7 => bnd (up2 M7 0 14 ((M7 0 14) + (1 : Int32))) (fun M9 => k11 a1 a2 a3 a4 M9 J))))))))
noncomputable def fbX5_reads_11 (F : Nat)   (n : Nat) : Int32 → Int32 → Int32 → Int32 → M2 → J2 → Option (Int32 × M2 × J2) := itr (fsX5_reads_11 F ) (fun _ _ _ _ _ _ => none) n
set_option maxRecDepth 20000 in
set_option maxHeartbeats 1000000 in
theorem SX5_reads_11 {rr : Int32} {MR : M2} {JR : J2}   {k11 : Int32 → Int32 → Int32 → Int32 → M2 → J2 → Option (Int32 × M2 × J2)} (C : Cx E A p s m args meth c wdX5_reads cX5_reads 5 (some .int) RX5)   (hk11 : ∀ (a1 : Int32) (a2 : Int32) (a3 : Int32) (a4 : Int32) (M : M2) (J : J2)  (ls : Array Slot) (H : Heap) (locs : List Loc), k11 a1 a2 a3 a4 M J = some (rr, MR, JR) → Wd E A s (sg G 8 M) (sg K 8 J) H locs → lv_has ls 5 [(0, .ref (ad E 8 0)), (1, .int a1), (2, .int a2), (3, .int a3), (4, .int a4)] → W p l e rmX5_reads s m args below meth c H locs 0 0 (QI E A below args s rr (sg G 8 MR) (sg K 8 JR)) (F0 m 11 ls [])) (a1 : Int32) (a2 : Int32) (a3 : Int32) (a4 : Int32) (M : M2) (J : J2)  (h : fsX5_reads_11 F  k11 a1 a2 a3 a4 M J = some (rr, MR, JR)) (w : Wd E A s (sg G 8 M) (sg K 8 J) H locs) (hl : lv_has ls 5 [(0, .ref (ad E 8 0)), (1, .int a1), (2, .int a2), (3, .int a3), (4, .int a4)]) : W p l e rmX5_reads s m args below meth c H locs 0 0 (QI E A below args s rr (sg G 8 MR) (sg K 8 JR)) (F0 m 11 ls []) := by
  obtain ⟨hx, hb, hr, hml, hown, hts, hlocks, hKK, hA1, hA2⟩ := id C
  unfold fsX5_reads_11 at h
  refine lv_aload_n hx hb dX5_reads_11 rfl (lv_at hl 0 rfl) ?_
  refine gL_X5_at C w q32_1 dX5_reads_12 ?_
  refine lv_iload hx hb dX5_reads_15 (lv_at hl 4 rfl) ?_
  refine lv_iload_n hx hb dX5_reads_17 rfl (lv_at hl 1 rfl) ?_
  refine lv_iadd hx hb dX5_reads_18 ?_
  refine lv_icmp_ge (tgt := 68) hx hb dX5_reads_19 (by decide) (fun c1 => ?_) (fun c1 => ?_)
  · replace h := ite_t h c1
    exact TX5_reads_68 C   _ _ _ _ _ h w (lv_sub hl [0, 2, 3, 4] rfl)
  · replace h := ite_f h c1
    refine lv_aload_n hx hb dX5_reads_22 rfl (lv_at hl 0 rfl) ?_
    obtain ⟨vv3, hv2, h⟩ := bind_of h
    refine x_cVi (As := []) (rest := []) C w (v8 (by decide)) cel_8 rfl (mtX5_byteAt  hv2) q32_7 q32_8 q32_9 q1_5 q32_10 ydX5_byteAt ⟨rfl, rfl⟩ ⟨by decide, by decide⟩ ⟨Nat.zero_le _, Nat.zero_le _⟩ hl.1 (Nat.le_of_ble_eq_true rfl) rfl dX5_reads_23 (fun H locs w => ?_)
    refine lv_bipush (v := (48 : Int32)) hx hb dX5_reads_26 (by decide) ?_
    refine lv_bipush (v := (57 : Int32)) hx hb dX5_reads_28 (by decide) ?_
    refine x_cSi (As := [.int vv3, .int (48 : Int32), .int (57 : Int32)]) (rest := []) C w (mtX5_in ) q7_0 q7_1 q1_5 q7_2 ydX5_in ⟨rfl, rfl⟩ ⟨by decide, by decide⟩ ⟨Nat.zero_le _, Nat.zero_le _⟩ hl.1 (Nat.le_of_ble_eq_true rfl) rfl dX5_reads_30 (fun H locs w => ?_)
    refine lv_if_eq (tgt := 68) hx hb dX5_reads_33 (by decide) (fun c4 => ?_) (fun c4 => ?_)
    · replace h := ite_t h c4
      exact TX5_reads_68 C   _ _ _ _ _ h w (lv_sub hl [0, 2, 3, 4] rfl)
    · replace h := ite_f h c4
      refine lv_aload_n hx hb dX5_reads_36 rfl (lv_at hl 0 rfl) ?_
      refine lv_bipush (v := (10 : Int32)) hx hb dX5_reads_37 (by decide) ?_
      refine lv_aload_n hx hb dX5_reads_39 rfl (lv_at hl 0 rfl) ?_
      refine gL_X5_got C w q32_6 dX5_reads_40 ?_
      refine lv_imul hx hb dX5_reads_43 ?_
      refine lv_aload_n hx hb dX5_reads_44 rfl (lv_at hl 0 rfl) ?_
      obtain ⟨vv6, hv5, h⟩ := bind_of h
      refine x_cVi (As := []) (rest := [.int ((10 : Int32) * (M 0 15)), .ref (ad E 8 0)]) C w (v8 (by decide)) cel_8 rfl (mtX5_byteAt  hv5) q32_7 q32_8 q32_9 q1_5 q32_10 ydX5_byteAt ⟨rfl, rfl⟩ ⟨by decide, by decide⟩ ⟨Nat.zero_le _, Nat.zero_le _⟩ hl.1 (Nat.le_of_ble_eq_true rfl) rfl dX5_reads_45 (fun H locs w => ?_)
      refine lv_iadd hx hb dX5_reads_48 ?_
      refine lv_bipush (v := (48 : Int32)) hx hb dX5_reads_49 (by decide) ?_
      refine lv_isub hx hb dX5_reads_51 ?_
      refine pL_X5_got C w q32_6 dX5_reads_52 (fun M7 H locs e8 w => ?_)
      replace h := bnd_of h e8
      refine lv_aload_n hx hb dX5_reads_55 rfl (lv_at hl 0 rfl) ?_
      refine lv_dup hx hb dX5_reads_56 rfl ?_
      refine gL_X5_at C w q32_1 dX5_reads_57 ?_
      refine lv_iconst (v := (1 : Int32)) hx hb dX5_reads_60 (by decide) ?_
      refine lv_iadd hx hb dX5_reads_61 ?_
      refine pL_X5_at C w q32_1 dX5_reads_62 (fun M9 H locs e10 w => ?_)
      replace h := bnd_of h e10
      refine lv_goto (tgt := 11) hx hb dX5_reads_65 (by decide) ?_
      exact hk11 _ _ _ _ _ _ _ _ _ h w (lv_sub hl [0, 1, 2, 3, 4] rfl)
theorem TX5_reads_11 {rr : Int32} {MR : M2} {JR : J2}   (C : Cx E A p s m args meth c wdX5_reads cX5_reads 5 (some .int) RX5)   : ∀ (n : Nat) (a1 : Int32) (a2 : Int32) (a3 : Int32) (a4 : Int32) (M : M2) (J : J2)  (ls : Array Slot) (H : Heap) (locs : List Loc), fbX5_reads_11 F  n a1 a2 a3 a4 M J = some (rr, MR, JR) → Wd E A s (sg G 8 M) (sg K 8 J) H locs → lv_has ls 5 [(0, .ref (ad E 8 0)), (1, .int a1), (2, .int a2), (3, .int a3), (4, .int a4)] → W p l e rmX5_reads s m args below meth c H locs 0 0 (QI E A below args s rr (sg G 8 MR) (sg K 8 JR)) (F0 m 11 ls []) := by
  intro n
  induction n with
  | zero => intro a1 a2 a3 a4 M J  ls H locs h; exact absurd (show none = _ from h) (fun z => nomatch z)
  | succ n ih => intro a1 a2 a3 a4 M J  ls H locs h w hl; exact SX5_reads_11 (F := F) C   ih a1 a2 a3 a4 M J  h w hl
noncomputable def fX5_reads (F : Nat)  (x1 : Int32) (x2 : Int32) (x3 : Int32) (M : M2) (J : J2) : Option (Int32 × M2 × J2) := bnd (up2 M 0 15 (0 : Int32)) (fun M1 => fbX5_reads_11 F F x1 x2 x3 (M 0 14) M1 J)
set_option maxRecDepth 20000 in
set_option maxHeartbeats 1000000 in
theorem TX5_reads {rr : Int32} {MR : M2} {JR : J2}  (C : Cx E A p s m args meth c wdX5_reads cX5_reads 5 (some .int) RX5)  {x1 : Int32} {x2 : Int32} {x3 : Int32}  (h : fX5_reads F  x1 x2 x3 M J = some (rr, MR, JR)) (w : Wd E A s (sg G 8 M) (sg K 8 J) H locs) (hl : lv_has ls 5 [(0, .ref (ad E 8 0)), (1, .int x1), (2, .int x2), (3, .int x3)]) : W p l e rmX5_reads s m args below meth c H locs 0 0 (QI E A below args s rr (sg G 8 MR) (sg K 8 JR)) (F0 m 0 ls []) := by
  obtain ⟨hx, hb, hr, hml, hown, hts, hlocks, hKK, hA1, hA2⟩ := id C
  unfold fX5_reads at h
  refine lv_aload_n hx hb dX5_reads_0 rfl (lv_at hl 0 rfl) ?_
  refine gL_X5_at C w q32_1 dX5_reads_1 ?_
  refine lv_istore (lv' := [(4, .int (M 0 14)), (0, .ref (ad E 8 0)), (1, .int x1), (2, .int x2), (3, .int x3)]) hx hb dX5_reads_4 hl (by decide) rfl (fun ls hl => ?_)
  refine lv_aload_n hx hb dX5_reads_6 rfl (lv_at hl 1 rfl) ?_
  refine lv_iconst (v := (0 : Int32)) hx hb dX5_reads_7 (by decide) ?_
  refine pL_X5_got C w q32_6 dX5_reads_8 (fun M1 H locs e2 w => ?_)
  replace h := bnd_of h e2
  exact TX5_reads_11 C   _ _ _ _ _ _ _ _ _ _ h w (lv_sub hl [1, 2, 3, 4, 0] rfl)
theorem mtX5_reads {rr : Int32} {MR : M2} {JR : J2}   {x1 : Int32} {x2 : Int32} {x3 : Int32}  (h : fX5_reads F  x1 x2 x3 M J = some (rr, MR, JR)) : MtI l yX5_reads wdX5_reads rmX5_reads E [.ref (ad E 8 0), .int x1, .int x2, .int x3] (sg G 8 M) (sg K 8 J) rr (sg G 8 MR) (sg K 8 JR) := by
  intro sz
  refine Met.ofW (cc := cX5_reads) (maxL := 5) (ret := (some .int)) (by decide) rfl ?_
  intro p e s m args below meth c s₁ B hml hv
  obtain ⟨rfl, C, w⟩ := Cx.of (own := RX5) B rfl hml hv
  have hl := lv_entry ([.ref (ad E 8 0), .int x1, .int x2, .int x3]) (n := 5) (by first | exact Nat.le_of_ble_eq_true rfl)
  rw [lg_entry_eq]
  generalize (lg_sl ([.ref (ad E 8 0), .int x1, .int x2, .int x3]) ++ List.replicate (5 - (lg_sl ([.ref (ad E 8 0), .int x1, .int x2, .int x3])).length) Slot.unset).toArray = ls at hl ⊢
  exact TX5_reads C   h w hl
theorem ydX5_reads : yX5_reads.cls = RX5 ∧ yX5_reads.cls ≠ "java/lang/invoke/MethodHandle" ∧ yX5_reads.cls ≠ "java/lang/invoke/VarHandle" ∧ (parseMethodDescriptor yX5_reads.desc).map (fun d => d.parameters.length) = some 3 := by decide +kernel
/-! X5.order()I -/
abbrev rmX5_order : Room := { frames := 3, cells := 0, slots := 0, locals := 58 }
abbrev wdX5_order : Cond := Cond.code yX5_order cX5_order 3 (some .int)
noncomputable def fbX5_order_163 (F : Nat)   (a2 : Int32) (M : M2) (J : J2) : Option (Int32 × M2 × J2) := (if ¬ a2 = (-1 : Int32) then (some (a2, M, J)) else (some ((M 0 14), M, J)))
set_option maxRecDepth 20000 in
set_option maxHeartbeats 1000000 in
theorem TX5_order_163 {rr : Int32} {MR : M2} {JR : J2}   (C : Cx E A p s m args meth c wdX5_order cX5_order 3 (some .int) RX5)   (a2 : Int32) (M : M2) (J : J2)  (h : fbX5_order_163 F  a2 M J = some (rr, MR, JR)) (w : Wd E A s (sg G 8 M) (sg K 8 J) H locs) (hl : lv_has ls 3 [(0, .ref (ad E 8 0)), (2, .int a2)]) : W p l e rmX5_order s m args below meth c H locs 0 0 (QI E A below args s rr (sg G 8 MR) (sg K 8 JR)) (F0 m 163 ls []) := by
  obtain ⟨hx, hb, hr, hml, hown, hts, hlocks, hKK, hA1, hA2⟩ := id C
  unfold fbX5_order_163 at h
  refine lv_iload_n hx hb dX5_order_163 rfl (lv_at hl 1 rfl) ?_
  refine lv_iconst (v := (-1 : Int32)) hx hb dX5_order_164 (by decide) ?_
  refine lv_icmp_ne (tgt := 175) hx hb dX5_order_165 (by decide) (fun c1 => ?_) (fun c1 => ?_)
  · replace h := ite_t h c1
    refine lv_iload_n hx hb dX5_order_175 rfl (lv_at hl 1 rfl) ?_
    obtain ⟨e1, e2, e3⟩ := rt3 h
    exact x_ri C w e1 (by rw [e2]) (by rw [e3]) dX5_order_176
  · replace h := ite_f h (fun z => z c1)
    refine lv_aload_n hx hb dX5_order_168 rfl (lv_at hl 0 rfl) ?_
    refine gL_X5_at C w q32_1 dX5_order_169 ?_
    refine lv_goto (tgt := 176) hx hb dX5_order_172 (by decide) ?_
    obtain ⟨e1, e2, e3⟩ := rt3 h
    exact x_ri C w e1 (by rw [e2]) (by rw [e3]) dX5_order_176
noncomputable def fbX5_order_149 (F : Nat)   (a2 : Int32) (M : M2) (J : J2) : Option (Int32 × M2 × J2) := (if ¬ a2 = (-1 : Int32) then (fbX5_order_163 F a2 M J) else ((fX5_byteAt M J).bind (fun vv3 => (if vv3 = (59 : Int32) then (bnd (up2 M 0 14 ((M 0 14) + (1 : Int32))) (fun M5 => some ((-1 : Int32), M5, J))) else (fbX5_order_163 F a2 M J)))))
set_option maxRecDepth 20000 in
set_option maxHeartbeats 1000000 in
theorem TX5_order_149 {rr : Int32} {MR : M2} {JR : J2}   (C : Cx E A p s m args meth c wdX5_order cX5_order 3 (some .int) RX5)   (a2 : Int32) (M : M2) (J : J2)  (h : fbX5_order_149 F  a2 M J = some (rr, MR, JR)) (w : Wd E A s (sg G 8 M) (sg K 8 J) H locs) (hl : lv_has ls 3 [(0, .ref (ad E 8 0)), (2, .int a2)]) : W p l e rmX5_order s m args below meth c H locs 0 0 (QI E A below args s rr (sg G 8 MR) (sg K 8 JR)) (F0 m 149 ls []) := by
  obtain ⟨hx, hb, hr, hml, hown, hts, hlocks, hKK, hA1, hA2⟩ := id C
  unfold fbX5_order_149 at h
  refine lv_iload_n hx hb dX5_order_149 rfl (lv_at hl 1 rfl) ?_
  refine lv_iconst (v := (-1 : Int32)) hx hb dX5_order_150 (by decide) ?_
  refine lv_icmp_ne (tgt := 163) hx hb dX5_order_151 (by decide) (fun c1 => ?_) (fun c1 => ?_)
  · replace h := ite_t h c1
    exact TX5_order_163 C   _ _ _ h w (lv_sub hl [0, 1] rfl)
  · replace h := ite_f h (fun z => z c1)
    refine lv_aload_n hx hb dX5_order_154 rfl (lv_at hl 0 rfl) ?_
    obtain ⟨vv3, hv2, h⟩ := bind_of h
    refine x_cVi (As := []) (rest := []) C w (v8 (by decide)) cel_8 rfl (mtX5_byteAt  hv2) q32_7 q32_8 q32_9 q1_5 q32_10 ydX5_byteAt ⟨rfl, rfl⟩ ⟨by decide, by decide⟩ ⟨Nat.zero_le _, Nat.zero_le _⟩ hl.1 (Nat.le_of_ble_eq_true rfl) rfl dX5_order_155 (fun H locs w => ?_)
    refine lv_bipush (v := (59 : Int32)) hx hb dX5_order_158 (by decide) ?_
    refine lv_icmp_eq (tgt := 177) hx hb dX5_order_160 (by decide) (fun c4 => ?_) (fun c4 => ?_)
    · replace h := ite_t h c4
      refine lv_aload_n hx hb dX5_order_177 rfl (lv_at hl 0 rfl) ?_
      refine lv_dup hx hb dX5_order_178 rfl ?_
      refine gL_X5_at C w q32_1 dX5_order_179 ?_
      refine lv_iconst (v := (1 : Int32)) hx hb dX5_order_182 (by decide) ?_
      refine lv_iadd hx hb dX5_order_183 ?_
      refine pL_X5_at C w q32_1 dX5_order_184 (fun M5 H locs e6 w => ?_)
      replace h := bnd_of h e6
      refine lv_iconst (v := (-1 : Int32)) hx hb dX5_order_187 (by decide) ?_
      obtain ⟨e1, e2, e3⟩ := rt3 h
      exact x_ri C w e1 (by rw [e2]) (by rw [e3]) dX5_order_188
    · replace h := ite_f h c4
      exact TX5_order_163 C   _ _ _ h w (lv_sub hl [0, 1] rfl)
noncomputable def fbX5_order_145 (F : Nat)   (a2 : Int32) (s0 : Int32) (s1 : Int32) (M : M2) (J : J2) : Option (Int32 × M2 × J2) := bnd (up2 M 0 14 (s1 + s0)) (fun M1 => fbX5_order_149 F a2 M1 J)
set_option maxRecDepth 20000 in
set_option maxHeartbeats 1000000 in
theorem TX5_order_145 {rr : Int32} {MR : M2} {JR : J2}   (C : Cx E A p s m args meth c wdX5_order cX5_order 3 (some .int) RX5)   (a2 : Int32) (s0 : Int32) (s1 : Int32) (M : M2) (J : J2)  (h : fbX5_order_145 F  a2 s0 s1 M J = some (rr, MR, JR)) (w : Wd E A s (sg G 8 M) (sg K 8 J) H locs) (hl : lv_has ls 3 [(0, .ref (ad E 8 0)), (2, .int a2)]) : W p l e rmX5_order s m args below meth c H locs 0 0 (QI E A below args s rr (sg G 8 MR) (sg K 8 JR)) (F0 m 145 ls [.int s0, .int s1, .ref (ad E 8 0)]) := by
  obtain ⟨hx, hb, hr, hml, hown, hts, hlocks, hKK, hA1, hA2⟩ := id C
  unfold fbX5_order_145 at h
  refine lv_iadd hx hb dX5_order_145 ?_
  refine pL_X5_at C w q32_1 dX5_order_146 (fun M1 H locs e2 w => ?_)
  replace h := bnd_of h e2
  exact TX5_order_149 C   _ _ _ h w (lv_sub hl [0, 1] rfl)
noncomputable def fbX5_order_118 (F : Nat)   (s0 : Int32) (M : M2) (J : J2) : Option (Int32 × M2 × J2) := (fX5_byteAt M J).bind (fun vv2 => bnd (up2 M 0 15 (vv2 - (48 : Int32))) (fun M3 => (if ¬ s0 = (-1 : Int32) then (fbX5_order_145 F s0 (0 : Int32) (M3 0 14) M3 J) else (fbX5_order_145 F s0 (1 : Int32) (M3 0 14) M3 J))))
set_option maxRecDepth 20000 in
set_option maxHeartbeats 1000000 in
theorem TX5_order_118 {rr : Int32} {MR : M2} {JR : J2}   (C : Cx E A p s m args meth c wdX5_order cX5_order 3 (some .int) RX5)   (s0 : Int32) (M : M2) (J : J2)  (h : fbX5_order_118 F  s0 M J = some (rr, MR, JR)) (w : Wd E A s (sg G 8 M) (sg K 8 J) H locs) (hl : lv_has ls 3 [(0, .ref (ad E 8 0))]) : W p l e rmX5_order s m args below meth c H locs 0 0 (QI E A below args s rr (sg G 8 MR) (sg K 8 JR)) (F0 m 118 ls [.int s0]) := by
  obtain ⟨hx, hb, hr, hml, hown, hts, hlocks, hKK, hA1, hA2⟩ := id C
  unfold fbX5_order_118 at h
  refine lv_istore_n (lv' := [(2, .int s0), (0, .ref (ad E 8 0))]) hx hb dX5_order_118 rfl hl (by decide) rfl (fun ls hl => ?_)
  refine lv_aload_n hx hb dX5_order_119 rfl (lv_at hl 1 rfl) ?_
  refine lv_aload_n hx hb dX5_order_120 rfl (lv_at hl 1 rfl) ?_
  obtain ⟨vv2, hv1, h⟩ := bind_of h
  refine x_cVi (As := []) (rest := [.ref (ad E 8 0)]) C w (v8 (by decide)) cel_8 rfl (mtX5_byteAt  hv1) q32_7 q32_8 q32_9 q1_5 q32_10 ydX5_byteAt ⟨rfl, rfl⟩ ⟨by decide, by decide⟩ ⟨Nat.zero_le _, Nat.zero_le _⟩ hl.1 (Nat.le_of_ble_eq_true rfl) rfl dX5_order_121 (fun H locs w => ?_)
  refine lv_bipush (v := (48 : Int32)) hx hb dX5_order_124 (by decide) ?_
  refine lv_isub hx hb dX5_order_126 ?_
  refine pL_X5_got C w q32_6 dX5_order_127 (fun M3 H locs e4 w => ?_)
  replace h := bnd_of h e4
  refine lv_aload_n hx hb dX5_order_130 rfl (lv_at hl 1 rfl) ?_
  refine lv_dup hx hb dX5_order_131 rfl ?_
  refine gL_X5_at C w q32_1 dX5_order_132 ?_
  refine lv_iload_n hx hb dX5_order_135 rfl (lv_at hl 0 rfl) ?_
  refine lv_iconst (v := (-1 : Int32)) hx hb dX5_order_136 (by decide) ?_
  refine lv_icmp_ne (tgt := 144) hx hb dX5_order_137 (by decide) (fun c5 => ?_) (fun c5 => ?_)
  · replace h := ite_t h c5
    refine lv_iconst (v := (0 : Int32)) hx hb dX5_order_144 (by decide) ?_
    exact TX5_order_145 C   _ _ _ _ _ h w (lv_sub hl [1, 0] rfl)
  · replace h := ite_f h (fun z => z c5)
    refine lv_iconst (v := (1 : Int32)) hx hb dX5_order_140 (by decide) ?_
    refine lv_goto (tgt := 145) hx hb dX5_order_141 (by decide) ?_
    exact TX5_order_145 C   _ _ _ _ _ h w (lv_sub hl [1, 0] rfl)
noncomputable def fbX5_order_40 (F : Nat)   (a1 : Int32) (M : M2) (J : J2) : Option (Int32 × M2 × J2) := bnd (up2 M 0 14 ((M 0 14) + (1 : Int32))) (fun M1 => (if ¬ a1 = (100 : Int32) then ((if ¬ a1 = (109 : Int32) then ((if a1 = (114 : Int32) then (fbX5_order_149 F (-1 : Int32) M1 J) else ((fX5_byteAt M1 J).bind (fun vv7 => (if (fX5_in vv7 (48 : Int32) (52 : Int32)) = 0 then (fbX5_order_118 F (M1 0 14) M1 J) else (fbX5_order_118 F (-1 : Int32) M1 J)))))) else (bd3 (fX5_reads F (3 : Int32) (1 : Int32) (600 : Int32) M1 J) (fun vv12 M10 J11 => fbX5_order_149 F vv12 M10 J11)))) else (bd3 (fX5_reads F (4 : Int32) (0 : Int32) (3000 : Int32) M1 J) (fun vv16 M14 J15 => fbX5_order_149 F vv16 M14 J15))))
set_option maxRecDepth 20000 in
set_option maxHeartbeats 1000000 in
theorem TX5_order_40 {rr : Int32} {MR : M2} {JR : J2}   (C : Cx E A p s m args meth c wdX5_order cX5_order 3 (some .int) RX5)   (a1 : Int32) (M : M2) (J : J2)  (h : fbX5_order_40 F  a1 M J = some (rr, MR, JR)) (w : Wd E A s (sg G 8 M) (sg K 8 J) H locs) (hl : lv_has ls 3 [(0, .ref (ad E 8 0)), (1, .int a1)]) : W p l e rmX5_order s m args below meth c H locs 0 0 (QI E A below args s rr (sg G 8 MR) (sg K 8 JR)) (F0 m 40 ls []) := by
  obtain ⟨hx, hb, hr, hml, hown, hts, hlocks, hKK, hA1, hA2⟩ := id C
  unfold fbX5_order_40 at h
  refine lv_aload_n hx hb dX5_order_40 rfl (lv_at hl 0 rfl) ?_
  refine lv_dup hx hb dX5_order_41 rfl ?_
  refine gL_X5_at C w q32_1 dX5_order_42 ?_
  refine lv_iconst (v := (1 : Int32)) hx hb dX5_order_45 (by decide) ?_
  refine lv_iadd hx hb dX5_order_46 ?_
  refine pL_X5_at C w q32_1 dX5_order_47 (fun M1 H locs e2 w => ?_)
  replace h := bnd_of h e2
  refine lv_iconst (v := (-1 : Int32)) hx hb dX5_order_50 (by decide) ?_
  refine lv_istore_n (lv' := [(2, .int (-1 : Int32)), (0, .ref (ad E 8 0)), (1, .int a1)]) hx hb dX5_order_51 rfl hl (by decide) rfl (fun ls hl => ?_)
  refine lv_iload_n hx hb dX5_order_52 rfl (lv_at hl 2 rfl) ?_
  refine lv_bipush (v := (100 : Int32)) hx hb dX5_order_53 (by decide) ?_
  refine lv_icmp_ne (tgt := 71) hx hb dX5_order_55 (by decide) (fun c3 => ?_) (fun c3 => ?_)
  · replace h := ite_t h c3
    refine lv_iload_n hx hb dX5_order_71 rfl (lv_at hl 2 rfl) ?_
    refine lv_bipush (v := (109 : Int32)) hx hb dX5_order_72 (by decide) ?_
    refine lv_icmp_ne (tgt := 90) hx hb dX5_order_74 (by decide) (fun c4 => ?_) (fun c4 => ?_)
    · replace h := ite_t h c4
      refine lv_iload_n hx hb dX5_order_90 rfl (lv_at hl 2 rfl) ?_
      refine lv_bipush (v := (114 : Int32)) hx hb dX5_order_91 (by decide) ?_
      refine lv_icmp_eq (tgt := 149) hx hb dX5_order_93 (by decide) (fun c5 => ?_) (fun c5 => ?_)
      · replace h := ite_t h c5
        exact TX5_order_149 C   _ _ _ h w (lv_sub hl [1, 0] rfl)
      · replace h := ite_f h c5
        refine lv_aload_n hx hb dX5_order_96 rfl (lv_at hl 1 rfl) ?_
        obtain ⟨vv7, hv6, h⟩ := bind_of h
        refine x_cVi (As := []) (rest := []) C w (v8 (by decide)) cel_8 rfl (mtX5_byteAt  hv6) q32_7 q32_8 q32_9 q1_5 q32_10 ydX5_byteAt ⟨rfl, rfl⟩ ⟨by decide, by decide⟩ ⟨Nat.zero_le _, Nat.zero_le _⟩ hl.1 (Nat.le_of_ble_eq_true rfl) rfl dX5_order_97 (fun H locs w => ?_)
        refine lv_bipush (v := (48 : Int32)) hx hb dX5_order_100 (by decide) ?_
        refine lv_bipush (v := (52 : Int32)) hx hb dX5_order_102 (by decide) ?_
        refine x_cSi (As := [.int vv7, .int (48 : Int32), .int (52 : Int32)]) (rest := []) C w (mtX5_in ) q7_0 q7_1 q1_5 q7_2 ydX5_in ⟨rfl, rfl⟩ ⟨by decide, by decide⟩ ⟨Nat.zero_le _, Nat.zero_le _⟩ hl.1 (Nat.le_of_ble_eq_true rfl) rfl dX5_order_104 (fun H locs w => ?_)
        refine lv_if_eq (tgt := 114) hx hb dX5_order_107 (by decide) (fun c8 => ?_) (fun c8 => ?_)
        · replace h := ite_t h c8
          refine lv_aload_n hx hb dX5_order_114 rfl (lv_at hl 1 rfl) ?_
          refine gL_X5_at C w q32_1 dX5_order_115 ?_
          exact TX5_order_118 C   _ _ _ h w (lv_sub hl [1] rfl)
        · replace h := ite_f h c8
          refine lv_iconst (v := (-1 : Int32)) hx hb dX5_order_110 (by decide) ?_
          refine lv_goto (tgt := 118) hx hb dX5_order_111 (by decide) ?_
          exact TX5_order_118 C   _ _ _ h w (lv_sub hl [1] rfl)
    · replace h := ite_f h (fun z => z c4)
      refine lv_aload_n hx hb dX5_order_77 rfl (lv_at hl 1 rfl) ?_
      refine lv_iconst (v := (3 : Int32)) hx hb dX5_order_78 (by decide) ?_
      refine lv_iconst (v := (1 : Int32)) hx hb dX5_order_79 (by decide) ?_
      refine lv_sipush (v := (600 : Int32)) hx hb dX5_order_80 (by decide) ?_
      obtain ⟨vv12, M10, J11, hv9, h⟩ := bd3_of h
      refine x_cVi (As := [.int (3 : Int32), .int (1 : Int32), .int (600 : Int32)]) (rest := []) C w (v8 (by decide)) cel_8 rfl (mtX5_reads  hv9) q32_11 q32_12 q32_13 q1_5 q32_14 ydX5_reads ⟨rfl, rfl⟩ ⟨by decide, by decide⟩ ⟨Nat.zero_le _, Nat.zero_le _⟩ hl.1 (Nat.le_of_ble_eq_true rfl) rfl dX5_order_83 (fun H locs w => ?_)
      refine lv_istore_n (lv' := [(2, .int vv12), (0, .ref (ad E 8 0)), (1, .int a1)]) hx hb dX5_order_86 rfl hl (by decide) rfl (fun ls hl => ?_)
      refine lv_goto (tgt := 149) hx hb dX5_order_87 (by decide) ?_
      exact TX5_order_149 C   _ _ _ h w (lv_sub hl [1, 0] rfl)
  · replace h := ite_f h (fun z => z c3)
    refine lv_aload_n hx hb dX5_order_58 rfl (lv_at hl 1 rfl) ?_
    refine lv_iconst (v := (4 : Int32)) hx hb dX5_order_59 (by decide) ?_
    refine lv_iconst (v := (0 : Int32)) hx hb dX5_order_60 (by decide) ?_
    refine lv_sipush (v := (3000 : Int32)) hx hb dX5_order_61 (by decide) ?_
    obtain ⟨vv16, M14, J15, hv13, h⟩ := bd3_of h
    refine x_cVi (As := [.int (4 : Int32), .int (0 : Int32), .int (3000 : Int32)]) (rest := []) C w (v8 (by decide)) cel_8 rfl (mtX5_reads  hv13) q32_11 q32_12 q32_13 q1_5 q32_14 ydX5_reads ⟨rfl, rfl⟩ ⟨by decide, by decide⟩ ⟨Nat.zero_le _, Nat.zero_le _⟩ hl.1 (Nat.le_of_ble_eq_true rfl) rfl dX5_order_64 (fun H locs w => ?_)
    refine lv_istore_n (lv' := [(2, .int vv16), (0, .ref (ad E 8 0)), (1, .int a1)]) hx hb dX5_order_67 rfl hl (by decide) rfl (fun ls hl => ?_)
    refine lv_goto (tgt := 149) hx hb dX5_order_68 (by decide) ?_
    exact TX5_order_149 C   _ _ _ h w (lv_sub hl [1, 0] rfl)
noncomputable def fX5_order (F : Nat)   (M : M2) (J : J2) : Option (Int32 × M2 × J2) := (fX5_byteAt M J).bind (fun vv2 => (if vv2 = (100 : Int32) then (fbX5_order_40 F vv2 M J) else ((if vv2 = (109 : Int32) then (fbX5_order_40 F vv2 M J) else ((if vv2 = (116 : Int32) then (fbX5_order_40 F vv2 M J) else ((if vv2 = (99 : Int32) then (fbX5_order_40 F vv2 M J) else ((if vv2 = (114 : Int32) then (fbX5_order_40 F vv2 M J) else (some ((M 0 14), M, J))))))))))))
set_option maxRecDepth 20000 in
set_option maxHeartbeats 1000000 in
theorem TX5_order {rr : Int32} {MR : M2} {JR : J2}  (C : Cx E A p s m args meth c wdX5_order cX5_order 3 (some .int) RX5)    (h : fX5_order F  M J = some (rr, MR, JR)) (w : Wd E A s (sg G 8 M) (sg K 8 J) H locs) (hl : lv_has ls 3 [(0, .ref (ad E 8 0))]) : W p l e rmX5_order s m args below meth c H locs 0 0 (QI E A below args s rr (sg G 8 MR) (sg K 8 JR)) (F0 m 0 ls []) := by
  obtain ⟨hx, hb, hr, hml, hown, hts, hlocks, hKK, hA1, hA2⟩ := id C
  unfold fX5_order at h
  refine lv_aload_n hx hb dX5_order_0 rfl (lv_at hl 0 rfl) ?_
  obtain ⟨vv2, hv1, h⟩ := bind_of h
  refine x_cVi (As := []) (rest := []) C w (v8 (by decide)) cel_8 rfl (mtX5_byteAt  hv1) q32_7 q32_8 q32_9 q1_5 q32_10 ydX5_byteAt ⟨rfl, rfl⟩ ⟨by decide, by decide⟩ ⟨Nat.zero_le _, Nat.zero_le _⟩ hl.1 (Nat.le_of_ble_eq_true rfl) rfl dX5_order_1 (fun H locs w => ?_)
  refine lv_istore_n (lv' := [(1, .int vv2), (0, .ref (ad E 8 0))]) hx hb dX5_order_4 rfl hl (by decide) rfl (fun ls hl => ?_)
  refine lv_iload_n hx hb dX5_order_5 rfl (lv_at hl 0 rfl) ?_
  refine lv_bipush (v := (100 : Int32)) hx hb dX5_order_6 (by decide) ?_
  refine lv_icmp_eq (tgt := 40) hx hb dX5_order_8 (by decide) (fun c3 => ?_) (fun c3 => ?_)
  · replace h := ite_t h c3
    exact TX5_order_40 C   _ _ _ h w (lv_sub hl [1, 0] rfl)
  · replace h := ite_f h c3
    refine lv_iload_n hx hb dX5_order_11 rfl (lv_at hl 0 rfl) ?_
    refine lv_bipush (v := (109 : Int32)) hx hb dX5_order_12 (by decide) ?_
    refine lv_icmp_eq (tgt := 40) hx hb dX5_order_14 (by decide) (fun c4 => ?_) (fun c4 => ?_)
    · replace h := ite_t h c4
      exact TX5_order_40 C   _ _ _ h w (lv_sub hl [1, 0] rfl)
    · replace h := ite_f h c4
      refine lv_iload_n hx hb dX5_order_17 rfl (lv_at hl 0 rfl) ?_
      refine lv_bipush (v := (116 : Int32)) hx hb dX5_order_18 (by decide) ?_
      refine lv_icmp_eq (tgt := 40) hx hb dX5_order_20 (by decide) (fun c5 => ?_) (fun c5 => ?_)
      · replace h := ite_t h c5
        exact TX5_order_40 C   _ _ _ h w (lv_sub hl [1, 0] rfl)
      · replace h := ite_f h c5
        refine lv_iload_n hx hb dX5_order_23 rfl (lv_at hl 0 rfl) ?_
        refine lv_bipush (v := (99 : Int32)) hx hb dX5_order_24 (by decide) ?_
        refine lv_icmp_eq (tgt := 40) hx hb dX5_order_26 (by decide) (fun c6 => ?_) (fun c6 => ?_)
        · replace h := ite_t h c6
          exact TX5_order_40 C   _ _ _ h w (lv_sub hl [1, 0] rfl)
        · replace h := ite_f h c6
          refine lv_iload_n hx hb dX5_order_29 rfl (lv_at hl 0 rfl) ?_
          refine lv_bipush (v := (114 : Int32)) hx hb dX5_order_30 (by decide) ?_
          refine lv_icmp_eq (tgt := 40) hx hb dX5_order_32 (by decide) (fun c7 => ?_) (fun c7 => ?_)
          · replace h := ite_t h c7
            exact TX5_order_40 C   _ _ _ h w (lv_sub hl [1, 0] rfl)
          · replace h := ite_f h c7
            refine lv_aload_n hx hb dX5_order_35 rfl (lv_at hl 1 rfl) ?_
            refine gL_X5_at C w q32_1 dX5_order_36 ?_
            obtain ⟨e1, e2, e3⟩ := rt3 h
            exact x_ri C w e1 (by rw [e2]) (by rw [e3]) dX5_order_39
theorem mtX5_order {rr : Int32} {MR : M2} {JR : J2}     (h : fX5_order F  M J = some (rr, MR, JR)) : MtI l yX5_order wdX5_order rmX5_order E [.ref (ad E 8 0)] (sg G 8 M) (sg K 8 J) rr (sg G 8 MR) (sg K 8 JR) := by
  intro sz
  refine Met.ofW (cc := cX5_order) (maxL := 3) (ret := (some .int)) (by decide) rfl ?_
  intro p e s m args below meth c s₁ B hml hv
  obtain ⟨rfl, C, w⟩ := Cx.of (own := RX5) B rfl hml hv
  have hl := lv_entry ([.ref (ad E 8 0)]) (n := 3) (by first | exact Nat.le_of_ble_eq_true rfl)
  rw [lg_entry_eq]
  generalize (lg_sl ([.ref (ad E 8 0)]) ++ List.replicate (3 - (lg_sl ([.ref (ad E 8 0)])).length) Slot.unset).toArray = ls at hl ⊢
  exact TX5_order C   h w hl
theorem ydX5_order : yX5_order.cls = RX5 ∧ yX5_order.cls ≠ "java/lang/invoke/MethodHandle" ∧ yX5_order.cls ≠ "java/lang/invoke/VarHandle" ∧ (parseMethodDescriptor yX5_order.desc).map (fun d => d.parameters.length) = some 0 := by decide +kernel
/-! X5.obeys(I)I -/
abbrev rmX5_obeys : Room := { frames := 8, cells := 0, slots := 0, locals := 167 }
abbrev wdX5_obeys : Cond := Cond.code yX5_obeys cX5_obeys 2 (some .int)
noncomputable def fX5_obeys (F : Nat)  (x1 : Int32) (M : M2) (J : J2) : Option (Int32 × M2 × J2) := bnd (up2 M 0 13 (0 : Int32)) (fun M1 => (if x1 = (99 : Int32) then (bd3 (fX5_clears F (M1 0 15) M1 J) (fun vv10 M8 J9 => some (vv10, M8, J9))) else if x1 = (100 : Int32) then (bnd (up2 M1 1 8 (M1 0 15)) (fun M11 => some ((0 : Int32), M11, J))) else if x1 = (109 : Int32) then (bd3 (fX5_passes F (M1 0 15) M1 J) (fun vv16 M14 J15 => some (vv16, M14, J15))) else if x1 = (116 : Int32) then (bd3 (fX5_trips (M1 0 15) M1 J) (fun vv20 M18 J19 => some (vv20, M18, J19))) else (bd3 (fX5_rotates F M1 J) (fun vv24 M22 J23 => bnd (up2 M22 0 13 vv24) (fun M25 => some ((0 : Int32), M25, J23))))))
set_option maxRecDepth 20000 in
set_option maxHeartbeats 1000000 in
theorem TX5_obeys {rr : Int32} {MR : M2} {JR : J2}  (C : Cx E A p s m args meth c wdX5_obeys cX5_obeys 2 (some .int) RX5)  {x1 : Int32}  (h : fX5_obeys F  x1 M J = some (rr, MR, JR)) (w : Wd E A s (sg G 8 M) (sg K 8 J) H locs) (hl : lv_has ls 2 [(0, .ref (ad E 8 0)), (1, .int x1)]) : W p l e rmX5_obeys s m args below meth c H locs 0 0 (QI E A below args s rr (sg G 8 MR) (sg K 8 JR)) (F0 m 0 ls []) := by
  obtain ⟨hx, hb, hr, hml, hown, hts, hlocks, hKK, hA1, hA2⟩ := id C
  unfold fX5_obeys at h
  refine lv_aload_n hx hb dX5_obeys_0 rfl (lv_at hl 0 rfl) ?_
  refine lv_iconst (v := (0 : Int32)) hx hb dX5_obeys_1 (by decide) ?_
  refine pL_X5_answer C w q11_0 dX5_obeys_2 (fun M1 H locs e2 w => ?_)
  replace h := bnd_of h e2
  refine lv_iload_n hx hb dX5_obeys_5 rfl (lv_at hl 1 rfl) ?_
  by_cases c3 : x1 = (99 : Int32)
  · replace h := ite_t h c3
    refine lv_lookup (off := 73) (tgt := 79) hx hb dX5_obeys_6 (by decide) (by rw [c3]; decide) (by decide) ?_
    refine lv_aload_n hx hb dX5_obeys_79 rfl (lv_at hl 0 rfl) ?_
    refine lv_aload_n hx hb dX5_obeys_80 rfl (lv_at hl 0 rfl) ?_
    refine gL_X5_got C w q32_6 dX5_obeys_81 ?_
    obtain ⟨vv10, M8, J9, hv7, h⟩ := bd3_of h
    refine x_cVi (As := [.int (M1 0 15)]) (rest := []) C w (v8 (by decide)) cel_8 rfl (mtX5_clears  hv7) q12_5 q12_6 q12_7 q1_5 q12_8 ydX5_clears ⟨rfl, rfl⟩ ⟨by decide, by decide⟩ ⟨Nat.zero_le _, Nat.zero_le _⟩ hl.1 (Nat.le_of_ble_eq_true rfl) rfl dX5_obeys_84 (fun H locs w => ?_)
    obtain ⟨e1, e2, e3⟩ := rt3 h
    exact x_ri C w e1 (by rw [e2]) (by rw [e3]) dX5_obeys_87
  replace h := ite_f h c3
  by_cases c4 : x1 = (100 : Int32)
  · replace h := ite_t h c4
    refine lv_lookup (off := 42) (tgt := 48) hx hb dX5_obeys_6 (by decide) (by rw [c4]; decide) (by decide) ?_
    refine lv_aload_n hx hb dX5_obeys_48 rfl (lv_at hl 0 rfl) ?_
    refine gR_X5_s C w q3_16 dX5_obeys_49 ?_
    refine lv_bipush (v := (8 : Int32)) hx hb dX5_obeys_52 (by decide) ?_
    refine lv_aload_n hx hb dX5_obeys_54 rfl (lv_at hl 0 rfl) ?_
    refine gL_X5_got C w q32_6 dX5_obeys_55 ?_
    refine x_astI_L C w (v8 (by decide)) c8_1 (inb_k (k := 8) (by decide) (by decide)) cl_8 dX5_obeys_58 (fun M11 H locs e12 w => ?_)
    replace h := bnd_of h e12
    refine lv_iconst (v := (0 : Int32)) hx hb dX5_obeys_59 (by decide) ?_
    obtain ⟨e1, e2, e3⟩ := rt3 h
    exact x_ri C w e1 (by rw [e2]) (by rw [e3]) dX5_obeys_60
  replace h := ite_f h c4
  by_cases c5 : x1 = (109 : Int32)
  · replace h := ite_t h c5
    refine lv_lookup (off := 55) (tgt := 61) hx hb dX5_obeys_6 (by decide) (by rw [c5]; decide) (by decide) ?_
    refine lv_aload_n hx hb dX5_obeys_61 rfl (lv_at hl 0 rfl) ?_
    refine lv_aload_n hx hb dX5_obeys_62 rfl (lv_at hl 0 rfl) ?_
    refine gL_X5_got C w q32_6 dX5_obeys_63 ?_
    obtain ⟨vv16, M14, J15, hv13, h⟩ := bd3_of h
    refine x_cVi (As := [.int (M1 0 15)]) (rest := []) C w (v8 (by decide)) cel_8 rfl (mtX5_passes  hv13) q16_20 q16_21 q16_22 q1_5 q16_23 ydX5_passes ⟨rfl, rfl⟩ ⟨by decide, by decide⟩ ⟨Nat.zero_le _, Nat.zero_le _⟩ hl.1 (Nat.le_of_ble_eq_true rfl) rfl dX5_obeys_66 (fun H locs w => ?_)
    obtain ⟨e1, e2, e3⟩ := rt3 h
    exact x_ri C w e1 (by rw [e2]) (by rw [e3]) dX5_obeys_69
  replace h := ite_f h c5
  by_cases c6 : x1 = (116 : Int32)
  · replace h := ite_t h c6
    refine lv_lookup (off := 64) (tgt := 70) hx hb dX5_obeys_6 (by decide) (by rw [c6]; decide) (by decide) ?_
    refine lv_aload_n hx hb dX5_obeys_70 rfl (lv_at hl 0 rfl) ?_
    refine lv_aload_n hx hb dX5_obeys_71 rfl (lv_at hl 0 rfl) ?_
    refine gL_X5_got C w q32_6 dX5_obeys_72 ?_
    obtain ⟨vv20, M18, J19, hv17, h⟩ := bd3_of h
    refine x_cVi (As := [.int (M1 0 15)]) (rest := []) C w (v8 (by decide)) cel_8 rfl (mtX5_trips  hv17) q10_20 q10_21 q10_22 q1_5 q10_23 ydX5_trips ⟨rfl, rfl⟩ ⟨by decide, by decide⟩ ⟨Nat.zero_le _, Nat.zero_le _⟩ hl.1 (Nat.le_of_ble_eq_true rfl) rfl dX5_obeys_75 (fun H locs w => ?_)
    obtain ⟨e1, e2, e3⟩ := rt3 h
    exact x_ri C w e1 (by rw [e2]) (by rw [e3]) dX5_obeys_78
  replace h := ite_f h c6
  have hsw : Op.lookupswitch.offset [(99, 73), (100, 42), (109, 55), (116, 64)] 82 x1.toInt = 82 := by
    have n0 := ne_toInt c3
    have n1 := ne_toInt c4
    have n2 := ne_toInt c5
    have n3 := ne_toInt c6
    have e0 : (99 : Int32).toInt = 99 := by decide
    have e1 : (100 : Int32).toInt = 100 := by decide
    have e2 : (109 : Int32).toInt = 109 := by decide
    have e3 : (116 : Int32).toInt = 116 := by decide
    simp only [e0, e1, e2, e3] at n0 n1 n2 n3
    rw [Op.lookupswitch.offset_cons, if_neg (fun z => n0 z.symm), Op.lookupswitch.offset_cons, if_neg (fun z => n1 z.symm), Op.lookupswitch.offset_cons, if_neg (fun z => n2 z.symm), Op.lookupswitch.offset_cons, if_neg (fun z => n3 z.symm), Op.lookupswitch.offset_nil]
  refine lv_lookup (off := 82) (tgt := 88) hx hb dX5_obeys_6 (by decide) hsw (by decide) ?_
  refine lv_aload_n hx hb dX5_obeys_88 rfl (lv_at hl 0 rfl) ?_
  refine lv_aload_n hx hb dX5_obeys_89 rfl (lv_at hl 0 rfl) ?_
  obtain ⟨vv24, M22, J23, hv21, h⟩ := bd3_of h
  refine x_cVi (As := []) (rest := [.ref (ad E 8 0)]) C w (v8 (by decide)) cel_8 rfl (mtX5_rotates  hv21) q13_7 q13_8 q13_9 q1_5 q13_10 ydX5_rotates ⟨rfl, rfl⟩ ⟨by decide, by decide⟩ ⟨Nat.zero_le _, Nat.zero_le _⟩ hl.1 (Nat.le_of_ble_eq_true rfl) rfl dX5_obeys_90 (fun H locs w => ?_)
  refine pL_X5_answer C w q11_0 dX5_obeys_93 (fun M25 H locs e26 w => ?_)
  replace h := bnd_of h e26
  refine lv_iconst (v := (0 : Int32)) hx hb dX5_obeys_96 (by decide) ?_
  obtain ⟨e1, e2, e3⟩ := rt3 h
  exact x_ri C w e1 (by rw [e2]) (by rw [e3]) dX5_obeys_97
theorem mtX5_obeys {rr : Int32} {MR : M2} {JR : J2}   {x1 : Int32}  (h : fX5_obeys F  x1 M J = some (rr, MR, JR)) : MtI l yX5_obeys wdX5_obeys rmX5_obeys E [.ref (ad E 8 0), .int x1] (sg G 8 M) (sg K 8 J) rr (sg G 8 MR) (sg K 8 JR) := by
  intro sz
  refine Met.ofW (cc := cX5_obeys) (maxL := 2) (ret := (some .int)) (by decide) rfl ?_
  intro p e s m args below meth c s₁ B hml hv
  obtain ⟨rfl, C, w⟩ := Cx.of (own := RX5) B rfl hml hv
  have hl := lv_entry ([.ref (ad E 8 0), .int x1]) (n := 2) (by first | exact Nat.le_of_ble_eq_true rfl)
  rw [lg_entry_eq]
  generalize (lg_sl ([.ref (ad E 8 0), .int x1]) ++ List.replicate (2 - (lg_sl ([.ref (ad E 8 0), .int x1])).length) Slot.unset).toArray = ls at hl ⊢
  exact TX5_obeys C   h w hl
theorem ydX5_obeys : yX5_obeys.cls = RX5 ∧ yX5_obeys.cls ≠ "java/lang/invoke/MethodHandle" ∧ yX5_obeys.cls ≠ "java/lang/invoke/VarHandle" ∧ (parseMethodDescriptor yX5_obeys.desc).map (fun d => d.parameters.length) = some 1 := by decide +kernel
/-! X5.carryOut()I -/
abbrev rmX5_carryOut : Room := { frames := 9, cells := 0, slots := 0, locals := 188 }
abbrev wdX5_carryOut : Cond := Cond.code yX5_carryOut cX5_carryOut 4 (some .int)
noncomputable def fbX5_carryOut_108 (F : Nat)   (a1 : Int32) (M : M2) (J : J2) : Option (Int32 × M2 × J2) := bd2 (fX5_saves F M J) (fun M2 J3 => bd3 (fX5_tells a1 M2 J3) (fun vv7 M5 J6 => some (vv7, M5, J6)))
set_option maxRecDepth 20000 in
set_option maxHeartbeats 1000000 in
theorem TX5_carryOut_108 {rr : Int32} {MR : M2} {JR : J2}   (C : Cx E A p s m args meth c wdX5_carryOut cX5_carryOut 4 (some .int) RX5)   (a1 : Int32) (M : M2) (J : J2)  (h : fbX5_carryOut_108 F  a1 M J = some (rr, MR, JR)) (w : Wd E A s (sg G 8 M) (sg K 8 J) H locs) (hl : lv_has ls 4 [(0, .ref (ad E 8 0)), (1, .int a1)]) : W p l e rmX5_carryOut s m args below meth c H locs 0 0 (QI E A below args s rr (sg G 8 MR) (sg K 8 JR)) (F0 m 108 ls []) := by
  obtain ⟨hx, hb, hr, hml, hown, hts, hlocks, hKK, hA1, hA2⟩ := id C
  unfold fbX5_carryOut_108 at h
  refine lv_aload_n hx hb dX5_carryOut_108 rfl (lv_at hl 0 rfl) ?_
  obtain ⟨M2, J3, hv1, h⟩ := bd2_of h
  refine x_cVv (As := []) (rest := []) C w (v8 (by decide)) cel_8 rfl (mtX5_saves  hv1) q7_12 q7_13 q7_14 q1_5 q7_15 ydX5_saves ⟨rfl, rfl⟩ ⟨by decide, by decide⟩ ⟨Nat.zero_le _, Nat.zero_le _⟩ hl.1 (Nat.le_of_ble_eq_true rfl) rfl dX5_carryOut_109 (fun H locs w => ?_)
  refine lv_aload_n hx hb dX5_carryOut_112 rfl (lv_at hl 0 rfl) ?_
  refine lv_iload_n hx hb dX5_carryOut_113 rfl (lv_at hl 1 rfl) ?_
  obtain ⟨vv7, M5, J6, hv4, h⟩ := bd3_of h
  refine x_cVi (As := [.int a1]) (rest := []) C w (v8 (by decide)) cel_8 rfl (mtX5_tells  hv4) q7_21 q7_22 q7_23 q1_5 q8_0 ydX5_tells ⟨rfl, rfl⟩ ⟨by decide, by decide⟩ ⟨Nat.zero_le _, Nat.zero_le _⟩ hl.1 (Nat.le_of_ble_eq_true rfl) rfl dX5_carryOut_114 (fun H locs w => ?_)
  obtain ⟨e1, e2, e3⟩ := rt3 h
  exact x_ri C w e1 (by rw [e2]) (by rw [e3]) dX5_carryOut_117
noncomputable def fbX5_carryOut_103 (F : Nat) (k51 : Int32 → Int32 → M2 → J2 → Option (Int32 × M2 × J2))  (a2 : Int32) (s0 : Int32) (s1 : Int32) (M : M2) (J : J2) : Option (Int32 × M2 × J2) := k51 (s1 + s0) a2 M J
set_option maxRecDepth 20000 in
set_option maxHeartbeats 1000000 in
theorem TX5_carryOut_103 {rr : Int32} {MR : M2} {JR : J2}  {k51 : Int32 → Int32 → M2 → J2 → Option (Int32 × M2 × J2)} (C : Cx E A p s m args meth c wdX5_carryOut cX5_carryOut 4 (some .int) RX5)  (hk51 : ∀ (a1 : Int32) (a2 : Int32) (M : M2) (J : J2)  (ls : Array Slot) (H : Heap) (locs : List Loc), k51 a1 a2 M J = some (rr, MR, JR) → Wd E A s (sg G 8 M) (sg K 8 J) H locs → lv_has ls 4 [(0, .ref (ad E 8 0)), (1, .int a1), (2, .int a2)] → W p l e rmX5_carryOut s m args below meth c H locs 0 0 (QI E A below args s rr (sg G 8 MR) (sg K 8 JR)) (F0 m 51 ls [])) (a2 : Int32) (s0 : Int32) (s1 : Int32) (M : M2) (J : J2)  (h : fbX5_carryOut_103 F k51 a2 s0 s1 M J = some (rr, MR, JR)) (w : Wd E A s (sg G 8 M) (sg K 8 J) H locs) (hl : lv_has ls 4 [(0, .ref (ad E 8 0)), (2, .int a2)]) : W p l e rmX5_carryOut s m args below meth c H locs 0 0 (QI E A below args s rr (sg G 8 MR) (sg K 8 JR)) (F0 m 103 ls [.int s0, .int s1]) := by
  obtain ⟨hx, hb, hr, hml, hown, hts, hlocks, hKK, hA1, hA2⟩ := id C
  unfold fbX5_carryOut_103 at h
  refine lv_iadd hx hb dX5_carryOut_103 ?_
  refine lv_istore_n (lv' := [(1, .int (s1 + s0)), (0, .ref (ad E 8 0)), (2, .int a2)]) hx hb dX5_carryOut_104 rfl hl (by decide) rfl (fun ls hl => ?_)
  refine lv_goto (tgt := 51) hx hb dX5_carryOut_105 (by decide) ?_
  exact hk51 _ _ _ _ _ _ _ h w (lv_sub hl [1, 0, 2] rfl)
noncomputable def fbX5_carryOut_92 (F : Nat) (k51 : Int32 → Int32 → M2 → J2 → Option (Int32 × M2 × J2))  (a1 : Int32) (s0 : Int32) (M : M2) (J : J2) : Option (Int32 × M2 × J2) := (if s0 = 0 then (fbX5_carryOut_103 F k51 s0 (0 : Int32) a1 M J) else (fbX5_carryOut_103 F k51 s0 (1 : Int32) a1 M J))
set_option maxRecDepth 20000 in
set_option maxHeartbeats 1000000 in
theorem TX5_carryOut_92 {rr : Int32} {MR : M2} {JR : J2}  {k51 : Int32 → Int32 → M2 → J2 → Option (Int32 × M2 × J2)} (C : Cx E A p s m args meth c wdX5_carryOut cX5_carryOut 4 (some .int) RX5)  (hk51 : ∀ (a1 : Int32) (a2 : Int32) (M : M2) (J : J2)  (ls : Array Slot) (H : Heap) (locs : List Loc), k51 a1 a2 M J = some (rr, MR, JR) → Wd E A s (sg G 8 M) (sg K 8 J) H locs → lv_has ls 4 [(0, .ref (ad E 8 0)), (1, .int a1), (2, .int a2)] → W p l e rmX5_carryOut s m args below meth c H locs 0 0 (QI E A below args s rr (sg G 8 MR) (sg K 8 JR)) (F0 m 51 ls [])) (a1 : Int32) (s0 : Int32) (M : M2) (J : J2)  (h : fbX5_carryOut_92 F k51 a1 s0 M J = some (rr, MR, JR)) (w : Wd E A s (sg G 8 M) (sg K 8 J) H locs) (hl : lv_has ls 4 [(0, .ref (ad E 8 0)), (1, .int a1)]) : W p l e rmX5_carryOut s m args below meth c H locs 0 0 (QI E A below args s rr (sg G 8 MR) (sg K 8 JR)) (F0 m 92 ls [.int s0]) := by
  obtain ⟨hx, hb, hr, hml, hown, hts, hlocks, hKK, hA1, hA2⟩ := id C
  unfold fbX5_carryOut_92 at h
  refine lv_istore_n (lv' := [(2, .int s0), (0, .ref (ad E 8 0)), (1, .int a1)]) hx hb dX5_carryOut_92 rfl hl (by decide) rfl (fun ls hl => ?_)
  refine lv_iload_n hx hb dX5_carryOut_93 rfl (lv_at hl 2 rfl) ?_
  refine lv_iload_n hx hb dX5_carryOut_94 rfl (lv_at hl 0 rfl) ?_
  refine lv_if_eq (tgt := 102) hx hb dX5_carryOut_95 (by decide) (fun c1 => ?_) (fun c1 => ?_)
  · replace h := ite_t h c1
    refine lv_iconst (v := (0 : Int32)) hx hb dX5_carryOut_102 (by decide) ?_
    exact TX5_carryOut_103 C  hk51 _ _ _ _ _ h w (lv_sub hl [1, 0] rfl)
  · replace h := ite_f h c1
    refine lv_iconst (v := (1 : Int32)) hx hb dX5_carryOut_98 (by decide) ?_
    refine lv_goto (tgt := 103) hx hb dX5_carryOut_99 (by decide) ?_
    exact TX5_carryOut_103 C  hk51 _ _ _ _ _ h w (lv_sub hl [1, 0] rfl)
noncomputable def fbX5_carryOut_91 (F : Nat) (k51 : Int32 → Int32 → M2 → J2 → Option (Int32 × M2 × J2))  (a1 : Int32) (M : M2) (J : J2) : Option (Int32 × M2 × J2) := fbX5_carryOut_92 F k51 a1 (0 : Int32) M J
set_option maxRecDepth 20000 in
set_option maxHeartbeats 1000000 in
theorem TX5_carryOut_91 {rr : Int32} {MR : M2} {JR : J2}  {k51 : Int32 → Int32 → M2 → J2 → Option (Int32 × M2 × J2)} (C : Cx E A p s m args meth c wdX5_carryOut cX5_carryOut 4 (some .int) RX5)  (hk51 : ∀ (a1 : Int32) (a2 : Int32) (M : M2) (J : J2)  (ls : Array Slot) (H : Heap) (locs : List Loc), k51 a1 a2 M J = some (rr, MR, JR) → Wd E A s (sg G 8 M) (sg K 8 J) H locs → lv_has ls 4 [(0, .ref (ad E 8 0)), (1, .int a1), (2, .int a2)] → W p l e rmX5_carryOut s m args below meth c H locs 0 0 (QI E A below args s rr (sg G 8 MR) (sg K 8 JR)) (F0 m 51 ls [])) (a1 : Int32) (M : M2) (J : J2)  (h : fbX5_carryOut_91 F k51 a1 M J = some (rr, MR, JR)) (w : Wd E A s (sg G 8 M) (sg K 8 J) H locs) (hl : lv_has ls 4 [(0, .ref (ad E 8 0)), (1, .int a1)]) : W p l e rmX5_carryOut s m args below meth c H locs 0 0 (QI E A below args s rr (sg G 8 MR) (sg K 8 JR)) (F0 m 91 ls []) := by
  obtain ⟨hx, hb, hr, hml, hown, hts, hlocks, hKK, hA1, hA2⟩ := id C
  unfold fbX5_carryOut_91 at h
  refine lv_iconst (v := (0 : Int32)) hx hb dX5_carryOut_91 (by decide) ?_
  exact TX5_carryOut_92 C  hk51 _ _ _ _ h w (lv_sub hl [0, 1] rfl)
noncomputable def fsX5_carryOut_51 (F : Nat)   (k51 : Int32 → Int32 → M2 → J2 → Option (Int32 × M2 × J2)) : Int32 → Int32 → M2 → J2 → Option (Int32 × M2 × J2) := fun a1 a2 M J => (if a2 = 0 then (fbX5_carryOut_108 F a1 M J) else ((if (M 0 10) ≤ (M 0 14) then (fbX5_carryOut_108 F a1 M J) else ((fX5_byteAt M J).bind (fun vv4 => bd3 (fX5_order F M J) (fun vv8 M6 J7 => (if ¬ vv8 = (-1 : Int32) then (fbX5_carryOut_91 F k51 a1 M6 J7) else (bd3 (fX5_obeys F vv4 M6 J7) (fun vv13 M11 J12 => (if ¬ vv13 = 0 then (fbX5_carryOut_91 F k51 a1 M11 J12) else (fbX5_carryOut_92 F k51 a1 (1 : Int32) M11 J12)))))))))))
noncomputable def fbX5_carryOut_51 (F : Nat)   (n : Nat) : Int32 → Int32 → M2 → J2 → Option (Int32 × M2 × J2) := itr (fsX5_carryOut_51 F ) (fun _ _ _ _ => none) n
set_option maxRecDepth 20000 in
set_option maxHeartbeats 1000000 in
theorem SX5_carryOut_51 {rr : Int32} {MR : M2} {JR : J2}   {k51 : Int32 → Int32 → M2 → J2 → Option (Int32 × M2 × J2)} (C : Cx E A p s m args meth c wdX5_carryOut cX5_carryOut 4 (some .int) RX5)   (hk51 : ∀ (a1 : Int32) (a2 : Int32) (M : M2) (J : J2)  (ls : Array Slot) (H : Heap) (locs : List Loc), k51 a1 a2 M J = some (rr, MR, JR) → Wd E A s (sg G 8 M) (sg K 8 J) H locs → lv_has ls 4 [(0, .ref (ad E 8 0)), (1, .int a1), (2, .int a2)] → W p l e rmX5_carryOut s m args below meth c H locs 0 0 (QI E A below args s rr (sg G 8 MR) (sg K 8 JR)) (F0 m 51 ls [])) (a1 : Int32) (a2 : Int32) (M : M2) (J : J2)  (h : fsX5_carryOut_51 F  k51 a1 a2 M J = some (rr, MR, JR)) (w : Wd E A s (sg G 8 M) (sg K 8 J) H locs) (hl : lv_has ls 4 [(0, .ref (ad E 8 0)), (1, .int a1), (2, .int a2)]) : W p l e rmX5_carryOut s m args below meth c H locs 0 0 (QI E A below args s rr (sg G 8 MR) (sg K 8 JR)) (F0 m 51 ls []) := by
  obtain ⟨hx, hb, hr, hml, hown, hts, hlocks, hKK, hA1, hA2⟩ := id C
  unfold fsX5_carryOut_51 at h
  refine lv_iload_n hx hb dX5_carryOut_51 rfl (lv_at hl 2 rfl) ?_
  refine lv_if_eq (tgt := 108) hx hb dX5_carryOut_52 (by decide) (fun c1 => ?_) (fun c1 => ?_)
  · replace h := ite_t h c1
    exact TX5_carryOut_108 C   _ _ _ h w (lv_sub hl [0, 1] rfl)
  · replace h := ite_f h c1
    refine lv_aload_n hx hb dX5_carryOut_55 rfl (lv_at hl 0 rfl) ?_
    refine gL_X5_at C w q32_1 dX5_carryOut_56 ?_
    refine lv_aload_n hx hb dX5_carryOut_59 rfl (lv_at hl 0 rfl) ?_
    refine gL_X5_typed C w q29_1 dX5_carryOut_60 ?_
    refine lv_icmp_ge (tgt := 108) hx hb dX5_carryOut_63 (by decide) (fun c2 => ?_) (fun c2 => ?_)
    · replace h := ite_t h c2
      exact TX5_carryOut_108 C   _ _ _ h w (lv_sub hl [0, 1] rfl)
    · replace h := ite_f h c2
      refine lv_aload_n hx hb dX5_carryOut_66 rfl (lv_at hl 0 rfl) ?_
      obtain ⟨vv4, hv3, h⟩ := bind_of h
      refine x_cVi (As := []) (rest := []) C w (v8 (by decide)) cel_8 rfl (mtX5_byteAt  hv3) q32_7 q32_8 q32_9 q1_5 q32_10 ydX5_byteAt ⟨rfl, rfl⟩ ⟨by decide, by decide⟩ ⟨Nat.zero_le _, Nat.zero_le _⟩ hl.1 (Nat.le_of_ble_eq_true rfl) rfl dX5_carryOut_67 (fun H locs w => ?_)
      refine lv_istore_n (lv' := [(3, .int vv4), (0, .ref (ad E 8 0)), (1, .int a1), (2, .int a2)]) hx hb dX5_carryOut_70 rfl hl (by decide) rfl (fun ls hl => ?_)
      refine lv_aload_n hx hb dX5_carryOut_71 rfl (lv_at hl 1 rfl) ?_
      obtain ⟨vv8, M6, J7, hv5, h⟩ := bd3_of h
      refine x_cVi (As := []) (rest := []) C w (v8 (by decide)) cel_8 rfl (mtX5_order  hv5) q32_2 q32_3 q32_4 q1_5 q32_5 ydX5_order ⟨rfl, rfl⟩ ⟨by decide, by decide⟩ ⟨Nat.zero_le _, Nat.zero_le _⟩ hl.1 (Nat.le_of_ble_eq_true rfl) rfl dX5_carryOut_72 (fun H locs w => ?_)
      refine lv_iconst (v := (-1 : Int32)) hx hb dX5_carryOut_75 (by decide) ?_
      refine lv_icmp_ne (tgt := 91) hx hb dX5_carryOut_76 (by decide) (fun c9 => ?_) (fun c9 => ?_)
      · replace h := ite_t h c9
        exact TX5_carryOut_91 C  hk51 _ _ _ h w (lv_sub hl [1, 2] rfl)
      · replace h := ite_f h (fun z => z c9)
        refine lv_aload_n hx hb dX5_carryOut_79 rfl (lv_at hl 1 rfl) ?_
        refine lv_iload_n hx hb dX5_carryOut_80 rfl (lv_at hl 0 rfl) ?_
        obtain ⟨vv13, M11, J12, hv10, h⟩ := bd3_of h
        refine x_cVi (As := [.int vv4]) (rest := []) C w (v8 (by decide)) cel_8 rfl (mtX5_obeys  hv10) q32_15 q32_16 q32_17 q1_5 q32_18 ydX5_obeys ⟨rfl, rfl⟩ ⟨by decide, by decide⟩ ⟨Nat.zero_le _, Nat.zero_le _⟩ hl.1 (Nat.le_of_ble_eq_true rfl) rfl dX5_carryOut_81 (fun H locs w => ?_)
        refine lv_if_ne (tgt := 91) hx hb dX5_carryOut_84 (by decide) (fun c14 => ?_) (fun c14 => ?_)
        · replace h := ite_t h c14
          exact TX5_carryOut_91 C  hk51 _ _ _ h w (lv_sub hl [1, 2] rfl)
        · replace h := ite_f h (fun z => z c14)
          refine lv_iconst (v := (1 : Int32)) hx hb dX5_carryOut_87 (by decide) ?_
          refine lv_goto (tgt := 92) hx hb dX5_carryOut_88 (by decide) ?_
          exact TX5_carryOut_92 C  hk51 _ _ _ _ h w (lv_sub hl [1, 2] rfl)
theorem TX5_carryOut_51 {rr : Int32} {MR : M2} {JR : J2}   (C : Cx E A p s m args meth c wdX5_carryOut cX5_carryOut 4 (some .int) RX5)   : ∀ (n : Nat) (a1 : Int32) (a2 : Int32) (M : M2) (J : J2)  (ls : Array Slot) (H : Heap) (locs : List Loc), fbX5_carryOut_51 F  n a1 a2 M J = some (rr, MR, JR) → Wd E A s (sg G 8 M) (sg K 8 J) H locs → lv_has ls 4 [(0, .ref (ad E 8 0)), (1, .int a1), (2, .int a2)] → W p l e rmX5_carryOut s m args below meth c H locs 0 0 (QI E A below args s rr (sg G 8 MR) (sg K 8 JR)) (F0 m 51 ls []) := by
  intro n
  induction n with
  | zero => intro a1 a2 M J  ls H locs h; exact absurd (show none = _ from h) (fun z => nomatch z)
  | succ n ih => intro a1 a2 M J  ls H locs h w hl; exact SX5_carryOut_51 (F := F) C   ih a1 a2 M J  h w hl
noncomputable def fsX5_carryOut_5 (F : Nat)   (k5 : M2 → J2 → Option (Int32 × M2 × J2)) : M2 → J2 → Option (Int32 × M2 × J2) := fun M J => (if (M 0 10) ≤ (M 0 14) then (bd2 (fX5_holds F M J) (fun M3 J4 => bnd (up2 M3 0 14 (0 : Int32)) (fun M5 => fbX5_carryOut_51 F F (0 : Int32) (1 : Int32) M5 J4))) else (bd3 (fX5_order F M J) (fun vv10 M8 J9 => (if vv10 = (-1 : Int32) then (k5  M8 J9) else (bd3 (fX5_tells ((-10 : Int32) - vv10) M8 J9) (fun vv15 M13 J14 => some (vv15, M13, J14)))))))
noncomputable def fbX5_carryOut_5 (F : Nat)   (n : Nat) : M2 → J2 → Option (Int32 × M2 × J2) := itr (fsX5_carryOut_5 F ) (fun _ _ => none) n
set_option maxRecDepth 20000 in
set_option maxHeartbeats 1000000 in
theorem SX5_carryOut_5 {rr : Int32} {MR : M2} {JR : J2}   {k5 : M2 → J2 → Option (Int32 × M2 × J2)} (C : Cx E A p s m args meth c wdX5_carryOut cX5_carryOut 4 (some .int) RX5)   (hk5 : ∀  (M : M2) (J : J2)  (ls : Array Slot) (H : Heap) (locs : List Loc), k5  M J = some (rr, MR, JR) → Wd E A s (sg G 8 M) (sg K 8 J) H locs → lv_has ls 4 [(0, .ref (ad E 8 0))] → W p l e rmX5_carryOut s m args below meth c H locs 0 0 (QI E A below args s rr (sg G 8 MR) (sg K 8 JR)) (F0 m 5 ls []))  (M : M2) (J : J2)  (h : fsX5_carryOut_5 F  k5 M J = some (rr, MR, JR)) (w : Wd E A s (sg G 8 M) (sg K 8 J) H locs) (hl : lv_has ls 4 [(0, .ref (ad E 8 0))]) : W p l e rmX5_carryOut s m args below meth c H locs 0 0 (QI E A below args s rr (sg G 8 MR) (sg K 8 JR)) (F0 m 5 ls []) := by
  obtain ⟨hx, hb, hr, hml, hown, hts, hlocks, hKK, hA1, hA2⟩ := id C
  unfold fsX5_carryOut_5 at h
  refine lv_aload_n hx hb dX5_carryOut_5 rfl (lv_at hl 0 rfl) ?_
  refine gL_X5_at C w q32_1 dX5_carryOut_6 ?_
  refine lv_aload_n hx hb dX5_carryOut_9 rfl (lv_at hl 0 rfl) ?_
  refine gL_X5_typed C w q29_1 dX5_carryOut_10 ?_
  refine lv_icmp_ge (tgt := 38) hx hb dX5_carryOut_13 (by decide) (fun c1 => ?_) (fun c1 => ?_)
  · replace h := ite_t h c1
    refine lv_aload_n hx hb dX5_carryOut_38 rfl (lv_at hl 0 rfl) ?_
    obtain ⟨M3, J4, hv2, h⟩ := bd2_of h
    refine x_cVv (As := []) (rest := []) C w (v8 (by decide)) cel_8 rfl (mtX5_holds  hv2) q7_8 q7_9 q7_10 q1_5 q7_11 ydX5_holds ⟨rfl, rfl⟩ ⟨by decide, by decide⟩ ⟨Nat.zero_le _, Nat.zero_le _⟩ hl.1 (Nat.le_of_ble_eq_true rfl) rfl dX5_carryOut_39 (fun H locs w => ?_)
    refine lv_iconst (v := (0 : Int32)) hx hb dX5_carryOut_42 (by decide) ?_
    refine lv_istore_n (lv' := [(1, .int (0 : Int32)), (0, .ref (ad E 8 0))]) hx hb dX5_carryOut_43 rfl hl (by decide) rfl (fun ls hl => ?_)
    refine lv_iconst (v := (1 : Int32)) hx hb dX5_carryOut_44 (by decide) ?_
    refine lv_istore_n (lv' := [(2, .int (1 : Int32)), (1, .int (0 : Int32)), (0, .ref (ad E 8 0))]) hx hb dX5_carryOut_45 rfl hl (by decide) rfl (fun ls hl => ?_)
    refine lv_aload_n hx hb dX5_carryOut_46 rfl (lv_at hl 2 rfl) ?_
    refine lv_iconst (v := (0 : Int32)) hx hb dX5_carryOut_47 (by decide) ?_
    refine pL_X5_at C w q32_1 dX5_carryOut_48 (fun M5 H locs e6 w => ?_)
    replace h := bnd_of h e6
    exact TX5_carryOut_51 C   _ _ _ _ _ _ _ _ h w (lv_sub hl [2, 1, 0] rfl)
  · replace h := ite_f h c1
    refine lv_aload_n hx hb dX5_carryOut_16 rfl (lv_at hl 0 rfl) ?_
    obtain ⟨vv10, M8, J9, hv7, h⟩ := bd3_of h
    refine x_cVi (As := []) (rest := []) C w (v8 (by decide)) cel_8 rfl (mtX5_order  hv7) q32_2 q32_3 q32_4 q1_5 q32_5 ydX5_order ⟨rfl, rfl⟩ ⟨by decide, by decide⟩ ⟨Nat.zero_le _, Nat.zero_le _⟩ hl.1 (Nat.le_of_ble_eq_true rfl) rfl dX5_carryOut_17 (fun H locs w => ?_)
    refine lv_istore_n (lv' := [(1, .int vv10), (0, .ref (ad E 8 0))]) hx hb dX5_carryOut_20 rfl hl (by decide) rfl (fun ls hl => ?_)
    refine lv_iload_n hx hb dX5_carryOut_21 rfl (lv_at hl 0 rfl) ?_
    refine lv_iconst (v := (-1 : Int32)) hx hb dX5_carryOut_22 (by decide) ?_
    refine lv_icmp_eq (tgt := 35) hx hb dX5_carryOut_23 (by decide) (fun c11 => ?_) (fun c11 => ?_)
    · replace h := ite_t h c11
      refine lv_goto (tgt := 5) hx hb dX5_carryOut_35 (by decide) ?_
      exact hk5 _ _ _ _ _ h w (lv_sub hl [1] rfl)
    · replace h := ite_f h c11
      refine lv_aload_n hx hb dX5_carryOut_26 rfl (lv_at hl 1 rfl) ?_
      refine lv_bipush (v := (-10 : Int32)) hx hb dX5_carryOut_27 (by decide) ?_
      refine lv_iload_n hx hb dX5_carryOut_29 rfl (lv_at hl 0 rfl) ?_
      refine lv_isub hx hb dX5_carryOut_30 ?_
      obtain ⟨vv15, M13, J14, hv12, h⟩ := bd3_of h
      refine x_cVi (As := [.int ((-10 : Int32) - vv10)]) (rest := []) C w (v8 (by decide)) cel_8 rfl (mtX5_tells  hv12) q7_21 q7_22 q7_23 q1_5 q8_0 ydX5_tells ⟨rfl, rfl⟩ ⟨by decide, by decide⟩ ⟨Nat.zero_le _, Nat.zero_le _⟩ hl.1 (Nat.le_of_ble_eq_true rfl) rfl dX5_carryOut_31 (fun H locs w => ?_)
      obtain ⟨e1, e2, e3⟩ := rt3 h
      exact x_ri C w e1 (by rw [e2]) (by rw [e3]) dX5_carryOut_34
theorem TX5_carryOut_5 {rr : Int32} {MR : M2} {JR : J2}   (C : Cx E A p s m args meth c wdX5_carryOut cX5_carryOut 4 (some .int) RX5)   : ∀ (n : Nat)  (M : M2) (J : J2)  (ls : Array Slot) (H : Heap) (locs : List Loc), fbX5_carryOut_5 F  n M J = some (rr, MR, JR) → Wd E A s (sg G 8 M) (sg K 8 J) H locs → lv_has ls 4 [(0, .ref (ad E 8 0))] → W p l e rmX5_carryOut s m args below meth c H locs 0 0 (QI E A below args s rr (sg G 8 MR) (sg K 8 JR)) (F0 m 5 ls []) := by
  intro n
  induction n with
  | zero => intro M J  ls H locs h; exact absurd (show none = _ from h) (fun z => nomatch z)
  | succ n ih => intro M J  ls H locs h w hl; exact SX5_carryOut_5 (F := F) C   ih M J  h w hl
noncomputable def fX5_carryOut (F : Nat)   (M : M2) (J : J2) : Option (Int32 × M2 × J2) := bnd (up2 M 0 14 (0 : Int32)) (fun M1 => fbX5_carryOut_5 F F  M1 J)
set_option maxRecDepth 20000 in
set_option maxHeartbeats 1000000 in
theorem TX5_carryOut {rr : Int32} {MR : M2} {JR : J2}  (C : Cx E A p s m args meth c wdX5_carryOut cX5_carryOut 4 (some .int) RX5)    (h : fX5_carryOut F  M J = some (rr, MR, JR)) (w : Wd E A s (sg G 8 M) (sg K 8 J) H locs) (hl : lv_has ls 4 [(0, .ref (ad E 8 0))]) : W p l e rmX5_carryOut s m args below meth c H locs 0 0 (QI E A below args s rr (sg G 8 MR) (sg K 8 JR)) (F0 m 0 ls []) := by
  obtain ⟨hx, hb, hr, hml, hown, hts, hlocks, hKK, hA1, hA2⟩ := id C
  unfold fX5_carryOut at h
  refine lv_aload_n hx hb dX5_carryOut_0 rfl (lv_at hl 0 rfl) ?_
  refine lv_iconst (v := (0 : Int32)) hx hb dX5_carryOut_1 (by decide) ?_
  refine pL_X5_at C w q32_1 dX5_carryOut_2 (fun M1 H locs e2 w => ?_)
  replace h := bnd_of h e2
  exact TX5_carryOut_5 C   _ _ _ _ _ _ h w (lv_sub hl [0] rfl)
theorem mtX5_carryOut {rr : Int32} {MR : M2} {JR : J2}     (h : fX5_carryOut F  M J = some (rr, MR, JR)) : MtI l yX5_carryOut wdX5_carryOut rmX5_carryOut E [.ref (ad E 8 0)] (sg G 8 M) (sg K 8 J) rr (sg G 8 MR) (sg K 8 JR) := by
  intro sz
  refine Met.ofW (cc := cX5_carryOut) (maxL := 4) (ret := (some .int)) (by decide) rfl ?_
  intro p e s m args below meth c s₁ B hml hv
  obtain ⟨rfl, C, w⟩ := Cx.of (own := RX5) B rfl hml hv
  have hl := lv_entry ([.ref (ad E 8 0)]) (n := 4) (by first | exact Nat.le_of_ble_eq_true rfl)
  rw [lg_entry_eq]
  generalize (lg_sl ([.ref (ad E 8 0)]) ++ List.replicate (4 - (lg_sl ([.ref (ad E 8 0)])).length) Slot.unset).toArray = ls at hl ⊢
  exact TX5_carryOut C   h w hl
theorem ydX5_carryOut : yX5_carryOut.cls = RX5 ∧ yX5_carryOut.cls ≠ "java/lang/invoke/MethodHandle" ∧ yX5_carryOut.cls ≠ "java/lang/invoke/VarHandle" ∧ (parseMethodDescriptor yX5_carryOut.desc).map (fun d => d.parameters.length) = some 0 := by decide +kernel
/-! X5.undo()I -/
abbrev rmX5_undo : Room := { frames := 2, cells := 0, slots := 0, locals := 33 }
abbrev wdX5_undo : Cond := Cond.code yX5_undo cX5_undo 2 (some .int)
noncomputable def fsX5_undo_59 (F : Nat)   (k59 : Int32 → M2 → J2 → Option (Int32 × M2 × J2)) : Int32 → M2 → J2 → Option (Int32 × M2 × J2) := fun a1 M J => (if (6 : Int32) ≤ a1 then (bd3 (fX5_tells (M 0 8) M J) (fun vv5 M3 J4 => some (vv5, M3, J4))) else (chk (inb (((6 : Int32) * (M 0 8)) + a1) 24) (chk (inb a1 6) (bnd (up2 J 2 (a1.toNatClampNeg) (J 4 (((6 : Int32) * (M 0 8)) + a1).toNatClampNeg)) (fun J8 => k59 (a1 + (1 : Int32)) M J8)))))
noncomputable def fbX5_undo_59 (F : Nat)   (n : Nat) : Int32 → M2 → J2 → Option (Int32 × M2 × J2) := itr (fsX5_undo_59 F ) (fun _ _ _ => none) n
set_option maxRecDepth 20000 in
set_option maxHeartbeats 1000000 in
theorem SX5_undo_59 {rr : Int32} {MR : M2} {JR : J2}   {k59 : Int32 → M2 → J2 → Option (Int32 × M2 × J2)} (C : Cx E A p s m args meth c wdX5_undo cX5_undo 2 (some .int) RX5)   (hk59 : ∀ (a1 : Int32) (M : M2) (J : J2)  (ls : Array Slot) (H : Heap) (locs : List Loc), k59 a1 M J = some (rr, MR, JR) → Wd E A s (sg G 8 M) (sg K 8 J) H locs → lv_has ls 2 [(0, .ref (ad E 8 0)), (1, .int a1)] → W p l e rmX5_undo s m args below meth c H locs 0 0 (QI E A below args s rr (sg G 8 MR) (sg K 8 JR)) (F0 m 59 ls [])) (a1 : Int32) (M : M2) (J : J2)  (h : fsX5_undo_59 F  k59 a1 M J = some (rr, MR, JR)) (w : Wd E A s (sg G 8 M) (sg K 8 J) H locs) (hl : lv_has ls 2 [(0, .ref (ad E 8 0)), (1, .int a1)]) : W p l e rmX5_undo s m args below meth c H locs 0 0 (QI E A below args s rr (sg G 8 MR) (sg K 8 JR)) (F0 m 59 ls []) := by
  obtain ⟨hx, hb, hr, hml, hown, hts, hlocks, hKK, hA1, hA2⟩ := id C
  unfold fsX5_undo_59 at h
  refine lv_iload_n hx hb dX5_undo_59 rfl (lv_at hl 1 rfl) ?_
  refine lv_bipush (v := (6 : Int32)) hx hb dX5_undo_60 (by decide) ?_
  refine lv_icmp_ge (tgt := 91) hx hb dX5_undo_62 (by decide) (fun c1 => ?_) (fun c1 => ?_)
  · replace h := ite_t h c1
    refine lv_aload_n hx hb dX5_undo_91 rfl (lv_at hl 0 rfl) ?_
    refine lv_aload_n hx hb dX5_undo_92 rfl (lv_at hl 0 rfl) ?_
    refine gL_X5_pasts C w q7_16 dX5_undo_93 ?_
    obtain ⟨vv5, M3, J4, hv2, h⟩ := bd3_of h
    refine x_cVi (As := [.int (M 0 8)]) (rest := []) C w (v8 (by decide)) cel_8 rfl (mtX5_tells  hv2) q7_21 q7_22 q7_23 q1_5 q8_0 ydX5_tells ⟨rfl, rfl⟩ ⟨by decide, by decide⟩ ⟨Nat.zero_le _, Nat.zero_le _⟩ hl.1 (Nat.le_of_ble_eq_true rfl) rfl dX5_undo_96 (fun H locs w => ?_)
    obtain ⟨e1, e2, e3⟩ := rt3 h
    exact x_ri C w e1 (by rw [e2]) (by rw [e3]) dX5_undo_99
  · replace h := ite_f h c1
    refine lv_aload_n hx hb dX5_undo_65 rfl (lv_at hl 0 rfl) ?_
    refine gR_X5_b C w q3_17 dX5_undo_66 ?_
    refine lv_iload_n hx hb dX5_undo_69 rfl (lv_at hl 1 rfl) ?_
    refine lv_aload_n hx hb dX5_undo_70 rfl (lv_at hl 0 rfl) ?_
    refine gR_X5_pastB C w q3_19 dX5_undo_71 ?_
    refine lv_bipush (v := (6 : Int32)) hx hb dX5_undo_74 (by decide) ?_
    refine lv_aload_n hx hb dX5_undo_76 rfl (lv_at hl 0 rfl) ?_
    refine gL_X5_pasts C w q7_16 dX5_undo_77 ?_
    refine lv_imul hx hb dX5_undo_80 ?_
    refine lv_iload_n hx hb dX5_undo_81 rfl (lv_at hl 1 rfl) ?_
    refine lv_iadd hx hb dX5_undo_82 ?_
    obtain ⟨ki6, h⟩ := chk_of h
    refine x_aldJ_L C w (v8 (by decide)) c8_4 ki6 rfl dX5_undo_83 ?_
    obtain ⟨ki7, h⟩ := chk_of h
    refine x_astJ_L C w (v8 (by decide)) c8_2 ki7 rfl dX5_undo_84 (fun J8 H locs e9 w => ?_)
    replace h := bnd_of h e9
    refine lv_iinc (v := (a1 + (1 : Int32))) (lv' := [(1, .int (a1 + (1 : Int32))), (0, .ref (ad E 8 0))]) hx hb dX5_undo_85 hl (k := 1) rfl (congrArg (HAdd.hAdd _) (by decide)) (by decide) rfl (fun ls hl => ?_)
    refine lv_goto (tgt := 59) hx hb dX5_undo_88 (by decide) ?_
    exact hk59 _ _ _ _ _ _ h w (lv_sub hl [1, 0] rfl)
theorem TX5_undo_59 {rr : Int32} {MR : M2} {JR : J2}   (C : Cx E A p s m args meth c wdX5_undo cX5_undo 2 (some .int) RX5)   : ∀ (n : Nat) (a1 : Int32) (M : M2) (J : J2)  (ls : Array Slot) (H : Heap) (locs : List Loc), fbX5_undo_59 F  n a1 M J = some (rr, MR, JR) → Wd E A s (sg G 8 M) (sg K 8 J) H locs → lv_has ls 2 [(0, .ref (ad E 8 0)), (1, .int a1)] → W p l e rmX5_undo s m args below meth c H locs 0 0 (QI E A below args s rr (sg G 8 MR) (sg K 8 JR)) (F0 m 59 ls []) := by
  intro n
  induction n with
  | zero => intro a1 M J  ls H locs h; exact absurd (show none = _ from h) (fun z => nomatch z)
  | succ n ih => intro a1 M J  ls H locs h w hl; exact SX5_undo_59 (F := F) C   ih a1 M J  h w hl
noncomputable def fsX5_undo_25 (F : Nat)   (k25 : Int32 → M2 → J2 → Option (Int32 × M2 × J2)) : Int32 → M2 → J2 → Option (Int32 × M2 × J2) := fun a1 M J => (if (61 : Int32) ≤ a1 then (fbX5_undo_59 F F (0 : Int32) M J) else (chk (inb (((61 : Int32) * (M 0 8)) + a1) 244) (chk (inb a1 61) (bnd (up2 M 1 (a1.toNatClampNeg) (M 3 (((61 : Int32) * (M 0 8)) + a1).toNatClampNeg)) (fun M4 => k25 (a1 + (1 : Int32)) M4 J)))))
noncomputable def fbX5_undo_25 (F : Nat)   (n : Nat) : Int32 → M2 → J2 → Option (Int32 × M2 × J2) := itr (fsX5_undo_25 F ) (fun _ _ _ => none) n
set_option maxRecDepth 20000 in
set_option maxHeartbeats 1000000 in
theorem SX5_undo_25 {rr : Int32} {MR : M2} {JR : J2}   {k25 : Int32 → M2 → J2 → Option (Int32 × M2 × J2)} (C : Cx E A p s m args meth c wdX5_undo cX5_undo 2 (some .int) RX5)   (hk25 : ∀ (a1 : Int32) (M : M2) (J : J2)  (ls : Array Slot) (H : Heap) (locs : List Loc), k25 a1 M J = some (rr, MR, JR) → Wd E A s (sg G 8 M) (sg K 8 J) H locs → lv_has ls 2 [(0, .ref (ad E 8 0)), (1, .int a1)] → W p l e rmX5_undo s m args below meth c H locs 0 0 (QI E A below args s rr (sg G 8 MR) (sg K 8 JR)) (F0 m 25 ls [])) (a1 : Int32) (M : M2) (J : J2)  (h : fsX5_undo_25 F  k25 a1 M J = some (rr, MR, JR)) (w : Wd E A s (sg G 8 M) (sg K 8 J) H locs) (hl : lv_has ls 2 [(0, .ref (ad E 8 0)), (1, .int a1)]) : W p l e rmX5_undo s m args below meth c H locs 0 0 (QI E A below args s rr (sg G 8 MR) (sg K 8 JR)) (F0 m 25 ls []) := by
  obtain ⟨hx, hb, hr, hml, hown, hts, hlocks, hKK, hA1, hA2⟩ := id C
  unfold fsX5_undo_25 at h
  refine lv_iload_n hx hb dX5_undo_25 rfl (lv_at hl 1 rfl) ?_
  refine lv_bipush (v := (61 : Int32)) hx hb dX5_undo_26 (by decide) ?_
  refine lv_icmp_ge (tgt := 57) hx hb dX5_undo_28 (by decide) (fun c1 => ?_) (fun c1 => ?_)
  · replace h := ite_t h c1
    refine lv_iconst (v := (0 : Int32)) hx hb dX5_undo_57 (by decide) ?_
    refine lv_istore_n (lv' := [(1, .int (0 : Int32)), (0, .ref (ad E 8 0))]) hx hb dX5_undo_58 rfl hl (by decide) rfl (fun ls hl => ?_)
    exact TX5_undo_59 C   _ _ _ _ _ _ _ h w (lv_sub hl [1, 0] rfl)
  · replace h := ite_f h c1
    refine lv_aload_n hx hb dX5_undo_31 rfl (lv_at hl 0 rfl) ?_
    refine gR_X5_s C w q3_16 dX5_undo_32 ?_
    refine lv_iload_n hx hb dX5_undo_35 rfl (lv_at hl 1 rfl) ?_
    refine lv_aload_n hx hb dX5_undo_36 rfl (lv_at hl 0 rfl) ?_
    refine gR_X5_past C w q3_18 dX5_undo_37 ?_
    refine lv_bipush (v := (61 : Int32)) hx hb dX5_undo_40 (by decide) ?_
    refine lv_aload_n hx hb dX5_undo_42 rfl (lv_at hl 0 rfl) ?_
    refine gL_X5_pasts C w q7_16 dX5_undo_43 ?_
    refine lv_imul hx hb dX5_undo_46 ?_
    refine lv_iload_n hx hb dX5_undo_47 rfl (lv_at hl 1 rfl) ?_
    refine lv_iadd hx hb dX5_undo_48 ?_
    obtain ⟨ki2, h⟩ := chk_of h
    refine x_aldI_L C w (v8 (by decide)) c8_3 ki2 rfl dX5_undo_49 ?_
    obtain ⟨ki3, h⟩ := chk_of h
    refine x_astI_L C w (v8 (by decide)) c8_1 ki3 rfl dX5_undo_50 (fun M4 H locs e5 w => ?_)
    replace h := bnd_of h e5
    refine lv_iinc (v := (a1 + (1 : Int32))) (lv' := [(1, .int (a1 + (1 : Int32))), (0, .ref (ad E 8 0))]) hx hb dX5_undo_51 hl (k := 1) rfl (congrArg (HAdd.hAdd _) (by decide)) (by decide) rfl (fun ls hl => ?_)
    refine lv_goto (tgt := 25) hx hb dX5_undo_54 (by decide) ?_
    exact hk25 _ _ _ _ _ _ h w (lv_sub hl [1, 0] rfl)
theorem TX5_undo_25 {rr : Int32} {MR : M2} {JR : J2}   (C : Cx E A p s m args meth c wdX5_undo cX5_undo 2 (some .int) RX5)   : ∀ (n : Nat) (a1 : Int32) (M : M2) (J : J2)  (ls : Array Slot) (H : Heap) (locs : List Loc), fbX5_undo_25 F  n a1 M J = some (rr, MR, JR) → Wd E A s (sg G 8 M) (sg K 8 J) H locs → lv_has ls 2 [(0, .ref (ad E 8 0)), (1, .int a1)] → W p l e rmX5_undo s m args below meth c H locs 0 0 (QI E A below args s rr (sg G 8 MR) (sg K 8 JR)) (F0 m 25 ls []) := by
  intro n
  induction n with
  | zero => intro a1 M J  ls H locs h; exact absurd (show none = _ from h) (fun z => nomatch z)
  | succ n ih => intro a1 M J  ls H locs h w hl; exact SX5_undo_25 (F := F) C   ih a1 M J  h w hl
noncomputable def fX5_undo (F : Nat)   (M : M2) (J : J2) : Option (Int32 × M2 × J2) := (if ¬ (M 0 8) = 0 then (bnd (up2 M 0 8 ((M 0 8) - (1 : Int32))) (fun M2 => fbX5_undo_25 F F (0 : Int32) M2 J)) else (bd3 (fX5_fails (1 : Int32) M J) (fun vv7 M5 J6 => some (vv7, M5, J6))))
set_option maxRecDepth 20000 in
set_option maxHeartbeats 1000000 in
theorem TX5_undo {rr : Int32} {MR : M2} {JR : J2}  (C : Cx E A p s m args meth c wdX5_undo cX5_undo 2 (some .int) RX5)    (h : fX5_undo F  M J = some (rr, MR, JR)) (w : Wd E A s (sg G 8 M) (sg K 8 J) H locs) (hl : lv_has ls 2 [(0, .ref (ad E 8 0))]) : W p l e rmX5_undo s m args below meth c H locs 0 0 (QI E A below args s rr (sg G 8 MR) (sg K 8 JR)) (F0 m 0 ls []) := by
  obtain ⟨hx, hb, hr, hml, hown, hts, hlocks, hKK, hA1, hA2⟩ := id C
  unfold fX5_undo at h
  refine lv_aload_n hx hb dX5_undo_0 rfl (lv_at hl 0 rfl) ?_
  refine gL_X5_pasts C w q7_16 dX5_undo_1 ?_
  refine lv_if_ne (tgt := 13) hx hb dX5_undo_4 (by decide) (fun c1 => ?_) (fun c1 => ?_)
  · replace h := ite_t h c1
    refine lv_aload_n hx hb dX5_undo_13 rfl (lv_at hl 0 rfl) ?_
    refine lv_dup hx hb dX5_undo_14 rfl ?_
    refine gL_X5_pasts C w q7_16 dX5_undo_15 ?_
    refine lv_iconst (v := (1 : Int32)) hx hb dX5_undo_18 (by decide) ?_
    refine lv_isub hx hb dX5_undo_19 ?_
    refine pL_X5_pasts C w q7_16 dX5_undo_20 (fun M2 H locs e3 w => ?_)
    replace h := bnd_of h e3
    refine lv_iconst (v := (0 : Int32)) hx hb dX5_undo_23 (by decide) ?_
    refine lv_istore_n (lv' := [(1, .int (0 : Int32)), (0, .ref (ad E 8 0))]) hx hb dX5_undo_24 rfl hl (by decide) rfl (fun ls hl => ?_)
    exact TX5_undo_25 C   _ _ _ _ _ _ _ h w (lv_sub hl [1, 0] rfl)
  · replace h := ite_f h (fun z => z c1)
    refine lv_aload_n hx hb dX5_undo_7 rfl (lv_at hl 0 rfl) ?_
    refine lv_iconst (v := (1 : Int32)) hx hb dX5_undo_8 (by decide) ?_
    obtain ⟨vv7, M5, J6, hv4, h⟩ := bd3_of h
    refine x_cVi (As := [.int (1 : Int32)]) (rest := []) C w (v8 (by decide)) cel_8 rfl (mtX5_fails  hv4) q7_3 q7_4 q7_5 q1_5 q7_6 ydX5_fails ⟨rfl, rfl⟩ ⟨by decide, by decide⟩ ⟨Nat.zero_le _, Nat.zero_le _⟩ hl.1 (Nat.le_of_ble_eq_true rfl) rfl dX5_undo_9 (fun H locs w => ?_)
    obtain ⟨e1, e2, e3⟩ := rt3 h
    exact x_ri C w e1 (by rw [e2]) (by rw [e3]) dX5_undo_12
theorem mtX5_undo {rr : Int32} {MR : M2} {JR : J2}     (h : fX5_undo F  M J = some (rr, MR, JR)) : MtI l yX5_undo wdX5_undo rmX5_undo E [.ref (ad E 8 0)] (sg G 8 M) (sg K 8 J) rr (sg G 8 MR) (sg K 8 JR) := by
  intro sz
  refine Met.ofW (cc := cX5_undo) (maxL := 2) (ret := (some .int)) (by decide) rfl ?_
  intro p e s m args below meth c s₁ B hml hv
  obtain ⟨rfl, C, w⟩ := Cx.of (own := RX5) B rfl hml hv
  have hl := lv_entry ([.ref (ad E 8 0)]) (n := 2) (by first | exact Nat.le_of_ble_eq_true rfl)
  rw [lg_entry_eq]
  generalize (lg_sl ([.ref (ad E 8 0)]) ++ List.replicate (2 - (lg_sl ([.ref (ad E 8 0)])).length) Slot.unset).toArray = ls at hl ⊢
  exact TX5_undo C   h w hl
theorem ydX5_undo : yX5_undo.cls = RX5 ∧ yX5_undo.cls ≠ "java/lang/invoke/MethodHandle" ∧ yX5_undo.cls ≠ "java/lang/invoke/VarHandle" ∧ (parseMethodDescriptor yX5_undo.desc).map (fun d => d.parameters.length) = some 0 := by decide +kernel
/-! X5.digest()J -/
abbrev rmX5_digest : Room := { frames := 4, cells := 0, slots := 0, locals := 79 }
abbrev wdX5_digest : Cond := Cond.code yX5_digest cX5_digest 5 (some .long)
noncomputable def fsX5_digest_176 (F : Nat)   (k176 : Int64 → Int32 → M2 → J2 → Option (Int64 × M2 × J2)) : Int64 → Int32 → M2 → J2 → Option (Int64 × M2 × J2) := fun a1 a3 M J => (if a3 < 0 then (some ((((31 : Int64) * a1) + (M 0 8).toInt64), M, J)) else (chk (inb ((15 : Int32) + a3) 61) (k176 (((31 : Int64) * a1) + (M 1 ((15 : Int32) + a3).toNatClampNeg).toInt64) (a3 + (-1 : Int32)) M J)))
noncomputable def fbX5_digest_176 (F : Nat)   (n : Nat) : Int64 → Int32 → M2 → J2 → Option (Int64 × M2 × J2) := itr (fsX5_digest_176 F ) (fun _ _ _ _ => none) n
set_option maxRecDepth 20000 in
set_option maxHeartbeats 1000000 in
theorem SX5_digest_176 {rr : Int64} {MR : M2} {JR : J2}   {k176 : Int64 → Int32 → M2 → J2 → Option (Int64 × M2 × J2)} (C : Cx E A p s m args meth c wdX5_digest cX5_digest 5 (some .long) RX5)   (hk176 : ∀ (a1 : Int64) (a3 : Int32) (M : M2) (J : J2)  (ls : Array Slot) (H : Heap) (locs : List Loc), k176 a1 a3 M J = some (rr, MR, JR) → Wd E A s (sg G 8 M) (sg K 8 J) H locs → lv_has ls 5 [(0, .ref (ad E 8 0)), (1, .long a1), (3, .int a3)] → W p l e rmX5_digest s m args below meth c H locs 0 0 (QL E A below args s rr (sg G 8 MR) (sg K 8 JR)) (F0 m 176 ls [])) (a1 : Int64) (a3 : Int32) (M : M2) (J : J2)  (h : fsX5_digest_176 F  k176 a1 a3 M J = some (rr, MR, JR)) (w : Wd E A s (sg G 8 M) (sg K 8 J) H locs) (hl : lv_has ls 5 [(0, .ref (ad E 8 0)), (1, .long a1), (3, .int a3)]) : W p l e rmX5_digest s m args below meth c H locs 0 0 (QL E A below args s rr (sg G 8 MR) (sg K 8 JR)) (F0 m 176 ls []) := by
  obtain ⟨hx, hb, hr, hml, hown, hts, hlocks, hKK, hA1, hA2⟩ := id C
  unfold fsX5_digest_176 at h
  refine lv_iload_n hx hb dX5_digest_176 rfl (lv_at hl 2 rfl) ?_
  refine lv_if_lt (tgt := 203) hx hb dX5_digest_177 (by decide) (fun c1 => ?_) (fun c1 => ?_)
  · replace h := ite_t h c1
    refine lv_ldc2 hx hb hown (x_hts C q34_3) dX5_digest_203 ?_
    refine lv_lload_n hx hb dX5_digest_206 rfl (lv_at hl 1 rfl) ?_
    refine lv_lmul hx hb dX5_digest_207 ?_
    refine lv_aload_n hx hb dX5_digest_208 rfl (lv_at hl 0 rfl) ?_
    refine gL_X5_pasts C w q7_16 dX5_digest_209 ?_
    refine lv_i2l hx hb dX5_digest_212 rfl ?_
    refine lv_ladd hx hb dX5_digest_213 ?_
    obtain ⟨e1, e2, e3⟩ := rt3 h
    exact x_rl C w e1 (by rw [e2]) (by rw [e3]) dX5_digest_214
  · replace h := ite_f h c1
    refine lv_ldc2 hx hb hown (x_hts C q34_3) dX5_digest_180 ?_
    refine lv_lload_n hx hb dX5_digest_183 rfl (lv_at hl 1 rfl) ?_
    refine lv_lmul hx hb dX5_digest_184 ?_
    refine lv_aload_n hx hb dX5_digest_185 rfl (lv_at hl 0 rfl) ?_
    refine gR_X5_s C w q3_16 dX5_digest_186 ?_
    refine lv_bipush (v := (15 : Int32)) hx hb dX5_digest_189 (by decide) ?_
    refine lv_iload_n hx hb dX5_digest_191 rfl (lv_at hl 2 rfl) ?_
    refine lv_iadd hx hb dX5_digest_192 ?_
    obtain ⟨ki2, h⟩ := chk_of h
    refine x_aldI_L C w (v8 (by decide)) c8_1 ki2 rfl dX5_digest_193 ?_
    refine lv_i2l hx hb dX5_digest_194 rfl ?_
    refine lv_ladd hx hb dX5_digest_195 ?_
    refine lv_lstore_n (lv' := [(1, .long (((31 : Int64) * a1) + (M 1 ((15 : Int32) + a3).toNatClampNeg).toInt64)), (0, .ref (ad E 8 0)), (3, .int a3)]) hx hb dX5_digest_196 rfl hl (by decide) rfl (fun ls hl => ?_)
    refine lv_iinc (v := (a3 + (-1 : Int32))) (lv' := [(3, .int (a3 + (-1 : Int32))), (1, .long (((31 : Int64) * a1) + (M 1 ((15 : Int32) + a3).toNatClampNeg).toInt64)), (0, .ref (ad E 8 0))]) hx hb dX5_digest_197 hl (k := 2) rfl (congrArg (HAdd.hAdd _) (by decide)) (by decide) rfl (fun ls hl => ?_)
    refine lv_goto (tgt := 176) hx hb dX5_digest_200 (by decide) ?_
    exact hk176 _ _ _ _ _ _ _ h w (lv_sub hl [2, 1, 0] rfl)
theorem TX5_digest_176 {rr : Int64} {MR : M2} {JR : J2}   (C : Cx E A p s m args meth c wdX5_digest cX5_digest 5 (some .long) RX5)   : ∀ (n : Nat) (a1 : Int64) (a3 : Int32) (M : M2) (J : J2)  (ls : Array Slot) (H : Heap) (locs : List Loc), fbX5_digest_176 F  n a1 a3 M J = some (rr, MR, JR) → Wd E A s (sg G 8 M) (sg K 8 J) H locs → lv_has ls 5 [(0, .ref (ad E 8 0)), (1, .long a1), (3, .int a3)] → W p l e rmX5_digest s m args below meth c H locs 0 0 (QL E A below args s rr (sg G 8 MR) (sg K 8 JR)) (F0 m 176 ls []) := by
  intro n
  induction n with
  | zero => intro a1 a3 M J  ls H locs h; exact absurd (show none = _ from h) (fun z => nomatch z)
  | succ n ih => intro a1 a3 M J  ls H locs h w hl; exact SX5_digest_176 (F := F) C   ih a1 a3 M J  h w hl
noncomputable def fsX5_digest_115 (F : Nat) (k101 : Int64 → Int32 → M2 → J2 → Option (Int64 × M2 × J2))  (k115 : Int64 → Int32 → Int32 → M2 → J2 → Option (Int64 × M2 × J2)) : Int64 → Int32 → Int32 → M2 → J2 → Option (Int64 × M2 × J2) := fun a1 a3 a4 M J => (if (10 : Int32) ≤ a4 then ((fX5_pressure M J).bind (fun vv3 => (fX5_nextOf F M J a3 vv3).bind (fun vv5 => k101 (((31 : Int64) * a1) + vv5.toInt64) (a3 + (1 : Int32)) M J))) else ((fX5_told F M J a3 a4).bind (fun vv7 => k115 (((31 : Int64) * a1) + vv7.toInt64) a3 (a4 + (1 : Int32)) M J)))
noncomputable def fbX5_digest_115 (F : Nat) (k101 : Int64 → Int32 → M2 → J2 → Option (Int64 × M2 × J2))  (n : Nat) : Int64 → Int32 → Int32 → M2 → J2 → Option (Int64 × M2 × J2) := itr (fsX5_digest_115 F k101) (fun _ _ _ _ _ => none) n
set_option maxRecDepth 20000 in
set_option maxHeartbeats 1000000 in
theorem SX5_digest_115 {rr : Int64} {MR : M2} {JR : J2}  {k101 : Int64 → Int32 → M2 → J2 → Option (Int64 × M2 × J2)} {k115 : Int64 → Int32 → Int32 → M2 → J2 → Option (Int64 × M2 × J2)} (C : Cx E A p s m args meth c wdX5_digest cX5_digest 5 (some .long) RX5)  (hk101 : ∀ (a1 : Int64) (a3 : Int32) (M : M2) (J : J2)  (ls : Array Slot) (H : Heap) (locs : List Loc), k101 a1 a3 M J = some (rr, MR, JR) → Wd E A s (sg G 8 M) (sg K 8 J) H locs → lv_has ls 5 [(0, .ref (ad E 8 0)), (1, .long a1), (3, .int a3)] → W p l e rmX5_digest s m args below meth c H locs 0 0 (QL E A below args s rr (sg G 8 MR) (sg K 8 JR)) (F0 m 101 ls [])) (hk115 : ∀ (a1 : Int64) (a3 : Int32) (a4 : Int32) (M : M2) (J : J2)  (ls : Array Slot) (H : Heap) (locs : List Loc), k115 a1 a3 a4 M J = some (rr, MR, JR) → Wd E A s (sg G 8 M) (sg K 8 J) H locs → lv_has ls 5 [(0, .ref (ad E 8 0)), (1, .long a1), (3, .int a3), (4, .int a4)] → W p l e rmX5_digest s m args below meth c H locs 0 0 (QL E A below args s rr (sg G 8 MR) (sg K 8 JR)) (F0 m 115 ls [])) (a1 : Int64) (a3 : Int32) (a4 : Int32) (M : M2) (J : J2)  (h : fsX5_digest_115 F k101 k115 a1 a3 a4 M J = some (rr, MR, JR)) (w : Wd E A s (sg G 8 M) (sg K 8 J) H locs) (hl : lv_has ls 5 [(0, .ref (ad E 8 0)), (1, .long a1), (3, .int a3), (4, .int a4)]) : W p l e rmX5_digest s m args below meth c H locs 0 0 (QL E A below args s rr (sg G 8 MR) (sg K 8 JR)) (F0 m 115 ls []) := by
  obtain ⟨hx, hb, hr, hml, hown, hts, hlocks, hKK, hA1, hA2⟩ := id C
  unfold fsX5_digest_115 at h
  refine lv_iload hx hb dX5_digest_115 (lv_at hl 3 rfl) ?_
  refine lv_bipush (v := (10 : Int32)) hx hb dX5_digest_117 (by decide) ?_
  refine lv_icmp_ge (tgt := 143) hx hb dX5_digest_119 (by decide) (fun c1 => ?_) (fun c1 => ?_)
  · replace h := ite_t h c1
    refine lv_ldc2 hx hb hown (x_hts C q34_3) dX5_digest_143 ?_
    refine lv_lload_n hx hb dX5_digest_146 rfl (lv_at hl 1 rfl) ?_
    refine lv_lmul hx hb dX5_digest_147 ?_
    refine lv_aload_n hx hb dX5_digest_148 rfl (lv_at hl 0 rfl) ?_
    refine lv_iload_n hx hb dX5_digest_149 rfl (lv_at hl 2 rfl) ?_
    refine lv_aload_n hx hb dX5_digest_150 rfl (lv_at hl 0 rfl) ?_
    obtain ⟨vv3, hv2, h⟩ := bind_of h
    refine x_cVi (As := []) (rest := [.int a3, .ref (ad E 8 0), .long ((31 : Int64) * a1)]) C w (v8 (by decide)) cel_8 rfl (mtX5_pressure  hv2) q7_17 q7_18 q7_19 q1_5 q7_20 ydX5_pressure ⟨rfl, rfl⟩ ⟨by decide, by decide⟩ ⟨Nat.zero_le _, Nat.zero_le _⟩ hl.1 (Nat.le_of_ble_eq_true rfl) rfl dX5_digest_151 (fun H locs w => ?_)
    obtain ⟨vv5, hv4, h⟩ := bind_of h
    refine x_cVi (As := [.int a3, .int vv3]) (rest := [.long ((31 : Int64) * a1)]) C w (v8 (by decide)) cel_8 rfl (mtX5_nextOf  hv4) q17_14 q17_15 q17_16 q1_5 q17_17 ydX5_nextOf ⟨rfl, rfl⟩ ⟨by decide, by decide⟩ ⟨Nat.zero_le _, Nat.zero_le _⟩ hl.1 (Nat.le_of_ble_eq_true rfl) rfl dX5_digest_154 (fun H locs w => ?_)
    refine lv_i2l hx hb dX5_digest_157 rfl ?_
    refine lv_ladd hx hb dX5_digest_158 ?_
    refine lv_lstore_n (lv' := [(1, .long (((31 : Int64) * a1) + vv5.toInt64)), (0, .ref (ad E 8 0)), (3, .int a3), (4, .int a4)]) hx hb dX5_digest_159 rfl hl (by decide) rfl (fun ls hl => ?_)
    refine lv_iinc (v := (a3 + (1 : Int32))) (lv' := [(3, .int (a3 + (1 : Int32))), (1, .long (((31 : Int64) * a1) + vv5.toInt64)), (0, .ref (ad E 8 0)), (4, .int a4)]) hx hb dX5_digest_160 hl (k := 2) rfl (congrArg (HAdd.hAdd _) (by decide)) (by decide) rfl (fun ls hl => ?_)
    refine lv_goto (tgt := 101) hx hb dX5_digest_163 (by decide) ?_
    exact hk101 _ _ _ _ _ _ _ h w (lv_sub hl [2, 1, 0] rfl)
  · replace h := ite_f h c1
    refine lv_ldc2 hx hb hown (x_hts C q34_3) dX5_digest_122 ?_
    refine lv_lload_n hx hb dX5_digest_125 rfl (lv_at hl 1 rfl) ?_
    refine lv_lmul hx hb dX5_digest_126 ?_
    refine lv_aload_n hx hb dX5_digest_127 rfl (lv_at hl 0 rfl) ?_
    refine lv_iload_n hx hb dX5_digest_128 rfl (lv_at hl 2 rfl) ?_
    refine lv_iload hx hb dX5_digest_129 (lv_at hl 3 rfl) ?_
    obtain ⟨vv7, hv6, h⟩ := bind_of h
    refine x_cVi (As := [.int a3, .int a4]) (rest := [.long ((31 : Int64) * a1)]) C w (v8 (by decide)) cel_8 rfl (mtX5_told  hv6) q19_18 q19_19 q19_20 q1_5 q19_21 ydX5_told ⟨rfl, rfl⟩ ⟨by decide, by decide⟩ ⟨Nat.zero_le _, Nat.zero_le _⟩ hl.1 (Nat.le_of_ble_eq_true rfl) rfl dX5_digest_131 (fun H locs w => ?_)
    refine lv_i2l hx hb dX5_digest_134 rfl ?_
    refine lv_ladd hx hb dX5_digest_135 ?_
    refine lv_lstore_n (lv' := [(1, .long (((31 : Int64) * a1) + vv7.toInt64)), (0, .ref (ad E 8 0)), (3, .int a3), (4, .int a4)]) hx hb dX5_digest_136 rfl hl (by decide) rfl (fun ls hl => ?_)
    refine lv_iinc (v := (a4 + (1 : Int32))) (lv' := [(4, .int (a4 + (1 : Int32))), (1, .long (((31 : Int64) * a1) + vv7.toInt64)), (0, .ref (ad E 8 0)), (3, .int a3)]) hx hb dX5_digest_137 hl (k := 3) rfl (congrArg (HAdd.hAdd _) (by decide)) (by decide) rfl (fun ls hl => ?_)
    refine lv_goto (tgt := 115) hx hb dX5_digest_140 (by decide) ?_
    exact hk115 _ _ _ _ _ _ _ _ h w (lv_sub hl [2, 1, 3, 0] rfl)
theorem TX5_digest_115 {rr : Int64} {MR : M2} {JR : J2}  {k101 : Int64 → Int32 → M2 → J2 → Option (Int64 × M2 × J2)} (C : Cx E A p s m args meth c wdX5_digest cX5_digest 5 (some .long) RX5)  (hk101 : ∀ (a1 : Int64) (a3 : Int32) (M : M2) (J : J2)  (ls : Array Slot) (H : Heap) (locs : List Loc), k101 a1 a3 M J = some (rr, MR, JR) → Wd E A s (sg G 8 M) (sg K 8 J) H locs → lv_has ls 5 [(0, .ref (ad E 8 0)), (1, .long a1), (3, .int a3)] → W p l e rmX5_digest s m args below meth c H locs 0 0 (QL E A below args s rr (sg G 8 MR) (sg K 8 JR)) (F0 m 101 ls [])) : ∀ (n : Nat) (a1 : Int64) (a3 : Int32) (a4 : Int32) (M : M2) (J : J2)  (ls : Array Slot) (H : Heap) (locs : List Loc), fbX5_digest_115 F k101 n a1 a3 a4 M J = some (rr, MR, JR) → Wd E A s (sg G 8 M) (sg K 8 J) H locs → lv_has ls 5 [(0, .ref (ad E 8 0)), (1, .long a1), (3, .int a3), (4, .int a4)] → W p l e rmX5_digest s m args below meth c H locs 0 0 (QL E A below args s rr (sg G 8 MR) (sg K 8 JR)) (F0 m 115 ls []) := by
  intro n
  induction n with
  | zero => intro a1 a3 a4 M J  ls H locs h; exact absurd (show none = _ from h) (fun z => nomatch z)
  | succ n ih => intro a1 a3 a4 M J  ls H locs h w hl; exact SX5_digest_115 (F := F) C  hk101 ih a1 a3 a4 M J  h w hl
noncomputable def fsX5_digest_101 (F : Nat)   (k101 : Int64 → Int32 → M2 → J2 → Option (Int64 × M2 × J2)) : Int64 → Int32 → M2 → J2 → Option (Int64 × M2 × J2) := fun a1 a3 M J => (if (M 1 10) ≤ a3 then (fbX5_digest_176 F F a1 ((M 1 14) - (1 : Int32)) M J) else (fbX5_digest_115 F k101 F a1 a3 (0 : Int32) M J))
noncomputable def fbX5_digest_101 (F : Nat)   (n : Nat) : Int64 → Int32 → M2 → J2 → Option (Int64 × M2 × J2) := itr (fsX5_digest_101 F ) (fun _ _ _ _ => none) n
set_option maxRecDepth 20000 in
set_option maxHeartbeats 1000000 in
theorem SX5_digest_101 {rr : Int64} {MR : M2} {JR : J2}   {k101 : Int64 → Int32 → M2 → J2 → Option (Int64 × M2 × J2)} (C : Cx E A p s m args meth c wdX5_digest cX5_digest 5 (some .long) RX5)   (hk101 : ∀ (a1 : Int64) (a3 : Int32) (M : M2) (J : J2)  (ls : Array Slot) (H : Heap) (locs : List Loc), k101 a1 a3 M J = some (rr, MR, JR) → Wd E A s (sg G 8 M) (sg K 8 J) H locs → lv_has ls 5 [(0, .ref (ad E 8 0)), (1, .long a1), (3, .int a3)] → W p l e rmX5_digest s m args below meth c H locs 0 0 (QL E A below args s rr (sg G 8 MR) (sg K 8 JR)) (F0 m 101 ls [])) (a1 : Int64) (a3 : Int32) (M : M2) (J : J2)  (h : fsX5_digest_101 F  k101 a1 a3 M J = some (rr, MR, JR)) (w : Wd E A s (sg G 8 M) (sg K 8 J) H locs) (hl : lv_has ls 5 [(0, .ref (ad E 8 0)), (1, .long a1), (3, .int a3)]) : W p l e rmX5_digest s m args below meth c H locs 0 0 (QL E A below args s rr (sg G 8 MR) (sg K 8 JR)) (F0 m 101 ls []) := by
  obtain ⟨hx, hb, hr, hml, hown, hts, hlocks, hKK, hA1, hA2⟩ := id C
  unfold fsX5_digest_101 at h
  refine lv_iload_n hx hb dX5_digest_101 rfl (lv_at hl 2 rfl) ?_
  refine lv_aload_n hx hb dX5_digest_102 rfl (lv_at hl 0 rfl) ?_
  refine gR_X5_s C w q3_16 dX5_digest_103 ?_
  refine lv_bipush (v := (10 : Int32)) hx hb dX5_digest_106 (by decide) ?_
  refine x_aldI_L C w (v8 (by decide)) c8_1 (inb_k (k := 10) (by decide) (by decide)) cl_10 dX5_digest_108 ?_
  refine lv_icmp_ge (tgt := 166) hx hb dX5_digest_109 (by decide) (fun c1 => ?_) (fun c1 => ?_)
  · replace h := ite_t h c1
    refine lv_aload_n hx hb dX5_digest_166 rfl (lv_at hl 0 rfl) ?_
    refine gR_X5_s C w q3_16 dX5_digest_167 ?_
    refine lv_bipush (v := (14 : Int32)) hx hb dX5_digest_170 (by decide) ?_
    refine x_aldI_L C w (v8 (by decide)) c8_1 (inb_k (k := 14) (by decide) (by decide)) cl_14 dX5_digest_172 ?_
    refine lv_iconst (v := (1 : Int32)) hx hb dX5_digest_173 (by decide) ?_
    refine lv_isub hx hb dX5_digest_174 ?_
    refine lv_istore_n (lv' := [(3, .int ((M 1 14) - (1 : Int32))), (0, .ref (ad E 8 0)), (1, .long a1)]) hx hb dX5_digest_175 rfl hl (by decide) rfl (fun ls hl => ?_)
    exact TX5_digest_176 C   _ _ _ _ _ _ _ _ h w (lv_sub hl [1, 2, 0] rfl)
  · replace h := ite_f h c1
    refine lv_iconst (v := (0 : Int32)) hx hb dX5_digest_112 (by decide) ?_
    refine lv_istore (lv' := [(4, .int (0 : Int32)), (0, .ref (ad E 8 0)), (1, .long a1), (3, .int a3)]) hx hb dX5_digest_113 hl (by decide) rfl (fun ls hl => ?_)
    exact TX5_digest_115 C  hk101 _ _ _ _ _ _ _ _ _ h w (lv_sub hl [1, 2, 3, 0] rfl)
theorem TX5_digest_101 {rr : Int64} {MR : M2} {JR : J2}   (C : Cx E A p s m args meth c wdX5_digest cX5_digest 5 (some .long) RX5)   : ∀ (n : Nat) (a1 : Int64) (a3 : Int32) (M : M2) (J : J2)  (ls : Array Slot) (H : Heap) (locs : List Loc), fbX5_digest_101 F  n a1 a3 M J = some (rr, MR, JR) → Wd E A s (sg G 8 M) (sg K 8 J) H locs → lv_has ls 5 [(0, .ref (ad E 8 0)), (1, .long a1), (3, .int a3)] → W p l e rmX5_digest s m args below meth c H locs 0 0 (QL E A below args s rr (sg G 8 MR) (sg K 8 JR)) (F0 m 101 ls []) := by
  intro n
  induction n with
  | zero => intro a1 a3 M J  ls H locs h; exact absurd (show none = _ from h) (fun z => nomatch z)
  | succ n ih => intro a1 a3 M J  ls H locs h w hl; exact SX5_digest_101 (F := F) C   ih a1 a3 M J  h w hl
noncomputable def fsX5_digest_74 (F : Nat)   (k74 : Int64 → Int32 → M2 → J2 → Option (Int64 × M2 × J2)) : Int64 → Int32 → M2 → J2 → Option (Int64 × M2 × J2) := fun a1 a3 M J => (if (6 : Int32) ≤ a3 then (fbX5_digest_101 F F a1 (0 : Int32) M J) else (chk (inb a3 6) (k74 (((31 : Int64) * a1) + (J 2 a3.toNatClampNeg)) (a3 + (1 : Int32)) M J)))
noncomputable def fbX5_digest_74 (F : Nat)   (n : Nat) : Int64 → Int32 → M2 → J2 → Option (Int64 × M2 × J2) := itr (fsX5_digest_74 F ) (fun _ _ _ _ => none) n
set_option maxRecDepth 20000 in
set_option maxHeartbeats 1000000 in
theorem SX5_digest_74 {rr : Int64} {MR : M2} {JR : J2}   {k74 : Int64 → Int32 → M2 → J2 → Option (Int64 × M2 × J2)} (C : Cx E A p s m args meth c wdX5_digest cX5_digest 5 (some .long) RX5)   (hk74 : ∀ (a1 : Int64) (a3 : Int32) (M : M2) (J : J2)  (ls : Array Slot) (H : Heap) (locs : List Loc), k74 a1 a3 M J = some (rr, MR, JR) → Wd E A s (sg G 8 M) (sg K 8 J) H locs → lv_has ls 5 [(0, .ref (ad E 8 0)), (1, .long a1), (3, .int a3)] → W p l e rmX5_digest s m args below meth c H locs 0 0 (QL E A below args s rr (sg G 8 MR) (sg K 8 JR)) (F0 m 74 ls [])) (a1 : Int64) (a3 : Int32) (M : M2) (J : J2)  (h : fsX5_digest_74 F  k74 a1 a3 M J = some (rr, MR, JR)) (w : Wd E A s (sg G 8 M) (sg K 8 J) H locs) (hl : lv_has ls 5 [(0, .ref (ad E 8 0)), (1, .long a1), (3, .int a3)]) : W p l e rmX5_digest s m args below meth c H locs 0 0 (QL E A below args s rr (sg G 8 MR) (sg K 8 JR)) (F0 m 74 ls []) := by
  obtain ⟨hx, hb, hr, hml, hown, hts, hlocks, hKK, hA1, hA2⟩ := id C
  unfold fsX5_digest_74 at h
  refine lv_iload_n hx hb dX5_digest_74 rfl (lv_at hl 2 rfl) ?_
  refine lv_bipush (v := (6 : Int32)) hx hb dX5_digest_75 (by decide) ?_
  refine lv_icmp_ge (tgt := 99) hx hb dX5_digest_77 (by decide) (fun c1 => ?_) (fun c1 => ?_)
  · replace h := ite_t h c1
    refine lv_iconst (v := (0 : Int32)) hx hb dX5_digest_99 (by decide) ?_
    refine lv_istore_n (lv' := [(3, .int (0 : Int32)), (0, .ref (ad E 8 0)), (1, .long a1)]) hx hb dX5_digest_100 rfl hl (by decide) rfl (fun ls hl => ?_)
    exact TX5_digest_101 C   _ _ _ _ _ _ _ _ h w (lv_sub hl [1, 2, 0] rfl)
  · replace h := ite_f h c1
    refine lv_ldc2 hx hb hown (x_hts C q34_3) dX5_digest_80 ?_
    refine lv_lload_n hx hb dX5_digest_83 rfl (lv_at hl 1 rfl) ?_
    refine lv_lmul hx hb dX5_digest_84 ?_
    refine lv_aload_n hx hb dX5_digest_85 rfl (lv_at hl 0 rfl) ?_
    refine gR_X5_b C w q3_17 dX5_digest_86 ?_
    refine lv_iload_n hx hb dX5_digest_89 rfl (lv_at hl 2 rfl) ?_
    obtain ⟨ki2, h⟩ := chk_of h
    refine x_aldJ_L C w (v8 (by decide)) c8_2 ki2 rfl dX5_digest_90 ?_
    refine lv_ladd hx hb dX5_digest_91 ?_
    refine lv_lstore_n (lv' := [(1, .long (((31 : Int64) * a1) + (J 2 a3.toNatClampNeg))), (0, .ref (ad E 8 0)), (3, .int a3)]) hx hb dX5_digest_92 rfl hl (by decide) rfl (fun ls hl => ?_)
    refine lv_iinc (v := (a3 + (1 : Int32))) (lv' := [(3, .int (a3 + (1 : Int32))), (1, .long (((31 : Int64) * a1) + (J 2 a3.toNatClampNeg))), (0, .ref (ad E 8 0))]) hx hb dX5_digest_93 hl (k := 2) rfl (congrArg (HAdd.hAdd _) (by decide)) (by decide) rfl (fun ls hl => ?_)
    refine lv_goto (tgt := 74) hx hb dX5_digest_96 (by decide) ?_
    exact hk74 _ _ _ _ _ _ _ h w (lv_sub hl [2, 1, 0] rfl)
theorem TX5_digest_74 {rr : Int64} {MR : M2} {JR : J2}   (C : Cx E A p s m args meth c wdX5_digest cX5_digest 5 (some .long) RX5)   : ∀ (n : Nat) (a1 : Int64) (a3 : Int32) (M : M2) (J : J2)  (ls : Array Slot) (H : Heap) (locs : List Loc), fbX5_digest_74 F  n a1 a3 M J = some (rr, MR, JR) → Wd E A s (sg G 8 M) (sg K 8 J) H locs → lv_has ls 5 [(0, .ref (ad E 8 0)), (1, .long a1), (3, .int a3)] → W p l e rmX5_digest s m args below meth c H locs 0 0 (QL E A below args s rr (sg G 8 MR) (sg K 8 JR)) (F0 m 74 ls []) := by
  intro n
  induction n with
  | zero => intro a1 a3 M J  ls H locs h; exact absurd (show none = _ from h) (fun z => nomatch z)
  | succ n ih => intro a1 a3 M J  ls H locs h w hl; exact SX5_digest_74 (F := F) C   ih a1 a3 M J  h w hl
noncomputable def fsX5_digest_44 (F : Nat)   (k44 : Int64 → Int32 → M2 → J2 → Option (Int64 × M2 × J2)) : Int64 → Int32 → M2 → J2 → Option (Int64 × M2 × J2) := fun a1 a3 M J => (if (8 : Int32) ≤ a3 then (fbX5_digest_74 F F a1 (0 : Int32) M J) else (chk (inb ((2 : Int32) + a3) 61) (k44 (((31 : Int64) * a1) + (M 1 ((2 : Int32) + a3).toNatClampNeg).toInt64) (a3 + (1 : Int32)) M J)))
noncomputable def fbX5_digest_44 (F : Nat)   (n : Nat) : Int64 → Int32 → M2 → J2 → Option (Int64 × M2 × J2) := itr (fsX5_digest_44 F ) (fun _ _ _ _ => none) n
set_option maxRecDepth 20000 in
set_option maxHeartbeats 1000000 in
theorem SX5_digest_44 {rr : Int64} {MR : M2} {JR : J2}   {k44 : Int64 → Int32 → M2 → J2 → Option (Int64 × M2 × J2)} (C : Cx E A p s m args meth c wdX5_digest cX5_digest 5 (some .long) RX5)   (hk44 : ∀ (a1 : Int64) (a3 : Int32) (M : M2) (J : J2)  (ls : Array Slot) (H : Heap) (locs : List Loc), k44 a1 a3 M J = some (rr, MR, JR) → Wd E A s (sg G 8 M) (sg K 8 J) H locs → lv_has ls 5 [(0, .ref (ad E 8 0)), (1, .long a1), (3, .int a3)] → W p l e rmX5_digest s m args below meth c H locs 0 0 (QL E A below args s rr (sg G 8 MR) (sg K 8 JR)) (F0 m 44 ls [])) (a1 : Int64) (a3 : Int32) (M : M2) (J : J2)  (h : fsX5_digest_44 F  k44 a1 a3 M J = some (rr, MR, JR)) (w : Wd E A s (sg G 8 M) (sg K 8 J) H locs) (hl : lv_has ls 5 [(0, .ref (ad E 8 0)), (1, .long a1), (3, .int a3)]) : W p l e rmX5_digest s m args below meth c H locs 0 0 (QL E A below args s rr (sg G 8 MR) (sg K 8 JR)) (F0 m 44 ls []) := by
  obtain ⟨hx, hb, hr, hml, hown, hts, hlocks, hKK, hA1, hA2⟩ := id C
  unfold fsX5_digest_44 at h
  refine lv_iload_n hx hb dX5_digest_44 rfl (lv_at hl 2 rfl) ?_
  refine lv_bipush (v := (8 : Int32)) hx hb dX5_digest_45 (by decide) ?_
  refine lv_icmp_ge (tgt := 72) hx hb dX5_digest_47 (by decide) (fun c1 => ?_) (fun c1 => ?_)
  · replace h := ite_t h c1
    refine lv_iconst (v := (0 : Int32)) hx hb dX5_digest_72 (by decide) ?_
    refine lv_istore_n (lv' := [(3, .int (0 : Int32)), (0, .ref (ad E 8 0)), (1, .long a1)]) hx hb dX5_digest_73 rfl hl (by decide) rfl (fun ls hl => ?_)
    exact TX5_digest_74 C   _ _ _ _ _ _ _ _ h w (lv_sub hl [1, 2, 0] rfl)
  · replace h := ite_f h c1
    refine lv_ldc2 hx hb hown (x_hts C q34_3) dX5_digest_50 ?_
    refine lv_lload_n hx hb dX5_digest_53 rfl (lv_at hl 1 rfl) ?_
    refine lv_lmul hx hb dX5_digest_54 ?_
    refine lv_aload_n hx hb dX5_digest_55 rfl (lv_at hl 0 rfl) ?_
    refine gR_X5_s C w q3_16 dX5_digest_56 ?_
    refine lv_iconst (v := (2 : Int32)) hx hb dX5_digest_59 (by decide) ?_
    refine lv_iload_n hx hb dX5_digest_60 rfl (lv_at hl 2 rfl) ?_
    refine lv_iadd hx hb dX5_digest_61 ?_
    obtain ⟨ki2, h⟩ := chk_of h
    refine x_aldI_L C w (v8 (by decide)) c8_1 ki2 rfl dX5_digest_62 ?_
    refine lv_i2l hx hb dX5_digest_63 rfl ?_
    refine lv_ladd hx hb dX5_digest_64 ?_
    refine lv_lstore_n (lv' := [(1, .long (((31 : Int64) * a1) + (M 1 ((2 : Int32) + a3).toNatClampNeg).toInt64)), (0, .ref (ad E 8 0)), (3, .int a3)]) hx hb dX5_digest_65 rfl hl (by decide) rfl (fun ls hl => ?_)
    refine lv_iinc (v := (a3 + (1 : Int32))) (lv' := [(3, .int (a3 + (1 : Int32))), (1, .long (((31 : Int64) * a1) + (M 1 ((2 : Int32) + a3).toNatClampNeg).toInt64)), (0, .ref (ad E 8 0))]) hx hb dX5_digest_66 hl (k := 2) rfl (congrArg (HAdd.hAdd _) (by decide)) (by decide) rfl (fun ls hl => ?_)
    refine lv_goto (tgt := 44) hx hb dX5_digest_69 (by decide) ?_
    exact hk44 _ _ _ _ _ _ _ h w (lv_sub hl [2, 1, 0] rfl)
theorem TX5_digest_44 {rr : Int64} {MR : M2} {JR : J2}   (C : Cx E A p s m args meth c wdX5_digest cX5_digest 5 (some .long) RX5)   : ∀ (n : Nat) (a1 : Int64) (a3 : Int32) (M : M2) (J : J2)  (ls : Array Slot) (H : Heap) (locs : List Loc), fbX5_digest_44 F  n a1 a3 M J = some (rr, MR, JR) → Wd E A s (sg G 8 M) (sg K 8 J) H locs → lv_has ls 5 [(0, .ref (ad E 8 0)), (1, .long a1), (3, .int a3)] → W p l e rmX5_digest s m args below meth c H locs 0 0 (QL E A below args s rr (sg G 8 MR) (sg K 8 JR)) (F0 m 44 ls []) := by
  intro n
  induction n with
  | zero => intro a1 a3 M J  ls H locs h; exact absurd (show none = _ from h) (fun z => nomatch z)
  | succ n ih => intro a1 a3 M J  ls H locs h w hl; exact SX5_digest_44 (F := F) C   ih a1 a3 M J  h w hl
noncomputable def fsX5_digest_17 (F : Nat)   (k17 : Int64 → Int32 → M2 → J2 → Option (Int64 × M2 × J2)) : Int64 → Int32 → M2 → J2 → Option (Int64 × M2 × J2) := fun a1 a3 M J => (if (12 : Int32) ≤ a3 then (fbX5_digest_44 F F a1 (0 : Int32) M J) else ((fX5_valueOf F M J a3).bind (fun vv3 => k17 (((31 : Int64) * a1) + vv3.toInt64) (a3 + (1 : Int32)) M J)))
noncomputable def fbX5_digest_17 (F : Nat)   (n : Nat) : Int64 → Int32 → M2 → J2 → Option (Int64 × M2 × J2) := itr (fsX5_digest_17 F ) (fun _ _ _ _ => none) n
set_option maxRecDepth 20000 in
set_option maxHeartbeats 1000000 in
theorem SX5_digest_17 {rr : Int64} {MR : M2} {JR : J2}   {k17 : Int64 → Int32 → M2 → J2 → Option (Int64 × M2 × J2)} (C : Cx E A p s m args meth c wdX5_digest cX5_digest 5 (some .long) RX5)   (hk17 : ∀ (a1 : Int64) (a3 : Int32) (M : M2) (J : J2)  (ls : Array Slot) (H : Heap) (locs : List Loc), k17 a1 a3 M J = some (rr, MR, JR) → Wd E A s (sg G 8 M) (sg K 8 J) H locs → lv_has ls 5 [(0, .ref (ad E 8 0)), (1, .long a1), (3, .int a3)] → W p l e rmX5_digest s m args below meth c H locs 0 0 (QL E A below args s rr (sg G 8 MR) (sg K 8 JR)) (F0 m 17 ls [])) (a1 : Int64) (a3 : Int32) (M : M2) (J : J2)  (h : fsX5_digest_17 F  k17 a1 a3 M J = some (rr, MR, JR)) (w : Wd E A s (sg G 8 M) (sg K 8 J) H locs) (hl : lv_has ls 5 [(0, .ref (ad E 8 0)), (1, .long a1), (3, .int a3)]) : W p l e rmX5_digest s m args below meth c H locs 0 0 (QL E A below args s rr (sg G 8 MR) (sg K 8 JR)) (F0 m 17 ls []) := by
  obtain ⟨hx, hb, hr, hml, hown, hts, hlocks, hKK, hA1, hA2⟩ := id C
  unfold fsX5_digest_17 at h
  refine lv_iload_n hx hb dX5_digest_17 rfl (lv_at hl 2 rfl) ?_
  refine lv_bipush (v := (12 : Int32)) hx hb dX5_digest_18 (by decide) ?_
  refine lv_icmp_ge (tgt := 42) hx hb dX5_digest_20 (by decide) (fun c1 => ?_) (fun c1 => ?_)
  · replace h := ite_t h c1
    refine lv_iconst (v := (0 : Int32)) hx hb dX5_digest_42 (by decide) ?_
    refine lv_istore_n (lv' := [(3, .int (0 : Int32)), (0, .ref (ad E 8 0)), (1, .long a1)]) hx hb dX5_digest_43 rfl hl (by decide) rfl (fun ls hl => ?_)
    exact TX5_digest_44 C   _ _ _ _ _ _ _ _ h w (lv_sub hl [1, 2, 0] rfl)
  · replace h := ite_f h c1
    refine lv_ldc2 hx hb hown (x_hts C q34_3) dX5_digest_23 ?_
    refine lv_lload_n hx hb dX5_digest_26 rfl (lv_at hl 1 rfl) ?_
    refine lv_lmul hx hb dX5_digest_27 ?_
    refine lv_aload_n hx hb dX5_digest_28 rfl (lv_at hl 0 rfl) ?_
    refine lv_iload_n hx hb dX5_digest_29 rfl (lv_at hl 2 rfl) ?_
    obtain ⟨vv3, hv2, h⟩ := bind_of h
    refine x_cVi (As := [.int a3]) (rest := [.long ((31 : Int64) * a1)]) C w (v8 (by decide)) cel_8 rfl (mtX5_valueOf  hv2) q21_12 q21_13 q21_14 q1_5 q21_15 ydX5_valueOf ⟨rfl, rfl⟩ ⟨by decide, by decide⟩ ⟨Nat.zero_le _, Nat.zero_le _⟩ hl.1 (Nat.le_of_ble_eq_true rfl) rfl dX5_digest_30 (fun H locs w => ?_)
    refine lv_i2l hx hb dX5_digest_33 rfl ?_
    refine lv_ladd hx hb dX5_digest_34 ?_
    refine lv_lstore_n (lv' := [(1, .long (((31 : Int64) * a1) + vv3.toInt64)), (0, .ref (ad E 8 0)), (3, .int a3)]) hx hb dX5_digest_35 rfl hl (by decide) rfl (fun ls hl => ?_)
    refine lv_iinc (v := (a3 + (1 : Int32))) (lv' := [(3, .int (a3 + (1 : Int32))), (1, .long (((31 : Int64) * a1) + vv3.toInt64)), (0, .ref (ad E 8 0))]) hx hb dX5_digest_36 hl (k := 2) rfl (congrArg (HAdd.hAdd _) (by decide)) (by decide) rfl (fun ls hl => ?_)
    refine lv_goto (tgt := 17) hx hb dX5_digest_39 (by decide) ?_
    exact hk17 _ _ _ _ _ _ _ h w (lv_sub hl [2, 1, 0] rfl)
theorem TX5_digest_17 {rr : Int64} {MR : M2} {JR : J2}   (C : Cx E A p s m args meth c wdX5_digest cX5_digest 5 (some .long) RX5)   : ∀ (n : Nat) (a1 : Int64) (a3 : Int32) (M : M2) (J : J2)  (ls : Array Slot) (H : Heap) (locs : List Loc), fbX5_digest_17 F  n a1 a3 M J = some (rr, MR, JR) → Wd E A s (sg G 8 M) (sg K 8 J) H locs → lv_has ls 5 [(0, .ref (ad E 8 0)), (1, .long a1), (3, .int a3)] → W p l e rmX5_digest s m args below meth c H locs 0 0 (QL E A below args s rr (sg G 8 MR) (sg K 8 JR)) (F0 m 17 ls []) := by
  intro n
  induction n with
  | zero => intro a1 a3 M J  ls H locs h; exact absurd (show none = _ from h) (fun z => nomatch z)
  | succ n ih => intro a1 a3 M J  ls H locs h w hl; exact SX5_digest_17 (F := F) C   ih a1 a3 M J  h w hl
noncomputable def fX5_digest (F : Nat)   (M : M2) (J : J2) : Option (Int64 × M2 × J2) := bnd (up2 M 0 11 (0 : Int32)) (fun M1 => fbX5_digest_17 F F ((112561 : Int64) + (M1 0 10).toInt64) (0 : Int32) M1 J)
set_option maxRecDepth 20000 in
set_option maxHeartbeats 1000000 in
theorem TX5_digest {rr : Int64} {MR : M2} {JR : J2}  (C : Cx E A p s m args meth c wdX5_digest cX5_digest 5 (some .long) RX5)    (h : fX5_digest F  M J = some (rr, MR, JR)) (w : Wd E A s (sg G 8 M) (sg K 8 J) H locs) (hl : lv_has ls 5 [(0, .ref (ad E 8 0))]) : W p l e rmX5_digest s m args below meth c H locs 0 0 (QL E A below args s rr (sg G 8 MR) (sg K 8 JR)) (F0 m 0 ls []) := by
  obtain ⟨hx, hb, hr, hml, hown, hts, hlocks, hKK, hA1, hA2⟩ := id C
  unfold fX5_digest at h
  refine lv_aload_n hx hb dX5_digest_0 rfl (lv_at hl 0 rfl) ?_
  refine lv_iconst (v := (0 : Int32)) hx hb dX5_digest_1 (by decide) ?_
  refine pL_X5_thrown C w q7_7 dX5_digest_2 (fun M1 H locs e2 w => ?_)
  replace h := bnd_of h e2
  refine lv_ldc2 hx hb hown (x_hts C q34_2) dX5_digest_5 ?_
  refine lv_aload_n hx hb dX5_digest_8 rfl (lv_at hl 0 rfl) ?_
  refine gL_X5_typed C w q29_1 dX5_digest_9 ?_
  refine lv_i2l hx hb dX5_digest_12 rfl ?_
  refine lv_ladd hx hb dX5_digest_13 ?_
  refine lv_lstore_n (lv' := [(1, .long ((112561 : Int64) + (M1 0 10).toInt64)), (0, .ref (ad E 8 0))]) hx hb dX5_digest_14 rfl hl (by decide) rfl (fun ls hl => ?_)
  refine lv_iconst (v := (0 : Int32)) hx hb dX5_digest_15 (by decide) ?_
  refine lv_istore_n (lv' := [(3, .int (0 : Int32)), (1, .long ((112561 : Int64) + (M1 0 10).toInt64)), (0, .ref (ad E 8 0))]) hx hb dX5_digest_16 rfl hl (by decide) rfl (fun ls hl => ?_)
  exact TX5_digest_17 C   _ _ _ _ _ _ _ _ h w (lv_sub hl [2, 1, 0] rfl)
theorem mtX5_digest {rr : Int64} {MR : M2} {JR : J2}     (h : fX5_digest F  M J = some (rr, MR, JR)) : MtL l yX5_digest wdX5_digest rmX5_digest E [.ref (ad E 8 0)] (sg G 8 M) (sg K 8 J) rr (sg G 8 MR) (sg K 8 JR) := by
  intro sz
  refine Met.ofW (cc := cX5_digest) (maxL := 5) (ret := (some .long)) (by decide) rfl ?_
  intro p e s m args below meth c s₁ B hml hv
  obtain ⟨rfl, C, w⟩ := Cx.of (own := RX5) B rfl hml hv
  have hl := lv_entry ([.ref (ad E 8 0)]) (n := 5) (by first | exact Nat.le_of_ble_eq_true rfl)
  rw [lg_entry_eq]
  generalize (lg_sl ([.ref (ad E 8 0)]) ++ List.replicate (5 - (lg_sl ([.ref (ad E 8 0)])).length) Slot.unset).toArray = ls at hl ⊢
  exact TX5_digest C   h w hl
theorem ydX5_digest : yX5_digest.cls = RX5 ∧ yX5_digest.cls ≠ "java/lang/invoke/MethodHandle" ∧ yX5_digest.cls ≠ "java/lang/invoke/VarHandle" ∧ (parseMethodDescriptor yX5_digest.desc).map (fun d => d.parameters.length) = some 0 := by decide +kernel
end XM5
