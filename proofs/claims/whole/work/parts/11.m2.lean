section XM2
variable {E : WE} {A : Nat → Prop} {p : Program} {l : Launch} {e : Env} {s : State} {m : MethodId} {args : Array Value} {below : List Frame} {meth : Method} {c : Code} {H : Heap} {locs : List Loc} {ls : Array Slot} {G : M3} {K : J3} {M : M2} {J : J2} {F g q : Nat} {g' q' : Nat}

/-! X5.rotates()I -/
abbrev rmX5_rotates : Room := { frames := 3, cells := 0, slots := 0, locals := 57 }
abbrev wdX5_rotates : Cond := Cond.code yX5_rotates cX5_rotates 3 (some .int)
noncomputable def fsX5_rotates_44 (F : Nat)   (k44 : Int32 → Int32 → M2 → J2 → Option (Int32 × M2 × J2)) : Int32 → Int32 → M2 → J2 → Option (Int32 × M2 × J2) := fun a1 a2 M J => (if (M 1 10) ≤ a2 then (bnd (up2 M 1 12 (0 : Int32)) (fun M2 => bnd (up2 M2 1 13 ((M2 1 13) + (1 : Int32))) (fun M4 => some (a1, M4, J)))) else ((fX5_rank F M J a2).bind (fun vv7 => chk (inb ((56 : Int32) + vv7) 61) (bnd (up2 M 1 (((56 : Int32) + vv7).toNatClampNeg) a2) (fun M9 => k44 a1 (a2 + (1 : Int32)) M9 J)))))
noncomputable def fbX5_rotates_44 (F : Nat)   (n : Nat) : Int32 → Int32 → M2 → J2 → Option (Int32 × M2 × J2) := itr (fsX5_rotates_44 F ) (fun _ _ _ _ => none) n
set_option maxRecDepth 20000 in
set_option maxHeartbeats 1000000 in
theorem SX5_rotates_44 {rr : Int32} {MR : M2} {JR : J2}   {k44 : Int32 → Int32 → M2 → J2 → Option (Int32 × M2 × J2)} (C : Cx E A p s m args meth c wdX5_rotates cX5_rotates 3 (some .int) RX5)   (hk44 : ∀ (a1 : Int32) (a2 : Int32) (M : M2) (J : J2)  (ls : Array Slot) (H : Heap) (locs : List Loc), k44 a1 a2 M J = some (rr, MR, JR) → Wd E A s (sg G 8 M) (sg K 8 J) H locs → lv_has ls 3 [(0, .ref (ad E 8 0)), (1, .int a1), (2, .int a2)] → W p l e rmX5_rotates s m args below meth c H locs 0 0 (QI E A below args s rr (sg G 8 MR) (sg K 8 JR)) (F0 m 44 ls [])) (a1 : Int32) (a2 : Int32) (M : M2) (J : J2)  (h : fsX5_rotates_44 F  k44 a1 a2 M J = some (rr, MR, JR)) (w : Wd E A s (sg G 8 M) (sg K 8 J) H locs) (hl : lv_has ls 3 [(0, .ref (ad E 8 0)), (1, .int a1), (2, .int a2)]) : W p l e rmX5_rotates s m args below meth c H locs 0 0 (QI E A below args s rr (sg G 8 MR) (sg K 8 JR)) (F0 m 44 ls []) := by
  obtain ⟨hx, hb, hr, hml, hown, hts, hlocks, hKK, hA1, hA2⟩ := id C
  unfold fsX5_rotates_44 at h
  refine lv_iload_n hx hb dX5_rotates_44 rfl (lv_at hl 2 rfl) ?_
  refine lv_aload_n hx hb dX5_rotates_45 rfl (lv_at hl 0 rfl) ?_
  refine gR_X5_s C w q3_16 dX5_rotates_46 ?_
  refine lv_bipush (v := (10 : Int32)) hx hb dX5_rotates_49 (by decide) ?_
  refine x_aldI_L C w (v8 (by decide)) c8_1 (inb_k (k := 10) (by decide) (by decide)) cl_10 dX5_rotates_51 ?_
  refine lv_icmp_ge (tgt := 75) hx hb dX5_rotates_52 (by decide) (fun c1 => ?_) (fun c1 => ?_)
  · replace h := ite_t h c1
    refine lv_aload_n hx hb dX5_rotates_75 rfl (lv_at hl 0 rfl) ?_
    refine gR_X5_s C w q3_16 dX5_rotates_76 ?_
    refine lv_bipush (v := (12 : Int32)) hx hb dX5_rotates_79 (by decide) ?_
    refine lv_iconst (v := (0 : Int32)) hx hb dX5_rotates_81 (by decide) ?_
    refine x_astI_L C w (v8 (by decide)) c8_1 (inb_k (k := 12) (by decide) (by decide)) cl_12 dX5_rotates_82 (fun M2 H locs e3 w => ?_)
    replace h := bnd_of h e3
    refine lv_aload_n hx hb dX5_rotates_83 rfl (lv_at hl 0 rfl) ?_
    refine gR_X5_s C w q3_16 dX5_rotates_84 ?_
    refine lv_bipush (v := (13 : Int32)) hx hb dX5_rotates_87 (by decide) ?_
    refine lv_dup2_11 hx hb dX5_rotates_89 rfl rfl ?_
    refine x_aldI_L C w (v8 (by decide)) c8_1 (inb_k (k := 13) (by decide) (by decide)) cl_13 dX5_rotates_90 ?_
    refine lv_iconst (v := (1 : Int32)) hx hb dX5_rotates_91 (by decide) ?_
    refine lv_iadd hx hb dX5_rotates_92 ?_
    refine x_astI_L C w (v8 (by decide)) c8_1 (inb_k (k := 13) (by decide) (by decide)) cl_13 dX5_rotates_93 (fun M4 H locs e5 w => ?_)
    replace h := bnd_of h e5
    refine lv_iload_n hx hb dX5_rotates_94 rfl (lv_at hl 1 rfl) ?_
    obtain ⟨e1, e2, e3⟩ := rt3 h
    exact x_ri C w e1 (by rw [e2]) (by rw [e3]) dX5_rotates_95
  · replace h := ite_f h c1
    refine lv_aload_n hx hb dX5_rotates_55 rfl (lv_at hl 0 rfl) ?_
    refine gR_X5_s C w q3_16 dX5_rotates_56 ?_
    refine lv_bipush (v := (56 : Int32)) hx hb dX5_rotates_59 (by decide) ?_
    refine lv_aload_n hx hb dX5_rotates_61 rfl (lv_at hl 0 rfl) ?_
    refine lv_iload_n hx hb dX5_rotates_62 rfl (lv_at hl 2 rfl) ?_
    obtain ⟨vv7, hv6, h⟩ := bind_of h
    refine x_cVi (As := [.int a2]) (rest := [.int (56 : Int32), .ref (ad E 8 1)]) C w (v8 (by decide)) cel_8 rfl (mtX5_rank  hv6) q13_11 q13_12 q13_13 q1_5 q13_14 ydX5_rank ⟨rfl, rfl⟩ ⟨by decide, by decide⟩ ⟨Nat.zero_le _, Nat.zero_le _⟩ hl.1 (Nat.le_of_ble_eq_true rfl) rfl dX5_rotates_63 (fun H locs w => ?_)
    refine lv_iadd hx hb dX5_rotates_66 ?_
    refine lv_iload_n hx hb dX5_rotates_67 rfl (lv_at hl 2 rfl) ?_
    obtain ⟨ki8, h⟩ := chk_of h
    refine x_astI_L C w (v8 (by decide)) c8_1 ki8 rfl dX5_rotates_68 (fun M9 H locs e10 w => ?_)
    replace h := bnd_of h e10
    refine lv_iinc (v := (a2 + (1 : Int32))) (lv' := [(2, .int (a2 + (1 : Int32))), (0, .ref (ad E 8 0)), (1, .int a1)]) hx hb dX5_rotates_69 hl (k := 2) rfl (congrArg (HAdd.hAdd _) (by decide)) (by decide) rfl (fun ls hl => ?_)
    refine lv_goto (tgt := 44) hx hb dX5_rotates_72 (by decide) ?_
    exact hk44 _ _ _ _ _ _ _ h w (lv_sub hl [1, 2, 0] rfl)
theorem TX5_rotates_44 {rr : Int32} {MR : M2} {JR : J2}   (C : Cx E A p s m args meth c wdX5_rotates cX5_rotates 3 (some .int) RX5)   : ∀ (n : Nat) (a1 : Int32) (a2 : Int32) (M : M2) (J : J2)  (ls : Array Slot) (H : Heap) (locs : List Loc), fbX5_rotates_44 F  n a1 a2 M J = some (rr, MR, JR) → Wd E A s (sg G 8 M) (sg K 8 J) H locs → lv_has ls 3 [(0, .ref (ad E 8 0)), (1, .int a1), (2, .int a2)] → W p l e rmX5_rotates s m args below meth c H locs 0 0 (QI E A below args s rr (sg G 8 MR) (sg K 8 JR)) (F0 m 44 ls []) := by
  intro n
  induction n with
  | zero => intro a1 a2 M J  ls H locs h; exact absurd (show none = _ from h) (fun z => nomatch z)
  | succ n ih => intro a1 a2 M J  ls H locs h w hl; exact SX5_rotates_44 (F := F) C   ih a1 a2 M J  h w hl
noncomputable def fbX5_rotates_34 (F : Nat) (k4 : Int32 → Int32 → M2 → J2 → Option (Int32 × M2 × J2))  (a2 : Int32) (s0 : Int32) (s1 : Int32) (M : M2) (J : J2) : Option (Int32 × M2 × J2) := k4 (s1 + s0) (a2 + (1 : Int32)) M J
set_option maxRecDepth 20000 in
set_option maxHeartbeats 1000000 in
theorem TX5_rotates_34 {rr : Int32} {MR : M2} {JR : J2}  {k4 : Int32 → Int32 → M2 → J2 → Option (Int32 × M2 × J2)} (C : Cx E A p s m args meth c wdX5_rotates cX5_rotates 3 (some .int) RX5)  (hk4 : ∀ (a1 : Int32) (a2 : Int32) (M : M2) (J : J2)  (ls : Array Slot) (H : Heap) (locs : List Loc), k4 a1 a2 M J = some (rr, MR, JR) → Wd E A s (sg G 8 M) (sg K 8 J) H locs → lv_has ls 3 [(0, .ref (ad E 8 0)), (1, .int a1), (2, .int a2)] → W p l e rmX5_rotates s m args below meth c H locs 0 0 (QI E A below args s rr (sg G 8 MR) (sg K 8 JR)) (F0 m 4 ls [])) (a2 : Int32) (s0 : Int32) (s1 : Int32) (M : M2) (J : J2)  (h : fbX5_rotates_34 F k4 a2 s0 s1 M J = some (rr, MR, JR)) (w : Wd E A s (sg G 8 M) (sg K 8 J) H locs) (hl : lv_has ls 3 [(0, .ref (ad E 8 0)), (2, .int a2)]) : W p l e rmX5_rotates s m args below meth c H locs 0 0 (QI E A below args s rr (sg G 8 MR) (sg K 8 JR)) (F0 m 34 ls [.int s0, .int s1]) := by
  obtain ⟨hx, hb, hr, hml, hown, hts, hlocks, hKK, hA1, hA2⟩ := id C
  unfold fbX5_rotates_34 at h
  refine lv_iadd hx hb dX5_rotates_34 ?_
  refine lv_istore_n (lv' := [(1, .int (s1 + s0)), (0, .ref (ad E 8 0)), (2, .int a2)]) hx hb dX5_rotates_35 rfl hl (by decide) rfl (fun ls hl => ?_)
  refine lv_iinc (v := (a2 + (1 : Int32))) (lv' := [(2, .int (a2 + (1 : Int32))), (1, .int (s1 + s0)), (0, .ref (ad E 8 0))]) hx hb dX5_rotates_36 hl (k := 2) rfl (congrArg (HAdd.hAdd _) (by decide)) (by decide) rfl (fun ls hl => ?_)
  refine lv_goto (tgt := 4) hx hb dX5_rotates_39 (by decide) ?_
  exact hk4 _ _ _ _ _ _ _ h w (lv_sub hl [2, 1, 0] rfl)
noncomputable def fsX5_rotates_4 (F : Nat)   (k4 : Int32 → Int32 → M2 → J2 → Option (Int32 × M2 × J2)) : Int32 → Int32 → M2 → J2 → Option (Int32 × M2 × J2) := fun a1 a2 M J => (if (M 1 10) ≤ a2 then (fbX5_rotates_44 F F a1 (0 : Int32) M J) else ((fX5_rank F M J a2).bind (fun vv3 => (fX5_stage F M J a2).bind (fun vv5 => (if ¬ vv3 = vv5 then (fbX5_rotates_34 F k4 a2 (1 : Int32) a1 M J) else (fbX5_rotates_34 F k4 a2 (0 : Int32) a1 M J))))))
noncomputable def fbX5_rotates_4 (F : Nat)   (n : Nat) : Int32 → Int32 → M2 → J2 → Option (Int32 × M2 × J2) := itr (fsX5_rotates_4 F ) (fun _ _ _ _ => none) n
set_option maxRecDepth 20000 in
set_option maxHeartbeats 1000000 in
theorem SX5_rotates_4 {rr : Int32} {MR : M2} {JR : J2}   {k4 : Int32 → Int32 → M2 → J2 → Option (Int32 × M2 × J2)} (C : Cx E A p s m args meth c wdX5_rotates cX5_rotates 3 (some .int) RX5)   (hk4 : ∀ (a1 : Int32) (a2 : Int32) (M : M2) (J : J2)  (ls : Array Slot) (H : Heap) (locs : List Loc), k4 a1 a2 M J = some (rr, MR, JR) → Wd E A s (sg G 8 M) (sg K 8 J) H locs → lv_has ls 3 [(0, .ref (ad E 8 0)), (1, .int a1), (2, .int a2)] → W p l e rmX5_rotates s m args below meth c H locs 0 0 (QI E A below args s rr (sg G 8 MR) (sg K 8 JR)) (F0 m 4 ls [])) (a1 : Int32) (a2 : Int32) (M : M2) (J : J2)  (h : fsX5_rotates_4 F  k4 a1 a2 M J = some (rr, MR, JR)) (w : Wd E A s (sg G 8 M) (sg K 8 J) H locs) (hl : lv_has ls 3 [(0, .ref (ad E 8 0)), (1, .int a1), (2, .int a2)]) : W p l e rmX5_rotates s m args below meth c H locs 0 0 (QI E A below args s rr (sg G 8 MR) (sg K 8 JR)) (F0 m 4 ls []) := by
  obtain ⟨hx, hb, hr, hml, hown, hts, hlocks, hKK, hA1, hA2⟩ := id C
  unfold fsX5_rotates_4 at h
  refine lv_iload_n hx hb dX5_rotates_4 rfl (lv_at hl 2 rfl) ?_
  refine lv_aload_n hx hb dX5_rotates_5 rfl (lv_at hl 0 rfl) ?_
  refine gR_X5_s C w q3_16 dX5_rotates_6 ?_
  refine lv_bipush (v := (10 : Int32)) hx hb dX5_rotates_9 (by decide) ?_
  refine x_aldI_L C w (v8 (by decide)) c8_1 (inb_k (k := 10) (by decide) (by decide)) cl_10 dX5_rotates_11 ?_
  refine lv_icmp_ge (tgt := 42) hx hb dX5_rotates_12 (by decide) (fun c1 => ?_) (fun c1 => ?_)
  · replace h := ite_t h c1
    refine lv_iconst (v := (0 : Int32)) hx hb dX5_rotates_42 (by decide) ?_
    refine lv_istore_n (lv' := [(2, .int (0 : Int32)), (0, .ref (ad E 8 0)), (1, .int a1)]) hx hb dX5_rotates_43 rfl hl (by decide) rfl (fun ls hl => ?_)
    exact TX5_rotates_44 C   _ _ _ _ _ _ _ _ h w (lv_sub hl [1, 2, 0] rfl)
  · replace h := ite_f h c1
    refine lv_iload_n hx hb dX5_rotates_15 rfl (lv_at hl 1 rfl) ?_
    refine lv_aload_n hx hb dX5_rotates_16 rfl (lv_at hl 0 rfl) ?_
    refine lv_iload_n hx hb dX5_rotates_17 rfl (lv_at hl 2 rfl) ?_
    obtain ⟨vv3, hv2, h⟩ := bind_of h
    refine x_cVi (As := [.int a2]) (rest := [.int a1]) C w (v8 (by decide)) cel_8 rfl (mtX5_rank  hv2) q13_11 q13_12 q13_13 q1_5 q13_14 ydX5_rank ⟨rfl, rfl⟩ ⟨by decide, by decide⟩ ⟨Nat.zero_le _, Nat.zero_le _⟩ hl.1 (Nat.le_of_ble_eq_true rfl) rfl dX5_rotates_18 (fun H locs w => ?_)
    refine lv_aload_n hx hb dX5_rotates_21 rfl (lv_at hl 0 rfl) ?_
    refine lv_iload_n hx hb dX5_rotates_22 rfl (lv_at hl 2 rfl) ?_
    obtain ⟨vv5, hv4, h⟩ := bind_of h
    refine x_cVi (As := [.int a2]) (rest := [.int vv3, .int a1]) C w (v8 (by decide)) cel_8 rfl (mtX5_stage  hv4) q12_9 q12_10 q12_11 q1_5 q12_12 ydX5_stage ⟨rfl, rfl⟩ ⟨by decide, by decide⟩ ⟨Nat.zero_le _, Nat.zero_le _⟩ hl.1 (Nat.le_of_ble_eq_true rfl) rfl dX5_rotates_23 (fun H locs w => ?_)
    refine lv_icmp_ne (tgt := 33) hx hb dX5_rotates_26 (by decide) (fun c6 => ?_) (fun c6 => ?_)
    · replace h := ite_t h c6
      refine lv_iconst (v := (1 : Int32)) hx hb dX5_rotates_33 (by decide) ?_
      exact TX5_rotates_34 C  hk4 _ _ _ _ _ h w (lv_sub hl [0, 2] rfl)
    · replace h := ite_f h (fun z => z c6)
      refine lv_iconst (v := (0 : Int32)) hx hb dX5_rotates_29 (by decide) ?_
      refine lv_goto (tgt := 34) hx hb dX5_rotates_30 (by decide) ?_
      exact TX5_rotates_34 C  hk4 _ _ _ _ _ h w (lv_sub hl [0, 2] rfl)
theorem TX5_rotates_4 {rr : Int32} {MR : M2} {JR : J2}   (C : Cx E A p s m args meth c wdX5_rotates cX5_rotates 3 (some .int) RX5)   : ∀ (n : Nat) (a1 : Int32) (a2 : Int32) (M : M2) (J : J2)  (ls : Array Slot) (H : Heap) (locs : List Loc), fbX5_rotates_4 F  n a1 a2 M J = some (rr, MR, JR) → Wd E A s (sg G 8 M) (sg K 8 J) H locs → lv_has ls 3 [(0, .ref (ad E 8 0)), (1, .int a1), (2, .int a2)] → W p l e rmX5_rotates s m args below meth c H locs 0 0 (QI E A below args s rr (sg G 8 MR) (sg K 8 JR)) (F0 m 4 ls []) := by
  intro n
  induction n with
  | zero => intro a1 a2 M J  ls H locs h; exact absurd (show none = _ from h) (fun z => nomatch z)
  | succ n ih => intro a1 a2 M J  ls H locs h w hl; exact SX5_rotates_4 (F := F) C   ih a1 a2 M J  h w hl
noncomputable def fX5_rotates (F : Nat)   (M : M2) (J : J2) : Option (Int32 × M2 × J2) := fbX5_rotates_4 F F (0 : Int32) (0 : Int32) M J
set_option maxRecDepth 20000 in
set_option maxHeartbeats 1000000 in
theorem TX5_rotates {rr : Int32} {MR : M2} {JR : J2}  (C : Cx E A p s m args meth c wdX5_rotates cX5_rotates 3 (some .int) RX5)    (h : fX5_rotates F  M J = some (rr, MR, JR)) (w : Wd E A s (sg G 8 M) (sg K 8 J) H locs) (hl : lv_has ls 3 [(0, .ref (ad E 8 0))]) : W p l e rmX5_rotates s m args below meth c H locs 0 0 (QI E A below args s rr (sg G 8 MR) (sg K 8 JR)) (F0 m 0 ls []) := by
  obtain ⟨hx, hb, hr, hml, hown, hts, hlocks, hKK, hA1, hA2⟩ := id C
  unfold fX5_rotates at h
  refine lv_iconst (v := (0 : Int32)) hx hb dX5_rotates_0 (by decide) ?_
  refine lv_istore_n (lv' := [(1, .int (0 : Int32)), (0, .ref (ad E 8 0))]) hx hb dX5_rotates_1 rfl hl (by decide) rfl (fun ls hl => ?_)
  refine lv_iconst (v := (0 : Int32)) hx hb dX5_rotates_2 (by decide) ?_
  refine lv_istore_n (lv' := [(2, .int (0 : Int32)), (1, .int (0 : Int32)), (0, .ref (ad E 8 0))]) hx hb dX5_rotates_3 rfl hl (by decide) rfl (fun ls hl => ?_)
  exact TX5_rotates_4 C   _ _ _ _ _ _ _ _ h w (lv_sub hl [2, 1, 0] rfl)
theorem mtX5_rotates {rr : Int32} {MR : M2} {JR : J2}     (h : fX5_rotates F  M J = some (rr, MR, JR)) : MtI l yX5_rotates wdX5_rotates rmX5_rotates E [.ref (ad E 8 0)] (sg G 8 M) (sg K 8 J) rr (sg G 8 MR) (sg K 8 JR) := by
  intro sz
  refine Met.ofW (cc := cX5_rotates) (maxL := 3) (ret := (some .int)) (by decide) rfl ?_
  intro p e s m args below meth c s₁ B hml hv
  obtain ⟨rfl, C, w⟩ := Cx.of (own := RX5) B rfl hml hv
  have hl := lv_entry ([.ref (ad E 8 0)]) (n := 3) (by first | exact Nat.le_of_ble_eq_true rfl)
  rw [lg_entry_eq]
  generalize (lg_sl ([.ref (ad E 8 0)]) ++ List.replicate (3 - (lg_sl ([.ref (ad E 8 0)])).length) Slot.unset).toArray = ls at hl ⊢
  exact TX5_rotates C   h w hl
theorem ydX5_rotates : yX5_rotates.cls = RX5 ∧ yX5_rotates.cls ≠ "java/lang/invoke/MethodHandle" ∧ yX5_rotates.cls ≠ "java/lang/invoke/VarHandle" ∧ (parseMethodDescriptor yX5_rotates.desc).map (fun d => d.parameters.length) = some 0 := by decide +kernel
/-! X5.nextOf(II)I -/
abbrev rmX5_nextOf : Room := { frames := 3, cells := 0, slots := 0, locals := 55 }
abbrev wdX5_nextOf : Cond := Cond.code yX5_nextOf cX5_nextOf 4 (some .int)
noncomputable def fbX5_nextOf_49 (F : Nat)  (M : M2) (J : J2) (a1 : Int32) (a2 : Int32) (a3 : Int32)  : Option Int32 := (fX5_loadsBelow F M J a1).bind (fun vv2 => (if vv2 ≤ a2 then ((if ¬ a3 = 0 then ((fX5_its M J a1 (4 : Int32)).bind (fun vv6 => (if (vv6 + (1 : Int32)) < (M 1 5) then (some (5 : Int32)) else (some (6 : Int32))))) else (some (7 : Int32)))) else (some (2 : Int32))))
set_option maxRecDepth 20000 in
set_option maxHeartbeats 1000000 in
theorem TX5_nextOf_49 {rr : Int32}   (C : Cx E A p s m args meth c wdX5_nextOf cX5_nextOf 4 (some .int) RX5)   (a1 : Int32) (a2 : Int32) (a3 : Int32)   (h : fbX5_nextOf_49 F M J a1 a2 a3 = some rr) (w : Wd E A s (sg G 8 M) (sg K 8 J) H locs) (hl : lv_has ls 4 [(0, .ref (ad E 8 0)), (1, .int a1), (2, .int a2), (3, .int a3)]) : W p l e rmX5_nextOf s m args below meth c H locs 0 0 (QI E A below args s rr (sg G 8 M) (sg K 8 J)) (F0 m 49 ls []) := by
  obtain ⟨hx, hb, hr, hml, hown, hts, hlocks, hKK, hA1, hA2⟩ := id C
  unfold fbX5_nextOf_49 at h
  refine lv_iload_n hx hb dX5_nextOf_49 rfl (lv_at hl 2 rfl) ?_
  refine lv_aload_n hx hb dX5_nextOf_50 rfl (lv_at hl 0 rfl) ?_
  refine lv_iload_n hx hb dX5_nextOf_51 rfl (lv_at hl 1 rfl) ?_
  obtain ⟨vv2, hv1, h⟩ := bind_of h
  refine x_cVi (As := [.int a1]) (rest := [.int a2]) C w (v8 (by decide)) cel_8 rfl (mtX5_loadsBelow  hv1) q17_22 q17_23 q18_0 q1_5 q18_1 ydX5_loadsBelow ⟨rfl, rfl⟩ ⟨by decide, by decide⟩ ⟨Nat.zero_le _, Nat.zero_le _⟩ hl.1 (Nat.le_of_ble_eq_true rfl) rfl dX5_nextOf_52 (fun H locs w => ?_)
  refine lv_icmp_ge (tgt := 60) hx hb dX5_nextOf_55 (by decide) (fun c3 => ?_) (fun c3 => ?_)
  · replace h := ite_t h c3
    refine lv_iload_n hx hb dX5_nextOf_60 rfl (lv_at hl 3 rfl) ?_
    refine lv_if_ne (tgt := 69) hx hb dX5_nextOf_61 (by decide) (fun c4 => ?_) (fun c4 => ?_)
    · replace h := ite_t h c4
      refine lv_aload_n hx hb dX5_nextOf_69 rfl (lv_at hl 0 rfl) ?_
      refine lv_iload_n hx hb dX5_nextOf_70 rfl (lv_at hl 1 rfl) ?_
      refine lv_iconst (v := (4 : Int32)) hx hb dX5_nextOf_71 (by decide) ?_
      obtain ⟨vv6, hv5, h⟩ := bind_of h
      refine x_cVi (As := [.int a1, .int (4 : Int32)]) (rest := []) C w (v8 (by decide)) cel_8 rfl (mtX5_its  hv5) q11_5 q11_6 q11_7 q1_5 q11_8 ydX5_its ⟨rfl, rfl⟩ ⟨by decide, by decide⟩ ⟨Nat.zero_le _, Nat.zero_le _⟩ hl.1 (Nat.le_of_ble_eq_true rfl) rfl dX5_nextOf_72 (fun H locs w => ?_)
      refine lv_iconst (v := (1 : Int32)) hx hb dX5_nextOf_75 (by decide) ?_
      refine lv_iadd hx hb dX5_nextOf_76 ?_
      refine lv_aload_n hx hb dX5_nextOf_77 rfl (lv_at hl 0 rfl) ?_
      refine gR_X5_s C w q3_16 dX5_nextOf_78 ?_
      refine lv_iconst (v := (5 : Int32)) hx hb dX5_nextOf_81 (by decide) ?_
      refine x_aldI_L C w (v8 (by decide)) c8_1 (inb_k (k := 5) (by decide) (by decide)) cl_5 dX5_nextOf_82 ?_
      refine lv_icmp_lt (tgt := 91) hx hb dX5_nextOf_83 (by decide) (fun c7 => ?_) (fun c7 => ?_)
      · replace h := ite_t h c7
        refine lv_iconst (v := (5 : Int32)) hx hb dX5_nextOf_91 (by decide) ?_
        have e1 := Option.some.inj h
        exact x_ri C w e1 rfl rfl dX5_nextOf_92
      · replace h := ite_f h c7
        refine lv_bipush (v := (6 : Int32)) hx hb dX5_nextOf_86 (by decide) ?_
        refine lv_goto (tgt := 92) hx hb dX5_nextOf_88 (by decide) ?_
        have e1 := Option.some.inj h
        exact x_ri C w e1 rfl rfl dX5_nextOf_92
    · replace h := ite_f h (fun z => z c4)
      refine lv_bipush (v := (7 : Int32)) hx hb dX5_nextOf_64 (by decide) ?_
      refine lv_goto (tgt := 92) hx hb dX5_nextOf_66 (by decide) ?_
      have e1 := Option.some.inj h
      exact x_ri C w e1 rfl rfl dX5_nextOf_92
  · replace h := ite_f h c3
    refine lv_iconst (v := (2 : Int32)) hx hb dX5_nextOf_58 (by decide) ?_
    have e1 := Option.some.inj h
    exact x_ri C w e1 rfl rfl dX5_nextOf_59
noncomputable def fX5_nextOf (F : Nat) (M : M2) (J : J2) (x1 : Int32) (x2 : Int32)  : Option Int32 := (fX5_its M J x1 (1 : Int32)).bind (fun vv2 => (if ¬ vv2 = (3 : Int32) then ((if ¬ vv2 = (1 : Int32) then ((if ¬ vv2 = 0 then (fbX5_nextOf_49 F M J x1 x2 vv2) else ((fX5_its M J x1 (5 : Int32)).bind (fun vv7 => (if vv7 ≤ 0 then (fbX5_nextOf_49 F M J x1 x2 vv2) else (some (1 : Int32))))))) else ((fX5_unloadsAbove F M J x1).bind (fun vv10 => (if x2 ≤ vv10 then (some (3 : Int32)) else (some (4 : Int32))))))) else (some (0 : Int32))))
set_option maxRecDepth 20000 in
set_option maxHeartbeats 1000000 in
theorem TX5_nextOf {rr : Int32}  (C : Cx E A p s m args meth c wdX5_nextOf cX5_nextOf 4 (some .int) RX5)  {x1 : Int32} {x2 : Int32}  (h : fX5_nextOf F M J x1 x2 = some rr) (w : Wd E A s (sg G 8 M) (sg K 8 J) H locs) (hl : lv_has ls 4 [(0, .ref (ad E 8 0)), (1, .int x1), (2, .int x2)]) : W p l e rmX5_nextOf s m args below meth c H locs 0 0 (QI E A below args s rr (sg G 8 M) (sg K 8 J)) (F0 m 0 ls []) := by
  obtain ⟨hx, hb, hr, hml, hown, hts, hlocks, hKK, hA1, hA2⟩ := id C
  unfold fX5_nextOf at h
  refine lv_aload_n hx hb dX5_nextOf_0 rfl (lv_at hl 0 rfl) ?_
  refine lv_iload_n hx hb dX5_nextOf_1 rfl (lv_at hl 1 rfl) ?_
  refine lv_iconst (v := (1 : Int32)) hx hb dX5_nextOf_2 (by decide) ?_
  obtain ⟨vv2, hv1, h⟩ := bind_of h
  refine x_cVi (As := [.int x1, .int (1 : Int32)]) (rest := []) C w (v8 (by decide)) cel_8 rfl (mtX5_its  hv1) q11_5 q11_6 q11_7 q1_5 q11_8 ydX5_its ⟨rfl, rfl⟩ ⟨by decide, by decide⟩ ⟨Nat.zero_le _, Nat.zero_le _⟩ hl.1 (Nat.le_of_ble_eq_true rfl) rfl dX5_nextOf_3 (fun H locs w => ?_)
  refine lv_istore_n (lv' := [(3, .int vv2), (0, .ref (ad E 8 0)), (1, .int x1), (2, .int x2)]) hx hb dX5_nextOf_6 rfl hl (by decide) rfl (fun ls hl => ?_)
  refine lv_iload_n hx hb dX5_nextOf_7 rfl (lv_at hl 0 rfl) ?_
  refine lv_iconst (v := (3 : Int32)) hx hb dX5_nextOf_8 (by decide) ?_
  refine lv_icmp_ne (tgt := 14) hx hb dX5_nextOf_9 (by decide) (fun c3 => ?_) (fun c3 => ?_)
  · replace h := ite_t h c3
    refine lv_iload_n hx hb dX5_nextOf_14 rfl (lv_at hl 0 rfl) ?_
    refine lv_iconst (v := (1 : Int32)) hx hb dX5_nextOf_15 (by decide) ?_
    refine lv_icmp_ne (tgt := 34) hx hb dX5_nextOf_16 (by decide) (fun c4 => ?_) (fun c4 => ?_)
    · replace h := ite_t h c4
      refine lv_iload_n hx hb dX5_nextOf_34 rfl (lv_at hl 0 rfl) ?_
      refine lv_if_ne (tgt := 49) hx hb dX5_nextOf_35 (by decide) (fun c5 => ?_) (fun c5 => ?_)
      · replace h := ite_t h c5
        exact TX5_nextOf_49 C   _ _ _ h w (lv_sub hl [1, 2, 3, 0] rfl)
      · replace h := ite_f h (fun z => z c5)
        refine lv_aload_n hx hb dX5_nextOf_38 rfl (lv_at hl 1 rfl) ?_
        refine lv_iload_n hx hb dX5_nextOf_39 rfl (lv_at hl 2 rfl) ?_
        refine lv_iconst (v := (5 : Int32)) hx hb dX5_nextOf_40 (by decide) ?_
        obtain ⟨vv7, hv6, h⟩ := bind_of h
        refine x_cVi (As := [.int x1, .int (5 : Int32)]) (rest := []) C w (v8 (by decide)) cel_8 rfl (mtX5_its  hv6) q11_5 q11_6 q11_7 q1_5 q11_8 ydX5_its ⟨rfl, rfl⟩ ⟨by decide, by decide⟩ ⟨Nat.zero_le _, Nat.zero_le _⟩ hl.1 (Nat.le_of_ble_eq_true rfl) rfl dX5_nextOf_41 (fun H locs w => ?_)
        refine lv_if_le (tgt := 49) hx hb dX5_nextOf_44 (by decide) (fun c8 => ?_) (fun c8 => ?_)
        · replace h := ite_t h c8
          exact TX5_nextOf_49 C   _ _ _ h w (lv_sub hl [1, 2, 3, 0] rfl)
        · replace h := ite_f h c8
          refine lv_iconst (v := (1 : Int32)) hx hb dX5_nextOf_47 (by decide) ?_
          have e1 := Option.some.inj h
          exact x_ri C w e1 rfl rfl dX5_nextOf_48
    · replace h := ite_f h (fun z => z c4)
      refine lv_iload_n hx hb dX5_nextOf_19 rfl (lv_at hl 3 rfl) ?_
      refine lv_aload_n hx hb dX5_nextOf_20 rfl (lv_at hl 1 rfl) ?_
      refine lv_iload_n hx hb dX5_nextOf_21 rfl (lv_at hl 2 rfl) ?_
      obtain ⟨vv10, hv9, h⟩ := bind_of h
      refine x_cVi (As := [.int x1]) (rest := [.int x2]) C w (v8 (by decide)) cel_8 rfl (mtX5_unloadsAbove  hv9) q17_18 q17_19 q17_20 q1_5 q17_21 ydX5_unloadsAbove ⟨rfl, rfl⟩ ⟨by decide, by decide⟩ ⟨Nat.zero_le _, Nat.zero_le _⟩ hl.1 (Nat.le_of_ble_eq_true rfl) rfl dX5_nextOf_22 (fun H locs w => ?_)
      refine lv_icmp_le (tgt := 32) hx hb dX5_nextOf_25 (by decide) (fun c11 => ?_) (fun c11 => ?_)
      · replace h := ite_t h c11
        refine lv_iconst (v := (3 : Int32)) hx hb dX5_nextOf_32 (by decide) ?_
        have e1 := Option.some.inj h
        exact x_ri C w e1 rfl rfl dX5_nextOf_33
      · replace h := ite_f h c11
        refine lv_iconst (v := (4 : Int32)) hx hb dX5_nextOf_28 (by decide) ?_
        refine lv_goto (tgt := 33) hx hb dX5_nextOf_29 (by decide) ?_
        have e1 := Option.some.inj h
        exact x_ri C w e1 rfl rfl dX5_nextOf_33
  · replace h := ite_f h (fun z => z c3)
    refine lv_iconst (v := (0 : Int32)) hx hb dX5_nextOf_12 (by decide) ?_
    have e1 := Option.some.inj h
    exact x_ri C w e1 rfl rfl dX5_nextOf_13
theorem mtX5_nextOf {rr : Int32}   {x1 : Int32} {x2 : Int32}  (h : fX5_nextOf F M J x1 x2 = some rr) : MtI l yX5_nextOf wdX5_nextOf rmX5_nextOf E [.ref (ad E 8 0), .int x1, .int x2] (sg G 8 M) (sg K 8 J) rr (sg G 8 M) (sg K 8 J) := by
  intro sz
  refine Met.ofW (cc := cX5_nextOf) (maxL := 4) (ret := (some .int)) (by decide) rfl ?_
  intro p e s m args below meth c s₁ B hml hv
  obtain ⟨rfl, C, w⟩ := Cx.of (own := RX5) B rfl hml hv
  have hl := lv_entry ([.ref (ad E 8 0), .int x1, .int x2]) (n := 4) (by first | exact Nat.le_of_ble_eq_true rfl)
  rw [lg_entry_eq]
  generalize (lg_sl ([.ref (ad E 8 0), .int x1, .int x2]) ++ List.replicate (4 - (lg_sl ([.ref (ad E 8 0), .int x1, .int x2])).length) Slot.unset).toArray = ls at hl ⊢
  exact TX5_nextOf C   h w hl
theorem ydX5_nextOf : yX5_nextOf.cls = RX5 ∧ yX5_nextOf.cls ≠ "java/lang/invoke/MethodHandle" ∧ yX5_nextOf.cls ≠ "java/lang/invoke/VarHandle" ∧ (parseMethodDescriptor yX5_nextOf.desc).map (fun d => d.parameters.length) = some 2 := by decide +kernel
/-! X5.does(II)V -/
abbrev rmX5_does : Room := { frames := 4, cells := 0, slots := 0, locals := 78 }
abbrev wdX5_does : Cond := Cond.code yX5_does cX5_does 3 none
noncomputable def fbX5_does_86 (F : Nat)   (a1 : Int32) (s0 : Int32) (s1 : Int32) (s2 : Int32) (s3 : Int32) (M : M2) (J : J2) : Option (M2 × J2) := bd2 (fX5_put s3 s2 (s1 + s0) M J) (fun M2 J3 => bd2 (fX5_put a1 (1 : Int32) (1 : Int32) M2 J3) (fun M5 J6 => bd2 (fX5_put a1 (4 : Int32) (0 : Int32) M5 J6) (fun M8 J9 => bnd (up2 M8 0 12 (1 : Int32)) (fun M10 => some (M10, J9)))))
set_option maxRecDepth 20000 in
set_option maxHeartbeats 1000000 in
theorem TX5_does_86 {MR : M2} {JR : J2}   (C : Cx E A p s m args meth c wdX5_does cX5_does 3 none RX5)   (a1 : Int32) (s0 : Int32) (s1 : Int32) (s2 : Int32) (s3 : Int32) (M : M2) (J : J2)  (h : fbX5_does_86 F  a1 s0 s1 s2 s3 M J = some (MR, JR)) (w : Wd E A s (sg G 8 M) (sg K 8 J) H locs) (hl : lv_has ls 3 [(0, .ref (ad E 8 0)), (1, .int a1)]) : W p l e rmX5_does s m args below meth c H locs 0 0 (QV E A below args s  (sg G 8 MR) (sg K 8 JR)) (F0 m 86 ls [.int s0, .int s1, .int s2, .int s3, .ref (ad E 8 0)]) := by
  obtain ⟨hx, hb, hr, hml, hown, hts, hlocks, hKK, hA1, hA2⟩ := id C
  unfold fbX5_does_86 at h
  refine lv_iadd hx hb dX5_does_86 ?_
  obtain ⟨M2, J3, hv1, h⟩ := bd2_of h
  refine x_cVv (As := [.int s3, .int s2, .int (s1 + s0)]) (rest := []) C w (v8 (by decide)) cel_8 rfl (mtX5_put  hv1) q9_20 q9_21 q9_22 q1_5 q9_23 ydX5_put ⟨rfl, rfl⟩ ⟨by decide, by decide⟩ ⟨Nat.zero_le _, Nat.zero_le _⟩ hl.1 (Nat.le_of_ble_eq_true rfl) rfl dX5_does_87 (fun H locs w => ?_)
  refine lv_aload_n hx hb dX5_does_90 rfl (lv_at hl 0 rfl) ?_
  refine lv_iload_n hx hb dX5_does_91 rfl (lv_at hl 1 rfl) ?_
  refine lv_iconst (v := (1 : Int32)) hx hb dX5_does_92 (by decide) ?_
  refine lv_iconst (v := (1 : Int32)) hx hb dX5_does_93 (by decide) ?_
  obtain ⟨M5, J6, hv4, h⟩ := bd2_of h
  refine x_cVv (As := [.int a1, .int (1 : Int32), .int (1 : Int32)]) (rest := []) C w (v8 (by decide)) cel_8 rfl (mtX5_put  hv4) q9_20 q9_21 q9_22 q1_5 q9_23 ydX5_put ⟨rfl, rfl⟩ ⟨by decide, by decide⟩ ⟨Nat.zero_le _, Nat.zero_le _⟩ hl.1 (Nat.le_of_ble_eq_true rfl) rfl dX5_does_94 (fun H locs w => ?_)
  refine lv_aload_n hx hb dX5_does_97 rfl (lv_at hl 0 rfl) ?_
  refine lv_iload_n hx hb dX5_does_98 rfl (lv_at hl 1 rfl) ?_
  refine lv_iconst (v := (4 : Int32)) hx hb dX5_does_99 (by decide) ?_
  refine lv_iconst (v := (0 : Int32)) hx hb dX5_does_100 (by decide) ?_
  obtain ⟨M8, J9, hv7, h⟩ := bd2_of h
  refine x_cVv (As := [.int a1, .int (4 : Int32), .int (0 : Int32)]) (rest := []) C w (v8 (by decide)) cel_8 rfl (mtX5_put  hv7) q9_20 q9_21 q9_22 q1_5 q9_23 ydX5_put ⟨rfl, rfl⟩ ⟨by decide, by decide⟩ ⟨Nat.zero_le _, Nat.zero_le _⟩ hl.1 (Nat.le_of_ble_eq_true rfl) rfl dX5_does_101 (fun H locs w => ?_)
  refine lv_aload_n hx hb dX5_does_104 rfl (lv_at hl 0 rfl) ?_
  refine lv_iconst (v := (1 : Int32)) hx hb dX5_does_105 (by decide) ?_
  refine pL_X5_became (Or.inr rfl) C w q17_9 dX5_does_106 (fun M10 H locs e11 w => ?_)
  replace h := bnd_of h e11
  refine lv_goto (tgt := 176) hx hb dX5_does_109 (by decide) ?_
  obtain ⟨e2, e3⟩ := rt2 h
  exact x_rv C w (by rw [e2]) (by rw [e3]) dX5_does_176
noncomputable def fX5_does (F : Nat)  (x1 : Int32) (x2 : Int32) (M : M2) (J : J2) : Option (M2 × J2) := (fX5_nextOf F M J x1 x2).bind (fun vv2 => (if vv2 = (1 : Int32) then ((fX5_its M J x1 (5 : Int32)).bind (fun vv10 => bd2 (fX5_put x1 (5 : Int32) (vv10 - (1 : Int32)) M J) (fun M12 J13 => some (M12, J13)))) else if vv2 = (2 : Int32) then ((fX5_its M J x1 (6 : Int32)).bind (fun vv15 => (fX5_its M J x1 (1 : Int32)).bind (fun vv17 => (if ¬ vv17 = 0 then (fbX5_does_86 F x1 (0 : Int32) vv15 (6 : Int32) x1 M J) else (fbX5_does_86 F x1 (1 : Int32) vv15 (6 : Int32) x1 M J))))) else if vv2 = (3 : Int32) then (some (M, J)) else if vv2 = (4 : Int32) then (bd2 (fX5_put x1 (1 : Int32) (2 : Int32) M J) (fun M20 J21 => bd2 (fX5_put x1 (4 : Int32) (0 : Int32) M20 J21) (fun M23 J24 => some (M23, J24)))) else if vv2 = (5 : Int32) then ((fX5_its M J x1 (4 : Int32)).bind (fun vv26 => bd2 (fX5_put x1 (4 : Int32) (vv26 + (1 : Int32)) M J) (fun M28 J29 => some (M28, J29)))) else if vv2 = (6 : Int32) then (bd2 (fX5_put x1 (1 : Int32) (0 : Int32) M J) (fun M31 J32 => bd2 (fX5_put x1 (4 : Int32) (0 : Int32) M31 J32) (fun M34 J35 => bd2 (fX5_put x1 (5 : Int32) (M34 1 6) M34 J35) (fun M37 J38 => some (M37, J38))))) else (some (M, J))))
set_option maxRecDepth 20000 in
set_option maxHeartbeats 1000000 in
theorem TX5_does {MR : M2} {JR : J2}  (C : Cx E A p s m args meth c wdX5_does cX5_does 3 none RX5)  {x1 : Int32} {x2 : Int32}  (h : fX5_does F  x1 x2 M J = some (MR, JR)) (w : Wd E A s (sg G 8 M) (sg K 8 J) H locs) (hl : lv_has ls 3 [(0, .ref (ad E 8 0)), (1, .int x1), (2, .int x2)]) : W p l e rmX5_does s m args below meth c H locs 0 0 (QV E A below args s  (sg G 8 MR) (sg K 8 JR)) (F0 m 0 ls []) := by
  obtain ⟨hx, hb, hr, hml, hown, hts, hlocks, hKK, hA1, hA2⟩ := id C
  unfold fX5_does at h
  refine lv_aload_n hx hb dX5_does_0 rfl (lv_at hl 0 rfl) ?_
  refine lv_iload_n hx hb dX5_does_1 rfl (lv_at hl 1 rfl) ?_
  refine lv_iload_n hx hb dX5_does_2 rfl (lv_at hl 2 rfl) ?_
  obtain ⟨vv2, hv1, h⟩ := bind_of h
  refine x_cVi (As := [.int x1, .int x2]) (rest := []) C w (v8 (by decide)) cel_8 rfl (mtX5_nextOf  hv1) q17_14 q17_15 q17_16 q1_5 q17_17 ydX5_nextOf ⟨rfl, rfl⟩ ⟨by decide, by decide⟩ ⟨Nat.zero_le _, Nat.zero_le _⟩ hl.1 (Nat.le_of_ble_eq_true rfl) rfl dX5_does_3 (fun H locs w => ?_)
  by_cases c3 : vv2 = (1 : Int32)
  · replace h := ite_t h c3
    refine lv_tableIn (tgt := 44) hx hb dX5_does_6 (by rw [c3]; decide) (by rw [c3]; decide) (by rw [c3]; rfl) (by decide) ?_
    refine lv_aload_n hx hb dX5_does_44 rfl (lv_at hl 0 rfl) ?_
    refine lv_iload_n hx hb dX5_does_45 rfl (lv_at hl 1 rfl) ?_
    refine lv_iconst (v := (5 : Int32)) hx hb dX5_does_46 (by decide) ?_
    refine lv_aload_n hx hb dX5_does_47 rfl (lv_at hl 0 rfl) ?_
    refine lv_iload_n hx hb dX5_does_48 rfl (lv_at hl 1 rfl) ?_
    refine lv_iconst (v := (5 : Int32)) hx hb dX5_does_49 (by decide) ?_
    obtain ⟨vv10, hv9, h⟩ := bind_of h
    refine x_cVi (As := [.int x1, .int (5 : Int32)]) (rest := [.int (5 : Int32), .int x1, .ref (ad E 8 0)]) C w (v8 (by decide)) cel_8 rfl (mtX5_its  hv9) q11_5 q11_6 q11_7 q1_5 q11_8 ydX5_its ⟨rfl, rfl⟩ ⟨by decide, by decide⟩ ⟨Nat.zero_le _, Nat.zero_le _⟩ hl.1 (Nat.le_of_ble_eq_true rfl) rfl dX5_does_50 (fun H locs w => ?_)
    refine lv_iconst (v := (1 : Int32)) hx hb dX5_does_53 (by decide) ?_
    refine lv_isub hx hb dX5_does_54 ?_
    obtain ⟨M12, J13, hv11, h⟩ := bd2_of h
    refine x_cVv (As := [.int x1, .int (5 : Int32), .int (vv10 - (1 : Int32))]) (rest := []) C w (v8 (by decide)) cel_8 rfl (mtX5_put  hv11) q9_20 q9_21 q9_22 q1_5 q9_23 ydX5_put ⟨rfl, rfl⟩ ⟨by decide, by decide⟩ ⟨Nat.zero_le _, Nat.zero_le _⟩ hl.1 (Nat.le_of_ble_eq_true rfl) rfl dX5_does_55 (fun H locs w => ?_)
    refine lv_goto (tgt := 176) hx hb dX5_does_58 (by decide) ?_
    obtain ⟨e2, e3⟩ := rt2 h
    exact x_rv C w (by rw [e2]) (by rw [e3]) dX5_does_176
  replace h := ite_f h c3
  by_cases c4 : vv2 = (2 : Int32)
  · replace h := ite_t h c4
    refine lv_tableIn (tgt := 61) hx hb dX5_does_6 (by rw [c4]; decide) (by rw [c4]; decide) (by rw [c4]; rfl) (by decide) ?_
    refine lv_aload_n hx hb dX5_does_61 rfl (lv_at hl 0 rfl) ?_
    refine lv_iload_n hx hb dX5_does_62 rfl (lv_at hl 1 rfl) ?_
    refine lv_bipush (v := (6 : Int32)) hx hb dX5_does_63 (by decide) ?_
    refine lv_aload_n hx hb dX5_does_65 rfl (lv_at hl 0 rfl) ?_
    refine lv_iload_n hx hb dX5_does_66 rfl (lv_at hl 1 rfl) ?_
    refine lv_bipush (v := (6 : Int32)) hx hb dX5_does_67 (by decide) ?_
    obtain ⟨vv15, hv14, h⟩ := bind_of h
    refine x_cVi (As := [.int x1, .int (6 : Int32)]) (rest := [.int (6 : Int32), .int x1, .ref (ad E 8 0)]) C w (v8 (by decide)) cel_8 rfl (mtX5_its  hv14) q11_5 q11_6 q11_7 q1_5 q11_8 ydX5_its ⟨rfl, rfl⟩ ⟨by decide, by decide⟩ ⟨Nat.zero_le _, Nat.zero_le _⟩ hl.1 (Nat.le_of_ble_eq_true rfl) rfl dX5_does_69 (fun H locs w => ?_)
    refine lv_aload_n hx hb dX5_does_72 rfl (lv_at hl 0 rfl) ?_
    refine lv_iload_n hx hb dX5_does_73 rfl (lv_at hl 1 rfl) ?_
    refine lv_iconst (v := (1 : Int32)) hx hb dX5_does_74 (by decide) ?_
    obtain ⟨vv17, hv16, h⟩ := bind_of h
    refine x_cVi (As := [.int x1, .int (1 : Int32)]) (rest := [.int vv15, .int (6 : Int32), .int x1, .ref (ad E 8 0)]) C w (v8 (by decide)) cel_8 rfl (mtX5_its  hv16) q11_5 q11_6 q11_7 q1_5 q11_8 ydX5_its ⟨rfl, rfl⟩ ⟨by decide, by decide⟩ ⟨Nat.zero_le _, Nat.zero_le _⟩ hl.1 (Nat.le_of_ble_eq_true rfl) rfl dX5_does_75 (fun H locs w => ?_)
    refine lv_if_ne (tgt := 85) hx hb dX5_does_78 (by decide) (fun c18 => ?_) (fun c18 => ?_)
    · replace h := ite_t h c18
      refine lv_iconst (v := (0 : Int32)) hx hb dX5_does_85 (by decide) ?_
      exact TX5_does_86 C   _ _ _ _ _ _ _ h w (lv_sub hl [0, 1] rfl)
    · replace h := ite_f h (fun z => z c18)
      refine lv_iconst (v := (1 : Int32)) hx hb dX5_does_81 (by decide) ?_
      refine lv_goto (tgt := 86) hx hb dX5_does_82 (by decide) ?_
      exact TX5_does_86 C   _ _ _ _ _ _ _ h w (lv_sub hl [0, 1] rfl)
  replace h := ite_f h c4
  by_cases c5 : vv2 = (3 : Int32)
  · replace h := ite_t h c5
    refine lv_tableIn (tgt := 176) hx hb dX5_does_6 (by rw [c5]; decide) (by rw [c5]; decide) (by rw [c5]; rfl) (by decide) ?_
    obtain ⟨e2, e3⟩ := rt2 h
    exact x_rv C w (by rw [e2]) (by rw [e3]) dX5_does_176
  replace h := ite_f h c5
  by_cases c6 : vv2 = (4 : Int32)
  · replace h := ite_t h c6
    refine lv_tableIn (tgt := 112) hx hb dX5_does_6 (by rw [c6]; decide) (by rw [c6]; decide) (by rw [c6]; rfl) (by decide) ?_
    refine lv_aload_n hx hb dX5_does_112 rfl (lv_at hl 0 rfl) ?_
    refine lv_iload_n hx hb dX5_does_113 rfl (lv_at hl 1 rfl) ?_
    refine lv_iconst (v := (1 : Int32)) hx hb dX5_does_114 (by decide) ?_
    refine lv_iconst (v := (2 : Int32)) hx hb dX5_does_115 (by decide) ?_
    obtain ⟨M20, J21, hv19, h⟩ := bd2_of h
    refine x_cVv (As := [.int x1, .int (1 : Int32), .int (2 : Int32)]) (rest := []) C w (v8 (by decide)) cel_8 rfl (mtX5_put  hv19) q9_20 q9_21 q9_22 q1_5 q9_23 ydX5_put ⟨rfl, rfl⟩ ⟨by decide, by decide⟩ ⟨Nat.zero_le _, Nat.zero_le _⟩ hl.1 (Nat.le_of_ble_eq_true rfl) rfl dX5_does_116 (fun H locs w => ?_)
    refine lv_aload_n hx hb dX5_does_119 rfl (lv_at hl 0 rfl) ?_
    refine lv_iload_n hx hb dX5_does_120 rfl (lv_at hl 1 rfl) ?_
    refine lv_iconst (v := (4 : Int32)) hx hb dX5_does_121 (by decide) ?_
    refine lv_iconst (v := (0 : Int32)) hx hb dX5_does_122 (by decide) ?_
    obtain ⟨M23, J24, hv22, h⟩ := bd2_of h
    refine x_cVv (As := [.int x1, .int (4 : Int32), .int (0 : Int32)]) (rest := []) C w (v8 (by decide)) cel_8 rfl (mtX5_put  hv22) q9_20 q9_21 q9_22 q1_5 q9_23 ydX5_put ⟨rfl, rfl⟩ ⟨by decide, by decide⟩ ⟨Nat.zero_le _, Nat.zero_le _⟩ hl.1 (Nat.le_of_ble_eq_true rfl) rfl dX5_does_123 (fun H locs w => ?_)
    refine lv_goto (tgt := 176) hx hb dX5_does_126 (by decide) ?_
    obtain ⟨e2, e3⟩ := rt2 h
    exact x_rv C w (by rw [e2]) (by rw [e3]) dX5_does_176
  replace h := ite_f h c6
  by_cases c7 : vv2 = (5 : Int32)
  · replace h := ite_t h c7
    refine lv_tableIn (tgt := 129) hx hb dX5_does_6 (by rw [c7]; decide) (by rw [c7]; decide) (by rw [c7]; rfl) (by decide) ?_
    refine lv_aload_n hx hb dX5_does_129 rfl (lv_at hl 0 rfl) ?_
    refine lv_iload_n hx hb dX5_does_130 rfl (lv_at hl 1 rfl) ?_
    refine lv_iconst (v := (4 : Int32)) hx hb dX5_does_131 (by decide) ?_
    refine lv_aload_n hx hb dX5_does_132 rfl (lv_at hl 0 rfl) ?_
    refine lv_iload_n hx hb dX5_does_133 rfl (lv_at hl 1 rfl) ?_
    refine lv_iconst (v := (4 : Int32)) hx hb dX5_does_134 (by decide) ?_
    obtain ⟨vv26, hv25, h⟩ := bind_of h
    refine x_cVi (As := [.int x1, .int (4 : Int32)]) (rest := [.int (4 : Int32), .int x1, .ref (ad E 8 0)]) C w (v8 (by decide)) cel_8 rfl (mtX5_its  hv25) q11_5 q11_6 q11_7 q1_5 q11_8 ydX5_its ⟨rfl, rfl⟩ ⟨by decide, by decide⟩ ⟨Nat.zero_le _, Nat.zero_le _⟩ hl.1 (Nat.le_of_ble_eq_true rfl) rfl dX5_does_135 (fun H locs w => ?_)
    refine lv_iconst (v := (1 : Int32)) hx hb dX5_does_138 (by decide) ?_
    refine lv_iadd hx hb dX5_does_139 ?_
    obtain ⟨M28, J29, hv27, h⟩ := bd2_of h
    refine x_cVv (As := [.int x1, .int (4 : Int32), .int (vv26 + (1 : Int32))]) (rest := []) C w (v8 (by decide)) cel_8 rfl (mtX5_put  hv27) q9_20 q9_21 q9_22 q1_5 q9_23 ydX5_put ⟨rfl, rfl⟩ ⟨by decide, by decide⟩ ⟨Nat.zero_le _, Nat.zero_le _⟩ hl.1 (Nat.le_of_ble_eq_true rfl) rfl dX5_does_140 (fun H locs w => ?_)
    refine lv_goto (tgt := 176) hx hb dX5_does_143 (by decide) ?_
    obtain ⟨e2, e3⟩ := rt2 h
    exact x_rv C w (by rw [e2]) (by rw [e3]) dX5_does_176
  replace h := ite_f h c7
  by_cases c8 : vv2 = (6 : Int32)
  · replace h := ite_t h c8
    refine lv_tableIn (tgt := 146) hx hb dX5_does_6 (by rw [c8]; decide) (by rw [c8]; decide) (by rw [c8]; rfl) (by decide) ?_
    refine lv_aload_n hx hb dX5_does_146 rfl (lv_at hl 0 rfl) ?_
    refine lv_iload_n hx hb dX5_does_147 rfl (lv_at hl 1 rfl) ?_
    refine lv_iconst (v := (1 : Int32)) hx hb dX5_does_148 (by decide) ?_
    refine lv_iconst (v := (0 : Int32)) hx hb dX5_does_149 (by decide) ?_
    obtain ⟨M31, J32, hv30, h⟩ := bd2_of h
    refine x_cVv (As := [.int x1, .int (1 : Int32), .int (0 : Int32)]) (rest := []) C w (v8 (by decide)) cel_8 rfl (mtX5_put  hv30) q9_20 q9_21 q9_22 q1_5 q9_23 ydX5_put ⟨rfl, rfl⟩ ⟨by decide, by decide⟩ ⟨Nat.zero_le _, Nat.zero_le _⟩ hl.1 (Nat.le_of_ble_eq_true rfl) rfl dX5_does_150 (fun H locs w => ?_)
    refine lv_aload_n hx hb dX5_does_153 rfl (lv_at hl 0 rfl) ?_
    refine lv_iload_n hx hb dX5_does_154 rfl (lv_at hl 1 rfl) ?_
    refine lv_iconst (v := (4 : Int32)) hx hb dX5_does_155 (by decide) ?_
    refine lv_iconst (v := (0 : Int32)) hx hb dX5_does_156 (by decide) ?_
    obtain ⟨M34, J35, hv33, h⟩ := bd2_of h
    refine x_cVv (As := [.int x1, .int (4 : Int32), .int (0 : Int32)]) (rest := []) C w (v8 (by decide)) cel_8 rfl (mtX5_put  hv33) q9_20 q9_21 q9_22 q1_5 q9_23 ydX5_put ⟨rfl, rfl⟩ ⟨by decide, by decide⟩ ⟨Nat.zero_le _, Nat.zero_le _⟩ hl.1 (Nat.le_of_ble_eq_true rfl) rfl dX5_does_157 (fun H locs w => ?_)
    refine lv_aload_n hx hb dX5_does_160 rfl (lv_at hl 0 rfl) ?_
    refine lv_iload_n hx hb dX5_does_161 rfl (lv_at hl 1 rfl) ?_
    refine lv_iconst (v := (5 : Int32)) hx hb dX5_does_162 (by decide) ?_
    refine lv_aload_n hx hb dX5_does_163 rfl (lv_at hl 0 rfl) ?_
    refine gR_X5_s C w q3_16 dX5_does_164 ?_
    refine lv_bipush (v := (6 : Int32)) hx hb dX5_does_167 (by decide) ?_
    refine x_aldI_L C w (v8 (by decide)) c8_1 (inb_k (k := 6) (by decide) (by decide)) cl_6 dX5_does_169 ?_
    obtain ⟨M37, J38, hv36, h⟩ := bd2_of h
    refine x_cVv (As := [.int x1, .int (5 : Int32), .int (M34 1 6)]) (rest := []) C w (v8 (by decide)) cel_8 rfl (mtX5_put  hv36) q9_20 q9_21 q9_22 q1_5 q9_23 ydX5_put ⟨rfl, rfl⟩ ⟨by decide, by decide⟩ ⟨Nat.zero_le _, Nat.zero_le _⟩ hl.1 (Nat.le_of_ble_eq_true rfl) rfl dX5_does_170 (fun H locs w => ?_)
    refine lv_goto (tgt := 176) hx hb dX5_does_173 (by decide) ?_
    obtain ⟨e2, e3⟩ := rt2 h
    exact x_rv C w (by rw [e2]) (by rw [e3]) dX5_does_176
  replace h := ite_f h c8
  have hsw : vv2.toInt < 1 ∨ 6 < vv2.toInt := by
    have n0 := ne_toInt c3
    have n1 := ne_toInt c4
    have n2 := ne_toInt c5
    have n3 := ne_toInt c6
    have n4 := ne_toInt c7
    have n5 := ne_toInt c8
    have e0 : (1 : Int32).toInt = 1 := by decide
    have e1 : (2 : Int32).toInt = 2 := by decide
    have e2 : (3 : Int32).toInt = 3 := by decide
    have e3 : (4 : Int32).toInt = 4 := by decide
    have e4 : (5 : Int32).toInt = 5 := by decide
    have e5 : (6 : Int32).toInt = 6 := by decide
    simp only [e0, e1, e2, e3, e4, e5] at n0 n1 n2 n3 n4 n5
    omega
  refine lv_tableOut (tgt := 176) hx hb dX5_does_6 hsw (by decide) ?_
  obtain ⟨e2, e3⟩ := rt2 h
  exact x_rv C w (by rw [e2]) (by rw [e3]) dX5_does_176
theorem mtX5_does {MR : M2} {JR : J2}   {x1 : Int32} {x2 : Int32}  (h : fX5_does F  x1 x2 M J = some (MR, JR)) : MtV l yX5_does wdX5_does rmX5_does E [.ref (ad E 8 0), .int x1, .int x2] (sg G 8 M) (sg K 8 J)  (sg G 8 MR) (sg K 8 JR) := by
  intro sz
  refine Met.ofW (cc := cX5_does) (maxL := 3) (ret := none) (by decide) rfl ?_
  intro p e s m args below meth c s₁ B hml hv
  obtain ⟨rfl, C, w⟩ := Cx.of (own := RX5) B rfl hml hv
  have hl := lv_entry ([.ref (ad E 8 0), .int x1, .int x2]) (n := 3) (by first | exact Nat.le_of_ble_eq_true rfl)
  rw [lg_entry_eq]
  generalize (lg_sl ([.ref (ad E 8 0), .int x1, .int x2]) ++ List.replicate (3 - (lg_sl ([.ref (ad E 8 0), .int x1, .int x2])).length) Slot.unset).toArray = ls at hl ⊢
  exact TX5_does C   h w hl
theorem ydX5_does : yX5_does.cls = RX5 ∧ yX5_does.cls ≠ "java/lang/invoke/MethodHandle" ∧ yX5_does.cls ≠ "java/lang/invoke/VarHandle" ∧ (parseMethodDescriptor yX5_does.desc).map (fun d => d.parameters.length) = some 2 := by decide +kernel
/-! X5.minute(Z)V -/
abbrev rmX5_minute : Room := { frames := 5, cells := 0, slots := 0, locals := 100 }
abbrev wdX5_minute : Cond := Cond.code yX5_minute cX5_minute 5 none
noncomputable def fbX5_minute_403 (F : Nat)    (M : M2) (J : J2) : Option (M2 × J2) := bnd (up2 M 1 11 ((M 1 11) + (1 : Int32))) (fun M1 => bnd (up2 M1 1 12 ((M1 1 12) + (1 : Int32))) (fun M3 => some (M3, J)))
set_option maxRecDepth 20000 in
set_option maxHeartbeats 1000000 in
theorem TX5_minute_403 {MR : M2} {JR : J2}   (C : Cx E A p s m args meth c wdX5_minute cX5_minute 5 none RX5)    (M : M2) (J : J2)  (h : fbX5_minute_403 F  M J = some (MR, JR)) (w : Wd E A s (sg G 8 M) (sg K 8 J) H locs) (hl : lv_has ls 5 [(0, .ref (ad E 8 0))]) : W p l e rmX5_minute s m args below meth c H locs 0 0 (QV E A below args s  (sg G 8 MR) (sg K 8 JR)) (F0 m 403 ls []) := by
  obtain ⟨hx, hb, hr, hml, hown, hts, hlocks, hKK, hA1, hA2⟩ := id C
  unfold fbX5_minute_403 at h
  refine lv_aload_n hx hb dX5_minute_403 rfl (lv_at hl 0 rfl) ?_
  refine gR_X5_s C w q3_16 dX5_minute_404 ?_
  refine lv_bipush (v := (11 : Int32)) hx hb dX5_minute_407 (by decide) ?_
  refine lv_dup2_11 hx hb dX5_minute_409 rfl rfl ?_
  refine x_aldI_L C w (v8 (by decide)) c8_1 (inb_k (k := 11) (by decide) (by decide)) cl_11 dX5_minute_410 ?_
  refine lv_iconst (v := (1 : Int32)) hx hb dX5_minute_411 (by decide) ?_
  refine lv_iadd hx hb dX5_minute_412 ?_
  refine x_astI_L C w (v8 (by decide)) c8_1 (inb_k (k := 11) (by decide) (by decide)) cl_11 dX5_minute_413 (fun M1 H locs e2 w => ?_)
  replace h := bnd_of h e2
  refine lv_aload_n hx hb dX5_minute_414 rfl (lv_at hl 0 rfl) ?_
  refine gR_X5_s C w q3_16 dX5_minute_415 ?_
  refine lv_bipush (v := (12 : Int32)) hx hb dX5_minute_418 (by decide) ?_
  refine lv_dup2_11 hx hb dX5_minute_420 rfl rfl ?_
  refine x_aldI_L C w (v8 (by decide)) c8_1 (inb_k (k := 12) (by decide) (by decide)) cl_12 dX5_minute_421 ?_
  refine lv_iconst (v := (1 : Int32)) hx hb dX5_minute_422 (by decide) ?_
  refine lv_iadd hx hb dX5_minute_423 ?_
  refine x_astI_L C w (v8 (by decide)) c8_1 (inb_k (k := 12) (by decide) (by decide)) cl_12 dX5_minute_424 (fun M3 H locs e4 w => ?_)
  replace h := bnd_of h e4
  obtain ⟨e2, e3⟩ := rt2 h
  exact x_rv C w (by rw [e2]) (by rw [e3]) dX5_minute_425
noncomputable def fbX5_minute_344 (F : Nat)    (M : M2) (J : J2) : Option (M2 × J2) := (fX5_pressure M J).bind (fun vv2 => (if vv2 ≤ (M 1 4) then (fbX5_minute_403 F  M J) else (bnd (up2 J 2 4 ((J 2 4) + ((M 1 1) - (((M 1 4) * (M 1 0)) / (1000 : Int32))).toInt64)) (fun J4 => bnd (up2 M 1 1 (((M 1 4) * (M 1 0)) / (1000 : Int32))) (fun M6 => fbX5_minute_403 F  M6 J4)))))
set_option maxRecDepth 20000 in
set_option maxHeartbeats 1000000 in
theorem TX5_minute_344 {MR : M2} {JR : J2}   (C : Cx E A p s m args meth c wdX5_minute cX5_minute 5 none RX5)    (M : M2) (J : J2)  (h : fbX5_minute_344 F  M J = some (MR, JR)) (w : Wd E A s (sg G 8 M) (sg K 8 J) H locs) (hl : lv_has ls 5 [(0, .ref (ad E 8 0))]) : W p l e rmX5_minute s m args below meth c H locs 0 0 (QV E A below args s  (sg G 8 MR) (sg K 8 JR)) (F0 m 344 ls []) := by
  obtain ⟨hx, hb, hr, hml, hown, hts, hlocks, hKK, hA1, hA2⟩ := id C
  unfold fbX5_minute_344 at h
  refine lv_aload_n hx hb dX5_minute_344 rfl (lv_at hl 0 rfl) ?_
  obtain ⟨vv2, hv1, h⟩ := bind_of h
  refine x_cVi (As := []) (rest := []) C w (v8 (by decide)) cel_8 rfl (mtX5_pressure  hv1) q7_17 q7_18 q7_19 q1_5 q7_20 ydX5_pressure ⟨rfl, rfl⟩ ⟨by decide, by decide⟩ ⟨Nat.zero_le _, Nat.zero_le _⟩ hl.1 (Nat.le_of_ble_eq_true rfl) rfl dX5_minute_345 (fun H locs w => ?_)
  refine lv_aload_n hx hb dX5_minute_348 rfl (lv_at hl 0 rfl) ?_
  refine gR_X5_s C w q3_16 dX5_minute_349 ?_
  refine lv_iconst (v := (4 : Int32)) hx hb dX5_minute_352 (by decide) ?_
  refine x_aldI_L C w (v8 (by decide)) c8_1 (inb_k (k := 4) (by decide) (by decide)) cl_4 dX5_minute_353 ?_
  refine lv_icmp_le (tgt := 403) hx hb dX5_minute_354 (by decide) (fun c3 => ?_) (fun c3 => ?_)
  · replace h := ite_t h c3
    exact TX5_minute_403 C   _ _ h w (lv_sub hl [0] rfl)
  · replace h := ite_f h c3
    refine lv_aload_n hx hb dX5_minute_357 rfl (lv_at hl 0 rfl) ?_
    refine gR_X5_s C w q3_16 dX5_minute_358 ?_
    refine lv_iconst (v := (4 : Int32)) hx hb dX5_minute_361 (by decide) ?_
    refine x_aldI_L C w (v8 (by decide)) c8_1 (inb_k (k := 4) (by decide) (by decide)) cl_4 dX5_minute_362 ?_
    refine lv_aload_n hx hb dX5_minute_363 rfl (lv_at hl 0 rfl) ?_
    refine gR_X5_s C w q3_16 dX5_minute_364 ?_
    refine lv_iconst (v := (0 : Int32)) hx hb dX5_minute_367 (by decide) ?_
    refine x_aldI_L C w (v8 (by decide)) c8_1 (inb_k (k := 0) (by decide) (by decide)) cl_0 dX5_minute_368 ?_
    refine lv_imul hx hb dX5_minute_369 ?_
    refine lv_sipush (v := (1000 : Int32)) hx hb dX5_minute_370 (by decide) ?_
    refine lv_idiv hx hb dX5_minute_373 (by decide) ?_
    refine lv_istore (lv' := [(4, .int (((M 1 4) * (M 1 0)) / (1000 : Int32))), (0, .ref (ad E 8 0))]) hx hb dX5_minute_374 hl (by decide) rfl (fun ls hl => ?_)
    refine lv_aload_n hx hb dX5_minute_376 rfl (lv_at hl 1 rfl) ?_
    refine gR_X5_b C w q3_17 dX5_minute_377 ?_
    refine lv_iconst (v := (4 : Int32)) hx hb dX5_minute_380 (by decide) ?_
    refine lv_dup2_11 hx hb dX5_minute_381 rfl rfl ?_
    refine x_aldJ_L C w (v8 (by decide)) c8_2 (inb_k (k := 4) (by decide) (by decide)) cl_4 dX5_minute_382 ?_
    refine lv_aload_n hx hb dX5_minute_383 rfl (lv_at hl 1 rfl) ?_
    refine gR_X5_s C w q3_16 dX5_minute_384 ?_
    refine lv_iconst (v := (1 : Int32)) hx hb dX5_minute_387 (by decide) ?_
    refine x_aldI_L C w (v8 (by decide)) c8_1 (inb_k (k := 1) (by decide) (by decide)) cl_1 dX5_minute_388 ?_
    refine lv_iload hx hb dX5_minute_389 (lv_at hl 0 rfl) ?_
    refine lv_isub hx hb dX5_minute_391 ?_
    refine lv_i2l hx hb dX5_minute_392 rfl ?_
    refine lv_ladd hx hb dX5_minute_393 ?_
    refine x_astJ_L C w (v8 (by decide)) c8_2 (inb_k (k := 4) (by decide) (by decide)) cl_4 dX5_minute_394 (fun J4 H locs e5 w => ?_)
    replace h := bnd_of h e5
    refine lv_aload_n hx hb dX5_minute_395 rfl (lv_at hl 1 rfl) ?_
    refine gR_X5_s C w q3_16 dX5_minute_396 ?_
    refine lv_iconst (v := (1 : Int32)) hx hb dX5_minute_399 (by decide) ?_
    refine lv_iload hx hb dX5_minute_400 (lv_at hl 0 rfl) ?_
    refine x_astI_L C w (v8 (by decide)) c8_1 (inb_k (k := 1) (by decide) (by decide)) cl_1 dX5_minute_402 (fun M6 H locs e7 w => ?_)
    replace h := bnd_of h e7
    exact TX5_minute_403 C   _ _ h w (lv_sub hl [1] rfl)
noncomputable def fbX5_minute_299 (F : Nat)   (s0 : Int32) (M : M2) (J : J2) : Option (M2 × J2) := bnd (up2 M 1 1 ((M 1 1) - s0)) (fun M1 => bnd (up2 J 2 2 ((J 2 2) + s0.toInt64)) (fun J3 => bnd (up2 J3 2 3 ((J3 2 3) + ((M1 1 8) - s0).toInt64)) (fun J5 => fbX5_minute_344 F  M1 J5)))
set_option maxRecDepth 20000 in
set_option maxHeartbeats 1000000 in
theorem TX5_minute_299 {MR : M2} {JR : J2}   (C : Cx E A p s m args meth c wdX5_minute cX5_minute 5 none RX5)   (s0 : Int32) (M : M2) (J : J2)  (h : fbX5_minute_299 F  s0 M J = some (MR, JR)) (w : Wd E A s (sg G 8 M) (sg K 8 J) H locs) (hl : lv_has ls 5 [(0, .ref (ad E 8 0))]) : W p l e rmX5_minute s m args below meth c H locs 0 0 (QV E A below args s  (sg G 8 MR) (sg K 8 JR)) (F0 m 299 ls [.int s0]) := by
  obtain ⟨hx, hb, hr, hml, hown, hts, hlocks, hKK, hA1, hA2⟩ := id C
  unfold fbX5_minute_299 at h
  refine lv_istore (lv' := [(4, .int s0), (0, .ref (ad E 8 0))]) hx hb dX5_minute_299 hl (by decide) rfl (fun ls hl => ?_)
  refine lv_aload_n hx hb dX5_minute_301 rfl (lv_at hl 1 rfl) ?_
  refine gR_X5_s C w q3_16 dX5_minute_302 ?_
  refine lv_iconst (v := (1 : Int32)) hx hb dX5_minute_305 (by decide) ?_
  refine lv_dup2_11 hx hb dX5_minute_306 rfl rfl ?_
  refine x_aldI_L C w (v8 (by decide)) c8_1 (inb_k (k := 1) (by decide) (by decide)) cl_1 dX5_minute_307 ?_
  refine lv_iload hx hb dX5_minute_308 (lv_at hl 0 rfl) ?_
  refine lv_isub hx hb dX5_minute_310 ?_
  refine x_astI_L C w (v8 (by decide)) c8_1 (inb_k (k := 1) (by decide) (by decide)) cl_1 dX5_minute_311 (fun M1 H locs e2 w => ?_)
  replace h := bnd_of h e2
  refine lv_aload_n hx hb dX5_minute_312 rfl (lv_at hl 1 rfl) ?_
  refine gR_X5_b C w q3_17 dX5_minute_313 ?_
  refine lv_iconst (v := (2 : Int32)) hx hb dX5_minute_316 (by decide) ?_
  refine lv_dup2_11 hx hb dX5_minute_317 rfl rfl ?_
  refine x_aldJ_L C w (v8 (by decide)) c8_2 (inb_k (k := 2) (by decide) (by decide)) cl_2 dX5_minute_318 ?_
  refine lv_iload hx hb dX5_minute_319 (lv_at hl 0 rfl) ?_
  refine lv_i2l hx hb dX5_minute_321 rfl ?_
  refine lv_ladd hx hb dX5_minute_322 ?_
  refine x_astJ_L C w (v8 (by decide)) c8_2 (inb_k (k := 2) (by decide) (by decide)) cl_2 dX5_minute_323 (fun J3 H locs e4 w => ?_)
  replace h := bnd_of h e4
  refine lv_aload_n hx hb dX5_minute_324 rfl (lv_at hl 1 rfl) ?_
  refine gR_X5_b C w q3_17 dX5_minute_325 ?_
  refine lv_iconst (v := (3 : Int32)) hx hb dX5_minute_328 (by decide) ?_
  refine lv_dup2_11 hx hb dX5_minute_329 rfl rfl ?_
  refine x_aldJ_L C w (v8 (by decide)) c8_2 (inb_k (k := 3) (by decide) (by decide)) cl_3 dX5_minute_330 ?_
  refine lv_aload_n hx hb dX5_minute_331 rfl (lv_at hl 1 rfl) ?_
  refine gR_X5_s C w q3_16 dX5_minute_332 ?_
  refine lv_bipush (v := (8 : Int32)) hx hb dX5_minute_335 (by decide) ?_
  refine x_aldI_L C w (v8 (by decide)) c8_1 (inb_k (k := 8) (by decide) (by decide)) cl_8 dX5_minute_337 ?_
  refine lv_iload hx hb dX5_minute_338 (lv_at hl 0 rfl) ?_
  refine lv_isub hx hb dX5_minute_340 ?_
  refine lv_i2l hx hb dX5_minute_341 rfl ?_
  refine lv_ladd hx hb dX5_minute_342 ?_
  refine x_astJ_L C w (v8 (by decide)) c8_2 (inb_k (k := 3) (by decide) (by decide)) cl_3 dX5_minute_343 (fun J5 H locs e6 w => ?_)
  replace h := bnd_of h e6
  exact TX5_minute_344 C   _ _ h w (lv_sub hl [1] rfl)
noncomputable def fbX5_minute_241 (F : Nat)   (a1 : Int32) (s0 : Int32) (M : M2) (J : J2) : Option (M2 × J2) := bnd (up2 M 1 1 ((M 1 1) - s0)) (fun M1 => bnd (up2 J 2 1 ((J 2 1) + s0.toInt64)) (fun J3 => (if ¬ a1 = 0 then (fbX5_minute_344 F  M1 J3) else ((if (M1 1 8) ≤ (M1 1 1) then (fbX5_minute_299 F (M1 1 8) M1 J3) else (fbX5_minute_299 F (M1 1 1) M1 J3))))))
set_option maxRecDepth 20000 in
set_option maxHeartbeats 1000000 in
theorem TX5_minute_241 {MR : M2} {JR : J2}   (C : Cx E A p s m args meth c wdX5_minute cX5_minute 5 none RX5)   (a1 : Int32) (s0 : Int32) (M : M2) (J : J2)  (h : fbX5_minute_241 F  a1 s0 M J = some (MR, JR)) (w : Wd E A s (sg G 8 M) (sg K 8 J) H locs) (hl : lv_has ls 5 [(0, .ref (ad E 8 0)), (1, .int a1)]) : W p l e rmX5_minute s m args below meth c H locs 0 0 (QV E A below args s  (sg G 8 MR) (sg K 8 JR)) (F0 m 241 ls [.int s0]) := by
  obtain ⟨hx, hb, hr, hml, hown, hts, hlocks, hKK, hA1, hA2⟩ := id C
  unfold fbX5_minute_241 at h
  refine lv_istore_n (lv' := [(3, .int s0), (0, .ref (ad E 8 0)), (1, .int a1)]) hx hb dX5_minute_241 rfl hl (by decide) rfl (fun ls hl => ?_)
  refine lv_aload_n hx hb dX5_minute_242 rfl (lv_at hl 1 rfl) ?_
  refine gR_X5_s C w q3_16 dX5_minute_243 ?_
  refine lv_iconst (v := (1 : Int32)) hx hb dX5_minute_246 (by decide) ?_
  refine lv_dup2_11 hx hb dX5_minute_247 rfl rfl ?_
  refine x_aldI_L C w (v8 (by decide)) c8_1 (inb_k (k := 1) (by decide) (by decide)) cl_1 dX5_minute_248 ?_
  refine lv_iload_n hx hb dX5_minute_249 rfl (lv_at hl 0 rfl) ?_
  refine lv_isub hx hb dX5_minute_250 ?_
  refine x_astI_L C w (v8 (by decide)) c8_1 (inb_k (k := 1) (by decide) (by decide)) cl_1 dX5_minute_251 (fun M1 H locs e2 w => ?_)
  replace h := bnd_of h e2
  refine lv_aload_n hx hb dX5_minute_252 rfl (lv_at hl 1 rfl) ?_
  refine gR_X5_b C w q3_17 dX5_minute_253 ?_
  refine lv_iconst (v := (1 : Int32)) hx hb dX5_minute_256 (by decide) ?_
  refine lv_dup2_11 hx hb dX5_minute_257 rfl rfl ?_
  refine x_aldJ_L C w (v8 (by decide)) c8_2 (inb_k (k := 1) (by decide) (by decide)) cl_1 dX5_minute_258 ?_
  refine lv_iload_n hx hb dX5_minute_259 rfl (lv_at hl 0 rfl) ?_
  refine lv_i2l hx hb dX5_minute_260 rfl ?_
  refine lv_ladd hx hb dX5_minute_261 ?_
  refine x_astJ_L C w (v8 (by decide)) c8_2 (inb_k (k := 1) (by decide) (by decide)) cl_1 dX5_minute_262 (fun J3 H locs e4 w => ?_)
  replace h := bnd_of h e4
  refine lv_iload_n hx hb dX5_minute_263 rfl (lv_at hl 2 rfl) ?_
  refine lv_if_ne (tgt := 344) hx hb dX5_minute_264 (by decide) (fun c5 => ?_) (fun c5 => ?_)
  · replace h := ite_t h c5
    exact TX5_minute_344 C   _ _ h w (lv_sub hl [1] rfl)
  · replace h := ite_f h (fun z => z c5)
    refine lv_aload_n hx hb dX5_minute_267 rfl (lv_at hl 1 rfl) ?_
    refine gR_X5_s C w q3_16 dX5_minute_268 ?_
    refine lv_bipush (v := (8 : Int32)) hx hb dX5_minute_271 (by decide) ?_
    refine x_aldI_L C w (v8 (by decide)) c8_1 (inb_k (k := 8) (by decide) (by decide)) cl_8 dX5_minute_273 ?_
    refine lv_aload_n hx hb dX5_minute_274 rfl (lv_at hl 1 rfl) ?_
    refine gR_X5_s C w q3_16 dX5_minute_275 ?_
    refine lv_iconst (v := (1 : Int32)) hx hb dX5_minute_278 (by decide) ?_
    refine x_aldI_L C w (v8 (by decide)) c8_1 (inb_k (k := 1) (by decide) (by decide)) cl_1 dX5_minute_279 ?_
    refine lv_icmp_le (tgt := 292) hx hb dX5_minute_280 (by decide) (fun c6 => ?_) (fun c6 => ?_)
    · replace h := ite_t h c6
      refine lv_aload_n hx hb dX5_minute_292 rfl (lv_at hl 1 rfl) ?_
      refine gR_X5_s C w q3_16 dX5_minute_293 ?_
      refine lv_bipush (v := (8 : Int32)) hx hb dX5_minute_296 (by decide) ?_
      refine x_aldI_L C w (v8 (by decide)) c8_1 (inb_k (k := 8) (by decide) (by decide)) cl_8 dX5_minute_298 ?_
      exact TX5_minute_299 C   _ _ _ h w (lv_sub hl [1] rfl)
    · replace h := ite_f h c6
      refine lv_aload_n hx hb dX5_minute_283 rfl (lv_at hl 1 rfl) ?_
      refine gR_X5_s C w q3_16 dX5_minute_284 ?_
      refine lv_iconst (v := (1 : Int32)) hx hb dX5_minute_287 (by decide) ?_
      refine x_aldI_L C w (v8 (by decide)) c8_1 (inb_k (k := 1) (by decide) (by decide)) cl_1 dX5_minute_288 ?_
      refine lv_goto (tgt := 299) hx hb dX5_minute_289 (by decide) ?_
      exact TX5_minute_299 C   _ _ _ h w (lv_sub hl [1] rfl)
noncomputable def fbX5_minute_201 (F : Nat) (k71 : Int32 → Int32 → Int32 → M2 → J2 → Option (M2 × J2))  (a1 : Int32) (a2 : Int32) (a3 : Int32) (M : M2) (J : J2) : Option (M2 × J2) := k71 a1 a2 (a3 + (1 : Int32)) M J
set_option maxRecDepth 20000 in
set_option maxHeartbeats 1000000 in
theorem TX5_minute_201 {MR : M2} {JR : J2}  {k71 : Int32 → Int32 → Int32 → M2 → J2 → Option (M2 × J2)} (C : Cx E A p s m args meth c wdX5_minute cX5_minute 5 none RX5)  (hk71 : ∀ (a1 : Int32) (a2 : Int32) (a3 : Int32) (M : M2) (J : J2)  (ls : Array Slot) (H : Heap) (locs : List Loc), k71 a1 a2 a3 M J = some (MR, JR) → Wd E A s (sg G 8 M) (sg K 8 J) H locs → lv_has ls 5 [(0, .ref (ad E 8 0)), (1, .int a1), (2, .int a2), (3, .int a3)] → W p l e rmX5_minute s m args below meth c H locs 0 0 (QV E A below args s  (sg G 8 MR) (sg K 8 JR)) (F0 m 71 ls [])) (a1 : Int32) (a2 : Int32) (a3 : Int32) (M : M2) (J : J2)  (h : fbX5_minute_201 F k71 a1 a2 a3 M J = some (MR, JR)) (w : Wd E A s (sg G 8 M) (sg K 8 J) H locs) (hl : lv_has ls 5 [(0, .ref (ad E 8 0)), (1, .int a1), (2, .int a2), (3, .int a3)]) : W p l e rmX5_minute s m args below meth c H locs 0 0 (QV E A below args s  (sg G 8 MR) (sg K 8 JR)) (F0 m 201 ls []) := by
  obtain ⟨hx, hb, hr, hml, hown, hts, hlocks, hKK, hA1, hA2⟩ := id C
  unfold fbX5_minute_201 at h
  refine lv_iinc (v := (a3 + (1 : Int32))) (lv' := [(3, .int (a3 + (1 : Int32))), (0, .ref (ad E 8 0)), (1, .int a1), (2, .int a2)]) hx hb dX5_minute_201 hl (k := 3) rfl (congrArg (HAdd.hAdd _) (by decide)) (by decide) rfl (fun ls hl => ?_)
  refine lv_goto (tgt := 71) hx hb dX5_minute_204 (by decide) ?_
  exact hk71 _ _ _ _ _ _ _ _ h w (lv_sub hl [1, 2, 3, 0] rfl)
noncomputable def fsX5_minute_71 (F : Nat)   (k71 : Int32 → Int32 → Int32 → M2 → J2 → Option (M2 × J2)) : Int32 → Int32 → Int32 → M2 → J2 → Option (M2 × J2) := fun a1 a2 a3 M J => (if (M 1 10) ≤ a3 then ((if ((a2 * (M 1 7)) / (1000 : Int32)) ≤ (M 1 1) then (fbX5_minute_241 F a1 ((a2 * (M 1 7)) / (1000 : Int32)) M J) else (fbX5_minute_241 F a1 (M 1 1) M J))) else ((fX5_its M J a3 (1 : Int32)).bind (fun vv4 => (if ¬ vv4 = (1 : Int32) then ((if ¬ vv4 = (2 : Int32) then (fbX5_minute_201 F k71 a1 a2 a3 M J) else ((fX5_its M J a3 (0 : Int32)).bind (fun vv8 => bnd (up2 J 2 5 ((J 2 5) + ((3 : Int32) * vv8).toInt64)) (fun J9 => (fX5_its M J9 a3 (3 : Int32)).bind (fun vv12 => bd2 (fX5_put a3 (3 : Int32) (vv12 + (1 : Int32)) M J9) (fun M14 J15 => fbX5_minute_201 F k71 a1 a2 a3 M14 J15))))))) else ((fX5_its M J a3 (0 : Int32)).bind (fun vv17 => bnd (up2 M 1 1 ((M 1 1) + vv17)) (fun M18 => (fX5_its M18 J a3 (0 : Int32)).bind (fun vv21 => bnd (up2 J 2 0 ((J 2 0) + vv21.toInt64)) (fun J22 => (fX5_its M18 J22 a3 (0 : Int32)).bind (fun vv25 => bnd (up2 J22 2 5 ((J22 2 5) + ((10 : Int32) * vv25).toInt64)) (fun J26 => (fX5_its M18 J26 a3 (2 : Int32)).bind (fun vv29 => bd2 (fX5_put a3 (2 : Int32) (vv29 + (1 : Int32)) M18 J26) (fun M31 J32 => fbX5_minute_201 F k71 a1 a2 a3 M31 J32)))))))))))))
noncomputable def fbX5_minute_71 (F : Nat)   (n : Nat) : Int32 → Int32 → Int32 → M2 → J2 → Option (M2 × J2) := itr (fsX5_minute_71 F ) (fun _ _ _ _ _ => none) n
set_option maxRecDepth 20000 in
set_option maxHeartbeats 1000000 in
theorem SX5_minute_71 {MR : M2} {JR : J2}   {k71 : Int32 → Int32 → Int32 → M2 → J2 → Option (M2 × J2)} (C : Cx E A p s m args meth c wdX5_minute cX5_minute 5 none RX5)   (hk71 : ∀ (a1 : Int32) (a2 : Int32) (a3 : Int32) (M : M2) (J : J2)  (ls : Array Slot) (H : Heap) (locs : List Loc), k71 a1 a2 a3 M J = some (MR, JR) → Wd E A s (sg G 8 M) (sg K 8 J) H locs → lv_has ls 5 [(0, .ref (ad E 8 0)), (1, .int a1), (2, .int a2), (3, .int a3)] → W p l e rmX5_minute s m args below meth c H locs 0 0 (QV E A below args s  (sg G 8 MR) (sg K 8 JR)) (F0 m 71 ls [])) (a1 : Int32) (a2 : Int32) (a3 : Int32) (M : M2) (J : J2)  (h : fsX5_minute_71 F  k71 a1 a2 a3 M J = some (MR, JR)) (w : Wd E A s (sg G 8 M) (sg K 8 J) H locs) (hl : lv_has ls 5 [(0, .ref (ad E 8 0)), (1, .int a1), (2, .int a2), (3, .int a3)]) : W p l e rmX5_minute s m args below meth c H locs 0 0 (QV E A below args s  (sg G 8 MR) (sg K 8 JR)) (F0 m 71 ls []) := by
  obtain ⟨hx, hb, hr, hml, hown, hts, hlocks, hKK, hA1, hA2⟩ := id C
  unfold fsX5_minute_71 at h
  refine lv_iload_n hx hb dX5_minute_71 rfl (lv_at hl 3 rfl) ?_
  refine lv_aload_n hx hb dX5_minute_72 rfl (lv_at hl 0 rfl) ?_
  refine gR_X5_s C w q3_16 dX5_minute_73 ?_
  refine lv_bipush (v := (10 : Int32)) hx hb dX5_minute_76 (by decide) ?_
  refine x_aldI_L C w (v8 (by decide)) c8_1 (inb_k (k := 10) (by decide) (by decide)) cl_10 dX5_minute_78 ?_
  refine lv_icmp_ge (tgt := 207) hx hb dX5_minute_79 (by decide) (fun c1 => ?_) (fun c1 => ?_)
  · replace h := ite_t h c1
    refine lv_iload_n hx hb dX5_minute_207 rfl (lv_at hl 2 rfl) ?_
    refine lv_aload_n hx hb dX5_minute_208 rfl (lv_at hl 0 rfl) ?_
    refine gR_X5_s C w q3_16 dX5_minute_209 ?_
    refine lv_bipush (v := (7 : Int32)) hx hb dX5_minute_212 (by decide) ?_
    refine x_aldI_L C w (v8 (by decide)) c8_1 (inb_k (k := 7) (by decide) (by decide)) cl_7 dX5_minute_214 ?_
    refine lv_imul hx hb dX5_minute_215 ?_
    refine lv_sipush (v := (1000 : Int32)) hx hb dX5_minute_216 (by decide) ?_
    refine lv_idiv hx hb dX5_minute_219 (by decide) ?_
    refine lv_istore_n (lv' := [(3, .int ((a2 * (M 1 7)) / (1000 : Int32))), (0, .ref (ad E 8 0)), (1, .int a1), (2, .int a2)]) hx hb dX5_minute_220 rfl hl (by decide) rfl (fun ls hl => ?_)
    refine lv_iload_n hx hb dX5_minute_221 rfl (lv_at hl 0 rfl) ?_
    refine lv_aload_n hx hb dX5_minute_222 rfl (lv_at hl 1 rfl) ?_
    refine gR_X5_s C w q3_16 dX5_minute_223 ?_
    refine lv_iconst (v := (1 : Int32)) hx hb dX5_minute_226 (by decide) ?_
    refine x_aldI_L C w (v8 (by decide)) c8_1 (inb_k (k := 1) (by decide) (by decide)) cl_1 dX5_minute_227 ?_
    refine lv_icmp_le (tgt := 240) hx hb dX5_minute_228 (by decide) (fun c2 => ?_) (fun c2 => ?_)
    · replace h := ite_t h c2
      refine lv_iload_n hx hb dX5_minute_240 rfl (lv_at hl 0 rfl) ?_
      exact TX5_minute_241 C   _ _ _ _ h w (lv_sub hl [1, 2] rfl)
    · replace h := ite_f h c2
      refine lv_aload_n hx hb dX5_minute_231 rfl (lv_at hl 1 rfl) ?_
      refine gR_X5_s C w q3_16 dX5_minute_232 ?_
      refine lv_iconst (v := (1 : Int32)) hx hb dX5_minute_235 (by decide) ?_
      refine x_aldI_L C w (v8 (by decide)) c8_1 (inb_k (k := 1) (by decide) (by decide)) cl_1 dX5_minute_236 ?_
      refine lv_goto (tgt := 241) hx hb dX5_minute_237 (by decide) ?_
      exact TX5_minute_241 C   _ _ _ _ h w (lv_sub hl [1, 2] rfl)
  · replace h := ite_f h c1
    refine lv_aload_n hx hb dX5_minute_82 rfl (lv_at hl 0 rfl) ?_
    refine lv_iload_n hx hb dX5_minute_83 rfl (lv_at hl 3 rfl) ?_
    refine lv_iconst (v := (1 : Int32)) hx hb dX5_minute_84 (by decide) ?_
    obtain ⟨vv4, hv3, h⟩ := bind_of h
    refine x_cVi (As := [.int a3, .int (1 : Int32)]) (rest := []) C w (v8 (by decide)) cel_8 rfl (mtX5_its  hv3) q11_5 q11_6 q11_7 q1_5 q11_8 ydX5_its ⟨rfl, rfl⟩ ⟨by decide, by decide⟩ ⟨Nat.zero_le _, Nat.zero_le _⟩ hl.1 (Nat.le_of_ble_eq_true rfl) rfl dX5_minute_85 (fun H locs w => ?_)
    refine lv_istore (lv' := [(4, .int vv4), (0, .ref (ad E 8 0)), (1, .int a1), (2, .int a2), (3, .int a3)]) hx hb dX5_minute_88 hl (by decide) rfl (fun ls hl => ?_)
    refine lv_iload hx hb dX5_minute_90 (lv_at hl 0 rfl) ?_
    refine lv_iconst (v := (1 : Int32)) hx hb dX5_minute_92 (by decide) ?_
    refine lv_icmp_ne (tgt := 163) hx hb dX5_minute_93 (by decide) (fun c5 => ?_) (fun c5 => ?_)
    · replace h := ite_t h c5
      refine lv_iload hx hb dX5_minute_163 (lv_at hl 0 rfl) ?_
      refine lv_iconst (v := (2 : Int32)) hx hb dX5_minute_165 (by decide) ?_
      refine lv_icmp_ne (tgt := 201) hx hb dX5_minute_166 (by decide) (fun c6 => ?_) (fun c6 => ?_)
      · replace h := ite_t h c6
        exact TX5_minute_201 C  hk71 _ _ _ _ _ h w (lv_sub hl [1, 2, 3, 4] rfl)
      · replace h := ite_f h (fun z => z c6)
        refine lv_aload_n hx hb dX5_minute_169 rfl (lv_at hl 1 rfl) ?_
        refine gR_X5_b C w q3_17 dX5_minute_170 ?_
        refine lv_iconst (v := (5 : Int32)) hx hb dX5_minute_173 (by decide) ?_
        refine lv_dup2_11 hx hb dX5_minute_174 rfl rfl ?_
        refine x_aldJ_L C w (v8 (by decide)) c8_2 (inb_k (k := 5) (by decide) (by decide)) cl_5 dX5_minute_175 ?_
        refine lv_iconst (v := (3 : Int32)) hx hb dX5_minute_176 (by decide) ?_
        refine lv_aload_n hx hb dX5_minute_177 rfl (lv_at hl 1 rfl) ?_
        refine lv_iload_n hx hb dX5_minute_178 rfl (lv_at hl 4 rfl) ?_
        refine lv_iconst (v := (0 : Int32)) hx hb dX5_minute_179 (by decide) ?_
        obtain ⟨vv8, hv7, h⟩ := bind_of h
        refine x_cVi (As := [.int a3, .int (0 : Int32)]) (rest := [.int (3 : Int32), .long (J 2 5), .int (5 : Int32), .ref (ad E 8 2)]) C w (v8 (by decide)) cel_8 rfl (mtX5_its  hv7) q11_5 q11_6 q11_7 q1_5 q11_8 ydX5_its ⟨rfl, rfl⟩ ⟨by decide, by decide⟩ ⟨Nat.zero_le _, Nat.zero_le _⟩ hl.1 (Nat.le_of_ble_eq_true rfl) rfl dX5_minute_180 (fun H locs w => ?_)
        refine lv_imul hx hb dX5_minute_183 ?_
        refine lv_i2l hx hb dX5_minute_184 rfl ?_
        refine lv_ladd hx hb dX5_minute_185 ?_
        refine x_astJ_L C w (v8 (by decide)) c8_2 (inb_k (k := 5) (by decide) (by decide)) cl_5 dX5_minute_186 (fun J9 H locs e10 w => ?_)
        replace h := bnd_of h e10
        refine lv_aload_n hx hb dX5_minute_187 rfl (lv_at hl 1 rfl) ?_
        refine lv_iload_n hx hb dX5_minute_188 rfl (lv_at hl 4 rfl) ?_
        refine lv_iconst (v := (3 : Int32)) hx hb dX5_minute_189 (by decide) ?_
        refine lv_aload_n hx hb dX5_minute_190 rfl (lv_at hl 1 rfl) ?_
        refine lv_iload_n hx hb dX5_minute_191 rfl (lv_at hl 4 rfl) ?_
        refine lv_iconst (v := (3 : Int32)) hx hb dX5_minute_192 (by decide) ?_
        obtain ⟨vv12, hv11, h⟩ := bind_of h
        refine x_cVi (As := [.int a3, .int (3 : Int32)]) (rest := [.int (3 : Int32), .int a3, .ref (ad E 8 0)]) C w (v8 (by decide)) cel_8 rfl (mtX5_its  hv11) q11_5 q11_6 q11_7 q1_5 q11_8 ydX5_its ⟨rfl, rfl⟩ ⟨by decide, by decide⟩ ⟨Nat.zero_le _, Nat.zero_le _⟩ hl.1 (Nat.le_of_ble_eq_true rfl) rfl dX5_minute_193 (fun H locs w => ?_)
        refine lv_iconst (v := (1 : Int32)) hx hb dX5_minute_196 (by decide) ?_
        refine lv_iadd hx hb dX5_minute_197 ?_
        obtain ⟨M14, J15, hv13, h⟩ := bd2_of h
        refine x_cVv (As := [.int a3, .int (3 : Int32), .int (vv12 + (1 : Int32))]) (rest := []) C w (v8 (by decide)) cel_8 rfl (mtX5_put  hv13) q9_20 q9_21 q9_22 q1_5 q9_23 ydX5_put ⟨rfl, rfl⟩ ⟨by decide, by decide⟩ ⟨Nat.zero_le _, Nat.zero_le _⟩ hl.1 (Nat.le_of_ble_eq_true rfl) rfl dX5_minute_198 (fun H locs w => ?_)
        exact TX5_minute_201 C  hk71 _ _ _ _ _ h w (lv_sub hl [1, 2, 3, 4] rfl)
    · replace h := ite_f h (fun z => z c5)
      refine lv_aload_n hx hb dX5_minute_96 rfl (lv_at hl 1 rfl) ?_
      refine gR_X5_s C w q3_16 dX5_minute_97 ?_
      refine lv_iconst (v := (1 : Int32)) hx hb dX5_minute_100 (by decide) ?_
      refine lv_dup2_11 hx hb dX5_minute_101 rfl rfl ?_
      refine x_aldI_L C w (v8 (by decide)) c8_1 (inb_k (k := 1) (by decide) (by decide)) cl_1 dX5_minute_102 ?_
      refine lv_aload_n hx hb dX5_minute_103 rfl (lv_at hl 1 rfl) ?_
      refine lv_iload_n hx hb dX5_minute_104 rfl (lv_at hl 4 rfl) ?_
      refine lv_iconst (v := (0 : Int32)) hx hb dX5_minute_105 (by decide) ?_
      obtain ⟨vv17, hv16, h⟩ := bind_of h
      refine x_cVi (As := [.int a3, .int (0 : Int32)]) (rest := [.int (M 1 1), .int (1 : Int32), .ref (ad E 8 1)]) C w (v8 (by decide)) cel_8 rfl (mtX5_its  hv16) q11_5 q11_6 q11_7 q1_5 q11_8 ydX5_its ⟨rfl, rfl⟩ ⟨by decide, by decide⟩ ⟨Nat.zero_le _, Nat.zero_le _⟩ hl.1 (Nat.le_of_ble_eq_true rfl) rfl dX5_minute_106 (fun H locs w => ?_)
      refine lv_iadd hx hb dX5_minute_109 ?_
      refine x_astI_L C w (v8 (by decide)) c8_1 (inb_k (k := 1) (by decide) (by decide)) cl_1 dX5_minute_110 (fun M18 H locs e19 w => ?_)
      replace h := bnd_of h e19
      refine lv_aload_n hx hb dX5_minute_111 rfl (lv_at hl 1 rfl) ?_
      refine gR_X5_b C w q3_17 dX5_minute_112 ?_
      refine lv_iconst (v := (0 : Int32)) hx hb dX5_minute_115 (by decide) ?_
      refine lv_dup2_11 hx hb dX5_minute_116 rfl rfl ?_
      refine x_aldJ_L C w (v8 (by decide)) c8_2 (inb_k (k := 0) (by decide) (by decide)) cl_0 dX5_minute_117 ?_
      refine lv_aload_n hx hb dX5_minute_118 rfl (lv_at hl 1 rfl) ?_
      refine lv_iload_n hx hb dX5_minute_119 rfl (lv_at hl 4 rfl) ?_
      refine lv_iconst (v := (0 : Int32)) hx hb dX5_minute_120 (by decide) ?_
      obtain ⟨vv21, hv20, h⟩ := bind_of h
      refine x_cVi (As := [.int a3, .int (0 : Int32)]) (rest := [.long (J 2 0), .int (0 : Int32), .ref (ad E 8 2)]) C w (v8 (by decide)) cel_8 rfl (mtX5_its  hv20) q11_5 q11_6 q11_7 q1_5 q11_8 ydX5_its ⟨rfl, rfl⟩ ⟨by decide, by decide⟩ ⟨Nat.zero_le _, Nat.zero_le _⟩ hl.1 (Nat.le_of_ble_eq_true rfl) rfl dX5_minute_121 (fun H locs w => ?_)
      refine lv_i2l hx hb dX5_minute_124 rfl ?_
      refine lv_ladd hx hb dX5_minute_125 ?_
      refine x_astJ_L C w (v8 (by decide)) c8_2 (inb_k (k := 0) (by decide) (by decide)) cl_0 dX5_minute_126 (fun J22 H locs e23 w => ?_)
      replace h := bnd_of h e23
      refine lv_aload_n hx hb dX5_minute_127 rfl (lv_at hl 1 rfl) ?_
      refine gR_X5_b C w q3_17 dX5_minute_128 ?_
      refine lv_iconst (v := (5 : Int32)) hx hb dX5_minute_131 (by decide) ?_
      refine lv_dup2_11 hx hb dX5_minute_132 rfl rfl ?_
      refine x_aldJ_L C w (v8 (by decide)) c8_2 (inb_k (k := 5) (by decide) (by decide)) cl_5 dX5_minute_133 ?_
      refine lv_bipush (v := (10 : Int32)) hx hb dX5_minute_134 (by decide) ?_
      refine lv_aload_n hx hb dX5_minute_136 rfl (lv_at hl 1 rfl) ?_
      refine lv_iload_n hx hb dX5_minute_137 rfl (lv_at hl 4 rfl) ?_
      refine lv_iconst (v := (0 : Int32)) hx hb dX5_minute_138 (by decide) ?_
      obtain ⟨vv25, hv24, h⟩ := bind_of h
      refine x_cVi (As := [.int a3, .int (0 : Int32)]) (rest := [.int (10 : Int32), .long (J22 2 5), .int (5 : Int32), .ref (ad E 8 2)]) C w (v8 (by decide)) cel_8 rfl (mtX5_its  hv24) q11_5 q11_6 q11_7 q1_5 q11_8 ydX5_its ⟨rfl, rfl⟩ ⟨by decide, by decide⟩ ⟨Nat.zero_le _, Nat.zero_le _⟩ hl.1 (Nat.le_of_ble_eq_true rfl) rfl dX5_minute_139 (fun H locs w => ?_)
      refine lv_imul hx hb dX5_minute_142 ?_
      refine lv_i2l hx hb dX5_minute_143 rfl ?_
      refine lv_ladd hx hb dX5_minute_144 ?_
      refine x_astJ_L C w (v8 (by decide)) c8_2 (inb_k (k := 5) (by decide) (by decide)) cl_5 dX5_minute_145 (fun J26 H locs e27 w => ?_)
      replace h := bnd_of h e27
      refine lv_aload_n hx hb dX5_minute_146 rfl (lv_at hl 1 rfl) ?_
      refine lv_iload_n hx hb dX5_minute_147 rfl (lv_at hl 4 rfl) ?_
      refine lv_iconst (v := (2 : Int32)) hx hb dX5_minute_148 (by decide) ?_
      refine lv_aload_n hx hb dX5_minute_149 rfl (lv_at hl 1 rfl) ?_
      refine lv_iload_n hx hb dX5_minute_150 rfl (lv_at hl 4 rfl) ?_
      refine lv_iconst (v := (2 : Int32)) hx hb dX5_minute_151 (by decide) ?_
      obtain ⟨vv29, hv28, h⟩ := bind_of h
      refine x_cVi (As := [.int a3, .int (2 : Int32)]) (rest := [.int (2 : Int32), .int a3, .ref (ad E 8 0)]) C w (v8 (by decide)) cel_8 rfl (mtX5_its  hv28) q11_5 q11_6 q11_7 q1_5 q11_8 ydX5_its ⟨rfl, rfl⟩ ⟨by decide, by decide⟩ ⟨Nat.zero_le _, Nat.zero_le _⟩ hl.1 (Nat.le_of_ble_eq_true rfl) rfl dX5_minute_152 (fun H locs w => ?_)
      refine lv_iconst (v := (1 : Int32)) hx hb dX5_minute_155 (by decide) ?_
      refine lv_iadd hx hb dX5_minute_156 ?_
      obtain ⟨M31, J32, hv30, h⟩ := bd2_of h
      refine x_cVv (As := [.int a3, .int (2 : Int32), .int (vv29 + (1 : Int32))]) (rest := []) C w (v8 (by decide)) cel_8 rfl (mtX5_put  hv30) q9_20 q9_21 q9_22 q1_5 q9_23 ydX5_put ⟨rfl, rfl⟩ ⟨by decide, by decide⟩ ⟨Nat.zero_le _, Nat.zero_le _⟩ hl.1 (Nat.le_of_ble_eq_true rfl) rfl dX5_minute_157 (fun H locs w => ?_)
      refine lv_goto (tgt := 201) hx hb dX5_minute_160 (by decide) ?_
      exact TX5_minute_201 C  hk71 _ _ _ _ _ h w (lv_sub hl [1, 2, 3, 4] rfl)
theorem TX5_minute_71 {MR : M2} {JR : J2}   (C : Cx E A p s m args meth c wdX5_minute cX5_minute 5 none RX5)   : ∀ (n : Nat) (a1 : Int32) (a2 : Int32) (a3 : Int32) (M : M2) (J : J2)  (ls : Array Slot) (H : Heap) (locs : List Loc), fbX5_minute_71 F  n a1 a2 a3 M J = some (MR, JR) → Wd E A s (sg G 8 M) (sg K 8 J) H locs → lv_has ls 5 [(0, .ref (ad E 8 0)), (1, .int a1), (2, .int a2), (3, .int a3)] → W p l e rmX5_minute s m args below meth c H locs 0 0 (QV E A below args s  (sg G 8 MR) (sg K 8 JR)) (F0 m 71 ls []) := by
  intro n
  induction n with
  | zero => intro a1 a2 a3 M J  ls H locs h; exact absurd (show none = _ from h) (fun z => nomatch z)
  | succ n ih => intro a1 a2 a3 M J  ls H locs h w hl; exact SX5_minute_71 (F := F) C   ih a1 a2 a3 M J  h w hl
noncomputable def fbX5_minute_69 (F : Nat)   (a1 : Int32) (a2 : Int32) (M : M2) (J : J2) : Option (M2 × J2) := fbX5_minute_71 F F a1 a2 (0 : Int32) M J
set_option maxRecDepth 20000 in
set_option maxHeartbeats 1000000 in
theorem TX5_minute_69 {MR : M2} {JR : J2}   (C : Cx E A p s m args meth c wdX5_minute cX5_minute 5 none RX5)   (a1 : Int32) (a2 : Int32) (M : M2) (J : J2)  (h : fbX5_minute_69 F  a1 a2 M J = some (MR, JR)) (w : Wd E A s (sg G 8 M) (sg K 8 J) H locs) (hl : lv_has ls 5 [(0, .ref (ad E 8 0)), (1, .int a1), (2, .int a2)]) : W p l e rmX5_minute s m args below meth c H locs 0 0 (QV E A below args s  (sg G 8 MR) (sg K 8 JR)) (F0 m 69 ls []) := by
  obtain ⟨hx, hb, hr, hml, hown, hts, hlocks, hKK, hA1, hA2⟩ := id C
  unfold fbX5_minute_69 at h
  refine lv_iconst (v := (0 : Int32)) hx hb dX5_minute_69 (by decide) ?_
  refine lv_istore_n (lv' := [(3, .int (0 : Int32)), (0, .ref (ad E 8 0)), (1, .int a1), (2, .int a2)]) hx hb dX5_minute_70 rfl hl (by decide) rfl (fun ls hl => ?_)
  exact TX5_minute_71 C   _ _ _ _ _ _ _ _ _ h w (lv_sub hl [1, 2, 3, 0] rfl)
noncomputable def fsX5_minute_34 (F : Nat)   (k34 : Int32 → Int32 → Int32 → M2 → J2 → Option (M2 × J2)) : Int32 → Int32 → Int32 → M2 → J2 → Option (M2 × J2) := fun a1 a2 a3 M J => (if (M 1 10) ≤ a3 then (fbX5_minute_69 F a1 a2 M J) else ((if ¬ a1 = 0 then (fbX5_minute_69 F a1 a2 M J) else (chk (inb ((56 : Int32) + a3) 61) (bd2 (fX5_does F (M 1 ((56 : Int32) + a3).toNatClampNeg) a2 M J) (fun M5 J6 => k34 a1 a2 (a3 + (1 : Int32)) M5 J6))))))
noncomputable def fbX5_minute_34 (F : Nat)   (n : Nat) : Int32 → Int32 → Int32 → M2 → J2 → Option (M2 × J2) := itr (fsX5_minute_34 F ) (fun _ _ _ _ _ => none) n
set_option maxRecDepth 20000 in
set_option maxHeartbeats 1000000 in
theorem SX5_minute_34 {MR : M2} {JR : J2}   {k34 : Int32 → Int32 → Int32 → M2 → J2 → Option (M2 × J2)} (C : Cx E A p s m args meth c wdX5_minute cX5_minute 5 none RX5)   (hk34 : ∀ (a1 : Int32) (a2 : Int32) (a3 : Int32) (M : M2) (J : J2)  (ls : Array Slot) (H : Heap) (locs : List Loc), k34 a1 a2 a3 M J = some (MR, JR) → Wd E A s (sg G 8 M) (sg K 8 J) H locs → lv_has ls 5 [(0, .ref (ad E 8 0)), (1, .int a1), (2, .int a2), (3, .int a3)] → W p l e rmX5_minute s m args below meth c H locs 0 0 (QV E A below args s  (sg G 8 MR) (sg K 8 JR)) (F0 m 34 ls [])) (a1 : Int32) (a2 : Int32) (a3 : Int32) (M : M2) (J : J2)  (h : fsX5_minute_34 F  k34 a1 a2 a3 M J = some (MR, JR)) (w : Wd E A s (sg G 8 M) (sg K 8 J) H locs) (hl : lv_has ls 5 [(0, .ref (ad E 8 0)), (1, .int a1), (2, .int a2), (3, .int a3)]) : W p l e rmX5_minute s m args below meth c H locs 0 0 (QV E A below args s  (sg G 8 MR) (sg K 8 JR)) (F0 m 34 ls []) := by
  obtain ⟨hx, hb, hr, hml, hown, hts, hlocks, hKK, hA1, hA2⟩ := id C
  unfold fsX5_minute_34 at h
  refine lv_iload_n hx hb dX5_minute_34 rfl (lv_at hl 3 rfl) ?_
  refine lv_aload_n hx hb dX5_minute_35 rfl (lv_at hl 0 rfl) ?_
  refine gR_X5_s C w q3_16 dX5_minute_36 ?_
  refine lv_bipush (v := (10 : Int32)) hx hb dX5_minute_39 (by decide) ?_
  refine x_aldI_L C w (v8 (by decide)) c8_1 (inb_k (k := 10) (by decide) (by decide)) cl_10 dX5_minute_41 ?_
  refine lv_icmp_ge (tgt := 69) hx hb dX5_minute_42 (by decide) (fun c1 => ?_) (fun c1 => ?_)
  · replace h := ite_t h c1
    exact TX5_minute_69 C   _ _ _ _ h w (lv_sub hl [0, 1, 2] rfl)
  · replace h := ite_f h c1
    refine lv_iload_n hx hb dX5_minute_45 rfl (lv_at hl 1 rfl) ?_
    refine lv_if_ne (tgt := 69) hx hb dX5_minute_46 (by decide) (fun c2 => ?_) (fun c2 => ?_)
    · replace h := ite_t h c2
      exact TX5_minute_69 C   _ _ _ _ h w (lv_sub hl [0, 1, 2] rfl)
    · replace h := ite_f h (fun z => z c2)
      refine lv_aload_n hx hb dX5_minute_49 rfl (lv_at hl 0 rfl) ?_
      refine lv_aload_n hx hb dX5_minute_50 rfl (lv_at hl 0 rfl) ?_
      refine gR_X5_s C w q3_16 dX5_minute_51 ?_
      refine lv_bipush (v := (56 : Int32)) hx hb dX5_minute_54 (by decide) ?_
      refine lv_iload_n hx hb dX5_minute_56 rfl (lv_at hl 3 rfl) ?_
      refine lv_iadd hx hb dX5_minute_57 ?_
      obtain ⟨ki3, h⟩ := chk_of h
      refine x_aldI_L C w (v8 (by decide)) c8_1 ki3 rfl dX5_minute_58 ?_
      refine lv_iload_n hx hb dX5_minute_59 rfl (lv_at hl 2 rfl) ?_
      obtain ⟨M5, J6, hv4, h⟩ := bd2_of h
      refine x_cVv (As := [.int (M 1 ((56 : Int32) + a3).toNatClampNeg), .int a2]) (rest := []) C w (v8 (by decide)) cel_8 rfl (mtX5_does  hv4) q17_10 q17_11 q17_12 q1_5 q17_13 ydX5_does ⟨rfl, rfl⟩ ⟨by decide, by decide⟩ ⟨Nat.zero_le _, Nat.zero_le _⟩ hl.1 (Nat.le_of_ble_eq_true rfl) rfl dX5_minute_60 (fun H locs w => ?_)
      refine lv_iinc (v := (a3 + (1 : Int32))) (lv' := [(3, .int (a3 + (1 : Int32))), (0, .ref (ad E 8 0)), (1, .int a1), (2, .int a2)]) hx hb dX5_minute_63 hl (k := 3) rfl (congrArg (HAdd.hAdd _) (by decide)) (by decide) rfl (fun ls hl => ?_)
      refine lv_goto (tgt := 34) hx hb dX5_minute_66 (by decide) ?_
      exact hk34 _ _ _ _ _ _ _ _ h w (lv_sub hl [1, 2, 3, 0] rfl)
theorem TX5_minute_34 {MR : M2} {JR : J2}   (C : Cx E A p s m args meth c wdX5_minute cX5_minute 5 none RX5)   : ∀ (n : Nat) (a1 : Int32) (a2 : Int32) (a3 : Int32) (M : M2) (J : J2)  (ls : Array Slot) (H : Heap) (locs : List Loc), fbX5_minute_34 F  n a1 a2 a3 M J = some (MR, JR) → Wd E A s (sg G 8 M) (sg K 8 J) H locs → lv_has ls 5 [(0, .ref (ad E 8 0)), (1, .int a1), (2, .int a2), (3, .int a3)] → W p l e rmX5_minute s m args below meth c H locs 0 0 (QV E A below args s  (sg G 8 MR) (sg K 8 JR)) (F0 m 34 ls []) := by
  intro n
  induction n with
  | zero => intro a1 a2 a3 M J  ls H locs h; exact absurd (show none = _ from h) (fun z => nomatch z)
  | succ n ih => intro a1 a2 a3 M J  ls H locs h w hl; exact SX5_minute_34 (F := F) C   ih a1 a2 a3 M J  h w hl
noncomputable def fbX5_minute_22 (F : Nat)   (a1 : Int32) (M : M2) (J : J2) : Option (M2 × J2) := (fX5_pressure M J).bind (fun vv2 => bnd (up2 M 0 12 (0 : Int32)) (fun M3 => fbX5_minute_34 F F a1 vv2 (0 : Int32) M3 J))
set_option maxRecDepth 20000 in
set_option maxHeartbeats 1000000 in
theorem TX5_minute_22 {MR : M2} {JR : J2}   (C : Cx E A p s m args meth c wdX5_minute cX5_minute 5 none RX5)   (a1 : Int32) (M : M2) (J : J2)  (h : fbX5_minute_22 F  a1 M J = some (MR, JR)) (w : Wd E A s (sg G 8 M) (sg K 8 J) H locs) (hl : lv_has ls 5 [(0, .ref (ad E 8 0)), (1, .int a1)]) : W p l e rmX5_minute s m args below meth c H locs 0 0 (QV E A below args s  (sg G 8 MR) (sg K 8 JR)) (F0 m 22 ls []) := by
  obtain ⟨hx, hb, hr, hml, hown, hts, hlocks, hKK, hA1, hA2⟩ := id C
  unfold fbX5_minute_22 at h
  refine lv_aload_n hx hb dX5_minute_22 rfl (lv_at hl 0 rfl) ?_
  obtain ⟨vv2, hv1, h⟩ := bind_of h
  refine x_cVi (As := []) (rest := []) C w (v8 (by decide)) cel_8 rfl (mtX5_pressure  hv1) q7_17 q7_18 q7_19 q1_5 q7_20 ydX5_pressure ⟨rfl, rfl⟩ ⟨by decide, by decide⟩ ⟨Nat.zero_le _, Nat.zero_le _⟩ hl.1 (Nat.le_of_ble_eq_true rfl) rfl dX5_minute_23 (fun H locs w => ?_)
  refine lv_istore_n (lv' := [(2, .int vv2), (0, .ref (ad E 8 0)), (1, .int a1)]) hx hb dX5_minute_26 rfl hl (by decide) rfl (fun ls hl => ?_)
  refine lv_aload_n hx hb dX5_minute_27 rfl (lv_at hl 1 rfl) ?_
  refine lv_iconst (v := (0 : Int32)) hx hb dX5_minute_28 (by decide) ?_
  refine pL_X5_became (Or.inl rfl) C w q17_9 dX5_minute_29 (fun M3 H locs e4 w => ?_)
  replace h := bnd_of h e4
  refine lv_iconst (v := (0 : Int32)) hx hb dX5_minute_32 (by decide) ?_
  refine lv_istore_n (lv' := [(3, .int (0 : Int32)), (2, .int vv2), (0, .ref (ad E 8 0)), (1, .int a1)]) hx hb dX5_minute_33 rfl hl (by decide) rfl (fun ls hl => ?_)
  exact TX5_minute_34 C   _ _ _ _ _ _ _ _ _ h w (lv_sub hl [2, 3, 1, 0] rfl)
noncomputable def fX5_minute (F : Nat)  (x1 : Int32) (M : M2) (J : J2) : Option (M2 × J2) := (if (M 1 12) < (M 1 9) then (fbX5_minute_22 F x1 M J) else (bd3 (fX5_rotates F M J) (fun vv5 M3 J4 => fbX5_minute_22 F x1 M3 J4)))
set_option maxRecDepth 20000 in
set_option maxHeartbeats 1000000 in
theorem TX5_minute {MR : M2} {JR : J2}  (C : Cx E A p s m args meth c wdX5_minute cX5_minute 5 none RX5)  {x1 : Int32}  (h : fX5_minute F  x1 M J = some (MR, JR)) (w : Wd E A s (sg G 8 M) (sg K 8 J) H locs) (hl : lv_has ls 5 [(0, .ref (ad E 8 0)), (1, .int x1)]) : W p l e rmX5_minute s m args below meth c H locs 0 0 (QV E A below args s  (sg G 8 MR) (sg K 8 JR)) (F0 m 0 ls []) := by
  obtain ⟨hx, hb, hr, hml, hown, hts, hlocks, hKK, hA1, hA2⟩ := id C
  unfold fX5_minute at h
  refine lv_aload_n hx hb dX5_minute_0 rfl (lv_at hl 0 rfl) ?_
  refine gR_X5_s C w q3_16 dX5_minute_1 ?_
  refine lv_bipush (v := (12 : Int32)) hx hb dX5_minute_4 (by decide) ?_
  refine x_aldI_L C w (v8 (by decide)) c8_1 (inb_k (k := 12) (by decide) (by decide)) cl_12 dX5_minute_6 ?_
  refine lv_aload_n hx hb dX5_minute_7 rfl (lv_at hl 0 rfl) ?_
  refine gR_X5_s C w q3_16 dX5_minute_8 ?_
  refine lv_bipush (v := (9 : Int32)) hx hb dX5_minute_11 (by decide) ?_
  refine x_aldI_L C w (v8 (by decide)) c8_1 (inb_k (k := 9) (by decide) (by decide)) cl_9 dX5_minute_13 ?_
  refine lv_icmp_lt (tgt := 22) hx hb dX5_minute_14 (by decide) (fun c1 => ?_) (fun c1 => ?_)
  · replace h := ite_t h c1
    exact TX5_minute_22 C   _ _ _ h w (lv_sub hl [0, 1] rfl)
  · replace h := ite_f h c1
    refine lv_aload_n hx hb dX5_minute_17 rfl (lv_at hl 0 rfl) ?_
    obtain ⟨vv5, M3, J4, hv2, h⟩ := bd3_of h
    refine x_cVi (As := []) (rest := []) C w (v8 (by decide)) cel_8 rfl (mtX5_rotates  hv2) q13_7 q13_8 q13_9 q1_5 q13_10 ydX5_rotates ⟨rfl, rfl⟩ ⟨by decide, by decide⟩ ⟨Nat.zero_le _, Nat.zero_le _⟩ hl.1 (Nat.le_of_ble_eq_true rfl) rfl dX5_minute_18 (fun H locs w => ?_)
    refine lv_pop hx hb dX5_minute_21 rfl ?_
    exact TX5_minute_22 C   _ _ _ h w (lv_sub hl [0, 1] rfl)
theorem mtX5_minute {MR : M2} {JR : J2}   {x1 : Int32}  (h : fX5_minute F  x1 M J = some (MR, JR)) : MtV l yX5_minute wdX5_minute rmX5_minute E [.ref (ad E 8 0), .int x1] (sg G 8 M) (sg K 8 J)  (sg G 8 MR) (sg K 8 JR) := by
  intro sz
  refine Met.ofW (cc := cX5_minute) (maxL := 5) (ret := none) (by decide) rfl ?_
  intro p e s m args below meth c s₁ B hml hv
  obtain ⟨rfl, C, w⟩ := Cx.of (own := RX5) B rfl hml hv
  have hl := lv_entry ([.ref (ad E 8 0), .int x1]) (n := 5) (by first | exact Nat.le_of_ble_eq_true rfl)
  rw [lg_entry_eq]
  generalize (lg_sl ([.ref (ad E 8 0), .int x1]) ++ List.replicate (5 - (lg_sl ([.ref (ad E 8 0), .int x1])).length) Slot.unset).toArray = ls at hl ⊢
  exact TX5_minute C   h w hl
theorem ydX5_minute : yX5_minute.cls = RX5 ∧ yX5_minute.cls ≠ "java/lang/invoke/MethodHandle" ∧ yX5_minute.cls ≠ "java/lang/invoke/VarHandle" ∧ (parseMethodDescriptor yX5_minute.desc).map (fun d => d.parameters.length) = some 1 := by decide +kernel
/-! X5.minutes(I)V -/
abbrev rmX5_minutes : Room := { frames := 6, cells := 0, slots := 0, locals := 124 }
abbrev wdX5_minutes : Cond := Cond.code yX5_minutes cX5_minutes 3 none
noncomputable def fsX5_minutes_2 (F : Nat)   (k2 : Int32 → Int32 → M2 → J2 → Option (M2 × J2)) : Int32 → Int32 → M2 → J2 → Option (M2 × J2) := fun a1 a2 M J => (if a1 ≤ a2 then (some (M, J)) else (bd2 (fX5_minute F (0 : Int32) M J) (fun M3 J4 => k2 a1 (a2 + (1 : Int32)) M3 J4)))
noncomputable def fbX5_minutes_2 (F : Nat)   (n : Nat) : Int32 → Int32 → M2 → J2 → Option (M2 × J2) := itr (fsX5_minutes_2 F ) (fun _ _ _ _ => none) n
set_option maxRecDepth 20000 in
set_option maxHeartbeats 1000000 in
theorem SX5_minutes_2 {MR : M2} {JR : J2}   {k2 : Int32 → Int32 → M2 → J2 → Option (M2 × J2)} (C : Cx E A p s m args meth c wdX5_minutes cX5_minutes 3 none RX5)   (hk2 : ∀ (a1 : Int32) (a2 : Int32) (M : M2) (J : J2)  (ls : Array Slot) (H : Heap) (locs : List Loc), k2 a1 a2 M J = some (MR, JR) → Wd E A s (sg G 8 M) (sg K 8 J) H locs → lv_has ls 3 [(0, .ref (ad E 8 0)), (1, .int a1), (2, .int a2)] → W p l e rmX5_minutes s m args below meth c H locs 0 0 (QV E A below args s  (sg G 8 MR) (sg K 8 JR)) (F0 m 2 ls [])) (a1 : Int32) (a2 : Int32) (M : M2) (J : J2)  (h : fsX5_minutes_2 F  k2 a1 a2 M J = some (MR, JR)) (w : Wd E A s (sg G 8 M) (sg K 8 J) H locs) (hl : lv_has ls 3 [(0, .ref (ad E 8 0)), (1, .int a1), (2, .int a2)]) : W p l e rmX5_minutes s m args below meth c H locs 0 0 (QV E A below args s  (sg G 8 MR) (sg K 8 JR)) (F0 m 2 ls []) := by
  obtain ⟨hx, hb, hr, hml, hown, hts, hlocks, hKK, hA1, hA2⟩ := id C
  unfold fsX5_minutes_2 at h
  refine lv_iload_n hx hb dX5_minutes_2 rfl (lv_at hl 2 rfl) ?_
  refine lv_iload_n hx hb dX5_minutes_3 rfl (lv_at hl 1 rfl) ?_
  refine lv_icmp_ge (tgt := 18) hx hb dX5_minutes_4 (by decide) (fun c1 => ?_) (fun c1 => ?_)
  · replace h := ite_t h c1
    obtain ⟨e2, e3⟩ := rt2 h
    exact x_rv C w (by rw [e2]) (by rw [e3]) dX5_minutes_18
  · replace h := ite_f h c1
    refine lv_aload_n hx hb dX5_minutes_7 rfl (lv_at hl 0 rfl) ?_
    refine lv_iconst (v := (0 : Int32)) hx hb dX5_minutes_8 (by decide) ?_
    obtain ⟨M3, J4, hv2, h⟩ := bd2_of h
    refine x_cVv (As := [.int (0 : Int32)]) (rest := []) C w (v8 (by decide)) cel_8 rfl (mtX5_minute  hv2) q17_5 q17_6 q17_7 q1_5 q17_8 ydX5_minute ⟨rfl, rfl⟩ ⟨by decide, by decide⟩ ⟨Nat.zero_le _, Nat.zero_le _⟩ hl.1 (Nat.le_of_ble_eq_true rfl) rfl dX5_minutes_9 (fun H locs w => ?_)
    refine lv_iinc (v := (a2 + (1 : Int32))) (lv' := [(2, .int (a2 + (1 : Int32))), (0, .ref (ad E 8 0)), (1, .int a1)]) hx hb dX5_minutes_12 hl (k := 2) rfl (congrArg (HAdd.hAdd _) (by decide)) (by decide) rfl (fun ls hl => ?_)
    refine lv_goto (tgt := 2) hx hb dX5_minutes_15 (by decide) ?_
    exact hk2 _ _ _ _ _ _ _ h w (lv_sub hl [1, 2, 0] rfl)
theorem TX5_minutes_2 {MR : M2} {JR : J2}   (C : Cx E A p s m args meth c wdX5_minutes cX5_minutes 3 none RX5)   : ∀ (n : Nat) (a1 : Int32) (a2 : Int32) (M : M2) (J : J2)  (ls : Array Slot) (H : Heap) (locs : List Loc), fbX5_minutes_2 F  n a1 a2 M J = some (MR, JR) → Wd E A s (sg G 8 M) (sg K 8 J) H locs → lv_has ls 3 [(0, .ref (ad E 8 0)), (1, .int a1), (2, .int a2)] → W p l e rmX5_minutes s m args below meth c H locs 0 0 (QV E A below args s  (sg G 8 MR) (sg K 8 JR)) (F0 m 2 ls []) := by
  intro n
  induction n with
  | zero => intro a1 a2 M J  ls H locs h; exact absurd (show none = _ from h) (fun z => nomatch z)
  | succ n ih => intro a1 a2 M J  ls H locs h w hl; exact SX5_minutes_2 (F := F) C   ih a1 a2 M J  h w hl
noncomputable def fX5_minutes (F : Nat)  (x1 : Int32) (M : M2) (J : J2) : Option (M2 × J2) := fbX5_minutes_2 F F x1 (0 : Int32) M J
set_option maxRecDepth 20000 in
set_option maxHeartbeats 1000000 in
theorem TX5_minutes {MR : M2} {JR : J2}  (C : Cx E A p s m args meth c wdX5_minutes cX5_minutes 3 none RX5)  {x1 : Int32}  (h : fX5_minutes F  x1 M J = some (MR, JR)) (w : Wd E A s (sg G 8 M) (sg K 8 J) H locs) (hl : lv_has ls 3 [(0, .ref (ad E 8 0)), (1, .int x1)]) : W p l e rmX5_minutes s m args below meth c H locs 0 0 (QV E A below args s  (sg G 8 MR) (sg K 8 JR)) (F0 m 0 ls []) := by
  obtain ⟨hx, hb, hr, hml, hown, hts, hlocks, hKK, hA1, hA2⟩ := id C
  unfold fX5_minutes at h
  refine lv_iconst (v := (0 : Int32)) hx hb dX5_minutes_0 (by decide) ?_
  refine lv_istore_n (lv' := [(2, .int (0 : Int32)), (0, .ref (ad E 8 0)), (1, .int x1)]) hx hb dX5_minutes_1 rfl hl (by decide) rfl (fun ls hl => ?_)
  exact TX5_minutes_2 C   _ _ _ _ _ _ _ _ h w (lv_sub hl [1, 2, 0] rfl)
theorem mtX5_minutes {MR : M2} {JR : J2}   {x1 : Int32}  (h : fX5_minutes F  x1 M J = some (MR, JR)) : MtV l yX5_minutes wdX5_minutes rmX5_minutes E [.ref (ad E 8 0), .int x1] (sg G 8 M) (sg K 8 J)  (sg G 8 MR) (sg K 8 JR) := by
  intro sz
  refine Met.ofW (cc := cX5_minutes) (maxL := 3) (ret := none) (by decide) rfl ?_
  intro p e s m args below meth c s₁ B hml hv
  obtain ⟨rfl, C, w⟩ := Cx.of (own := RX5) B rfl hml hv
  have hl := lv_entry ([.ref (ad E 8 0), .int x1]) (n := 3) (by first | exact Nat.le_of_ble_eq_true rfl)
  rw [lg_entry_eq]
  generalize (lg_sl ([.ref (ad E 8 0), .int x1]) ++ List.replicate (3 - (lg_sl ([.ref (ad E 8 0), .int x1])).length) Slot.unset).toArray = ls at hl ⊢
  exact TX5_minutes C   h w hl
theorem ydX5_minutes : yX5_minutes.cls = RX5 ∧ yX5_minutes.cls ≠ "java/lang/invoke/MethodHandle" ∧ yX5_minutes.cls ≠ "java/lang/invoke/VarHandle" ∧ (parseMethodDescriptor yX5_minutes.desc).map (fun d => d.parameters.length) = some 1 := by decide +kernel
/-! X5.setVolume(I)I -/
abbrev rmX5_setVolume : Room := { frames := 2, cells := 0, slots := 0, locals := 34 }
abbrev wdX5_setVolume : Cond := Cond.code yX5_setVolume cX5_setVolume 2 (some .int)
noncomputable def fX5_setVolume (F : Nat)  (x1 : Int32) (M : M2) (J : J2) : Option (Int32 × M2 × J2) := (if ¬ (fX5_in x1 (100 : Int32) (5000 : Int32)) = 0 then (chk (¬ x1 = 0) ((if (((M 1 1) * (1000 : Int32)) / x1) ≤ (M 1 4) then (bd2 (fX5_holds F M J) (fun M5 J6 => bnd (up2 M5 1 0 x1) (fun M7 => bd2 (fX5_saves F M7 J6) (fun M10 J11 => (fX5_pressure M10 J11).bind (fun vv13 => bd3 (fX5_tells vv13 M10 J11) (fun vv17 M15 J16 => some (vv17, M15, J16))))))) else (bd3 (fX5_fails (2 : Int32) M J) (fun vv21 M19 J20 => some (vv21, M19, J20)))))) else (bd3 (fX5_fails (1 : Int32) M J) (fun vv25 M23 J24 => some (vv25, M23, J24))))
set_option maxRecDepth 20000 in
set_option maxHeartbeats 1000000 in
theorem TX5_setVolume {rr : Int32} {MR : M2} {JR : J2}  (C : Cx E A p s m args meth c wdX5_setVolume cX5_setVolume 2 (some .int) RX5)  {x1 : Int32}  (h : fX5_setVolume F  x1 M J = some (rr, MR, JR)) (w : Wd E A s (sg G 8 M) (sg K 8 J) H locs) (hl : lv_has ls 2 [(0, .ref (ad E 8 0)), (1, .int x1)]) : W p l e rmX5_setVolume s m args below meth c H locs 0 0 (QI E A below args s rr (sg G 8 MR) (sg K 8 JR)) (F0 m 0 ls []) := by
  obtain ⟨hx, hb, hr, hml, hown, hts, hlocks, hKK, hA1, hA2⟩ := id C
  unfold fX5_setVolume at h
  refine lv_iload_n hx hb dX5_setVolume_0 rfl (lv_at hl 1 rfl) ?_
  refine lv_bipush (v := (100 : Int32)) hx hb dX5_setVolume_1 (by decide) ?_
  refine lv_sipush (v := (5000 : Int32)) hx hb dX5_setVolume_3 (by decide) ?_
  refine x_cSi (As := [.int x1, .int (100 : Int32), .int (5000 : Int32)]) (rest := []) C w (mtX5_in ) q7_0 q7_1 q1_5 q7_2 ydX5_in ⟨rfl, rfl⟩ ⟨by decide, by decide⟩ ⟨Nat.zero_le _, Nat.zero_le _⟩ hl.1 (Nat.le_of_ble_eq_true rfl) rfl dX5_setVolume_6 (fun H locs w => ?_)
  refine lv_if_ne (tgt := 18) hx hb dX5_setVolume_9 (by decide) (fun c1 => ?_) (fun c1 => ?_)
  · replace h := ite_t h c1
    refine lv_aload_n hx hb dX5_setVolume_18 rfl (lv_at hl 0 rfl) ?_
    refine gR_X5_s C w q3_16 dX5_setVolume_19 ?_
    refine lv_iconst (v := (1 : Int32)) hx hb dX5_setVolume_22 (by decide) ?_
    refine x_aldI_L C w (v8 (by decide)) c8_1 (inb_k (k := 1) (by decide) (by decide)) cl_1 dX5_setVolume_23 ?_
    refine lv_sipush (v := (1000 : Int32)) hx hb dX5_setVolume_24 (by decide) ?_
    refine lv_imul hx hb dX5_setVolume_27 ?_
    refine lv_iload_n hx hb dX5_setVolume_28 rfl (lv_at hl 1 rfl) ?_
    obtain ⟨kz2, h⟩ := chk_of h
    refine lv_idiv hx hb dX5_setVolume_29 kz2 ?_
    refine lv_aload_n hx hb dX5_setVolume_30 rfl (lv_at hl 0 rfl) ?_
    refine gR_X5_s C w q3_16 dX5_setVolume_31 ?_
    refine lv_iconst (v := (4 : Int32)) hx hb dX5_setVolume_34 (by decide) ?_
    refine x_aldI_L C w (v8 (by decide)) c8_1 (inb_k (k := 4) (by decide) (by decide)) cl_4 dX5_setVolume_35 ?_
    refine lv_icmp_le (tgt := 45) hx hb dX5_setVolume_36 (by decide) (fun c3 => ?_) (fun c3 => ?_)
    · replace h := ite_t h c3
      refine lv_aload_n hx hb dX5_setVolume_45 rfl (lv_at hl 0 rfl) ?_
      obtain ⟨M5, J6, hv4, h⟩ := bd2_of h
      refine x_cVv (As := []) (rest := []) C w (v8 (by decide)) cel_8 rfl (mtX5_holds  hv4) q7_8 q7_9 q7_10 q1_5 q7_11 ydX5_holds ⟨rfl, rfl⟩ ⟨by decide, by decide⟩ ⟨Nat.zero_le _, Nat.zero_le _⟩ hl.1 (Nat.le_of_ble_eq_true rfl) rfl dX5_setVolume_46 (fun H locs w => ?_)
      refine lv_aload_n hx hb dX5_setVolume_49 rfl (lv_at hl 0 rfl) ?_
      refine gR_X5_s C w q3_16 dX5_setVolume_50 ?_
      refine lv_iconst (v := (0 : Int32)) hx hb dX5_setVolume_53 (by decide) ?_
      refine lv_iload_n hx hb dX5_setVolume_54 rfl (lv_at hl 1 rfl) ?_
      refine x_astI_L C w (v8 (by decide)) c8_1 (inb_k (k := 0) (by decide) (by decide)) cl_0 dX5_setVolume_55 (fun M7 H locs e8 w => ?_)
      replace h := bnd_of h e8
      refine lv_aload_n hx hb dX5_setVolume_56 rfl (lv_at hl 0 rfl) ?_
      obtain ⟨M10, J11, hv9, h⟩ := bd2_of h
      refine x_cVv (As := []) (rest := []) C w (v8 (by decide)) cel_8 rfl (mtX5_saves  hv9) q7_12 q7_13 q7_14 q1_5 q7_15 ydX5_saves ⟨rfl, rfl⟩ ⟨by decide, by decide⟩ ⟨Nat.zero_le _, Nat.zero_le _⟩ hl.1 (Nat.le_of_ble_eq_true rfl) rfl dX5_setVolume_57 (fun H locs w => ?_)
      refine lv_aload_n hx hb dX5_setVolume_60 rfl (lv_at hl 0 rfl) ?_
      refine lv_aload_n hx hb dX5_setVolume_61 rfl (lv_at hl 0 rfl) ?_
      obtain ⟨vv13, hv12, h⟩ := bind_of h
      refine x_cVi (As := []) (rest := [.ref (ad E 8 0)]) C w (v8 (by decide)) cel_8 rfl (mtX5_pressure  hv12) q7_17 q7_18 q7_19 q1_5 q7_20 ydX5_pressure ⟨rfl, rfl⟩ ⟨by decide, by decide⟩ ⟨Nat.zero_le _, Nat.zero_le _⟩ hl.1 (Nat.le_of_ble_eq_true rfl) rfl dX5_setVolume_62 (fun H locs w => ?_)
      obtain ⟨vv17, M15, J16, hv14, h⟩ := bd3_of h
      refine x_cVi (As := [.int vv13]) (rest := []) C w (v8 (by decide)) cel_8 rfl (mtX5_tells  hv14) q7_21 q7_22 q7_23 q1_5 q8_0 ydX5_tells ⟨rfl, rfl⟩ ⟨by decide, by decide⟩ ⟨Nat.zero_le _, Nat.zero_le _⟩ hl.1 (Nat.le_of_ble_eq_true rfl) rfl dX5_setVolume_65 (fun H locs w => ?_)
      obtain ⟨e1, e2, e3⟩ := rt3 h
      exact x_ri C w e1 (by rw [e2]) (by rw [e3]) dX5_setVolume_68
    · replace h := ite_f h c3
      refine lv_aload_n hx hb dX5_setVolume_39 rfl (lv_at hl 0 rfl) ?_
      refine lv_iconst (v := (2 : Int32)) hx hb dX5_setVolume_40 (by decide) ?_
      obtain ⟨vv21, M19, J20, hv18, h⟩ := bd3_of h
      refine x_cVi (As := [.int (2 : Int32)]) (rest := []) C w (v8 (by decide)) cel_8 rfl (mtX5_fails  hv18) q7_3 q7_4 q7_5 q1_5 q7_6 ydX5_fails ⟨rfl, rfl⟩ ⟨by decide, by decide⟩ ⟨Nat.zero_le _, Nat.zero_le _⟩ hl.1 (Nat.le_of_ble_eq_true rfl) rfl dX5_setVolume_41 (fun H locs w => ?_)
      obtain ⟨e1, e2, e3⟩ := rt3 h
      exact x_ri C w e1 (by rw [e2]) (by rw [e3]) dX5_setVolume_44
  · replace h := ite_f h (fun z => z c1)
    refine lv_aload_n hx hb dX5_setVolume_12 rfl (lv_at hl 0 rfl) ?_
    refine lv_iconst (v := (1 : Int32)) hx hb dX5_setVolume_13 (by decide) ?_
    obtain ⟨vv25, M23, J24, hv22, h⟩ := bd3_of h
    refine x_cVi (As := [.int (1 : Int32)]) (rest := []) C w (v8 (by decide)) cel_8 rfl (mtX5_fails  hv22) q7_3 q7_4 q7_5 q1_5 q7_6 ydX5_fails ⟨rfl, rfl⟩ ⟨by decide, by decide⟩ ⟨Nat.zero_le _, Nat.zero_le _⟩ hl.1 (Nat.le_of_ble_eq_true rfl) rfl dX5_setVolume_14 (fun H locs w => ?_)
    obtain ⟨e1, e2, e3⟩ := rt3 h
    exact x_ri C w e1 (by rw [e2]) (by rw [e3]) dX5_setVolume_17
theorem mtX5_setVolume {rr : Int32} {MR : M2} {JR : J2}   {x1 : Int32}  (h : fX5_setVolume F  x1 M J = some (rr, MR, JR)) : MtI l yX5_setVolume wdX5_setVolume rmX5_setVolume E [.ref (ad E 8 0), .int x1] (sg G 8 M) (sg K 8 J) rr (sg G 8 MR) (sg K 8 JR) := by
  intro sz
  refine Met.ofW (cc := cX5_setVolume) (maxL := 2) (ret := (some .int)) (by decide) rfl ?_
  intro p e s m args below meth c s₁ B hml hv
  obtain ⟨rfl, C, w⟩ := Cx.of (own := RX5) B rfl hml hv
  have hl := lv_entry ([.ref (ad E 8 0), .int x1]) (n := 2) (by first | exact Nat.le_of_ble_eq_true rfl)
  rw [lg_entry_eq]
  generalize (lg_sl ([.ref (ad E 8 0), .int x1]) ++ List.replicate (2 - (lg_sl ([.ref (ad E 8 0), .int x1])).length) Slot.unset).toArray = ls at hl ⊢
  exact TX5_setVolume C   h w hl
theorem ydX5_setVolume : yX5_setVolume.cls = RX5 ∧ yX5_setVolume.cls ≠ "java/lang/invoke/MethodHandle" ∧ yX5_setVolume.cls ≠ "java/lang/invoke/VarHandle" ∧ (parseMethodDescriptor yX5_setVolume.desc).map (fun d => d.parameters.length) = some 1 := by decide +kernel
/-! X5.least(I)I -/
abbrev rmX5_least : Room := { frames := 1, cells := 0, slots := 0, locals := 12 }
abbrev wdX5_least : Cond := Cond.code yX5_least cX5_least 1 (some .int)
noncomputable def fbX5_least_32     : Int32 := (10 : Int32)
set_option maxRecDepth 20000 in
set_option maxHeartbeats 1000000 in
theorem TX5_least_32 {rr : Int32}   (C : Cx E A p s m args meth c wdX5_least cX5_least 1 (some .int) RX5)      (h : fbX5_least_32   = rr) (w : Wd E A s G K H locs) (hl : lv_has ls 1 []) : W p l e rmX5_least s m args below meth c H locs 0 0 (QI E A below args s rr G K) (F0 m 32 ls []) := by
  obtain ⟨hx, hb, hr, hml, hown, hts, hlocks, hKK, hA1, hA2⟩ := id C
  unfold fbX5_least_32 at h
  refine lv_bipush (v := (10 : Int32)) hx hb dX5_least_32 (by decide) ?_
  refine lv_goto (tgt := 47) hx hb dX5_least_34 (by decide) ?_
  exact x_ri C w h rfl rfl dX5_least_47
noncomputable def fX5_least  (x1 : Int32)  : Int32 := (if ¬ x1 = 0 then ((if ¬ x1 = (2 : Int32) then ((if x1 = (1 : Int32) then (fbX5_least_32 ) else ((if ¬ x1 = (7 : Int32) then ((if ¬ x1 = (3 : Int32) then ((0 : Int32)) else ((1 : Int32)))) else (fbX5_least_32 ))))) else ((2000 : Int32)))) else ((1000 : Int32)))
set_option maxRecDepth 20000 in
set_option maxHeartbeats 1000000 in
theorem TX5_least {rr : Int32}  (C : Cx E A p s m args meth c wdX5_least cX5_least 1 (some .int) RX5)  {x1 : Int32}  (h : fX5_least  x1 = rr) (w : Wd E A s G K H locs) (hl : lv_has ls 1 [(0, .int x1)]) : W p l e rmX5_least s m args below meth c H locs 0 0 (QI E A below args s rr G K) (F0 m 0 ls []) := by
  obtain ⟨hx, hb, hr, hml, hown, hts, hlocks, hKK, hA1, hA2⟩ := id C
  unfold fX5_least at h
  refine lv_iload_n hx hb dX5_least_0 rfl (lv_at hl 0 rfl) ?_
  refine lv_if_ne (tgt := 10) hx hb dX5_least_1 (by decide) (fun c1 => ?_) (fun c1 => ?_)
  · replace h := ite_t h c1
    refine lv_iload_n hx hb dX5_least_10 rfl (lv_at hl 0 rfl) ?_
    refine lv_iconst (v := (2 : Int32)) hx hb dX5_least_11 (by decide) ?_
    refine lv_icmp_ne (tgt := 21) hx hb dX5_least_12 (by decide) (fun c2 => ?_) (fun c2 => ?_)
    · replace h := ite_t h c2
      refine lv_iload_n hx hb dX5_least_21 rfl (lv_at hl 0 rfl) ?_
      refine lv_iconst (v := (1 : Int32)) hx hb dX5_least_22 (by decide) ?_
      refine lv_icmp_eq (tgt := 32) hx hb dX5_least_23 (by decide) (fun c3 => ?_) (fun c3 => ?_)
      · replace h := ite_t h c3
        exact TX5_least_32 C    h w (lv_sub hl [] rfl)
      · replace h := ite_f h c3
        refine lv_iload_n hx hb dX5_least_26 rfl (lv_at hl 0 rfl) ?_
        refine lv_bipush (v := (7 : Int32)) hx hb dX5_least_27 (by decide) ?_
        refine lv_icmp_ne (tgt := 37) hx hb dX5_least_29 (by decide) (fun c4 => ?_) (fun c4 => ?_)
        · replace h := ite_t h c4
          refine lv_iload_n hx hb dX5_least_37 rfl (lv_at hl 0 rfl) ?_
          refine lv_iconst (v := (3 : Int32)) hx hb dX5_least_38 (by decide) ?_
          refine lv_icmp_ne (tgt := 46) hx hb dX5_least_39 (by decide) (fun c5 => ?_) (fun c5 => ?_)
          · replace h := ite_t h c5
            refine lv_iconst (v := (0 : Int32)) hx hb dX5_least_46 (by decide) ?_
            exact x_ri C w h rfl rfl dX5_least_47
          · replace h := ite_f h (fun z => z c5)
            refine lv_iconst (v := (1 : Int32)) hx hb dX5_least_42 (by decide) ?_
            refine lv_goto (tgt := 47) hx hb dX5_least_43 (by decide) ?_
            exact x_ri C w h rfl rfl dX5_least_47
        · replace h := ite_f h (fun z => z c4)
          exact TX5_least_32 C    h w (lv_sub hl [] rfl)
    · replace h := ite_f h (fun z => z c2)
      refine lv_sipush (v := (2000 : Int32)) hx hb dX5_least_15 (by decide) ?_
      refine lv_goto (tgt := 47) hx hb dX5_least_18 (by decide) ?_
      exact x_ri C w h rfl rfl dX5_least_47
  · replace h := ite_f h (fun z => z c1)
    refine lv_sipush (v := (1000 : Int32)) hx hb dX5_least_4 (by decide) ?_
    refine lv_goto (tgt := 47) hx hb dX5_least_7 (by decide) ?_
    exact x_ri C w h rfl rfl dX5_least_47
theorem mtX5_least   {x1 : Int32}   : MtI l yX5_least wdX5_least rmX5_least E [.int x1] G K (fX5_least  x1) G K := by
  intro sz
  refine Met.ofW (cc := cX5_least) (maxL := 1) (ret := (some .int)) (by decide) rfl ?_
  intro p e s m args below meth c s₁ B hml hv
  obtain ⟨rfl, C, w⟩ := Cx.of (own := RX5) B rfl hml hv
  have hl := lv_entry ([.int x1]) (n := 1) (by first | exact Nat.le_of_ble_eq_true rfl)
  rw [lg_entry_eq]
  generalize (lg_sl ([.int x1]) ++ List.replicate (1 - (lg_sl ([.int x1])).length) Slot.unset).toArray = ls at hl ⊢
  exact TX5_least C   rfl w hl
theorem ydX5_least : yX5_least.cls = RX5 ∧ yX5_least.cls ≠ "java/lang/invoke/MethodHandle" ∧ yX5_least.cls ≠ "java/lang/invoke/VarHandle" ∧ (parseMethodDescriptor yX5_least.desc).map (fun d => d.parameters.length) = some 1 := by decide +kernel
theorem ynX5_least : yX5_least.cls ≠ "java/lang/invoke/MethodHandle" ∧ yX5_least.cls ≠ "java/lang/invoke/VarHandle" ∧ (parseMethodDescriptor yX5_least.desc).map (fun d => d.parameters.length) = some 1 := by decide +kernel
/-! X5.most(I)I -/
abbrev rmX5_most : Room := { frames := 1, cells := 0, slots := 0, locals := 12 }
abbrev wdX5_most : Cond := Cond.code yX5_most cX5_most 1 (some .int)
noncomputable def fX5_most  (x1 : Int32)  : Int32 := (if x1 = (0 : Int32) then ((12000 : Int32)) else if x1 = (1 : Int32) then ((500 : Int32)) else if x1 = (2 : Int32) then ((16000 : Int32)) else if x1 = (3 : Int32) then ((60 : Int32)) else if x1 = (4 : Int32) then ((30 : Int32)) else if x1 = (5 : Int32) then ((50 : Int32)) else if x1 = (6 : Int32) then ((3000 : Int32)) else ((5000 : Int32)))
set_option maxRecDepth 20000 in
set_option maxHeartbeats 1000000 in
theorem TX5_most {rr : Int32}  (C : Cx E A p s m args meth c wdX5_most cX5_most 1 (some .int) RX5)  {x1 : Int32}  (h : fX5_most  x1 = rr) (w : Wd E A s G K H locs) (hl : lv_has ls 1 [(0, .int x1)]) : W p l e rmX5_most s m args below meth c H locs 0 0 (QI E A below args s rr G K) (F0 m 0 ls []) := by
  obtain ⟨hx, hb, hr, hml, hown, hts, hlocks, hKK, hA1, hA2⟩ := id C
  unfold fX5_most at h
  refine lv_iload_n hx hb dX5_most_0 rfl (lv_at hl 0 rfl) ?_
  by_cases c1 : x1 = (0 : Int32)
  · replace h := ite_t h c1
    refine lv_tableIn (tgt := 44) hx hb dX5_most_1 (by rw [c1]; decide) (by rw [c1]; decide) (by rw [c1]; rfl) (by decide) ?_
    refine lv_sipush (v := (12000 : Int32)) hx hb dX5_most_44 (by decide) ?_
    exact x_ri C w h rfl rfl dX5_most_47
  replace h := ite_f h c1
  by_cases c2 : x1 = (1 : Int32)
  · replace h := ite_t h c2
    refine lv_tableIn (tgt := 48) hx hb dX5_most_1 (by rw [c2]; decide) (by rw [c2]; decide) (by rw [c2]; rfl) (by decide) ?_
    refine lv_sipush (v := (500 : Int32)) hx hb dX5_most_48 (by decide) ?_
    exact x_ri C w h rfl rfl dX5_most_51
  replace h := ite_f h c2
  by_cases c3 : x1 = (2 : Int32)
  · replace h := ite_t h c3
    refine lv_tableIn (tgt := 52) hx hb dX5_most_1 (by rw [c3]; decide) (by rw [c3]; decide) (by rw [c3]; rfl) (by decide) ?_
    refine lv_sipush (v := (16000 : Int32)) hx hb dX5_most_52 (by decide) ?_
    exact x_ri C w h rfl rfl dX5_most_55
  replace h := ite_f h c3
  by_cases c4 : x1 = (3 : Int32)
  · replace h := ite_t h c4
    refine lv_tableIn (tgt := 56) hx hb dX5_most_1 (by rw [c4]; decide) (by rw [c4]; decide) (by rw [c4]; rfl) (by decide) ?_
    refine lv_bipush (v := (60 : Int32)) hx hb dX5_most_56 (by decide) ?_
    exact x_ri C w h rfl rfl dX5_most_58
  replace h := ite_f h c4
  by_cases c5 : x1 = (4 : Int32)
  · replace h := ite_t h c5
    refine lv_tableIn (tgt := 59) hx hb dX5_most_1 (by rw [c5]; decide) (by rw [c5]; decide) (by rw [c5]; rfl) (by decide) ?_
    refine lv_bipush (v := (30 : Int32)) hx hb dX5_most_59 (by decide) ?_
    exact x_ri C w h rfl rfl dX5_most_61
  replace h := ite_f h c5
  by_cases c6 : x1 = (5 : Int32)
  · replace h := ite_t h c6
    refine lv_tableIn (tgt := 62) hx hb dX5_most_1 (by rw [c6]; decide) (by rw [c6]; decide) (by rw [c6]; rfl) (by decide) ?_
    refine lv_bipush (v := (50 : Int32)) hx hb dX5_most_62 (by decide) ?_
    exact x_ri C w h rfl rfl dX5_most_64
  replace h := ite_f h c6
  by_cases c7 : x1 = (6 : Int32)
  · replace h := ite_t h c7
    refine lv_tableIn (tgt := 65) hx hb dX5_most_1 (by rw [c7]; decide) (by rw [c7]; decide) (by rw [c7]; rfl) (by decide) ?_
    refine lv_sipush (v := (3000 : Int32)) hx hb dX5_most_65 (by decide) ?_
    exact x_ri C w h rfl rfl dX5_most_68
  replace h := ite_f h c7
  have hsw : x1.toInt < 0 ∨ 6 < x1.toInt := by
    have n0 := ne_toInt c1
    have n1 := ne_toInt c2
    have n2 := ne_toInt c3
    have n3 := ne_toInt c4
    have n4 := ne_toInt c5
    have n5 := ne_toInt c6
    have n6 := ne_toInt c7
    have e0 : (0 : Int32).toInt = 0 := by decide
    have e1 : (1 : Int32).toInt = 1 := by decide
    have e2 : (2 : Int32).toInt = 2 := by decide
    have e3 : (3 : Int32).toInt = 3 := by decide
    have e4 : (4 : Int32).toInt = 4 := by decide
    have e5 : (5 : Int32).toInt = 5 := by decide
    have e6 : (6 : Int32).toInt = 6 := by decide
    simp only [e0, e1, e2, e3, e4, e5, e6] at n0 n1 n2 n3 n4 n5 n6
    omega
  refine lv_tableOut (tgt := 69) hx hb dX5_most_1 hsw (by decide) ?_
  refine lv_sipush (v := (5000 : Int32)) hx hb dX5_most_69 (by decide) ?_
  exact x_ri C w h rfl rfl dX5_most_72
theorem mtX5_most   {x1 : Int32}   : MtI l yX5_most wdX5_most rmX5_most E [.int x1] G K (fX5_most  x1) G K := by
  intro sz
  refine Met.ofW (cc := cX5_most) (maxL := 1) (ret := (some .int)) (by decide) rfl ?_
  intro p e s m args below meth c s₁ B hml hv
  obtain ⟨rfl, C, w⟩ := Cx.of (own := RX5) B rfl hml hv
  have hl := lv_entry ([.int x1]) (n := 1) (by first | exact Nat.le_of_ble_eq_true rfl)
  rw [lg_entry_eq]
  generalize (lg_sl ([.int x1]) ++ List.replicate (1 - (lg_sl ([.int x1])).length) Slot.unset).toArray = ls at hl ⊢
  exact TX5_most C   rfl w hl
theorem ydX5_most : yX5_most.cls = RX5 ∧ yX5_most.cls ≠ "java/lang/invoke/MethodHandle" ∧ yX5_most.cls ≠ "java/lang/invoke/VarHandle" ∧ (parseMethodDescriptor yX5_most.desc).map (fun d => d.parameters.length) = some 1 := by decide +kernel
theorem ynX5_most : yX5_most.cls ≠ "java/lang/invoke/MethodHandle" ∧ yX5_most.cls ≠ "java/lang/invoke/VarHandle" ∧ (parseMethodDescriptor yX5_most.desc).map (fun d => d.parameters.length) = some 1 := by decide +kernel
/-! X5.set(II)I -/
abbrev rmX5_set : Room := { frames := 2, cells := 0, slots := 0, locals := 34 }
abbrev wdX5_set : Cond := Cond.code yX5_set cX5_set 4 (some .int)
noncomputable def fbX5_set_25 (F : Nat)    (M : M2) (J : J2) : Option (Int32 × M2 × J2) := bd3 (fX5_fails (1 : Int32) M J) (fun vv4 M2 J3 => some (vv4, M2, J3))
set_option maxRecDepth 20000 in
set_option maxHeartbeats 1000000 in
theorem TX5_set_25 {rr : Int32} {MR : M2} {JR : J2}   (C : Cx E A p s m args meth c wdX5_set cX5_set 4 (some .int) RX5)    (M : M2) (J : J2)  (h : fbX5_set_25 F  M J = some (rr, MR, JR)) (w : Wd E A s (sg G 8 M) (sg K 8 J) H locs) (hl : lv_has ls 4 [(0, .ref (ad E 8 0))]) : W p l e rmX5_set s m args below meth c H locs 0 0 (QI E A below args s rr (sg G 8 MR) (sg K 8 JR)) (F0 m 25 ls []) := by
  obtain ⟨hx, hb, hr, hml, hown, hts, hlocks, hKK, hA1, hA2⟩ := id C
  unfold fbX5_set_25 at h
  refine lv_aload_n hx hb dX5_set_25 rfl (lv_at hl 0 rfl) ?_
  refine lv_iconst (v := (1 : Int32)) hx hb dX5_set_26 (by decide) ?_
  obtain ⟨vv4, M2, J3, hv1, h⟩ := bd3_of h
  refine x_cVi (As := [.int (1 : Int32)]) (rest := []) C w (v8 (by decide)) cel_8 rfl (mtX5_fails  hv1) q7_3 q7_4 q7_5 q1_5 q7_6 ydX5_fails ⟨rfl, rfl⟩ ⟨by decide, by decide⟩ ⟨Nat.zero_le _, Nat.zero_le _⟩ hl.1 (Nat.le_of_ble_eq_true rfl) rfl dX5_set_27 (fun H locs w => ?_)
  obtain ⟨e1, e2, e3⟩ := rt3 h
  exact x_ri C w e1 (by rw [e2]) (by rw [e3]) dX5_set_30
noncomputable def fX5_set (F : Nat)  (x1 : Int32) (x2 : Int32) (M : M2) (J : J2) : Option (Int32 × M2 × J2) := (if (fX5_in x1 (0 : Int32) (7 : Int32)) = 0 then (fbX5_set_25 F  M J) else ((if ¬ (fX5_in x2 (fX5_least x1) (fX5_most x1)) = 0 then (bd2 (fX5_holds F M J) (fun M4 J5 => chk (inb ((2 : Int32) + x1) 61) (chk (inb ((2 : Int32) + x1) 61) (bnd (up2 M4 1 (((2 : Int32) + x1).toNatClampNeg) x2) (fun M8 => bd2 (fX5_saves F M8 J5) (fun M11 J12 => bd3 (fX5_tells (M4 1 ((2 : Int32) + x1).toNatClampNeg) M11 J12) (fun vv16 M14 J15 => some (vv16, M14, J15)))))))) else (fbX5_set_25 F  M J))))
set_option maxRecDepth 20000 in
set_option maxHeartbeats 1000000 in
theorem TX5_set {rr : Int32} {MR : M2} {JR : J2}  (C : Cx E A p s m args meth c wdX5_set cX5_set 4 (some .int) RX5)  {x1 : Int32} {x2 : Int32}  (h : fX5_set F  x1 x2 M J = some (rr, MR, JR)) (w : Wd E A s (sg G 8 M) (sg K 8 J) H locs) (hl : lv_has ls 4 [(0, .ref (ad E 8 0)), (1, .int x1), (2, .int x2)]) : W p l e rmX5_set s m args below meth c H locs 0 0 (QI E A below args s rr (sg G 8 MR) (sg K 8 JR)) (F0 m 0 ls []) := by
  obtain ⟨hx, hb, hr, hml, hown, hts, hlocks, hKK, hA1, hA2⟩ := id C
  unfold fX5_set at h
  refine lv_iload_n hx hb dX5_set_0 rfl (lv_at hl 1 rfl) ?_
  refine lv_iconst (v := (0 : Int32)) hx hb dX5_set_1 (by decide) ?_
  refine lv_bipush (v := (7 : Int32)) hx hb dX5_set_2 (by decide) ?_
  refine x_cSi (As := [.int x1, .int (0 : Int32), .int (7 : Int32)]) (rest := []) C w (mtX5_in ) q7_0 q7_1 q1_5 q7_2 ydX5_in ⟨rfl, rfl⟩ ⟨by decide, by decide⟩ ⟨Nat.zero_le _, Nat.zero_le _⟩ hl.1 (Nat.le_of_ble_eq_true rfl) rfl dX5_set_4 (fun H locs w => ?_)
  refine lv_if_eq (tgt := 25) hx hb dX5_set_7 (by decide) (fun c1 => ?_) (fun c1 => ?_)
  · replace h := ite_t h c1
    exact TX5_set_25 C   _ _ h w (lv_sub hl [0] rfl)
  · replace h := ite_f h c1
    refine lv_iload_n hx hb dX5_set_10 rfl (lv_at hl 2 rfl) ?_
    refine lv_iload_n hx hb dX5_set_11 rfl (lv_at hl 1 rfl) ?_
    refine x_cSi (As := [.int x1]) (rest := [.int x2]) C w (mtX5_least ) q8_18 q8_19 q1_5 q8_20 ydX5_least ⟨rfl, rfl⟩ ⟨by decide, by decide⟩ ⟨Nat.zero_le _, Nat.zero_le _⟩ hl.1 (Nat.le_of_ble_eq_true rfl) rfl dX5_set_12 (fun H locs w => ?_)
    refine lv_iload_n hx hb dX5_set_15 rfl (lv_at hl 1 rfl) ?_
    refine x_cSi (As := [.int x1]) (rest := [.int (fX5_least x1), .int x2]) C w (mtX5_most ) q8_21 q8_22 q1_5 q8_23 ydX5_most ⟨rfl, rfl⟩ ⟨by decide, by decide⟩ ⟨Nat.zero_le _, Nat.zero_le _⟩ hl.1 (Nat.le_of_ble_eq_true rfl) rfl dX5_set_16 (fun H locs w => ?_)
    refine x_cSi (As := [.int x2, .int (fX5_least x1), .int (fX5_most x1)]) (rest := []) C w (mtX5_in ) q7_0 q7_1 q1_5 q7_2 ydX5_in ⟨rfl, rfl⟩ ⟨by decide, by decide⟩ ⟨Nat.zero_le _, Nat.zero_le _⟩ hl.1 (Nat.le_of_ble_eq_true rfl) rfl dX5_set_19 (fun H locs w => ?_)
    refine lv_if_ne (tgt := 31) hx hb dX5_set_22 (by decide) (fun c2 => ?_) (fun c2 => ?_)
    · replace h := ite_t h c2
      refine lv_aload_n hx hb dX5_set_31 rfl (lv_at hl 0 rfl) ?_
      obtain ⟨M4, J5, hv3, h⟩ := bd2_of h
      refine x_cVv (As := []) (rest := []) C w (v8 (by decide)) cel_8 rfl (mtX5_holds  hv3) q7_8 q7_9 q7_10 q1_5 q7_11 ydX5_holds ⟨rfl, rfl⟩ ⟨by decide, by decide⟩ ⟨Nat.zero_le _, Nat.zero_le _⟩ hl.1 (Nat.le_of_ble_eq_true rfl) rfl dX5_set_32 (fun H locs w => ?_)
      refine lv_aload_n hx hb dX5_set_35 rfl (lv_at hl 0 rfl) ?_
      refine gR_X5_s C w q3_16 dX5_set_36 ?_
      refine lv_iconst (v := (2 : Int32)) hx hb dX5_set_39 (by decide) ?_
      refine lv_iload_n hx hb dX5_set_40 rfl (lv_at hl 1 rfl) ?_
      refine lv_iadd hx hb dX5_set_41 ?_
      obtain ⟨ki6, h⟩ := chk_of h
      refine x_aldI_L C w (v8 (by decide)) c8_1 ki6 rfl dX5_set_42 ?_
      refine lv_istore_n (lv' := [(3, .int (M4 1 ((2 : Int32) + x1).toNatClampNeg)), (0, .ref (ad E 8 0)), (1, .int x1), (2, .int x2)]) hx hb dX5_set_43 rfl hl (by decide) rfl (fun ls hl => ?_)
      refine lv_aload_n hx hb dX5_set_44 rfl (lv_at hl 1 rfl) ?_
      refine gR_X5_s C w q3_16 dX5_set_45 ?_
      refine lv_iconst (v := (2 : Int32)) hx hb dX5_set_48 (by decide) ?_
      refine lv_iload_n hx hb dX5_set_49 rfl (lv_at hl 2 rfl) ?_
      refine lv_iadd hx hb dX5_set_50 ?_
      refine lv_iload_n hx hb dX5_set_51 rfl (lv_at hl 3 rfl) ?_
      obtain ⟨ki7, h⟩ := chk_of h
      refine x_astI_L C w (v8 (by decide)) c8_1 ki7 rfl dX5_set_52 (fun M8 H locs e9 w => ?_)
      replace h := bnd_of h e9
      refine lv_aload_n hx hb dX5_set_53 rfl (lv_at hl 1 rfl) ?_
      obtain ⟨M11, J12, hv10, h⟩ := bd2_of h
      refine x_cVv (As := []) (rest := []) C w (v8 (by decide)) cel_8 rfl (mtX5_saves  hv10) q7_12 q7_13 q7_14 q1_5 q7_15 ydX5_saves ⟨rfl, rfl⟩ ⟨by decide, by decide⟩ ⟨Nat.zero_le _, Nat.zero_le _⟩ hl.1 (Nat.le_of_ble_eq_true rfl) rfl dX5_set_54 (fun H locs w => ?_)
      refine lv_aload_n hx hb dX5_set_57 rfl (lv_at hl 1 rfl) ?_
      refine lv_iload_n hx hb dX5_set_58 rfl (lv_at hl 0 rfl) ?_
      obtain ⟨vv16, M14, J15, hv13, h⟩ := bd3_of h
      refine x_cVi (As := [.int (M4 1 ((2 : Int32) + x1).toNatClampNeg)]) (rest := []) C w (v8 (by decide)) cel_8 rfl (mtX5_tells  hv13) q7_21 q7_22 q7_23 q1_5 q8_0 ydX5_tells ⟨rfl, rfl⟩ ⟨by decide, by decide⟩ ⟨Nat.zero_le _, Nat.zero_le _⟩ hl.1 (Nat.le_of_ble_eq_true rfl) rfl dX5_set_59 (fun H locs w => ?_)
      obtain ⟨e1, e2, e3⟩ := rt3 h
      exact x_ri C w e1 (by rw [e2]) (by rw [e3]) dX5_set_62
    · replace h := ite_f h (fun z => z c2)
      exact TX5_set_25 C   _ _ h w (lv_sub hl [0] rfl)
theorem mtX5_set {rr : Int32} {MR : M2} {JR : J2}   {x1 : Int32} {x2 : Int32}  (h : fX5_set F  x1 x2 M J = some (rr, MR, JR)) : MtI l yX5_set wdX5_set rmX5_set E [.ref (ad E 8 0), .int x1, .int x2] (sg G 8 M) (sg K 8 J) rr (sg G 8 MR) (sg K 8 JR) := by
  intro sz
  refine Met.ofW (cc := cX5_set) (maxL := 4) (ret := (some .int)) (by decide) rfl ?_
  intro p e s m args below meth c s₁ B hml hv
  obtain ⟨rfl, C, w⟩ := Cx.of (own := RX5) B rfl hml hv
  have hl := lv_entry ([.ref (ad E 8 0), .int x1, .int x2]) (n := 4) (by first | exact Nat.le_of_ble_eq_true rfl)
  rw [lg_entry_eq]
  generalize (lg_sl ([.ref (ad E 8 0), .int x1, .int x2]) ++ List.replicate (4 - (lg_sl ([.ref (ad E 8 0), .int x1, .int x2])).length) Slot.unset).toArray = ls at hl ⊢
  exact TX5_set C   h w hl
theorem ydX5_set : yX5_set.cls = RX5 ∧ yX5_set.cls ≠ "java/lang/invoke/MethodHandle" ∧ yX5_set.cls ≠ "java/lang/invoke/VarHandle" ∧ (parseMethodDescriptor yX5_set.desc).map (fun d => d.parameters.length) = some 2 := by decide +kernel
/-! X5.addCompressor(I)I -/
abbrev rmX5_addCompressor : Room := { frames := 2, cells := 0, slots := 0, locals := 35 }
abbrev wdX5_addCompressor : Cond := Cond.code yX5_addCompressor cX5_addCompressor 4 (some .int)
noncomputable def fsX5_addCompressor_49 (F : Nat)   (k49 : Int32 → Int32 → Int32 → M2 → J2 → Option (Int32 × M2 × J2)) : Int32 → Int32 → Int32 → M2 → J2 → Option (Int32 × M2 × J2) := fun a1 a2 a3 M J => (if (7 : Int32) ≤ a3 then (bd2 (fX5_put a2 (0 : Int32) a1 M J) (fun M3 J4 => chk (inb ((56 : Int32) + a2) 61) (bnd (up2 M3 1 (((56 : Int32) + a2).toNatClampNeg) a2) (fun M6 => bnd (up2 M6 1 10 ((M6 1 10) + (1 : Int32))) (fun M8 => bd2 (fX5_saves F M8 J4) (fun M11 J12 => bd3 (fX5_tells a2 M11 J12) (fun vv16 M14 J15 => some (vv16, M14, J15)))))))) else (bd2 (fX5_put a2 a3 (0 : Int32) M J) (fun M18 J19 => k49 a1 a2 (a3 + (1 : Int32)) M18 J19)))
noncomputable def fbX5_addCompressor_49 (F : Nat)   (n : Nat) : Int32 → Int32 → Int32 → M2 → J2 → Option (Int32 × M2 × J2) := itr (fsX5_addCompressor_49 F ) (fun _ _ _ _ _ => none) n
set_option maxRecDepth 20000 in
set_option maxHeartbeats 1000000 in
theorem SX5_addCompressor_49 {rr : Int32} {MR : M2} {JR : J2}   {k49 : Int32 → Int32 → Int32 → M2 → J2 → Option (Int32 × M2 × J2)} (C : Cx E A p s m args meth c wdX5_addCompressor cX5_addCompressor 4 (some .int) RX5)   (hk49 : ∀ (a1 : Int32) (a2 : Int32) (a3 : Int32) (M : M2) (J : J2)  (ls : Array Slot) (H : Heap) (locs : List Loc), k49 a1 a2 a3 M J = some (rr, MR, JR) → Wd E A s (sg G 8 M) (sg K 8 J) H locs → lv_has ls 4 [(0, .ref (ad E 8 0)), (1, .int a1), (2, .int a2), (3, .int a3)] → W p l e rmX5_addCompressor s m args below meth c H locs 0 0 (QI E A below args s rr (sg G 8 MR) (sg K 8 JR)) (F0 m 49 ls [])) (a1 : Int32) (a2 : Int32) (a3 : Int32) (M : M2) (J : J2)  (h : fsX5_addCompressor_49 F  k49 a1 a2 a3 M J = some (rr, MR, JR)) (w : Wd E A s (sg G 8 M) (sg K 8 J) H locs) (hl : lv_has ls 4 [(0, .ref (ad E 8 0)), (1, .int a1), (2, .int a2), (3, .int a3)]) : W p l e rmX5_addCompressor s m args below meth c H locs 0 0 (QI E A below args s rr (sg G 8 MR) (sg K 8 JR)) (F0 m 49 ls []) := by
  obtain ⟨hx, hb, hr, hml, hown, hts, hlocks, hKK, hA1, hA2⟩ := id C
  unfold fsX5_addCompressor_49 at h
  refine lv_iload_n hx hb dX5_addCompressor_49 rfl (lv_at hl 3 rfl) ?_
  refine lv_bipush (v := (7 : Int32)) hx hb dX5_addCompressor_50 (by decide) ?_
  refine lv_icmp_ge (tgt := 68) hx hb dX5_addCompressor_52 (by decide) (fun c1 => ?_) (fun c1 => ?_)
  · replace h := ite_t h c1
    refine lv_aload_n hx hb dX5_addCompressor_68 rfl (lv_at hl 0 rfl) ?_
    refine lv_iload_n hx hb dX5_addCompressor_69 rfl (lv_at hl 2 rfl) ?_
    refine lv_iconst (v := (0 : Int32)) hx hb dX5_addCompressor_70 (by decide) ?_
    refine lv_iload_n hx hb dX5_addCompressor_71 rfl (lv_at hl 1 rfl) ?_
    obtain ⟨M3, J4, hv2, h⟩ := bd2_of h
    refine x_cVv (As := [.int a2, .int (0 : Int32), .int a1]) (rest := []) C w (v8 (by decide)) cel_8 rfl (mtX5_put  hv2) q9_20 q9_21 q9_22 q1_5 q9_23 ydX5_put ⟨rfl, rfl⟩ ⟨by decide, by decide⟩ ⟨Nat.zero_le _, Nat.zero_le _⟩ hl.1 (Nat.le_of_ble_eq_true rfl) rfl dX5_addCompressor_72 (fun H locs w => ?_)
    refine lv_aload_n hx hb dX5_addCompressor_75 rfl (lv_at hl 0 rfl) ?_
    refine gR_X5_s C w q3_16 dX5_addCompressor_76 ?_
    refine lv_bipush (v := (56 : Int32)) hx hb dX5_addCompressor_79 (by decide) ?_
    refine lv_iload_n hx hb dX5_addCompressor_81 rfl (lv_at hl 2 rfl) ?_
    refine lv_iadd hx hb dX5_addCompressor_82 ?_
    refine lv_iload_n hx hb dX5_addCompressor_83 rfl (lv_at hl 2 rfl) ?_
    obtain ⟨ki5, h⟩ := chk_of h
    refine x_astI_L C w (v8 (by decide)) c8_1 ki5 rfl dX5_addCompressor_84 (fun M6 H locs e7 w => ?_)
    replace h := bnd_of h e7
    refine lv_aload_n hx hb dX5_addCompressor_85 rfl (lv_at hl 0 rfl) ?_
    refine gR_X5_s C w q3_16 dX5_addCompressor_86 ?_
    refine lv_bipush (v := (10 : Int32)) hx hb dX5_addCompressor_89 (by decide) ?_
    refine lv_dup2_11 hx hb dX5_addCompressor_91 rfl rfl ?_
    refine x_aldI_L C w (v8 (by decide)) c8_1 (inb_k (k := 10) (by decide) (by decide)) cl_10 dX5_addCompressor_92 ?_
    refine lv_iconst (v := (1 : Int32)) hx hb dX5_addCompressor_93 (by decide) ?_
    refine lv_iadd hx hb dX5_addCompressor_94 ?_
    refine x_astI_L C w (v8 (by decide)) c8_1 (inb_k (k := 10) (by decide) (by decide)) cl_10 dX5_addCompressor_95 (fun M8 H locs e9 w => ?_)
    replace h := bnd_of h e9
    refine lv_aload_n hx hb dX5_addCompressor_96 rfl (lv_at hl 0 rfl) ?_
    obtain ⟨M11, J12, hv10, h⟩ := bd2_of h
    refine x_cVv (As := []) (rest := []) C w (v8 (by decide)) cel_8 rfl (mtX5_saves  hv10) q7_12 q7_13 q7_14 q1_5 q7_15 ydX5_saves ⟨rfl, rfl⟩ ⟨by decide, by decide⟩ ⟨Nat.zero_le _, Nat.zero_le _⟩ hl.1 (Nat.le_of_ble_eq_true rfl) rfl dX5_addCompressor_97 (fun H locs w => ?_)
    refine lv_aload_n hx hb dX5_addCompressor_100 rfl (lv_at hl 0 rfl) ?_
    refine lv_iload_n hx hb dX5_addCompressor_101 rfl (lv_at hl 2 rfl) ?_
    obtain ⟨vv16, M14, J15, hv13, h⟩ := bd3_of h
    refine x_cVi (As := [.int a2]) (rest := []) C w (v8 (by decide)) cel_8 rfl (mtX5_tells  hv13) q7_21 q7_22 q7_23 q1_5 q8_0 ydX5_tells ⟨rfl, rfl⟩ ⟨by decide, by decide⟩ ⟨Nat.zero_le _, Nat.zero_le _⟩ hl.1 (Nat.le_of_ble_eq_true rfl) rfl dX5_addCompressor_102 (fun H locs w => ?_)
    obtain ⟨e1, e2, e3⟩ := rt3 h
    exact x_ri C w e1 (by rw [e2]) (by rw [e3]) dX5_addCompressor_105
  · replace h := ite_f h c1
    refine lv_aload_n hx hb dX5_addCompressor_55 rfl (lv_at hl 0 rfl) ?_
    refine lv_iload_n hx hb dX5_addCompressor_56 rfl (lv_at hl 2 rfl) ?_
    refine lv_iload_n hx hb dX5_addCompressor_57 rfl (lv_at hl 3 rfl) ?_
    refine lv_iconst (v := (0 : Int32)) hx hb dX5_addCompressor_58 (by decide) ?_
    obtain ⟨M18, J19, hv17, h⟩ := bd2_of h
    refine x_cVv (As := [.int a2, .int a3, .int (0 : Int32)]) (rest := []) C w (v8 (by decide)) cel_8 rfl (mtX5_put  hv17) q9_20 q9_21 q9_22 q1_5 q9_23 ydX5_put ⟨rfl, rfl⟩ ⟨by decide, by decide⟩ ⟨Nat.zero_le _, Nat.zero_le _⟩ hl.1 (Nat.le_of_ble_eq_true rfl) rfl dX5_addCompressor_59 (fun H locs w => ?_)
    refine lv_iinc (v := (a3 + (1 : Int32))) (lv' := [(3, .int (a3 + (1 : Int32))), (0, .ref (ad E 8 0)), (1, .int a1), (2, .int a2)]) hx hb dX5_addCompressor_62 hl (k := 3) rfl (congrArg (HAdd.hAdd _) (by decide)) (by decide) rfl (fun ls hl => ?_)
    refine lv_goto (tgt := 49) hx hb dX5_addCompressor_65 (by decide) ?_
    exact hk49 _ _ _ _ _ _ _ _ h w (lv_sub hl [1, 2, 3, 0] rfl)
theorem TX5_addCompressor_49 {rr : Int32} {MR : M2} {JR : J2}   (C : Cx E A p s m args meth c wdX5_addCompressor cX5_addCompressor 4 (some .int) RX5)   : ∀ (n : Nat) (a1 : Int32) (a2 : Int32) (a3 : Int32) (M : M2) (J : J2)  (ls : Array Slot) (H : Heap) (locs : List Loc), fbX5_addCompressor_49 F  n a1 a2 a3 M J = some (rr, MR, JR) → Wd E A s (sg G 8 M) (sg K 8 J) H locs → lv_has ls 4 [(0, .ref (ad E 8 0)), (1, .int a1), (2, .int a2), (3, .int a3)] → W p l e rmX5_addCompressor s m args below meth c H locs 0 0 (QI E A below args s rr (sg G 8 MR) (sg K 8 JR)) (F0 m 49 ls []) := by
  intro n
  induction n with
  | zero => intro a1 a2 a3 M J  ls H locs h; exact absurd (show none = _ from h) (fun z => nomatch z)
  | succ n ih => intro a1 a2 a3 M J  ls H locs h w hl; exact SX5_addCompressor_49 (F := F) C   ih a1 a2 a3 M J  h w hl
noncomputable def fX5_addCompressor (F : Nat)  (x1 : Int32) (M : M2) (J : J2) : Option (Int32 × M2 × J2) := (if ¬ (fX5_in x1 (10 : Int32) (500 : Int32)) = 0 then ((if ¬ (M 1 10) = (5 : Int32) then (bd2 (fX5_holds F M J) (fun M4 J5 => fbX5_addCompressor_49 F F x1 (M4 1 10) (0 : Int32) M4 J5)) else (bd3 (fX5_fails (2 : Int32) M J) (fun vv9 M7 J8 => some (vv9, M7, J8))))) else (bd3 (fX5_fails (1 : Int32) M J) (fun vv13 M11 J12 => some (vv13, M11, J12))))
set_option maxRecDepth 20000 in
set_option maxHeartbeats 1000000 in
theorem TX5_addCompressor {rr : Int32} {MR : M2} {JR : J2}  (C : Cx E A p s m args meth c wdX5_addCompressor cX5_addCompressor 4 (some .int) RX5)  {x1 : Int32}  (h : fX5_addCompressor F  x1 M J = some (rr, MR, JR)) (w : Wd E A s (sg G 8 M) (sg K 8 J) H locs) (hl : lv_has ls 4 [(0, .ref (ad E 8 0)), (1, .int x1)]) : W p l e rmX5_addCompressor s m args below meth c H locs 0 0 (QI E A below args s rr (sg G 8 MR) (sg K 8 JR)) (F0 m 0 ls []) := by
  obtain ⟨hx, hb, hr, hml, hown, hts, hlocks, hKK, hA1, hA2⟩ := id C
  unfold fX5_addCompressor at h
  refine lv_iload_n hx hb dX5_addCompressor_0 rfl (lv_at hl 1 rfl) ?_
  refine lv_bipush (v := (10 : Int32)) hx hb dX5_addCompressor_1 (by decide) ?_
  refine lv_sipush (v := (500 : Int32)) hx hb dX5_addCompressor_3 (by decide) ?_
  refine x_cSi (As := [.int x1, .int (10 : Int32), .int (500 : Int32)]) (rest := []) C w (mtX5_in ) q7_0 q7_1 q1_5 q7_2 ydX5_in ⟨rfl, rfl⟩ ⟨by decide, by decide⟩ ⟨Nat.zero_le _, Nat.zero_le _⟩ hl.1 (Nat.le_of_ble_eq_true rfl) rfl dX5_addCompressor_6 (fun H locs w => ?_)
  refine lv_if_ne (tgt := 18) hx hb dX5_addCompressor_9 (by decide) (fun c1 => ?_) (fun c1 => ?_)
  · replace h := ite_t h c1
    refine lv_aload_n hx hb dX5_addCompressor_18 rfl (lv_at hl 0 rfl) ?_
    refine gR_X5_s C w q3_16 dX5_addCompressor_19 ?_
    refine lv_bipush (v := (10 : Int32)) hx hb dX5_addCompressor_22 (by decide) ?_
    refine x_aldI_L C w (v8 (by decide)) c8_1 (inb_k (k := 10) (by decide) (by decide)) cl_10 dX5_addCompressor_24 ?_
    refine lv_iconst (v := (5 : Int32)) hx hb dX5_addCompressor_25 (by decide) ?_
    refine lv_icmp_ne (tgt := 35) hx hb dX5_addCompressor_26 (by decide) (fun c2 => ?_) (fun c2 => ?_)
    · replace h := ite_t h c2
      refine lv_aload_n hx hb dX5_addCompressor_35 rfl (lv_at hl 0 rfl) ?_
      obtain ⟨M4, J5, hv3, h⟩ := bd2_of h
      refine x_cVv (As := []) (rest := []) C w (v8 (by decide)) cel_8 rfl (mtX5_holds  hv3) q7_8 q7_9 q7_10 q1_5 q7_11 ydX5_holds ⟨rfl, rfl⟩ ⟨by decide, by decide⟩ ⟨Nat.zero_le _, Nat.zero_le _⟩ hl.1 (Nat.le_of_ble_eq_true rfl) rfl dX5_addCompressor_36 (fun H locs w => ?_)
      refine lv_aload_n hx hb dX5_addCompressor_39 rfl (lv_at hl 0 rfl) ?_
      refine gR_X5_s C w q3_16 dX5_addCompressor_40 ?_
      refine lv_bipush (v := (10 : Int32)) hx hb dX5_addCompressor_43 (by decide) ?_
      refine x_aldI_L C w (v8 (by decide)) c8_1 (inb_k (k := 10) (by decide) (by decide)) cl_10 dX5_addCompressor_45 ?_
      refine lv_istore_n (lv' := [(2, .int (M4 1 10)), (0, .ref (ad E 8 0)), (1, .int x1)]) hx hb dX5_addCompressor_46 rfl hl (by decide) rfl (fun ls hl => ?_)
      refine lv_iconst (v := (0 : Int32)) hx hb dX5_addCompressor_47 (by decide) ?_
      refine lv_istore_n (lv' := [(3, .int (0 : Int32)), (2, .int (M4 1 10)), (0, .ref (ad E 8 0)), (1, .int x1)]) hx hb dX5_addCompressor_48 rfl hl (by decide) rfl (fun ls hl => ?_)
      exact TX5_addCompressor_49 C   _ _ _ _ _ _ _ _ _ h w (lv_sub hl [2, 3, 1, 0] rfl)
    · replace h := ite_f h (fun z => z c2)
      refine lv_aload_n hx hb dX5_addCompressor_29 rfl (lv_at hl 0 rfl) ?_
      refine lv_iconst (v := (2 : Int32)) hx hb dX5_addCompressor_30 (by decide) ?_
      obtain ⟨vv9, M7, J8, hv6, h⟩ := bd3_of h
      refine x_cVi (As := [.int (2 : Int32)]) (rest := []) C w (v8 (by decide)) cel_8 rfl (mtX5_fails  hv6) q7_3 q7_4 q7_5 q1_5 q7_6 ydX5_fails ⟨rfl, rfl⟩ ⟨by decide, by decide⟩ ⟨Nat.zero_le _, Nat.zero_le _⟩ hl.1 (Nat.le_of_ble_eq_true rfl) rfl dX5_addCompressor_31 (fun H locs w => ?_)
      obtain ⟨e1, e2, e3⟩ := rt3 h
      exact x_ri C w e1 (by rw [e2]) (by rw [e3]) dX5_addCompressor_34
  · replace h := ite_f h (fun z => z c1)
    refine lv_aload_n hx hb dX5_addCompressor_12 rfl (lv_at hl 0 rfl) ?_
    refine lv_iconst (v := (1 : Int32)) hx hb dX5_addCompressor_13 (by decide) ?_
    obtain ⟨vv13, M11, J12, hv10, h⟩ := bd3_of h
    refine x_cVi (As := [.int (1 : Int32)]) (rest := []) C w (v8 (by decide)) cel_8 rfl (mtX5_fails  hv10) q7_3 q7_4 q7_5 q1_5 q7_6 ydX5_fails ⟨rfl, rfl⟩ ⟨by decide, by decide⟩ ⟨Nat.zero_le _, Nat.zero_le _⟩ hl.1 (Nat.le_of_ble_eq_true rfl) rfl dX5_addCompressor_14 (fun H locs w => ?_)
    obtain ⟨e1, e2, e3⟩ := rt3 h
    exact x_ri C w e1 (by rw [e2]) (by rw [e3]) dX5_addCompressor_17
theorem mtX5_addCompressor {rr : Int32} {MR : M2} {JR : J2}   {x1 : Int32}  (h : fX5_addCompressor F  x1 M J = some (rr, MR, JR)) : MtI l yX5_addCompressor wdX5_addCompressor rmX5_addCompressor E [.ref (ad E 8 0), .int x1] (sg G 8 M) (sg K 8 J) rr (sg G 8 MR) (sg K 8 JR) := by
  intro sz
  refine Met.ofW (cc := cX5_addCompressor) (maxL := 4) (ret := (some .int)) (by decide) rfl ?_
  intro p e s m args below meth c s₁ B hml hv
  obtain ⟨rfl, C, w⟩ := Cx.of (own := RX5) B rfl hml hv
  have hl := lv_entry ([.ref (ad E 8 0), .int x1]) (n := 4) (by first | exact Nat.le_of_ble_eq_true rfl)
  rw [lg_entry_eq]
  generalize (lg_sl ([.ref (ad E 8 0), .int x1]) ++ List.replicate (4 - (lg_sl ([.ref (ad E 8 0), .int x1])).length) Slot.unset).toArray = ls at hl ⊢
  exact TX5_addCompressor C   h w hl
theorem ydX5_addCompressor : yX5_addCompressor.cls = RX5 ∧ yX5_addCompressor.cls ≠ "java/lang/invoke/MethodHandle" ∧ yX5_addCompressor.cls ≠ "java/lang/invoke/VarHandle" ∧ (parseMethodDescriptor yX5_addCompressor.desc).map (fun d => d.parameters.length) = some 1 := by decide +kernel
end XM2
