section XM4
variable {E : WE} {A : Nat → Prop} {p : Program} {l : Launch} {e : Env} {s : State} {m : MethodId} {args : Array Value} {below : List Frame} {meth : Method} {c : Code} {H : Heap} {locs : List Loc} {ls : Array Slot} {G : M3} {K : J3} {M : M2} {J : J2} {F g q : Nat} {g' q' : Nat}

/-! X5.pressureIn(I)I -/
abbrev rmX5_pressureIn : Room := { frames := 7, cells := 0, slots := 0, locals := 146 }
abbrev wdX5_pressureIn : Cond := Cond.code yX5_pressureIn cX5_pressureIn 3 (some .int)
noncomputable def fX5_pressureIn (F : Nat)  (x1 : Int32) (M : M2) (J : J2) : Option (Int32 × M2 × J2) := (if ¬ (fX5_in x1 (0 : Int32) (600 : Int32)) = 0 then (bd2 (fX5_lays F M J) (fun M3 J4 => bd2 (fX5_minutes F x1 M3 J4) (fun M6 J7 => (fX5_pressure M6 J7).bind (fun vv9 => bd2 (fX5_restores F M6 J7) (fun M11 J12 => bd3 (fX5_tells vv9 M11 J12) (fun vv16 M14 J15 => some (vv16, M14, J15))))))) else (bd3 (fX5_fails (1 : Int32) M J) (fun vv20 M18 J19 => some (vv20, M18, J19))))
set_option maxRecDepth 20000 in
set_option maxHeartbeats 1000000 in
theorem TX5_pressureIn {rr : Int32} {MR : M2} {JR : J2}  (C : Cx E A p s m args meth c wdX5_pressureIn cX5_pressureIn 3 (some .int) RX5)  {x1 : Int32}  (h : fX5_pressureIn F  x1 M J = some (rr, MR, JR)) (w : Wd E A s (sg G 8 M) (sg K 8 J) H locs) (hl : lv_has ls 3 [(0, .ref (ad E 8 0)), (1, .int x1)]) : W p l e rmX5_pressureIn s m args below meth c H locs 0 0 (QI E A below args s rr (sg G 8 MR) (sg K 8 JR)) (F0 m 0 ls []) := by
  obtain ⟨hx, hb, hr, hml, hown, hts, hlocks, hKK, hA1, hA2⟩ := id C
  unfold fX5_pressureIn at h
  refine lv_iload_n hx hb dX5_pressureIn_0 rfl (lv_at hl 1 rfl) ?_
  refine lv_iconst (v := (0 : Int32)) hx hb dX5_pressureIn_1 (by decide) ?_
  refine lv_sipush (v := (600 : Int32)) hx hb dX5_pressureIn_2 (by decide) ?_
  refine x_cSi (As := [.int x1, .int (0 : Int32), .int (600 : Int32)]) (rest := []) C w (mtX5_in ) q7_0 q7_1 q1_5 q7_2 ydX5_in ⟨rfl, rfl⟩ ⟨by decide, by decide⟩ ⟨Nat.zero_le _, Nat.zero_le _⟩ hl.1 (Nat.le_of_ble_eq_true rfl) rfl dX5_pressureIn_5 (fun H locs w => ?_)
  refine lv_if_ne (tgt := 17) hx hb dX5_pressureIn_8 (by decide) (fun c1 => ?_) (fun c1 => ?_)
  · replace h := ite_t h c1
    refine lv_aload_n hx hb dX5_pressureIn_17 rfl (lv_at hl 0 rfl) ?_
    obtain ⟨M3, J4, hv2, h⟩ := bd2_of h
    refine x_cVv (As := []) (rest := []) C w (v8 (by decide)) cel_8 rfl (mtX5_lays  hv2) q24_12 q24_13 q24_14 q1_5 q24_15 ydX5_lays ⟨rfl, rfl⟩ ⟨by decide, by decide⟩ ⟨Nat.zero_le _, Nat.zero_le _⟩ hl.1 (Nat.le_of_ble_eq_true rfl) rfl dX5_pressureIn_18 (fun H locs w => ?_)
    refine lv_aload_n hx hb dX5_pressureIn_21 rfl (lv_at hl 0 rfl) ?_
    refine lv_iload_n hx hb dX5_pressureIn_22 rfl (lv_at hl 1 rfl) ?_
    obtain ⟨M6, J7, hv5, h⟩ := bd2_of h
    refine x_cVv (As := [.int x1]) (rest := []) C w (v8 (by decide)) cel_8 rfl (mtX5_minutes  hv5) q17_1 q17_2 q17_3 q1_5 q17_4 ydX5_minutes ⟨rfl, rfl⟩ ⟨by decide, by decide⟩ ⟨Nat.zero_le _, Nat.zero_le _⟩ hl.1 (Nat.le_of_ble_eq_true rfl) rfl dX5_pressureIn_23 (fun H locs w => ?_)
    refine lv_aload_n hx hb dX5_pressureIn_26 rfl (lv_at hl 0 rfl) ?_
    obtain ⟨vv9, hv8, h⟩ := bind_of h
    refine x_cVi (As := []) (rest := []) C w (v8 (by decide)) cel_8 rfl (mtX5_pressure  hv8) q7_17 q7_18 q7_19 q1_5 q7_20 ydX5_pressure ⟨rfl, rfl⟩ ⟨by decide, by decide⟩ ⟨Nat.zero_le _, Nat.zero_le _⟩ hl.1 (Nat.le_of_ble_eq_true rfl) rfl dX5_pressureIn_27 (fun H locs w => ?_)
    refine lv_istore_n (lv' := [(2, .int vv9), (0, .ref (ad E 8 0)), (1, .int x1)]) hx hb dX5_pressureIn_30 rfl hl (by decide) rfl (fun ls hl => ?_)
    refine lv_aload_n hx hb dX5_pressureIn_31 rfl (lv_at hl 1 rfl) ?_
    obtain ⟨M11, J12, hv10, h⟩ := bd2_of h
    refine x_cVv (As := []) (rest := []) C w (v8 (by decide)) cel_8 rfl (mtX5_restores  hv10) q24_16 q24_17 q24_18 q1_5 q24_19 ydX5_restores ⟨rfl, rfl⟩ ⟨by decide, by decide⟩ ⟨Nat.zero_le _, Nat.zero_le _⟩ hl.1 (Nat.le_of_ble_eq_true rfl) rfl dX5_pressureIn_32 (fun H locs w => ?_)
    refine lv_aload_n hx hb dX5_pressureIn_35 rfl (lv_at hl 1 rfl) ?_
    refine lv_iload_n hx hb dX5_pressureIn_36 rfl (lv_at hl 0 rfl) ?_
    obtain ⟨vv16, M14, J15, hv13, h⟩ := bd3_of h
    refine x_cVi (As := [.int vv9]) (rest := []) C w (v8 (by decide)) cel_8 rfl (mtX5_tells  hv13) q7_21 q7_22 q7_23 q1_5 q8_0 ydX5_tells ⟨rfl, rfl⟩ ⟨by decide, by decide⟩ ⟨Nat.zero_le _, Nat.zero_le _⟩ hl.1 (Nat.le_of_ble_eq_true rfl) rfl dX5_pressureIn_37 (fun H locs w => ?_)
    obtain ⟨e1, e2, e3⟩ := rt3 h
    exact x_ri C w e1 (by rw [e2]) (by rw [e3]) dX5_pressureIn_40
  · replace h := ite_f h (fun z => z c1)
    refine lv_aload_n hx hb dX5_pressureIn_11 rfl (lv_at hl 0 rfl) ?_
    refine lv_iconst (v := (1 : Int32)) hx hb dX5_pressureIn_12 (by decide) ?_
    obtain ⟨vv20, M18, J19, hv17, h⟩ := bd3_of h
    refine x_cVi (As := [.int (1 : Int32)]) (rest := []) C w (v8 (by decide)) cel_8 rfl (mtX5_fails  hv17) q7_3 q7_4 q7_5 q1_5 q7_6 ydX5_fails ⟨rfl, rfl⟩ ⟨by decide, by decide⟩ ⟨Nat.zero_le _, Nat.zero_le _⟩ hl.1 (Nat.le_of_ble_eq_true rfl) rfl dX5_pressureIn_13 (fun H locs w => ?_)
    obtain ⟨e1, e2, e3⟩ := rt3 h
    exact x_ri C w e1 (by rw [e2]) (by rw [e3]) dX5_pressureIn_16
theorem mtX5_pressureIn {rr : Int32} {MR : M2} {JR : J2}   {x1 : Int32}  (h : fX5_pressureIn F  x1 M J = some (rr, MR, JR)) : MtI l yX5_pressureIn wdX5_pressureIn rmX5_pressureIn E [.ref (ad E 8 0), .int x1] (sg G 8 M) (sg K 8 J) rr (sg G 8 MR) (sg K 8 JR) := by
  intro sz
  refine Met.ofW (cc := cX5_pressureIn) (maxL := 3) (ret := (some .int)) (by decide) rfl ?_
  intro p e s m args below meth c s₁ B hml hv
  obtain ⟨rfl, C, w⟩ := Cx.of (own := RX5) B rfl hml hv
  have hl := lv_entry ([.ref (ad E 8 0), .int x1]) (n := 3) (by first | exact Nat.le_of_ble_eq_true rfl)
  rw [lg_entry_eq]
  generalize (lg_sl ([.ref (ad E 8 0), .int x1]) ++ List.replicate (3 - (lg_sl ([.ref (ad E 8 0), .int x1])).length) Slot.unset).toArray = ls at hl ⊢
  exact TX5_pressureIn C   h w hl
theorem ydX5_pressureIn : yX5_pressureIn.cls = RX5 ∧ yX5_pressureIn.cls ≠ "java/lang/invoke/MethodHandle" ∧ yX5_pressureIn.cls ≠ "java/lang/invoke/VarHandle" ∧ (parseMethodDescriptor yX5_pressureIn.desc).map (fun d => d.parameters.length) = some 1 := by decide +kernel
/-! X5.minutesToLoad()I -/
abbrev rmX5_minutesToLoad : Room := { frames := 6, cells := 0, slots := 0, locals := 124 }
abbrev wdX5_minutesToLoad : Cond := Cond.code yX5_minutesToLoad cX5_minutesToLoad 3 (some .int)
noncomputable def fbX5_minutesToLoad_49 (F : Nat)   (s0 : Int32) (M : M2) (J : J2) : Option (Int32 × M2 × J2) := bd3 (fX5_tells s0 M J) (fun vv4 M2 J3 => some (vv4, M2, J3))
set_option maxRecDepth 20000 in
set_option maxHeartbeats 1000000 in
theorem TX5_minutesToLoad_49 {rr : Int32} {MR : M2} {JR : J2}   (C : Cx E A p s m args meth c wdX5_minutesToLoad cX5_minutesToLoad 3 (some .int) RX5)   (s0 : Int32) (M : M2) (J : J2)  (h : fbX5_minutesToLoad_49 F  s0 M J = some (rr, MR, JR)) (w : Wd E A s (sg G 8 M) (sg K 8 J) H locs) (hl : lv_has ls 3 []) : W p l e rmX5_minutesToLoad s m args below meth c H locs 0 0 (QI E A below args s rr (sg G 8 MR) (sg K 8 JR)) (F0 m 49 ls [.int s0, .ref (ad E 8 0)]) := by
  obtain ⟨hx, hb, hr, hml, hown, hts, hlocks, hKK, hA1, hA2⟩ := id C
  unfold fbX5_minutesToLoad_49 at h
  obtain ⟨vv4, M2, J3, hv1, h⟩ := bd3_of h
  refine x_cVi (As := [.int s0]) (rest := []) C w (v8 (by decide)) cel_8 rfl (mtX5_tells  hv1) q7_21 q7_22 q7_23 q1_5 q8_0 ydX5_tells ⟨rfl, rfl⟩ ⟨by decide, by decide⟩ ⟨Nat.zero_le _, Nat.zero_le _⟩ hl.1 (Nat.le_of_ble_eq_true rfl) rfl dX5_minutesToLoad_49 (fun H locs w => ?_)
  obtain ⟨e1, e2, e3⟩ := rt3 h
  exact x_ri C w e1 (by rw [e2]) (by rw [e3]) dX5_minutesToLoad_52
noncomputable def fbX5_minutesToLoad_35 (F : Nat)   (a1 : Int32) (a2 : Int32) (M : M2) (J : J2) : Option (Int32 × M2 × J2) := bd2 (fX5_restores F M J) (fun M2 J3 => (if a2 = 0 then (fbX5_minutesToLoad_49 F (-1 : Int32) M2 J3) else (fbX5_minutesToLoad_49 F a1 M2 J3)))
set_option maxRecDepth 20000 in
set_option maxHeartbeats 1000000 in
theorem TX5_minutesToLoad_35 {rr : Int32} {MR : M2} {JR : J2}   (C : Cx E A p s m args meth c wdX5_minutesToLoad cX5_minutesToLoad 3 (some .int) RX5)   (a1 : Int32) (a2 : Int32) (M : M2) (J : J2)  (h : fbX5_minutesToLoad_35 F  a1 a2 M J = some (rr, MR, JR)) (w : Wd E A s (sg G 8 M) (sg K 8 J) H locs) (hl : lv_has ls 3 [(0, .ref (ad E 8 0)), (1, .int a1), (2, .int a2)]) : W p l e rmX5_minutesToLoad s m args below meth c H locs 0 0 (QI E A below args s rr (sg G 8 MR) (sg K 8 JR)) (F0 m 35 ls []) := by
  obtain ⟨hx, hb, hr, hml, hown, hts, hlocks, hKK, hA1, hA2⟩ := id C
  unfold fbX5_minutesToLoad_35 at h
  refine lv_aload_n hx hb dX5_minutesToLoad_35 rfl (lv_at hl 0 rfl) ?_
  obtain ⟨M2, J3, hv1, h⟩ := bd2_of h
  refine x_cVv (As := []) (rest := []) C w (v8 (by decide)) cel_8 rfl (mtX5_restores  hv1) q24_16 q24_17 q24_18 q1_5 q24_19 ydX5_restores ⟨rfl, rfl⟩ ⟨by decide, by decide⟩ ⟨Nat.zero_le _, Nat.zero_le _⟩ hl.1 (Nat.le_of_ble_eq_true rfl) rfl dX5_minutesToLoad_36 (fun H locs w => ?_)
  refine lv_aload_n hx hb dX5_minutesToLoad_39 rfl (lv_at hl 0 rfl) ?_
  refine lv_iload_n hx hb dX5_minutesToLoad_40 rfl (lv_at hl 2 rfl) ?_
  refine lv_if_eq (tgt := 48) hx hb dX5_minutesToLoad_41 (by decide) (fun c4 => ?_) (fun c4 => ?_)
  · replace h := ite_t h c4
    refine lv_iconst (v := (-1 : Int32)) hx hb dX5_minutesToLoad_48 (by decide) ?_
    exact TX5_minutesToLoad_49 C   _ _ _ h w (lv_sub hl [] rfl)
  · replace h := ite_f h c4
    refine lv_iload_n hx hb dX5_minutesToLoad_44 rfl (lv_at hl 1 rfl) ?_
    refine lv_goto (tgt := 49) hx hb dX5_minutesToLoad_45 (by decide) ?_
    exact TX5_minutesToLoad_49 C   _ _ _ h w (lv_sub hl [] rfl)
noncomputable def fsX5_minutesToLoad_8 (F : Nat)   (k8 : Int32 → Int32 → M2 → J2 → Option (Int32 × M2 × J2)) : Int32 → Int32 → M2 → J2 → Option (Int32 × M2 × J2) := fun a1 a2 M J => (if (600 : Int32) ≤ a1 then (fbX5_minutesToLoad_35 F a1 a2 M J) else ((if ¬ a2 = 0 then (fbX5_minutesToLoad_35 F a1 a2 M J) else (bd2 (fX5_minute F (0 : Int32) M J) (fun M4 J5 => k8 (a1 + (1 : Int32)) (M4 0 12) M4 J5)))))
noncomputable def fbX5_minutesToLoad_8 (F : Nat)   (n : Nat) : Int32 → Int32 → M2 → J2 → Option (Int32 × M2 × J2) := itr (fsX5_minutesToLoad_8 F ) (fun _ _ _ _ => none) n
set_option maxRecDepth 20000 in
set_option maxHeartbeats 1000000 in
theorem SX5_minutesToLoad_8 {rr : Int32} {MR : M2} {JR : J2}   {k8 : Int32 → Int32 → M2 → J2 → Option (Int32 × M2 × J2)} (C : Cx E A p s m args meth c wdX5_minutesToLoad cX5_minutesToLoad 3 (some .int) RX5)   (hk8 : ∀ (a1 : Int32) (a2 : Int32) (M : M2) (J : J2)  (ls : Array Slot) (H : Heap) (locs : List Loc), k8 a1 a2 M J = some (rr, MR, JR) → Wd E A s (sg G 8 M) (sg K 8 J) H locs → lv_has ls 3 [(0, .ref (ad E 8 0)), (1, .int a1), (2, .int a2)] → W p l e rmX5_minutesToLoad s m args below meth c H locs 0 0 (QI E A below args s rr (sg G 8 MR) (sg K 8 JR)) (F0 m 8 ls [])) (a1 : Int32) (a2 : Int32) (M : M2) (J : J2)  (h : fsX5_minutesToLoad_8 F  k8 a1 a2 M J = some (rr, MR, JR)) (w : Wd E A s (sg G 8 M) (sg K 8 J) H locs) (hl : lv_has ls 3 [(0, .ref (ad E 8 0)), (1, .int a1), (2, .int a2)]) : W p l e rmX5_minutesToLoad s m args below meth c H locs 0 0 (QI E A below args s rr (sg G 8 MR) (sg K 8 JR)) (F0 m 8 ls []) := by
  obtain ⟨hx, hb, hr, hml, hown, hts, hlocks, hKK, hA1, hA2⟩ := id C
  unfold fsX5_minutesToLoad_8 at h
  refine lv_iload_n hx hb dX5_minutesToLoad_8 rfl (lv_at hl 1 rfl) ?_
  refine lv_sipush (v := (600 : Int32)) hx hb dX5_minutesToLoad_9 (by decide) ?_
  refine lv_icmp_ge (tgt := 35) hx hb dX5_minutesToLoad_12 (by decide) (fun c1 => ?_) (fun c1 => ?_)
  · replace h := ite_t h c1
    exact TX5_minutesToLoad_35 C   _ _ _ _ h w (lv_sub hl [0, 1, 2] rfl)
  · replace h := ite_f h c1
    refine lv_iload_n hx hb dX5_minutesToLoad_15 rfl (lv_at hl 2 rfl) ?_
    refine lv_if_ne (tgt := 35) hx hb dX5_minutesToLoad_16 (by decide) (fun c2 => ?_) (fun c2 => ?_)
    · replace h := ite_t h c2
      exact TX5_minutesToLoad_35 C   _ _ _ _ h w (lv_sub hl [0, 1, 2] rfl)
    · replace h := ite_f h (fun z => z c2)
      refine lv_aload_n hx hb dX5_minutesToLoad_19 rfl (lv_at hl 0 rfl) ?_
      refine lv_iconst (v := (0 : Int32)) hx hb dX5_minutesToLoad_20 (by decide) ?_
      obtain ⟨M4, J5, hv3, h⟩ := bd2_of h
      refine x_cVv (As := [.int (0 : Int32)]) (rest := []) C w (v8 (by decide)) cel_8 rfl (mtX5_minute  hv3) q17_5 q17_6 q17_7 q1_5 q17_8 ydX5_minute ⟨rfl, rfl⟩ ⟨by decide, by decide⟩ ⟨Nat.zero_le _, Nat.zero_le _⟩ hl.1 (Nat.le_of_ble_eq_true rfl) rfl dX5_minutesToLoad_21 (fun H locs w => ?_)
      refine lv_aload_n hx hb dX5_minutesToLoad_24 rfl (lv_at hl 0 rfl) ?_
      refine gL_X5_became C w q17_9 dX5_minutesToLoad_25 ?_
      refine lv_istore_n (lv' := [(2, .int (M4 0 12)), (0, .ref (ad E 8 0)), (1, .int a1)]) hx hb dX5_minutesToLoad_28 rfl hl (by decide) rfl (fun ls hl => ?_)
      refine lv_iinc (v := (a1 + (1 : Int32))) (lv' := [(1, .int (a1 + (1 : Int32))), (2, .int (M4 0 12)), (0, .ref (ad E 8 0))]) hx hb dX5_minutesToLoad_29 hl (k := 2) rfl (congrArg (HAdd.hAdd _) (by decide)) (by decide) rfl (fun ls hl => ?_)
      refine lv_goto (tgt := 8) hx hb dX5_minutesToLoad_32 (by decide) ?_
      exact hk8 _ _ _ _ _ _ _ h w (lv_sub hl [2, 0, 1] rfl)
theorem TX5_minutesToLoad_8 {rr : Int32} {MR : M2} {JR : J2}   (C : Cx E A p s m args meth c wdX5_minutesToLoad cX5_minutesToLoad 3 (some .int) RX5)   : ∀ (n : Nat) (a1 : Int32) (a2 : Int32) (M : M2) (J : J2)  (ls : Array Slot) (H : Heap) (locs : List Loc), fbX5_minutesToLoad_8 F  n a1 a2 M J = some (rr, MR, JR) → Wd E A s (sg G 8 M) (sg K 8 J) H locs → lv_has ls 3 [(0, .ref (ad E 8 0)), (1, .int a1), (2, .int a2)] → W p l e rmX5_minutesToLoad s m args below meth c H locs 0 0 (QI E A below args s rr (sg G 8 MR) (sg K 8 JR)) (F0 m 8 ls []) := by
  intro n
  induction n with
  | zero => intro a1 a2 M J  ls H locs h; exact absurd (show none = _ from h) (fun z => nomatch z)
  | succ n ih => intro a1 a2 M J  ls H locs h w hl; exact SX5_minutesToLoad_8 (F := F) C   ih a1 a2 M J  h w hl
noncomputable def fX5_minutesToLoad (F : Nat)   (M : M2) (J : J2) : Option (Int32 × M2 × J2) := bd2 (fX5_lays F M J) (fun M2 J3 => fbX5_minutesToLoad_8 F F (0 : Int32) (0 : Int32) M2 J3)
set_option maxRecDepth 20000 in
set_option maxHeartbeats 1000000 in
theorem TX5_minutesToLoad {rr : Int32} {MR : M2} {JR : J2}  (C : Cx E A p s m args meth c wdX5_minutesToLoad cX5_minutesToLoad 3 (some .int) RX5)    (h : fX5_minutesToLoad F  M J = some (rr, MR, JR)) (w : Wd E A s (sg G 8 M) (sg K 8 J) H locs) (hl : lv_has ls 3 [(0, .ref (ad E 8 0))]) : W p l e rmX5_minutesToLoad s m args below meth c H locs 0 0 (QI E A below args s rr (sg G 8 MR) (sg K 8 JR)) (F0 m 0 ls []) := by
  obtain ⟨hx, hb, hr, hml, hown, hts, hlocks, hKK, hA1, hA2⟩ := id C
  unfold fX5_minutesToLoad at h
  refine lv_aload_n hx hb dX5_minutesToLoad_0 rfl (lv_at hl 0 rfl) ?_
  obtain ⟨M2, J3, hv1, h⟩ := bd2_of h
  refine x_cVv (As := []) (rest := []) C w (v8 (by decide)) cel_8 rfl (mtX5_lays  hv1) q24_12 q24_13 q24_14 q1_5 q24_15 ydX5_lays ⟨rfl, rfl⟩ ⟨by decide, by decide⟩ ⟨Nat.zero_le _, Nat.zero_le _⟩ hl.1 (Nat.le_of_ble_eq_true rfl) rfl dX5_minutesToLoad_1 (fun H locs w => ?_)
  refine lv_iconst (v := (0 : Int32)) hx hb dX5_minutesToLoad_4 (by decide) ?_
  refine lv_istore_n (lv' := [(1, .int (0 : Int32)), (0, .ref (ad E 8 0))]) hx hb dX5_minutesToLoad_5 rfl hl (by decide) rfl (fun ls hl => ?_)
  refine lv_iconst (v := (0 : Int32)) hx hb dX5_minutesToLoad_6 (by decide) ?_
  refine lv_istore_n (lv' := [(2, .int (0 : Int32)), (1, .int (0 : Int32)), (0, .ref (ad E 8 0))]) hx hb dX5_minutesToLoad_7 rfl hl (by decide) rfl (fun ls hl => ?_)
  exact TX5_minutesToLoad_8 C   _ _ _ _ _ _ _ _ h w (lv_sub hl [2, 1, 0] rfl)
theorem mtX5_minutesToLoad {rr : Int32} {MR : M2} {JR : J2}     (h : fX5_minutesToLoad F  M J = some (rr, MR, JR)) : MtI l yX5_minutesToLoad wdX5_minutesToLoad rmX5_minutesToLoad E [.ref (ad E 8 0)] (sg G 8 M) (sg K 8 J) rr (sg G 8 MR) (sg K 8 JR) := by
  intro sz
  refine Met.ofW (cc := cX5_minutesToLoad) (maxL := 3) (ret := (some .int)) (by decide) rfl ?_
  intro p e s m args below meth c s₁ B hml hv
  obtain ⟨rfl, C, w⟩ := Cx.of (own := RX5) B rfl hml hv
  have hl := lv_entry ([.ref (ad E 8 0)]) (n := 3) (by first | exact Nat.le_of_ble_eq_true rfl)
  rw [lg_entry_eq]
  generalize (lg_sl ([.ref (ad E 8 0)]) ++ List.replicate (3 - (lg_sl ([.ref (ad E 8 0)])).length) Slot.unset).toArray = ls at hl ⊢
  exact TX5_minutesToLoad C   h w hl
theorem ydX5_minutesToLoad : yX5_minutesToLoad.cls = RX5 ∧ yX5_minutesToLoad.cls ≠ "java/lang/invoke/MethodHandle" ∧ yX5_minutesToLoad.cls ≠ "java/lang/invoke/VarHandle" ∧ (parseMethodDescriptor yX5_minutesToLoad.desc).map (fun d => d.parameters.length) = some 0 := by decide +kernel
/-! X5.canServe(I)I -/
abbrev rmX5_canServe : Room := { frames := 3, cells := 0, slots := 0, locals := 58 }
abbrev wdX5_canServe : Cond := Cond.code yX5_canServe cX5_canServe 3 (some .int)
noncomputable def fbX5_canServe_47 (F : Nat)   (s0 : Int32) (M : M2) (J : J2) : Option (Int32 × M2 × J2) := bd3 (fX5_tells s0 M J) (fun vv4 M2 J3 => some (vv4, M2, J3))
set_option maxRecDepth 20000 in
set_option maxHeartbeats 1000000 in
theorem TX5_canServe_47 {rr : Int32} {MR : M2} {JR : J2}   (C : Cx E A p s m args meth c wdX5_canServe cX5_canServe 3 (some .int) RX5)   (s0 : Int32) (M : M2) (J : J2)  (h : fbX5_canServe_47 F  s0 M J = some (rr, MR, JR)) (w : Wd E A s (sg G 8 M) (sg K 8 J) H locs) (hl : lv_has ls 3 []) : W p l e rmX5_canServe s m args below meth c H locs 0 0 (QI E A below args s rr (sg G 8 MR) (sg K 8 JR)) (F0 m 47 ls [.int s0, .ref (ad E 8 0)]) := by
  obtain ⟨hx, hb, hr, hml, hown, hts, hlocks, hKK, hA1, hA2⟩ := id C
  unfold fbX5_canServe_47 at h
  obtain ⟨vv4, M2, J3, hv1, h⟩ := bd3_of h
  refine x_cVi (As := [.int s0]) (rest := []) C w (v8 (by decide)) cel_8 rfl (mtX5_tells  hv1) q7_21 q7_22 q7_23 q1_5 q8_0 ydX5_tells ⟨rfl, rfl⟩ ⟨by decide, by decide⟩ ⟨Nat.zero_le _, Nat.zero_le _⟩ hl.1 (Nat.le_of_ble_eq_true rfl) rfl dX5_canServe_47 (fun H locs w => ?_)
  obtain ⟨e1, e2, e3⟩ := rt3 h
  exact x_ri C w e1 (by rw [e2]) (by rw [e3]) dX5_canServe_50
noncomputable def fX5_canServe (F : Nat)  (x1 : Int32) (M : M2) (J : J2) : Option (Int32 × M2 × J2) := (if ¬ (fX5_in x1 (0 : Int32) (16000 : Int32)) = 0 then ((fX5_capacities F M J (0 : Int32)).bind (fun vv3 => (if 0 ≤ (vv3 - ((x1 * (M 1 7)) / (1000 : Int32))) then (fbX5_canServe_47 F (vv3 - ((x1 * (M 1 7)) / (1000 : Int32))) M J) else (fbX5_canServe_47 F (0 : Int32) M J)))) else (bd3 (fX5_fails (1 : Int32) M J) (fun vv8 M6 J7 => some (vv8, M6, J7))))
set_option maxRecDepth 20000 in
set_option maxHeartbeats 1000000 in
theorem TX5_canServe {rr : Int32} {MR : M2} {JR : J2}  (C : Cx E A p s m args meth c wdX5_canServe cX5_canServe 3 (some .int) RX5)  {x1 : Int32}  (h : fX5_canServe F  x1 M J = some (rr, MR, JR)) (w : Wd E A s (sg G 8 M) (sg K 8 J) H locs) (hl : lv_has ls 3 [(0, .ref (ad E 8 0)), (1, .int x1)]) : W p l e rmX5_canServe s m args below meth c H locs 0 0 (QI E A below args s rr (sg G 8 MR) (sg K 8 JR)) (F0 m 0 ls []) := by
  obtain ⟨hx, hb, hr, hml, hown, hts, hlocks, hKK, hA1, hA2⟩ := id C
  unfold fX5_canServe at h
  refine lv_iload_n hx hb dX5_canServe_0 rfl (lv_at hl 1 rfl) ?_
  refine lv_iconst (v := (0 : Int32)) hx hb dX5_canServe_1 (by decide) ?_
  refine lv_sipush (v := (16000 : Int32)) hx hb dX5_canServe_2 (by decide) ?_
  refine x_cSi (As := [.int x1, .int (0 : Int32), .int (16000 : Int32)]) (rest := []) C w (mtX5_in ) q7_0 q7_1 q1_5 q7_2 ydX5_in ⟨rfl, rfl⟩ ⟨by decide, by decide⟩ ⟨Nat.zero_le _, Nat.zero_le _⟩ hl.1 (Nat.le_of_ble_eq_true rfl) rfl dX5_canServe_5 (fun H locs w => ?_)
  refine lv_if_ne (tgt := 17) hx hb dX5_canServe_8 (by decide) (fun c1 => ?_) (fun c1 => ?_)
  · replace h := ite_t h c1
    refine lv_aload_n hx hb dX5_canServe_17 rfl (lv_at hl 0 rfl) ?_
    refine lv_iconst (v := (0 : Int32)) hx hb dX5_canServe_18 (by decide) ?_
    obtain ⟨vv3, hv2, h⟩ := bind_of h
    refine x_cVi (As := [.int (0 : Int32)]) (rest := []) C w (v8 (by decide)) cel_8 rfl (mtX5_capacities  hv2) q21_20 q21_21 q21_22 q1_5 q21_23 ydX5_capacities ⟨rfl, rfl⟩ ⟨by decide, by decide⟩ ⟨Nat.zero_le _, Nat.zero_le _⟩ hl.1 (Nat.le_of_ble_eq_true rfl) rfl dX5_canServe_19 (fun H locs w => ?_)
    refine lv_iload_n hx hb dX5_canServe_22 rfl (lv_at hl 1 rfl) ?_
    refine lv_aload_n hx hb dX5_canServe_23 rfl (lv_at hl 0 rfl) ?_
    refine gR_X5_s C w q3_16 dX5_canServe_24 ?_
    refine lv_bipush (v := (7 : Int32)) hx hb dX5_canServe_27 (by decide) ?_
    refine x_aldI_L C w (v8 (by decide)) c8_1 (inb_k (k := 7) (by decide) (by decide)) cl_7 dX5_canServe_29 ?_
    refine lv_imul hx hb dX5_canServe_30 ?_
    refine lv_sipush (v := (1000 : Int32)) hx hb dX5_canServe_31 (by decide) ?_
    refine lv_idiv hx hb dX5_canServe_34 (by decide) ?_
    refine lv_isub hx hb dX5_canServe_35 ?_
    refine lv_istore_n (lv' := [(2, .int (vv3 - ((x1 * (M 1 7)) / (1000 : Int32)))), (0, .ref (ad E 8 0)), (1, .int x1)]) hx hb dX5_canServe_36 rfl hl (by decide) rfl (fun ls hl => ?_)
    refine lv_aload_n hx hb dX5_canServe_37 rfl (lv_at hl 1 rfl) ?_
    refine lv_iload_n hx hb dX5_canServe_38 rfl (lv_at hl 0 rfl) ?_
    refine lv_if_ge (tgt := 46) hx hb dX5_canServe_39 (by decide) (fun c4 => ?_) (fun c4 => ?_)
    · replace h := ite_t h c4
      refine lv_iload_n hx hb dX5_canServe_46 rfl (lv_at hl 0 rfl) ?_
      exact TX5_canServe_47 C   _ _ _ h w (lv_sub hl [] rfl)
    · replace h := ite_f h c4
      refine lv_iconst (v := (0 : Int32)) hx hb dX5_canServe_42 (by decide) ?_
      refine lv_goto (tgt := 47) hx hb dX5_canServe_43 (by decide) ?_
      exact TX5_canServe_47 C   _ _ _ h w (lv_sub hl [] rfl)
  · replace h := ite_f h (fun z => z c1)
    refine lv_aload_n hx hb dX5_canServe_11 rfl (lv_at hl 0 rfl) ?_
    refine lv_iconst (v := (1 : Int32)) hx hb dX5_canServe_12 (by decide) ?_
    obtain ⟨vv8, M6, J7, hv5, h⟩ := bd3_of h
    refine x_cVi (As := [.int (1 : Int32)]) (rest := []) C w (v8 (by decide)) cel_8 rfl (mtX5_fails  hv5) q7_3 q7_4 q7_5 q1_5 q7_6 ydX5_fails ⟨rfl, rfl⟩ ⟨by decide, by decide⟩ ⟨Nat.zero_le _, Nat.zero_le _⟩ hl.1 (Nat.le_of_ble_eq_true rfl) rfl dX5_canServe_13 (fun H locs w => ?_)
    obtain ⟨e1, e2, e3⟩ := rt3 h
    exact x_ri C w e1 (by rw [e2]) (by rw [e3]) dX5_canServe_16
theorem mtX5_canServe {rr : Int32} {MR : M2} {JR : J2}   {x1 : Int32}  (h : fX5_canServe F  x1 M J = some (rr, MR, JR)) : MtI l yX5_canServe wdX5_canServe rmX5_canServe E [.ref (ad E 8 0), .int x1] (sg G 8 M) (sg K 8 J) rr (sg G 8 MR) (sg K 8 JR) := by
  intro sz
  refine Met.ofW (cc := cX5_canServe) (maxL := 3) (ret := (some .int)) (by decide) rfl ?_
  intro p e s m args below meth c s₁ B hml hv
  obtain ⟨rfl, C, w⟩ := Cx.of (own := RX5) B rfl hml hv
  have hl := lv_entry ([.ref (ad E 8 0), .int x1]) (n := 3) (by first | exact Nat.le_of_ble_eq_true rfl)
  rw [lg_entry_eq]
  generalize (lg_sl ([.ref (ad E 8 0), .int x1]) ++ List.replicate (3 - (lg_sl ([.ref (ad E 8 0), .int x1])).length) Slot.unset).toArray = ls at hl ⊢
  exact TX5_canServe C   h w hl
theorem ydX5_canServe : yX5_canServe.cls = RX5 ∧ yX5_canServe.cls ≠ "java/lang/invoke/MethodHandle" ∧ yX5_canServe.cls ≠ "java/lang/invoke/VarHandle" ∧ (parseMethodDescriptor yX5_canServe.desc).map (fun d => d.parameters.length) = some 1 := by decide +kernel
/-! X5.energyWith(II)I -/
abbrev rmX5_energyWith : Room := { frames := 7, cells := 0, slots := 0, locals := 146 }
abbrev wdX5_energyWith : Cond := Cond.code yX5_energyWith cX5_energyWith 6 (some .int)
noncomputable def fbX5_energyWith_23 (F : Nat)    (M : M2) (J : J2) : Option (Int32 × M2 × J2) := bd3 (fX5_fails (1 : Int32) M J) (fun vv4 M2 J3 => some (vv4, M2, J3))
set_option maxRecDepth 20000 in
set_option maxHeartbeats 1000000 in
theorem TX5_energyWith_23 {rr : Int32} {MR : M2} {JR : J2}   (C : Cx E A p s m args meth c wdX5_energyWith cX5_energyWith 6 (some .int) RX5)    (M : M2) (J : J2)  (h : fbX5_energyWith_23 F  M J = some (rr, MR, JR)) (w : Wd E A s (sg G 8 M) (sg K 8 J) H locs) (hl : lv_has ls 6 [(0, .ref (ad E 8 0))]) : W p l e rmX5_energyWith s m args below meth c H locs 0 0 (QI E A below args s rr (sg G 8 MR) (sg K 8 JR)) (F0 m 23 ls []) := by
  obtain ⟨hx, hb, hr, hml, hown, hts, hlocks, hKK, hA1, hA2⟩ := id C
  unfold fbX5_energyWith_23 at h
  refine lv_aload_n hx hb dX5_energyWith_23 rfl (lv_at hl 0 rfl) ?_
  refine lv_iconst (v := (1 : Int32)) hx hb dX5_energyWith_24 (by decide) ?_
  obtain ⟨vv4, M2, J3, hv1, h⟩ := bd3_of h
  refine x_cVi (As := [.int (1 : Int32)]) (rest := []) C w (v8 (by decide)) cel_8 rfl (mtX5_fails  hv1) q7_3 q7_4 q7_5 q1_5 q7_6 ydX5_fails ⟨rfl, rfl⟩ ⟨by decide, by decide⟩ ⟨Nat.zero_le _, Nat.zero_le _⟩ hl.1 (Nat.le_of_ble_eq_true rfl) rfl dX5_energyWith_25 (fun H locs w => ?_)
  obtain ⟨e1, e2, e3⟩ := rt3 h
  exact x_ri C w e1 (by rw [e2]) (by rw [e3]) dX5_energyWith_28
noncomputable def fX5_energyWith (F : Nat)  (x1 : Int32) (x2 : Int32) (M : M2) (J : J2) : Option (Int32 × M2 × J2) := (if (fX5_in x1 (10 : Int32) (500 : Int32)) = 0 then (fbX5_energyWith_23 F  M J) else ((if ¬ (fX5_in x2 (1 : Int32) (600 : Int32)) = 0 then (bd2 (fX5_lays F M J) (fun M4 J5 => bnd (up2 M4 1 3 x1) (fun M6 => bd2 (fX5_minutes F x2 M6 J5) (fun M9 J10 => bd2 (fX5_restores F M9 J10) (fun M12 J13 => bd3 (fX5_tells (((J10 2 5) - (J5 2 5)).toInt32) M12 J13) (fun vv17 M15 J16 => some (vv17, M15, J16))))))) else (fbX5_energyWith_23 F  M J))))
set_option maxRecDepth 20000 in
set_option maxHeartbeats 1000000 in
theorem TX5_energyWith {rr : Int32} {MR : M2} {JR : J2}  (C : Cx E A p s m args meth c wdX5_energyWith cX5_energyWith 6 (some .int) RX5)  {x1 : Int32} {x2 : Int32}  (h : fX5_energyWith F  x1 x2 M J = some (rr, MR, JR)) (w : Wd E A s (sg G 8 M) (sg K 8 J) H locs) (hl : lv_has ls 6 [(0, .ref (ad E 8 0)), (1, .int x1), (2, .int x2)]) : W p l e rmX5_energyWith s m args below meth c H locs 0 0 (QI E A below args s rr (sg G 8 MR) (sg K 8 JR)) (F0 m 0 ls []) := by
  obtain ⟨hx, hb, hr, hml, hown, hts, hlocks, hKK, hA1, hA2⟩ := id C
  unfold fX5_energyWith at h
  refine lv_iload_n hx hb dX5_energyWith_0 rfl (lv_at hl 1 rfl) ?_
  refine lv_bipush (v := (10 : Int32)) hx hb dX5_energyWith_1 (by decide) ?_
  refine lv_sipush (v := (500 : Int32)) hx hb dX5_energyWith_3 (by decide) ?_
  refine x_cSi (As := [.int x1, .int (10 : Int32), .int (500 : Int32)]) (rest := []) C w (mtX5_in ) q7_0 q7_1 q1_5 q7_2 ydX5_in ⟨rfl, rfl⟩ ⟨by decide, by decide⟩ ⟨Nat.zero_le _, Nat.zero_le _⟩ hl.1 (Nat.le_of_ble_eq_true rfl) rfl dX5_energyWith_6 (fun H locs w => ?_)
  refine lv_if_eq (tgt := 23) hx hb dX5_energyWith_9 (by decide) (fun c1 => ?_) (fun c1 => ?_)
  · replace h := ite_t h c1
    exact TX5_energyWith_23 C   _ _ h w (lv_sub hl [0] rfl)
  · replace h := ite_f h c1
    refine lv_iload_n hx hb dX5_energyWith_12 rfl (lv_at hl 2 rfl) ?_
    refine lv_iconst (v := (1 : Int32)) hx hb dX5_energyWith_13 (by decide) ?_
    refine lv_sipush (v := (600 : Int32)) hx hb dX5_energyWith_14 (by decide) ?_
    refine x_cSi (As := [.int x2, .int (1 : Int32), .int (600 : Int32)]) (rest := []) C w (mtX5_in ) q7_0 q7_1 q1_5 q7_2 ydX5_in ⟨rfl, rfl⟩ ⟨by decide, by decide⟩ ⟨Nat.zero_le _, Nat.zero_le _⟩ hl.1 (Nat.le_of_ble_eq_true rfl) rfl dX5_energyWith_17 (fun H locs w => ?_)
    refine lv_if_ne (tgt := 29) hx hb dX5_energyWith_20 (by decide) (fun c2 => ?_) (fun c2 => ?_)
    · replace h := ite_t h c2
      refine lv_aload_n hx hb dX5_energyWith_29 rfl (lv_at hl 0 rfl) ?_
      obtain ⟨M4, J5, hv3, h⟩ := bd2_of h
      refine x_cVv (As := []) (rest := []) C w (v8 (by decide)) cel_8 rfl (mtX5_lays  hv3) q24_12 q24_13 q24_14 q1_5 q24_15 ydX5_lays ⟨rfl, rfl⟩ ⟨by decide, by decide⟩ ⟨Nat.zero_le _, Nat.zero_le _⟩ hl.1 (Nat.le_of_ble_eq_true rfl) rfl dX5_energyWith_30 (fun H locs w => ?_)
      refine lv_aload_n hx hb dX5_energyWith_33 rfl (lv_at hl 0 rfl) ?_
      refine gR_X5_b C w q3_17 dX5_energyWith_34 ?_
      refine lv_iconst (v := (5 : Int32)) hx hb dX5_energyWith_37 (by decide) ?_
      refine x_aldJ_L C w (v8 (by decide)) c8_2 (inb_k (k := 5) (by decide) (by decide)) cl_5 dX5_energyWith_38 ?_
      refine lv_lstore_n (lv' := [(3, .long (J5 2 5)), (0, .ref (ad E 8 0)), (1, .int x1), (2, .int x2)]) hx hb dX5_energyWith_39 rfl hl (by decide) rfl (fun ls hl => ?_)
      refine lv_aload_n hx hb dX5_energyWith_40 rfl (lv_at hl 1 rfl) ?_
      refine gR_X5_s C w q3_16 dX5_energyWith_41 ?_
      refine lv_iconst (v := (3 : Int32)) hx hb dX5_energyWith_44 (by decide) ?_
      refine lv_iload_n hx hb dX5_energyWith_45 rfl (lv_at hl 2 rfl) ?_
      refine x_astI_L C w (v8 (by decide)) c8_1 (inb_k (k := 3) (by decide) (by decide)) cl_3 dX5_energyWith_46 (fun M6 H locs e7 w => ?_)
      replace h := bnd_of h e7
      refine lv_aload_n hx hb dX5_energyWith_47 rfl (lv_at hl 1 rfl) ?_
      refine lv_iload_n hx hb dX5_energyWith_48 rfl (lv_at hl 3 rfl) ?_
      obtain ⟨M9, J10, hv8, h⟩ := bd2_of h
      refine x_cVv (As := [.int x2]) (rest := []) C w (v8 (by decide)) cel_8 rfl (mtX5_minutes  hv8) q17_1 q17_2 q17_3 q1_5 q17_4 ydX5_minutes ⟨rfl, rfl⟩ ⟨by decide, by decide⟩ ⟨Nat.zero_le _, Nat.zero_le _⟩ hl.1 (Nat.le_of_ble_eq_true rfl) rfl dX5_energyWith_49 (fun H locs w => ?_)
      refine lv_aload_n hx hb dX5_energyWith_52 rfl (lv_at hl 1 rfl) ?_
      refine gR_X5_b C w q3_17 dX5_energyWith_53 ?_
      refine lv_iconst (v := (5 : Int32)) hx hb dX5_energyWith_56 (by decide) ?_
      refine x_aldJ_L C w (v8 (by decide)) c8_2 (inb_k (k := 5) (by decide) (by decide)) cl_5 dX5_energyWith_57 ?_
      refine lv_lload_n hx hb dX5_energyWith_58 rfl (lv_at hl 0 rfl) ?_
      refine lv_lsub hx hb dX5_energyWith_59 ?_
      refine lv_l2i hx hb dX5_energyWith_60 rfl ?_
      refine lv_istore (lv' := [(5, .int ((J10 2 5) - (J5 2 5)).toInt32), (3, .long (J5 2 5)), (0, .ref (ad E 8 0)), (1, .int x1), (2, .int x2)]) hx hb dX5_energyWith_61 hl (by decide) rfl (fun ls hl => ?_)
      refine lv_aload_n hx hb dX5_energyWith_63 rfl (lv_at hl 2 rfl) ?_
      obtain ⟨M12, J13, hv11, h⟩ := bd2_of h
      refine x_cVv (As := []) (rest := []) C w (v8 (by decide)) cel_8 rfl (mtX5_restores  hv11) q24_16 q24_17 q24_18 q1_5 q24_19 ydX5_restores ⟨rfl, rfl⟩ ⟨by decide, by decide⟩ ⟨Nat.zero_le _, Nat.zero_le _⟩ hl.1 (Nat.le_of_ble_eq_true rfl) rfl dX5_energyWith_64 (fun H locs w => ?_)
      refine lv_aload_n hx hb dX5_energyWith_67 rfl (lv_at hl 2 rfl) ?_
      refine lv_iload hx hb dX5_energyWith_68 (lv_at hl 0 rfl) ?_
      obtain ⟨vv17, M15, J16, hv14, h⟩ := bd3_of h
      refine x_cVi (As := [.int ((J10 2 5) - (J5 2 5)).toInt32]) (rest := []) C w (v8 (by decide)) cel_8 rfl (mtX5_tells  hv14) q7_21 q7_22 q7_23 q1_5 q8_0 ydX5_tells ⟨rfl, rfl⟩ ⟨by decide, by decide⟩ ⟨Nat.zero_le _, Nat.zero_le _⟩ hl.1 (Nat.le_of_ble_eq_true rfl) rfl dX5_energyWith_70 (fun H locs w => ?_)
      obtain ⟨e1, e2, e3⟩ := rt3 h
      exact x_ri C w e1 (by rw [e2]) (by rw [e3]) dX5_energyWith_73
    · replace h := ite_f h (fun z => z c2)
      exact TX5_energyWith_23 C   _ _ h w (lv_sub hl [0] rfl)
theorem mtX5_energyWith {rr : Int32} {MR : M2} {JR : J2}   {x1 : Int32} {x2 : Int32}  (h : fX5_energyWith F  x1 x2 M J = some (rr, MR, JR)) : MtI l yX5_energyWith wdX5_energyWith rmX5_energyWith E [.ref (ad E 8 0), .int x1, .int x2] (sg G 8 M) (sg K 8 J) rr (sg G 8 MR) (sg K 8 JR) := by
  intro sz
  refine Met.ofW (cc := cX5_energyWith) (maxL := 6) (ret := (some .int)) (by decide) rfl ?_
  intro p e s m args below meth c s₁ B hml hv
  obtain ⟨rfl, C, w⟩ := Cx.of (own := RX5) B rfl hml hv
  have hl := lv_entry ([.ref (ad E 8 0), .int x1, .int x2]) (n := 6) (by first | exact Nat.le_of_ble_eq_true rfl)
  rw [lg_entry_eq]
  generalize (lg_sl ([.ref (ad E 8 0), .int x1, .int x2]) ++ List.replicate (6 - (lg_sl ([.ref (ad E 8 0), .int x1, .int x2])).length) Slot.unset).toArray = ls at hl ⊢
  exact TX5_energyWith C   h w hl
theorem ydX5_energyWith : yX5_energyWith.cls = RX5 ∧ yX5_energyWith.cls ≠ "java/lang/invoke/MethodHandle" ∧ yX5_energyWith.cls ≠ "java/lang/invoke/VarHandle" ∧ (parseMethodDescriptor yX5_energyWith.desc).map (fun d => d.parameters.length) = some 2 := by decide +kernel
/-! X5.orders(I)V -/
abbrev rmX5_orders : Room := { frames := 1, cells := 0, slots := 0, locals := 12 }
abbrev wdX5_orders : Cond := Cond.code yX5_orders cX5_orders 8 none
noncomputable def fbX5_orders_99 (F : Nat) (k7 : Int32 → Int32 → Int32 → M2 → J2 → Option (M2 × J2)) (k67 : Int32 → Int32 → Int32 → Int32 → Int32 → M2 → J2 → Option (M2 × J2))  (a2 : Int32) (a3 : Int32) (a4 : Int32) (a7 : Int32) (s0 : Int32) (s1 : Int32) (M : M2) (J : J2) : Option (M2 × J2) := k67 a2 a3 a4 (s1 - s0) (a7 + (1 : Int32)) M J
set_option maxRecDepth 20000 in
set_option maxHeartbeats 1000000 in
theorem TX5_orders_99 {MR : M2} {JR : J2}  {k7 : Int32 → Int32 → Int32 → M2 → J2 → Option (M2 × J2)} {k67 : Int32 → Int32 → Int32 → Int32 → Int32 → M2 → J2 → Option (M2 × J2)} (C : Cx E A p s m args meth c wdX5_orders cX5_orders 8 none RX5)  (hk7 : ∀ (a2 : Int32) (a3 : Int32) (a4 : Int32) (M : M2) (J : J2)  (ls : Array Slot) (H : Heap) (locs : List Loc), k7 a2 a3 a4 M J = some (MR, JR) → Wd E A s (sg G 8 M) (sg K 8 J) H locs → lv_has ls 8 [(0, .ref (ad E 8 0)), (2, .int a2), (3, .int a3), (4, .int a4)] → W p l e rmX5_orders s m args below meth c H locs 0 0 (QV E A below args s  (sg G 8 MR) (sg K 8 JR)) (F0 m 7 ls [])) (hk67 : ∀ (a2 : Int32) (a3 : Int32) (a4 : Int32) (a6 : Int32) (a7 : Int32) (M : M2) (J : J2)  (ls : Array Slot) (H : Heap) (locs : List Loc), k67 a2 a3 a4 a6 a7 M J = some (MR, JR) → Wd E A s (sg G 8 M) (sg K 8 J) H locs → lv_has ls 8 [(0, .ref (ad E 8 0)), (2, .int a2), (3, .int a3), (4, .int a4), (6, .int a6), (7, .int a7)] → W p l e rmX5_orders s m args below meth c H locs 0 0 (QV E A below args s  (sg G 8 MR) (sg K 8 JR)) (F0 m 67 ls [])) (a2 : Int32) (a3 : Int32) (a4 : Int32) (a7 : Int32) (s0 : Int32) (s1 : Int32) (M : M2) (J : J2)  (h : fbX5_orders_99 F k7 k67 a2 a3 a4 a7 s0 s1 M J = some (MR, JR)) (w : Wd E A s (sg G 8 M) (sg K 8 J) H locs) (hl : lv_has ls 8 [(0, .ref (ad E 8 0)), (2, .int a2), (3, .int a3), (4, .int a4), (7, .int a7)]) : W p l e rmX5_orders s m args below meth c H locs 0 0 (QV E A below args s  (sg G 8 MR) (sg K 8 JR)) (F0 m 99 ls [.int s0, .int s1]) := by
  obtain ⟨hx, hb, hr, hml, hown, hts, hlocks, hKK, hA1, hA2⟩ := id C
  unfold fbX5_orders_99 at h
  refine lv_isub hx hb dX5_orders_99 ?_
  refine lv_istore (lv' := [(6, .int (s1 - s0)), (0, .ref (ad E 8 0)), (2, .int a2), (3, .int a3), (4, .int a4), (7, .int a7)]) hx hb dX5_orders_100 hl (by decide) rfl (fun ls hl => ?_)
  refine lv_iinc (v := (a7 + (1 : Int32))) (lv' := [(7, .int (a7 + (1 : Int32))), (6, .int (s1 - s0)), (0, .ref (ad E 8 0)), (2, .int a2), (3, .int a3), (4, .int a4)]) hx hb dX5_orders_102 hl (k := 5) rfl (congrArg (HAdd.hAdd _) (by decide)) (by decide) rfl (fun ls hl => ?_)
  refine lv_goto (tgt := 67) hx hb dX5_orders_105 (by decide) ?_
  exact hk67 _ _ _ _ _ _ _ _ _ _ h w (lv_sub hl [2, 3, 4, 5, 1, 0] rfl)
noncomputable def fbX5_orders_82 (F : Nat) (k7 : Int32 → Int32 → Int32 → M2 → J2 → Option (M2 × J2)) (k67 : Int32 → Int32 → Int32 → Int32 → Int32 → M2 → J2 → Option (M2 × J2))  (a2 : Int32) (a3 : Int32) (a4 : Int32) (a6 : Int32) (a7 : Int32) (M : M2) (J : J2) : Option (M2 × J2) := (if ¬ ((a3 >>> (a7 &&& 31)) &&& (1 : Int32)) = (1 : Int32) then (fbX5_orders_99 F k7 k67 a2 a3 a4 a7 (1 : Int32) a6 M J) else (fbX5_orders_99 F k7 k67 a2 a3 a4 a7 (0 : Int32) a6 M J))
set_option maxRecDepth 20000 in
set_option maxHeartbeats 1000000 in
theorem TX5_orders_82 {MR : M2} {JR : J2}  {k7 : Int32 → Int32 → Int32 → M2 → J2 → Option (M2 × J2)} {k67 : Int32 → Int32 → Int32 → Int32 → Int32 → M2 → J2 → Option (M2 × J2)} (C : Cx E A p s m args meth c wdX5_orders cX5_orders 8 none RX5)  (hk7 : ∀ (a2 : Int32) (a3 : Int32) (a4 : Int32) (M : M2) (J : J2)  (ls : Array Slot) (H : Heap) (locs : List Loc), k7 a2 a3 a4 M J = some (MR, JR) → Wd E A s (sg G 8 M) (sg K 8 J) H locs → lv_has ls 8 [(0, .ref (ad E 8 0)), (2, .int a2), (3, .int a3), (4, .int a4)] → W p l e rmX5_orders s m args below meth c H locs 0 0 (QV E A below args s  (sg G 8 MR) (sg K 8 JR)) (F0 m 7 ls [])) (hk67 : ∀ (a2 : Int32) (a3 : Int32) (a4 : Int32) (a6 : Int32) (a7 : Int32) (M : M2) (J : J2)  (ls : Array Slot) (H : Heap) (locs : List Loc), k67 a2 a3 a4 a6 a7 M J = some (MR, JR) → Wd E A s (sg G 8 M) (sg K 8 J) H locs → lv_has ls 8 [(0, .ref (ad E 8 0)), (2, .int a2), (3, .int a3), (4, .int a4), (6, .int a6), (7, .int a7)] → W p l e rmX5_orders s m args below meth c H locs 0 0 (QV E A below args s  (sg G 8 MR) (sg K 8 JR)) (F0 m 67 ls [])) (a2 : Int32) (a3 : Int32) (a4 : Int32) (a6 : Int32) (a7 : Int32) (M : M2) (J : J2)  (h : fbX5_orders_82 F k7 k67 a2 a3 a4 a6 a7 M J = some (MR, JR)) (w : Wd E A s (sg G 8 M) (sg K 8 J) H locs) (hl : lv_has ls 8 [(0, .ref (ad E 8 0)), (2, .int a2), (3, .int a3), (4, .int a4), (6, .int a6), (7, .int a7)]) : W p l e rmX5_orders s m args below meth c H locs 0 0 (QV E A below args s  (sg G 8 MR) (sg K 8 JR)) (F0 m 82 ls []) := by
  obtain ⟨hx, hb, hr, hml, hown, hts, hlocks, hKK, hA1, hA2⟩ := id C
  unfold fbX5_orders_82 at h
  refine lv_iload hx hb dX5_orders_82 (lv_at hl 4 rfl) ?_
  refine lv_iload_n hx hb dX5_orders_84 rfl (lv_at hl 2 rfl) ?_
  refine lv_iload hx hb dX5_orders_85 (lv_at hl 5 rfl) ?_
  refine lv_ishr hx hb dX5_orders_87 ?_
  refine lv_iconst (v := (1 : Int32)) hx hb dX5_orders_88 (by decide) ?_
  refine lv_iand hx hb dX5_orders_89 ?_
  refine lv_iconst (v := (1 : Int32)) hx hb dX5_orders_90 (by decide) ?_
  refine lv_icmp_ne (tgt := 98) hx hb dX5_orders_91 (by decide) (fun c1 => ?_) (fun c1 => ?_)
  · replace h := ite_t h c1
    refine lv_iconst (v := (1 : Int32)) hx hb dX5_orders_98 (by decide) ?_
    exact TX5_orders_99 C  hk7 hk67 _ _ _ _ _ _ _ _ h w (lv_sub hl [0, 1, 2, 3, 5] rfl)
  · replace h := ite_f h (fun z => z c1)
    refine lv_iconst (v := (0 : Int32)) hx hb dX5_orders_94 (by decide) ?_
    refine lv_goto (tgt := 99) hx hb dX5_orders_95 (by decide) ?_
    exact TX5_orders_99 C  hk7 hk67 _ _ _ _ _ _ _ _ h w (lv_sub hl [0, 1, 2, 3, 5] rfl)
noncomputable def fsX5_orders_67 (F : Nat) (k7 : Int32 → Int32 → Int32 → M2 → J2 → Option (M2 × J2))  (k67 : Int32 → Int32 → Int32 → Int32 → Int32 → M2 → J2 → Option (M2 × J2)) : Int32 → Int32 → Int32 → Int32 → Int32 → M2 → J2 → Option (M2 × J2) := fun a2 a3 a4 a6 a7 M J => (if ((a3 >>> (a7 &&& 31)) &&& (1 : Int32)) = (1 : Int32) then (fbX5_orders_82 F k7 k67 a2 a3 a4 a6 a7 M J) else ((if a6 ≤ 0 then (chk (inb ((56 : Int32) + a4) 61) (bnd (up2 M 1 (((56 : Int32) + a4).toNatClampNeg) a7) (fun M4 => k7 a2 (a3 ||| ((1 : Int32) <<< (a7 &&& 31))) (a4 + (1 : Int32)) M4 J))) else (fbX5_orders_82 F k7 k67 a2 a3 a4 a6 a7 M J))))
noncomputable def fbX5_orders_67 (F : Nat) (k7 : Int32 → Int32 → Int32 → M2 → J2 → Option (M2 × J2))  (n : Nat) : Int32 → Int32 → Int32 → Int32 → Int32 → M2 → J2 → Option (M2 × J2) := itr (fsX5_orders_67 F k7) (fun _ _ _ _ _ _ _ => none) n
set_option maxRecDepth 20000 in
set_option maxHeartbeats 1000000 in
theorem SX5_orders_67 {MR : M2} {JR : J2}  {k7 : Int32 → Int32 → Int32 → M2 → J2 → Option (M2 × J2)} {k67 : Int32 → Int32 → Int32 → Int32 → Int32 → M2 → J2 → Option (M2 × J2)} (C : Cx E A p s m args meth c wdX5_orders cX5_orders 8 none RX5)  (hk7 : ∀ (a2 : Int32) (a3 : Int32) (a4 : Int32) (M : M2) (J : J2)  (ls : Array Slot) (H : Heap) (locs : List Loc), k7 a2 a3 a4 M J = some (MR, JR) → Wd E A s (sg G 8 M) (sg K 8 J) H locs → lv_has ls 8 [(0, .ref (ad E 8 0)), (2, .int a2), (3, .int a3), (4, .int a4)] → W p l e rmX5_orders s m args below meth c H locs 0 0 (QV E A below args s  (sg G 8 MR) (sg K 8 JR)) (F0 m 7 ls [])) (hk67 : ∀ (a2 : Int32) (a3 : Int32) (a4 : Int32) (a6 : Int32) (a7 : Int32) (M : M2) (J : J2)  (ls : Array Slot) (H : Heap) (locs : List Loc), k67 a2 a3 a4 a6 a7 M J = some (MR, JR) → Wd E A s (sg G 8 M) (sg K 8 J) H locs → lv_has ls 8 [(0, .ref (ad E 8 0)), (2, .int a2), (3, .int a3), (4, .int a4), (6, .int a6), (7, .int a7)] → W p l e rmX5_orders s m args below meth c H locs 0 0 (QV E A below args s  (sg G 8 MR) (sg K 8 JR)) (F0 m 67 ls [])) (a2 : Int32) (a3 : Int32) (a4 : Int32) (a6 : Int32) (a7 : Int32) (M : M2) (J : J2)  (h : fsX5_orders_67 F k7 k67 a2 a3 a4 a6 a7 M J = some (MR, JR)) (w : Wd E A s (sg G 8 M) (sg K 8 J) H locs) (hl : lv_has ls 8 [(0, .ref (ad E 8 0)), (2, .int a2), (3, .int a3), (4, .int a4), (6, .int a6), (7, .int a7)]) : W p l e rmX5_orders s m args below meth c H locs 0 0 (QV E A below args s  (sg G 8 MR) (sg K 8 JR)) (F0 m 67 ls []) := by
  obtain ⟨hx, hb, hr, hml, hown, hts, hlocks, hKK, hA1, hA2⟩ := id C
  unfold fsX5_orders_67 at h
  refine lv_iload_n hx hb dX5_orders_67 rfl (lv_at hl 2 rfl) ?_
  refine lv_iload hx hb dX5_orders_68 (lv_at hl 5 rfl) ?_
  refine lv_ishr hx hb dX5_orders_70 ?_
  refine lv_iconst (v := (1 : Int32)) hx hb dX5_orders_71 (by decide) ?_
  refine lv_iand hx hb dX5_orders_72 ?_
  refine lv_iconst (v := (1 : Int32)) hx hb dX5_orders_73 (by decide) ?_
  refine lv_icmp_eq (tgt := 82) hx hb dX5_orders_74 (by decide) (fun c1 => ?_) (fun c1 => ?_)
  · replace h := ite_t h c1
    exact TX5_orders_82 C  hk7 hk67 _ _ _ _ _ _ _ h w (lv_sub hl [0, 1, 2, 3, 4, 5] rfl)
  · replace h := ite_f h c1
    refine lv_iload hx hb dX5_orders_77 (lv_at hl 4 rfl) ?_
    refine lv_if_le (tgt := 108) hx hb dX5_orders_79 (by decide) (fun c2 => ?_) (fun c2 => ?_)
    · replace h := ite_t h c2
      refine lv_iload_n hx hb dX5_orders_108 rfl (lv_at hl 2 rfl) ?_
      refine lv_iconst (v := (1 : Int32)) hx hb dX5_orders_109 (by decide) ?_
      refine lv_iload hx hb dX5_orders_110 (lv_at hl 5 rfl) ?_
      refine lv_ishl hx hb dX5_orders_112 ?_
      refine lv_ior hx hb dX5_orders_113 ?_
      refine lv_istore_n (lv' := [(3, .int (a3 ||| ((1 : Int32) <<< (a7 &&& 31)))), (0, .ref (ad E 8 0)), (2, .int a2), (4, .int a4), (6, .int a6), (7, .int a7)]) hx hb dX5_orders_114 rfl hl (by decide) rfl (fun ls hl => ?_)
      refine lv_aload_n hx hb dX5_orders_115 rfl (lv_at hl 1 rfl) ?_
      refine gR_X5_s C w q3_16 dX5_orders_116 ?_
      refine lv_bipush (v := (56 : Int32)) hx hb dX5_orders_119 (by decide) ?_
      refine lv_iload hx hb dX5_orders_121 (lv_at hl 3 rfl) ?_
      refine lv_iadd hx hb dX5_orders_123 ?_
      refine lv_iload hx hb dX5_orders_124 (lv_at hl 5 rfl) ?_
      obtain ⟨ki3, h⟩ := chk_of h
      refine x_astI_L C w (v8 (by decide)) c8_1 ki3 rfl dX5_orders_126 (fun M4 H locs e5 w => ?_)
      replace h := bnd_of h e5
      refine lv_iinc (v := (a4 + (1 : Int32))) (lv' := [(4, .int (a4 + (1 : Int32))), (3, .int (a3 ||| ((1 : Int32) <<< (a7 &&& 31)))), (0, .ref (ad E 8 0)), (2, .int a2), (6, .int a6), (7, .int a7)]) hx hb dX5_orders_127 hl (k := 3) rfl (congrArg (HAdd.hAdd _) (by decide)) (by decide) rfl (fun ls hl => ?_)
      refine lv_goto (tgt := 7) hx hb dX5_orders_130 (by decide) ?_
      exact hk7 _ _ _ _ _ _ _ _ h w (lv_sub hl [2, 3, 1, 0] rfl)
    · replace h := ite_f h c2
      exact TX5_orders_82 C  hk7 hk67 _ _ _ _ _ _ _ h w (lv_sub hl [0, 1, 2, 3, 4, 5] rfl)
theorem TX5_orders_67 {MR : M2} {JR : J2}  {k7 : Int32 → Int32 → Int32 → M2 → J2 → Option (M2 × J2)} (C : Cx E A p s m args meth c wdX5_orders cX5_orders 8 none RX5)  (hk7 : ∀ (a2 : Int32) (a3 : Int32) (a4 : Int32) (M : M2) (J : J2)  (ls : Array Slot) (H : Heap) (locs : List Loc), k7 a2 a3 a4 M J = some (MR, JR) → Wd E A s (sg G 8 M) (sg K 8 J) H locs → lv_has ls 8 [(0, .ref (ad E 8 0)), (2, .int a2), (3, .int a3), (4, .int a4)] → W p l e rmX5_orders s m args below meth c H locs 0 0 (QV E A below args s  (sg G 8 MR) (sg K 8 JR)) (F0 m 7 ls [])) : ∀ (n : Nat) (a2 : Int32) (a3 : Int32) (a4 : Int32) (a6 : Int32) (a7 : Int32) (M : M2) (J : J2)  (ls : Array Slot) (H : Heap) (locs : List Loc), fbX5_orders_67 F k7 n a2 a3 a4 a6 a7 M J = some (MR, JR) → Wd E A s (sg G 8 M) (sg K 8 J) H locs → lv_has ls 8 [(0, .ref (ad E 8 0)), (2, .int a2), (3, .int a3), (4, .int a4), (6, .int a6), (7, .int a7)] → W p l e rmX5_orders s m args below meth c H locs 0 0 (QV E A below args s  (sg G 8 MR) (sg K 8 JR)) (F0 m 67 ls []) := by
  intro n
  induction n with
  | zero => intro a2 a3 a4 a6 a7 M J  ls H locs h; exact absurd (show none = _ from h) (fun z => nomatch z)
  | succ n ih => intro a2 a3 a4 a6 a7 M J  ls H locs h w hl; exact SX5_orders_67 (F := F) C  hk7 ih a2 a3 a4 a6 a7 M J  h w hl
noncomputable def fsX5_orders_25 (F : Nat) (k7 : Int32 → Int32 → Int32 → M2 → J2 → Option (M2 × J2))  (k25 : Int32 → Int32 → Int32 → Int32 → Int32 → M2 → J2 → Option (M2 × J2)) : Int32 → Int32 → Int32 → Int32 → Int32 → M2 → J2 → Option (M2 × J2) := fun a2 a3 a4 a5 a6 M J => (if ((M 1 10) - a4) ≤ a6 then (chk (¬ a5 = 0) (chk (¬ a5 = 0) (fbX5_orders_67 F k7 F (a2 - a2 / a5 * a5) a3 a4 (a2 / a5) (0 : Int32) M J))) else (k25 a2 a3 a4 (a5 * a6) (a6 + (1 : Int32)) M J))
noncomputable def fbX5_orders_25 (F : Nat) (k7 : Int32 → Int32 → Int32 → M2 → J2 → Option (M2 × J2))  (n : Nat) : Int32 → Int32 → Int32 → Int32 → Int32 → M2 → J2 → Option (M2 × J2) := itr (fsX5_orders_25 F k7) (fun _ _ _ _ _ _ _ => none) n
set_option maxRecDepth 20000 in
set_option maxHeartbeats 1000000 in
theorem SX5_orders_25 {MR : M2} {JR : J2}  {k7 : Int32 → Int32 → Int32 → M2 → J2 → Option (M2 × J2)} {k25 : Int32 → Int32 → Int32 → Int32 → Int32 → M2 → J2 → Option (M2 × J2)} (C : Cx E A p s m args meth c wdX5_orders cX5_orders 8 none RX5)  (hk7 : ∀ (a2 : Int32) (a3 : Int32) (a4 : Int32) (M : M2) (J : J2)  (ls : Array Slot) (H : Heap) (locs : List Loc), k7 a2 a3 a4 M J = some (MR, JR) → Wd E A s (sg G 8 M) (sg K 8 J) H locs → lv_has ls 8 [(0, .ref (ad E 8 0)), (2, .int a2), (3, .int a3), (4, .int a4)] → W p l e rmX5_orders s m args below meth c H locs 0 0 (QV E A below args s  (sg G 8 MR) (sg K 8 JR)) (F0 m 7 ls [])) (hk25 : ∀ (a2 : Int32) (a3 : Int32) (a4 : Int32) (a5 : Int32) (a6 : Int32) (M : M2) (J : J2)  (ls : Array Slot) (H : Heap) (locs : List Loc), k25 a2 a3 a4 a5 a6 M J = some (MR, JR) → Wd E A s (sg G 8 M) (sg K 8 J) H locs → lv_has ls 8 [(0, .ref (ad E 8 0)), (2, .int a2), (3, .int a3), (4, .int a4), (5, .int a5), (6, .int a6)] → W p l e rmX5_orders s m args below meth c H locs 0 0 (QV E A below args s  (sg G 8 MR) (sg K 8 JR)) (F0 m 25 ls [])) (a2 : Int32) (a3 : Int32) (a4 : Int32) (a5 : Int32) (a6 : Int32) (M : M2) (J : J2)  (h : fsX5_orders_25 F k7 k25 a2 a3 a4 a5 a6 M J = some (MR, JR)) (w : Wd E A s (sg G 8 M) (sg K 8 J) H locs) (hl : lv_has ls 8 [(0, .ref (ad E 8 0)), (2, .int a2), (3, .int a3), (4, .int a4), (5, .int a5), (6, .int a6)]) : W p l e rmX5_orders s m args below meth c H locs 0 0 (QV E A below args s  (sg G 8 MR) (sg K 8 JR)) (F0 m 25 ls []) := by
  obtain ⟨hx, hb, hr, hml, hown, hts, hlocks, hKK, hA1, hA2⟩ := id C
  unfold fsX5_orders_25 at h
  refine lv_iload hx hb dX5_orders_25 (lv_at hl 5 rfl) ?_
  refine lv_aload_n hx hb dX5_orders_27 rfl (lv_at hl 0 rfl) ?_
  refine gR_X5_s C w q3_16 dX5_orders_28 ?_
  refine lv_bipush (v := (10 : Int32)) hx hb dX5_orders_31 (by decide) ?_
  refine x_aldI_L C w (v8 (by decide)) c8_1 (inb_k (k := 10) (by decide) (by decide)) cl_10 dX5_orders_33 ?_
  refine lv_iload hx hb dX5_orders_34 (lv_at hl 3 rfl) ?_
  refine lv_isub hx hb dX5_orders_36 ?_
  refine lv_icmp_ge (tgt := 53) hx hb dX5_orders_37 (by decide) (fun c1 => ?_) (fun c1 => ?_)
  · replace h := ite_t h c1
    refine lv_iload_n hx hb dX5_orders_53 rfl (lv_at hl 1 rfl) ?_
    refine lv_iload hx hb dX5_orders_54 (lv_at hl 4 rfl) ?_
    obtain ⟨kz2, h⟩ := chk_of h
    refine lv_idiv hx hb dX5_orders_56 kz2 ?_
    refine lv_istore (lv' := [(6, .int (a2 / a5)), (0, .ref (ad E 8 0)), (2, .int a2), (3, .int a3), (4, .int a4), (5, .int a5)]) hx hb dX5_orders_57 hl (by decide) rfl (fun ls hl => ?_)
    refine lv_iload_n hx hb dX5_orders_59 rfl (lv_at hl 2 rfl) ?_
    refine lv_iload hx hb dX5_orders_60 (lv_at hl 5 rfl) ?_
    obtain ⟨kz3, h⟩ := chk_of h
    refine lv_irem hx hb dX5_orders_62 kz3 ?_
    refine lv_istore_n (lv' := [(2, .int (a2 - a2 / a5 * a5)), (6, .int (a2 / a5)), (0, .ref (ad E 8 0)), (3, .int a3), (4, .int a4), (5, .int a5)]) hx hb dX5_orders_63 rfl hl (by decide) rfl (fun ls hl => ?_)
    refine lv_iconst (v := (0 : Int32)) hx hb dX5_orders_64 (by decide) ?_
    refine lv_istore (lv' := [(7, .int (0 : Int32)), (2, .int (a2 - a2 / a5 * a5)), (6, .int (a2 / a5)), (0, .ref (ad E 8 0)), (3, .int a3), (4, .int a4), (5, .int a5)]) hx hb dX5_orders_65 hl (by decide) rfl (fun ls hl => ?_)
    exact TX5_orders_67 C  hk7 _ _ _ _ _ _ _ _ _ _ _ h w (lv_sub hl [3, 1, 4, 5, 2, 0] rfl)
  · replace h := ite_f h c1
    refine lv_iload hx hb dX5_orders_40 (lv_at hl 4 rfl) ?_
    refine lv_iload hx hb dX5_orders_42 (lv_at hl 5 rfl) ?_
    refine lv_imul hx hb dX5_orders_44 ?_
    refine lv_istore (lv' := [(5, .int (a5 * a6)), (0, .ref (ad E 8 0)), (2, .int a2), (3, .int a3), (4, .int a4), (6, .int a6)]) hx hb dX5_orders_45 hl (by decide) rfl (fun ls hl => ?_)
    refine lv_iinc (v := (a6 + (1 : Int32))) (lv' := [(6, .int (a6 + (1 : Int32))), (5, .int (a5 * a6)), (0, .ref (ad E 8 0)), (2, .int a2), (3, .int a3), (4, .int a4)]) hx hb dX5_orders_47 hl (k := 5) rfl (congrArg (HAdd.hAdd _) (by decide)) (by decide) rfl (fun ls hl => ?_)
    refine lv_goto (tgt := 25) hx hb dX5_orders_50 (by decide) ?_
    exact hk25 _ _ _ _ _ _ _ _ _ _ h w (lv_sub hl [2, 3, 4, 5, 1, 0] rfl)
theorem TX5_orders_25 {MR : M2} {JR : J2}  {k7 : Int32 → Int32 → Int32 → M2 → J2 → Option (M2 × J2)} (C : Cx E A p s m args meth c wdX5_orders cX5_orders 8 none RX5)  (hk7 : ∀ (a2 : Int32) (a3 : Int32) (a4 : Int32) (M : M2) (J : J2)  (ls : Array Slot) (H : Heap) (locs : List Loc), k7 a2 a3 a4 M J = some (MR, JR) → Wd E A s (sg G 8 M) (sg K 8 J) H locs → lv_has ls 8 [(0, .ref (ad E 8 0)), (2, .int a2), (3, .int a3), (4, .int a4)] → W p l e rmX5_orders s m args below meth c H locs 0 0 (QV E A below args s  (sg G 8 MR) (sg K 8 JR)) (F0 m 7 ls [])) : ∀ (n : Nat) (a2 : Int32) (a3 : Int32) (a4 : Int32) (a5 : Int32) (a6 : Int32) (M : M2) (J : J2)  (ls : Array Slot) (H : Heap) (locs : List Loc), fbX5_orders_25 F k7 n a2 a3 a4 a5 a6 M J = some (MR, JR) → Wd E A s (sg G 8 M) (sg K 8 J) H locs → lv_has ls 8 [(0, .ref (ad E 8 0)), (2, .int a2), (3, .int a3), (4, .int a4), (5, .int a5), (6, .int a6)] → W p l e rmX5_orders s m args below meth c H locs 0 0 (QV E A below args s  (sg G 8 MR) (sg K 8 JR)) (F0 m 25 ls []) := by
  intro n
  induction n with
  | zero => intro a2 a3 a4 a5 a6 M J  ls H locs h; exact absurd (show none = _ from h) (fun z => nomatch z)
  | succ n ih => intro a2 a3 a4 a5 a6 M J  ls H locs h w hl; exact SX5_orders_25 (F := F) C  hk7 ih a2 a3 a4 a5 a6 M J  h w hl
noncomputable def fsX5_orders_7 (F : Nat)   (k7 : Int32 → Int32 → Int32 → M2 → J2 → Option (M2 × J2)) : Int32 → Int32 → Int32 → M2 → J2 → Option (M2 × J2) := fun a2 a3 a4 M J => (if (M 1 10) ≤ a4 then (some (M, J)) else (fbX5_orders_25 F k7 F a2 a3 a4 (1 : Int32) (2 : Int32) M J))
noncomputable def fbX5_orders_7 (F : Nat)   (n : Nat) : Int32 → Int32 → Int32 → M2 → J2 → Option (M2 × J2) := itr (fsX5_orders_7 F ) (fun _ _ _ _ _ => none) n
set_option maxRecDepth 20000 in
set_option maxHeartbeats 1000000 in
theorem SX5_orders_7 {MR : M2} {JR : J2}   {k7 : Int32 → Int32 → Int32 → M2 → J2 → Option (M2 × J2)} (C : Cx E A p s m args meth c wdX5_orders cX5_orders 8 none RX5)   (hk7 : ∀ (a2 : Int32) (a3 : Int32) (a4 : Int32) (M : M2) (J : J2)  (ls : Array Slot) (H : Heap) (locs : List Loc), k7 a2 a3 a4 M J = some (MR, JR) → Wd E A s (sg G 8 M) (sg K 8 J) H locs → lv_has ls 8 [(0, .ref (ad E 8 0)), (2, .int a2), (3, .int a3), (4, .int a4)] → W p l e rmX5_orders s m args below meth c H locs 0 0 (QV E A below args s  (sg G 8 MR) (sg K 8 JR)) (F0 m 7 ls [])) (a2 : Int32) (a3 : Int32) (a4 : Int32) (M : M2) (J : J2)  (h : fsX5_orders_7 F  k7 a2 a3 a4 M J = some (MR, JR)) (w : Wd E A s (sg G 8 M) (sg K 8 J) H locs) (hl : lv_has ls 8 [(0, .ref (ad E 8 0)), (2, .int a2), (3, .int a3), (4, .int a4)]) : W p l e rmX5_orders s m args below meth c H locs 0 0 (QV E A below args s  (sg G 8 MR) (sg K 8 JR)) (F0 m 7 ls []) := by
  obtain ⟨hx, hb, hr, hml, hown, hts, hlocks, hKK, hA1, hA2⟩ := id C
  unfold fsX5_orders_7 at h
  refine lv_iload hx hb dX5_orders_7 (lv_at hl 3 rfl) ?_
  refine lv_aload_n hx hb dX5_orders_9 rfl (lv_at hl 0 rfl) ?_
  refine gR_X5_s C w q3_16 dX5_orders_10 ?_
  refine lv_bipush (v := (10 : Int32)) hx hb dX5_orders_13 (by decide) ?_
  refine x_aldI_L C w (v8 (by decide)) c8_1 (inb_k (k := 10) (by decide) (by decide)) cl_10 dX5_orders_15 ?_
  refine lv_icmp_ge (tgt := 133) hx hb dX5_orders_16 (by decide) (fun c1 => ?_) (fun c1 => ?_)
  · replace h := ite_t h c1
    obtain ⟨e2, e3⟩ := rt2 h
    exact x_rv C w (by rw [e2]) (by rw [e3]) dX5_orders_133
  · replace h := ite_f h c1
    refine lv_iconst (v := (1 : Int32)) hx hb dX5_orders_19 (by decide) ?_
    refine lv_istore (lv' := [(5, .int (1 : Int32)), (0, .ref (ad E 8 0)), (2, .int a2), (3, .int a3), (4, .int a4)]) hx hb dX5_orders_20 hl (by decide) rfl (fun ls hl => ?_)
    refine lv_iconst (v := (2 : Int32)) hx hb dX5_orders_22 (by decide) ?_
    refine lv_istore (lv' := [(6, .int (2 : Int32)), (5, .int (1 : Int32)), (0, .ref (ad E 8 0)), (2, .int a2), (3, .int a3), (4, .int a4)]) hx hb dX5_orders_23 hl (by decide) rfl (fun ls hl => ?_)
    exact TX5_orders_25 C  hk7 _ _ _ _ _ _ _ _ _ _ _ h w (lv_sub hl [2, 3, 4, 5, 1, 0] rfl)
theorem TX5_orders_7 {MR : M2} {JR : J2}   (C : Cx E A p s m args meth c wdX5_orders cX5_orders 8 none RX5)   : ∀ (n : Nat) (a2 : Int32) (a3 : Int32) (a4 : Int32) (M : M2) (J : J2)  (ls : Array Slot) (H : Heap) (locs : List Loc), fbX5_orders_7 F  n a2 a3 a4 M J = some (MR, JR) → Wd E A s (sg G 8 M) (sg K 8 J) H locs → lv_has ls 8 [(0, .ref (ad E 8 0)), (2, .int a2), (3, .int a3), (4, .int a4)] → W p l e rmX5_orders s m args below meth c H locs 0 0 (QV E A below args s  (sg G 8 MR) (sg K 8 JR)) (F0 m 7 ls []) := by
  intro n
  induction n with
  | zero => intro a2 a3 a4 M J  ls H locs h; exact absurd (show none = _ from h) (fun z => nomatch z)
  | succ n ih => intro a2 a3 a4 M J  ls H locs h w hl; exact SX5_orders_7 (F := F) C   ih a2 a3 a4 M J  h w hl
noncomputable def fX5_orders (F : Nat)  (x1 : Int32) (M : M2) (J : J2) : Option (M2 × J2) := fbX5_orders_7 F F x1 (0 : Int32) (0 : Int32) M J
set_option maxRecDepth 20000 in
set_option maxHeartbeats 1000000 in
theorem TX5_orders {MR : M2} {JR : J2}  (C : Cx E A p s m args meth c wdX5_orders cX5_orders 8 none RX5)  {x1 : Int32}  (h : fX5_orders F  x1 M J = some (MR, JR)) (w : Wd E A s (sg G 8 M) (sg K 8 J) H locs) (hl : lv_has ls 8 [(0, .ref (ad E 8 0)), (1, .int x1)]) : W p l e rmX5_orders s m args below meth c H locs 0 0 (QV E A below args s  (sg G 8 MR) (sg K 8 JR)) (F0 m 0 ls []) := by
  obtain ⟨hx, hb, hr, hml, hown, hts, hlocks, hKK, hA1, hA2⟩ := id C
  unfold fX5_orders at h
  refine lv_iload_n hx hb dX5_orders_0 rfl (lv_at hl 1 rfl) ?_
  refine lv_istore_n (lv' := [(2, .int x1), (0, .ref (ad E 8 0)), (1, .int x1)]) hx hb dX5_orders_1 rfl hl (by decide) rfl (fun ls hl => ?_)
  refine lv_iconst (v := (0 : Int32)) hx hb dX5_orders_2 (by decide) ?_
  refine lv_istore_n (lv' := [(3, .int (0 : Int32)), (2, .int x1), (0, .ref (ad E 8 0)), (1, .int x1)]) hx hb dX5_orders_3 rfl hl (by decide) rfl (fun ls hl => ?_)
  refine lv_iconst (v := (0 : Int32)) hx hb dX5_orders_4 (by decide) ?_
  refine lv_istore (lv' := [(4, .int (0 : Int32)), (3, .int (0 : Int32)), (2, .int x1), (0, .ref (ad E 8 0)), (1, .int x1)]) hx hb dX5_orders_5 hl (by decide) rfl (fun ls hl => ?_)
  exact TX5_orders_7 C   _ _ _ _ _ _ _ _ _ h w (lv_sub hl [3, 2, 1, 0] rfl)
theorem mtX5_orders {MR : M2} {JR : J2}   {x1 : Int32}  (h : fX5_orders F  x1 M J = some (MR, JR)) : MtV l yX5_orders wdX5_orders rmX5_orders E [.ref (ad E 8 0), .int x1] (sg G 8 M) (sg K 8 J)  (sg G 8 MR) (sg K 8 JR) := by
  intro sz
  refine Met.ofW (cc := cX5_orders) (maxL := 8) (ret := none) (by decide) rfl ?_
  intro p e s m args below meth c s₁ B hml hv
  obtain ⟨rfl, C, w⟩ := Cx.of (own := RX5) B rfl hml hv
  have hl := lv_entry ([.ref (ad E 8 0), .int x1]) (n := 8) (by first | exact Nat.le_of_ble_eq_true rfl)
  rw [lg_entry_eq]
  generalize (lg_sl ([.ref (ad E 8 0), .int x1]) ++ List.replicate (8 - (lg_sl ([.ref (ad E 8 0), .int x1])).length) Slot.unset).toArray = ls at hl ⊢
  exact TX5_orders C   h w hl
theorem ydX5_orders : yX5_orders.cls = RX5 ∧ yX5_orders.cls ≠ "java/lang/invoke/MethodHandle" ∧ yX5_orders.cls ≠ "java/lang/invoke/VarHandle" ∧ (parseMethodDescriptor yX5_orders.desc).map (fun d => d.parameters.length) = some 1 := by decide +kernel
/-! X5.bestOrder(II)I -/
abbrev rmX5_bestOrder : Room := { frames := 7, cells := 0, slots := 0, locals := 146 }
abbrev wdX5_bestOrder : Cond := Cond.code yX5_bestOrder cX5_bestOrder 10 (some .int)
noncomputable def fbX5_bestOrder_223 (F : Nat) (k82 : Int32 → Int32 → Int32 → Int64 → Int64 → Int32 → M2 → J2 → Option (Int32 × M2 × J2))  (a1 : Int32) (a2 : Int32) (a3 : Int32) (a4 : Int64) (a6 : Int64) (a8 : Int32) (M : M2) (J : J2) : Option (Int32 × M2 × J2) := k82 a1 a2 a3 a4 a6 (a8 + (1 : Int32)) M J
set_option maxRecDepth 20000 in
set_option maxHeartbeats 1000000 in
theorem TX5_bestOrder_223 {rr : Int32} {MR : M2} {JR : J2}  {k82 : Int32 → Int32 → Int32 → Int64 → Int64 → Int32 → M2 → J2 → Option (Int32 × M2 × J2)} (C : Cx E A p s m args meth c wdX5_bestOrder cX5_bestOrder 10 (some .int) RX5)  (hk82 : ∀ (a1 : Int32) (a2 : Int32) (a3 : Int32) (a4 : Int64) (a6 : Int64) (a8 : Int32) (M : M2) (J : J2)  (ls : Array Slot) (H : Heap) (locs : List Loc), k82 a1 a2 a3 a4 a6 a8 M J = some (rr, MR, JR) → Wd E A s (sg G 8 M) (sg K 8 J) H locs → lv_has ls 10 [(0, .ref (ad E 8 0)), (1, .int a1), (2, .int a2), (3, .int a3), (4, .long a4), (6, .long a6), (8, .int a8)] → W p l e rmX5_bestOrder s m args below meth c H locs 0 0 (QI E A below args s rr (sg G 8 MR) (sg K 8 JR)) (F0 m 82 ls [])) (a1 : Int32) (a2 : Int32) (a3 : Int32) (a4 : Int64) (a6 : Int64) (a8 : Int32) (M : M2) (J : J2)  (h : fbX5_bestOrder_223 F k82 a1 a2 a3 a4 a6 a8 M J = some (rr, MR, JR)) (w : Wd E A s (sg G 8 M) (sg K 8 J) H locs) (hl : lv_has ls 10 [(0, .ref (ad E 8 0)), (1, .int a1), (2, .int a2), (3, .int a3), (4, .long a4), (6, .long a6), (8, .int a8)]) : W p l e rmX5_bestOrder s m args below meth c H locs 0 0 (QI E A below args s rr (sg G 8 MR) (sg K 8 JR)) (F0 m 223 ls []) := by
  obtain ⟨hx, hb, hr, hml, hown, hts, hlocks, hKK, hA1, hA2⟩ := id C
  unfold fbX5_bestOrder_223 at h
  refine lv_iinc (v := (a8 + (1 : Int32))) (lv' := [(8, .int (a8 + (1 : Int32))), (0, .ref (ad E 8 0)), (1, .int a1), (2, .int a2), (3, .int a3), (4, .long a4), (6, .long a6)]) hx hb dX5_bestOrder_223 hl (k := 6) rfl (congrArg (HAdd.hAdd _) (by decide)) (by decide) rfl (fun ls hl => ?_)
  refine lv_goto (tgt := 82) hx hb dX5_bestOrder_226 (by decide) ?_
  exact hk82 _ _ _ _ _ _ _ _ _ _ _ h w (lv_sub hl [1, 2, 3, 4, 5, 6, 0] rfl)
noncomputable def fsX5_bestOrder_197 (F : Nat) (k82 : Int32 → Int32 → Int32 → Int64 → Int64 → Int32 → M2 → J2 → Option (Int32 × M2 × J2))  (k197 : Int32 → Int32 → Int32 → Int64 → Int64 → Int32 → Int32 → M2 → J2 → Option (Int32 × M2 × J2)) : Int32 → Int32 → Int32 → Int64 → Int64 → Int32 → Int32 → M2 → J2 → Option (Int32 × M2 × J2) := fun a1 a2 a3 a4 a6 a8 a9 M J => (if (5 : Int32) ≤ a9 then (fbX5_bestOrder_223 F k82 a1 a2 a3 a4 a6 a8 M J) else (chk (inb a9 61) (chk (inb a9 5) (bnd (up2 M 10 (a9.toNatClampNeg) (M 7 a9.toNatClampNeg)) (fun M4 => k197 a1 a2 a3 a4 a6 a8 (a9 + (1 : Int32)) M4 J)))))
noncomputable def fbX5_bestOrder_197 (F : Nat) (k82 : Int32 → Int32 → Int32 → Int64 → Int64 → Int32 → M2 → J2 → Option (Int32 × M2 × J2))  (n : Nat) : Int32 → Int32 → Int32 → Int64 → Int64 → Int32 → Int32 → M2 → J2 → Option (Int32 × M2 × J2) := itr (fsX5_bestOrder_197 F k82) (fun _ _ _ _ _ _ _ _ _ => none) n
set_option maxRecDepth 20000 in
set_option maxHeartbeats 1000000 in
theorem SX5_bestOrder_197 {rr : Int32} {MR : M2} {JR : J2}  {k82 : Int32 → Int32 → Int32 → Int64 → Int64 → Int32 → M2 → J2 → Option (Int32 × M2 × J2)} {k197 : Int32 → Int32 → Int32 → Int64 → Int64 → Int32 → Int32 → M2 → J2 → Option (Int32 × M2 × J2)} (C : Cx E A p s m args meth c wdX5_bestOrder cX5_bestOrder 10 (some .int) RX5)  (hk82 : ∀ (a1 : Int32) (a2 : Int32) (a3 : Int32) (a4 : Int64) (a6 : Int64) (a8 : Int32) (M : M2) (J : J2)  (ls : Array Slot) (H : Heap) (locs : List Loc), k82 a1 a2 a3 a4 a6 a8 M J = some (rr, MR, JR) → Wd E A s (sg G 8 M) (sg K 8 J) H locs → lv_has ls 10 [(0, .ref (ad E 8 0)), (1, .int a1), (2, .int a2), (3, .int a3), (4, .long a4), (6, .long a6), (8, .int a8)] → W p l e rmX5_bestOrder s m args below meth c H locs 0 0 (QI E A below args s rr (sg G 8 MR) (sg K 8 JR)) (F0 m 82 ls [])) (hk197 : ∀ (a1 : Int32) (a2 : Int32) (a3 : Int32) (a4 : Int64) (a6 : Int64) (a8 : Int32) (a9 : Int32) (M : M2) (J : J2)  (ls : Array Slot) (H : Heap) (locs : List Loc), k197 a1 a2 a3 a4 a6 a8 a9 M J = some (rr, MR, JR) → Wd E A s (sg G 8 M) (sg K 8 J) H locs → lv_has ls 10 [(0, .ref (ad E 8 0)), (1, .int a1), (2, .int a2), (3, .int a3), (4, .long a4), (6, .long a6), (8, .int a8), (9, .int a9)] → W p l e rmX5_bestOrder s m args below meth c H locs 0 0 (QI E A below args s rr (sg G 8 MR) (sg K 8 JR)) (F0 m 197 ls [])) (a1 : Int32) (a2 : Int32) (a3 : Int32) (a4 : Int64) (a6 : Int64) (a8 : Int32) (a9 : Int32) (M : M2) (J : J2)  (h : fsX5_bestOrder_197 F k82 k197 a1 a2 a3 a4 a6 a8 a9 M J = some (rr, MR, JR)) (w : Wd E A s (sg G 8 M) (sg K 8 J) H locs) (hl : lv_has ls 10 [(0, .ref (ad E 8 0)), (1, .int a1), (2, .int a2), (3, .int a3), (4, .long a4), (6, .long a6), (8, .int a8), (9, .int a9)]) : W p l e rmX5_bestOrder s m args below meth c H locs 0 0 (QI E A below args s rr (sg G 8 MR) (sg K 8 JR)) (F0 m 197 ls []) := by
  obtain ⟨hx, hb, hr, hml, hown, hts, hlocks, hKK, hA1, hA2⟩ := id C
  unfold fsX5_bestOrder_197 at h
  refine lv_iload hx hb dX5_bestOrder_197 (lv_at hl 7 rfl) ?_
  refine lv_iconst (v := (5 : Int32)) hx hb dX5_bestOrder_199 (by decide) ?_
  refine lv_icmp_ge (tgt := 223) hx hb dX5_bestOrder_200 (by decide) (fun c1 => ?_) (fun c1 => ?_)
  · replace h := ite_t h c1
    exact TX5_bestOrder_223 C  hk82 _ _ _ _ _ _ _ _ h w (lv_sub hl [0, 1, 2, 3, 4, 5, 6] rfl)
  · replace h := ite_f h c1
    refine lv_aload_n hx hb dX5_bestOrder_203 rfl (lv_at hl 0 rfl) ?_
    refine gR_X5_best C w q4_1 dX5_bestOrder_204 ?_
    refine lv_iload hx hb dX5_bestOrder_207 (lv_at hl 7 rfl) ?_
    refine lv_aload_n hx hb dX5_bestOrder_209 rfl (lv_at hl 0 rfl) ?_
    refine gR_X5_before C w q3_22 dX5_bestOrder_210 ?_
    refine lv_iload hx hb dX5_bestOrder_213 (lv_at hl 7 rfl) ?_
    obtain ⟨ki2, h⟩ := chk_of h
    refine x_aldI_L C w (v8 (by decide)) c8_7 ki2 rfl dX5_bestOrder_215 ?_
    obtain ⟨ki3, h⟩ := chk_of h
    refine x_astI_L C w (v8 (by decide)) c8_10 ki3 rfl dX5_bestOrder_216 (fun M4 H locs e5 w => ?_)
    replace h := bnd_of h e5
    refine lv_iinc (v := (a9 + (1 : Int32))) (lv' := [(9, .int (a9 + (1 : Int32))), (0, .ref (ad E 8 0)), (1, .int a1), (2, .int a2), (3, .int a3), (4, .long a4), (6, .long a6), (8, .int a8)]) hx hb dX5_bestOrder_217 hl (k := 7) rfl (congrArg (HAdd.hAdd _) (by decide)) (by decide) rfl (fun ls hl => ?_)
    refine lv_goto (tgt := 197) hx hb dX5_bestOrder_220 (by decide) ?_
    exact hk197 _ _ _ _ _ _ _ _ _ _ _ _ h w (lv_sub hl [1, 2, 3, 4, 5, 6, 7, 0] rfl)
theorem TX5_bestOrder_197 {rr : Int32} {MR : M2} {JR : J2}  {k82 : Int32 → Int32 → Int32 → Int64 → Int64 → Int32 → M2 → J2 → Option (Int32 × M2 × J2)} (C : Cx E A p s m args meth c wdX5_bestOrder cX5_bestOrder 10 (some .int) RX5)  (hk82 : ∀ (a1 : Int32) (a2 : Int32) (a3 : Int32) (a4 : Int64) (a6 : Int64) (a8 : Int32) (M : M2) (J : J2)  (ls : Array Slot) (H : Heap) (locs : List Loc), k82 a1 a2 a3 a4 a6 a8 M J = some (rr, MR, JR) → Wd E A s (sg G 8 M) (sg K 8 J) H locs → lv_has ls 10 [(0, .ref (ad E 8 0)), (1, .int a1), (2, .int a2), (3, .int a3), (4, .long a4), (6, .long a6), (8, .int a8)] → W p l e rmX5_bestOrder s m args below meth c H locs 0 0 (QI E A below args s rr (sg G 8 MR) (sg K 8 JR)) (F0 m 82 ls [])) : ∀ (n : Nat) (a1 : Int32) (a2 : Int32) (a3 : Int32) (a4 : Int64) (a6 : Int64) (a8 : Int32) (a9 : Int32) (M : M2) (J : J2)  (ls : Array Slot) (H : Heap) (locs : List Loc), fbX5_bestOrder_197 F k82 n a1 a2 a3 a4 a6 a8 a9 M J = some (rr, MR, JR) → Wd E A s (sg G 8 M) (sg K 8 J) H locs → lv_has ls 10 [(0, .ref (ad E 8 0)), (1, .int a1), (2, .int a2), (3, .int a3), (4, .long a4), (6, .long a6), (8, .int a8), (9, .int a9)] → W p l e rmX5_bestOrder s m args below meth c H locs 0 0 (QI E A below args s rr (sg G 8 MR) (sg K 8 JR)) (F0 m 197 ls []) := by
  intro n
  induction n with
  | zero => intro a1 a2 a3 a4 a6 a8 a9 M J  ls H locs h; exact absurd (show none = _ from h) (fun z => nomatch z)
  | succ n ih => intro a1 a2 a3 a4 a6 a8 a9 M J  ls H locs h w hl; exact SX5_bestOrder_197 (F := F) C  hk82 ih a1 a2 a3 a4 a6 a8 a9 M J  h w hl
noncomputable def fbX5_bestOrder_178 (F : Nat) (k82 : Int32 → Int32 → Int32 → Int64 → Int64 → Int32 → M2 → J2 → Option (Int32 × M2 × J2))  (a1 : Int32) (a2 : Int32) (a3 : Int32) (a8 : Int32) (M : M2) (J : J2) : Option (Int32 × M2 × J2) := fbX5_bestOrder_197 F k82 F a1 a2 a3 (J 2 3) (J 2 5) a8 (0 : Int32) M J
set_option maxRecDepth 20000 in
set_option maxHeartbeats 1000000 in
theorem TX5_bestOrder_178 {rr : Int32} {MR : M2} {JR : J2}  {k82 : Int32 → Int32 → Int32 → Int64 → Int64 → Int32 → M2 → J2 → Option (Int32 × M2 × J2)} (C : Cx E A p s m args meth c wdX5_bestOrder cX5_bestOrder 10 (some .int) RX5)  (hk82 : ∀ (a1 : Int32) (a2 : Int32) (a3 : Int32) (a4 : Int64) (a6 : Int64) (a8 : Int32) (M : M2) (J : J2)  (ls : Array Slot) (H : Heap) (locs : List Loc), k82 a1 a2 a3 a4 a6 a8 M J = some (rr, MR, JR) → Wd E A s (sg G 8 M) (sg K 8 J) H locs → lv_has ls 10 [(0, .ref (ad E 8 0)), (1, .int a1), (2, .int a2), (3, .int a3), (4, .long a4), (6, .long a6), (8, .int a8)] → W p l e rmX5_bestOrder s m args below meth c H locs 0 0 (QI E A below args s rr (sg G 8 MR) (sg K 8 JR)) (F0 m 82 ls [])) (a1 : Int32) (a2 : Int32) (a3 : Int32) (a8 : Int32) (M : M2) (J : J2)  (h : fbX5_bestOrder_178 F k82 a1 a2 a3 a8 M J = some (rr, MR, JR)) (w : Wd E A s (sg G 8 M) (sg K 8 J) H locs) (hl : lv_has ls 10 [(0, .ref (ad E 8 0)), (1, .int a1), (2, .int a2), (3, .int a3), (8, .int a8)]) : W p l e rmX5_bestOrder s m args below meth c H locs 0 0 (QI E A below args s rr (sg G 8 MR) (sg K 8 JR)) (F0 m 178 ls []) := by
  obtain ⟨hx, hb, hr, hml, hown, hts, hlocks, hKK, hA1, hA2⟩ := id C
  unfold fbX5_bestOrder_178 at h
  refine lv_aload_n hx hb dX5_bestOrder_178 rfl (lv_at hl 0 rfl) ?_
  refine gR_X5_b C w q3_17 dX5_bestOrder_179 ?_
  refine lv_iconst (v := (3 : Int32)) hx hb dX5_bestOrder_182 (by decide) ?_
  refine x_aldJ_L C w (v8 (by decide)) c8_2 (inb_k (k := 3) (by decide) (by decide)) cl_3 dX5_bestOrder_183 ?_
  refine lv_lstore (lv' := [(4, .long (J 2 3)), (0, .ref (ad E 8 0)), (1, .int a1), (2, .int a2), (3, .int a3), (8, .int a8)]) hx hb dX5_bestOrder_184 hl (by decide) rfl (fun ls hl => ?_)
  refine lv_aload_n hx hb dX5_bestOrder_186 rfl (lv_at hl 1 rfl) ?_
  refine gR_X5_b C w q3_17 dX5_bestOrder_187 ?_
  refine lv_iconst (v := (5 : Int32)) hx hb dX5_bestOrder_190 (by decide) ?_
  refine x_aldJ_L C w (v8 (by decide)) c8_2 (inb_k (k := 5) (by decide) (by decide)) cl_5 dX5_bestOrder_191 ?_
  refine lv_lstore (lv' := [(6, .long (J 2 5)), (4, .long (J 2 3)), (0, .ref (ad E 8 0)), (1, .int a1), (2, .int a2), (3, .int a3), (8, .int a8)]) hx hb dX5_bestOrder_192 hl (by decide) rfl (fun ls hl => ?_)
  refine lv_iconst (v := (0 : Int32)) hx hb dX5_bestOrder_194 (by decide) ?_
  refine lv_istore (lv' := [(9, .int (0 : Int32)), (6, .long (J 2 5)), (4, .long (J 2 3)), (0, .ref (ad E 8 0)), (1, .int a1), (2, .int a2), (3, .int a3), (8, .int a8)]) hx hb dX5_bestOrder_195 hl (by decide) rfl (fun ls hl => ?_)
  exact TX5_bestOrder_197 C  hk82 _ _ _ _ _ _ _ _ _ _ _ _ _ h w (lv_sub hl [3, 4, 5, 6, 2, 1, 7, 0] rfl)
noncomputable def fsX5_bestOrder_101 (F : Nat) (k82 : Int32 → Int32 → Int32 → Int64 → Int64 → Int32 → M2 → J2 → Option (Int32 × M2 × J2))  (k101 : Int32 → Int32 → Int32 → Int64 → Int64 → Int32 → Int32 → M2 → J2 → Option (Int32 × M2 × J2)) : Int32 → Int32 → Int32 → Int64 → Int64 → Int32 → Int32 → M2 → J2 → Option (Int32 × M2 × J2) := fun a1 a2 a3 a4 a6 a8 a9 M J => (if (5 : Int32) ≤ a9 then (bd2 (fX5_minutes F a1 M J) (fun M3 J4 => (if (lg_cmp a4 (0 : Int64)) < 0 then (fbX5_bestOrder_178 F k82 a1 a2 a3 a8 M3 J4) else ((if (lg_cmp (J4 2 3) a4) < 0 then (fbX5_bestOrder_178 F k82 a1 a2 a3 a8 M3 J4) else ((if ¬ (lg_cmp (J4 2 3) a4) = 0 then (fbX5_bestOrder_223 F k82 a1 a2 a3 a4 a6 a8 M3 J4) else ((if 0 ≤ (lg_cmp (J4 2 5) a6) then (fbX5_bestOrder_223 F k82 a1 a2 a3 a4 a6 a8 M3 J4) else (fbX5_bestOrder_178 F k82 a1 a2 a3 a8 M3 J4)))))))))) else (chk (inb ((56 : Int32) + a9) 61) (chk (inb a9 61) (bnd (up2 M 7 (a9.toNatClampNeg) (M 1 ((56 : Int32) + a9).toNatClampNeg)) (fun M11 => k101 a1 a2 a3 a4 a6 a8 (a9 + (1 : Int32)) M11 J)))))
noncomputable def fbX5_bestOrder_101 (F : Nat) (k82 : Int32 → Int32 → Int32 → Int64 → Int64 → Int32 → M2 → J2 → Option (Int32 × M2 × J2))  (n : Nat) : Int32 → Int32 → Int32 → Int64 → Int64 → Int32 → Int32 → M2 → J2 → Option (Int32 × M2 × J2) := itr (fsX5_bestOrder_101 F k82) (fun _ _ _ _ _ _ _ _ _ => none) n
set_option maxRecDepth 20000 in
set_option maxHeartbeats 1000000 in
theorem SX5_bestOrder_101 {rr : Int32} {MR : M2} {JR : J2}  {k82 : Int32 → Int32 → Int32 → Int64 → Int64 → Int32 → M2 → J2 → Option (Int32 × M2 × J2)} {k101 : Int32 → Int32 → Int32 → Int64 → Int64 → Int32 → Int32 → M2 → J2 → Option (Int32 × M2 × J2)} (C : Cx E A p s m args meth c wdX5_bestOrder cX5_bestOrder 10 (some .int) RX5)  (hk82 : ∀ (a1 : Int32) (a2 : Int32) (a3 : Int32) (a4 : Int64) (a6 : Int64) (a8 : Int32) (M : M2) (J : J2)  (ls : Array Slot) (H : Heap) (locs : List Loc), k82 a1 a2 a3 a4 a6 a8 M J = some (rr, MR, JR) → Wd E A s (sg G 8 M) (sg K 8 J) H locs → lv_has ls 10 [(0, .ref (ad E 8 0)), (1, .int a1), (2, .int a2), (3, .int a3), (4, .long a4), (6, .long a6), (8, .int a8)] → W p l e rmX5_bestOrder s m args below meth c H locs 0 0 (QI E A below args s rr (sg G 8 MR) (sg K 8 JR)) (F0 m 82 ls [])) (hk101 : ∀ (a1 : Int32) (a2 : Int32) (a3 : Int32) (a4 : Int64) (a6 : Int64) (a8 : Int32) (a9 : Int32) (M : M2) (J : J2)  (ls : Array Slot) (H : Heap) (locs : List Loc), k101 a1 a2 a3 a4 a6 a8 a9 M J = some (rr, MR, JR) → Wd E A s (sg G 8 M) (sg K 8 J) H locs → lv_has ls 10 [(0, .ref (ad E 8 0)), (1, .int a1), (2, .int a2), (3, .int a3), (4, .long a4), (6, .long a6), (8, .int a8), (9, .int a9)] → W p l e rmX5_bestOrder s m args below meth c H locs 0 0 (QI E A below args s rr (sg G 8 MR) (sg K 8 JR)) (F0 m 101 ls [])) (a1 : Int32) (a2 : Int32) (a3 : Int32) (a4 : Int64) (a6 : Int64) (a8 : Int32) (a9 : Int32) (M : M2) (J : J2)  (h : fsX5_bestOrder_101 F k82 k101 a1 a2 a3 a4 a6 a8 a9 M J = some (rr, MR, JR)) (w : Wd E A s (sg G 8 M) (sg K 8 J) H locs) (hl : lv_has ls 10 [(0, .ref (ad E 8 0)), (1, .int a1), (2, .int a2), (3, .int a3), (4, .long a4), (6, .long a6), (8, .int a8), (9, .int a9)]) : W p l e rmX5_bestOrder s m args below meth c H locs 0 0 (QI E A below args s rr (sg G 8 MR) (sg K 8 JR)) (F0 m 101 ls []) := by
  obtain ⟨hx, hb, hr, hml, hown, hts, hlocks, hKK, hA1, hA2⟩ := id C
  unfold fsX5_bestOrder_101 at h
  refine lv_iload hx hb dX5_bestOrder_101 (lv_at hl 7 rfl) ?_
  refine lv_iconst (v := (5 : Int32)) hx hb dX5_bestOrder_103 (by decide) ?_
  refine lv_icmp_ge (tgt := 130) hx hb dX5_bestOrder_104 (by decide) (fun c1 => ?_) (fun c1 => ?_)
  · replace h := ite_t h c1
    refine lv_aload_n hx hb dX5_bestOrder_130 rfl (lv_at hl 0 rfl) ?_
    refine lv_iload_n hx hb dX5_bestOrder_131 rfl (lv_at hl 1 rfl) ?_
    obtain ⟨M3, J4, hv2, h⟩ := bd2_of h
    refine x_cVv (As := [.int a1]) (rest := []) C w (v8 (by decide)) cel_8 rfl (mtX5_minutes  hv2) q17_1 q17_2 q17_3 q1_5 q17_4 ydX5_minutes ⟨rfl, rfl⟩ ⟨by decide, by decide⟩ ⟨Nat.zero_le _, Nat.zero_le _⟩ hl.1 (Nat.le_of_ble_eq_true rfl) rfl dX5_bestOrder_132 (fun H locs w => ?_)
    refine lv_lload hx hb dX5_bestOrder_135 (lv_at hl 4 rfl) ?_
    refine lv_lconst (v := (0 : Int64)) hx hb dX5_bestOrder_137 (by decide) ?_
    refine W.lcmp hx hb dX5_bestOrder_138 ?_
    refine lv_if_lt (tgt := 178) hx hb dX5_bestOrder_139 (by decide) (fun c5 => ?_) (fun c5 => ?_)
    · replace h := ite_t h c5
      exact TX5_bestOrder_178 C  hk82 _ _ _ _ _ _ h w (lv_sub hl [0, 1, 2, 3, 6] rfl)
    · replace h := ite_f h c5
      refine lv_aload_n hx hb dX5_bestOrder_142 rfl (lv_at hl 0 rfl) ?_
      refine gR_X5_b C w q3_17 dX5_bestOrder_143 ?_
      refine lv_iconst (v := (3 : Int32)) hx hb dX5_bestOrder_146 (by decide) ?_
      refine x_aldJ_L C w (v8 (by decide)) c8_2 (inb_k (k := 3) (by decide) (by decide)) cl_3 dX5_bestOrder_147 ?_
      refine lv_lload hx hb dX5_bestOrder_148 (lv_at hl 4 rfl) ?_
      refine W.lcmp hx hb dX5_bestOrder_150 ?_
      refine lv_if_lt (tgt := 178) hx hb dX5_bestOrder_151 (by decide) (fun c6 => ?_) (fun c6 => ?_)
      · replace h := ite_t h c6
        exact TX5_bestOrder_178 C  hk82 _ _ _ _ _ _ h w (lv_sub hl [0, 1, 2, 3, 6] rfl)
      · replace h := ite_f h c6
        refine lv_aload_n hx hb dX5_bestOrder_154 rfl (lv_at hl 0 rfl) ?_
        refine gR_X5_b C w q3_17 dX5_bestOrder_155 ?_
        refine lv_iconst (v := (3 : Int32)) hx hb dX5_bestOrder_158 (by decide) ?_
        refine x_aldJ_L C w (v8 (by decide)) c8_2 (inb_k (k := 3) (by decide) (by decide)) cl_3 dX5_bestOrder_159 ?_
        refine lv_lload hx hb dX5_bestOrder_160 (lv_at hl 4 rfl) ?_
        refine W.lcmp hx hb dX5_bestOrder_162 ?_
        refine lv_if_ne (tgt := 223) hx hb dX5_bestOrder_163 (by decide) (fun c7 => ?_) (fun c7 => ?_)
        · replace h := ite_t h c7
          exact TX5_bestOrder_223 C  hk82 _ _ _ _ _ _ _ _ h w (lv_sub hl [0, 1, 2, 3, 4, 5, 6] rfl)
        · replace h := ite_f h (fun z => z c7)
          refine lv_aload_n hx hb dX5_bestOrder_166 rfl (lv_at hl 0 rfl) ?_
          refine gR_X5_b C w q3_17 dX5_bestOrder_167 ?_
          refine lv_iconst (v := (5 : Int32)) hx hb dX5_bestOrder_170 (by decide) ?_
          refine x_aldJ_L C w (v8 (by decide)) c8_2 (inb_k (k := 5) (by decide) (by decide)) cl_5 dX5_bestOrder_171 ?_
          refine lv_lload hx hb dX5_bestOrder_172 (lv_at hl 5 rfl) ?_
          refine W.lcmp hx hb dX5_bestOrder_174 ?_
          refine lv_if_ge (tgt := 223) hx hb dX5_bestOrder_175 (by decide) (fun c8 => ?_) (fun c8 => ?_)
          · replace h := ite_t h c8
            exact TX5_bestOrder_223 C  hk82 _ _ _ _ _ _ _ _ h w (lv_sub hl [0, 1, 2, 3, 4, 5, 6] rfl)
          · replace h := ite_f h c8
            exact TX5_bestOrder_178 C  hk82 _ _ _ _ _ _ h w (lv_sub hl [0, 1, 2, 3, 6] rfl)
  · replace h := ite_f h c1
    refine lv_aload_n hx hb dX5_bestOrder_107 rfl (lv_at hl 0 rfl) ?_
    refine gR_X5_before C w q3_22 dX5_bestOrder_108 ?_
    refine lv_iload hx hb dX5_bestOrder_111 (lv_at hl 7 rfl) ?_
    refine lv_aload_n hx hb dX5_bestOrder_113 rfl (lv_at hl 0 rfl) ?_
    refine gR_X5_s C w q3_16 dX5_bestOrder_114 ?_
    refine lv_bipush (v := (56 : Int32)) hx hb dX5_bestOrder_117 (by decide) ?_
    refine lv_iload hx hb dX5_bestOrder_119 (lv_at hl 7 rfl) ?_
    refine lv_iadd hx hb dX5_bestOrder_121 ?_
    obtain ⟨ki9, h⟩ := chk_of h
    refine x_aldI_L C w (v8 (by decide)) c8_1 ki9 rfl dX5_bestOrder_122 ?_
    obtain ⟨ki10, h⟩ := chk_of h
    refine x_astI_L C w (v8 (by decide)) c8_7 ki10 rfl dX5_bestOrder_123 (fun M11 H locs e12 w => ?_)
    replace h := bnd_of h e12
    refine lv_iinc (v := (a9 + (1 : Int32))) (lv' := [(9, .int (a9 + (1 : Int32))), (0, .ref (ad E 8 0)), (1, .int a1), (2, .int a2), (3, .int a3), (4, .long a4), (6, .long a6), (8, .int a8)]) hx hb dX5_bestOrder_124 hl (k := 7) rfl (congrArg (HAdd.hAdd _) (by decide)) (by decide) rfl (fun ls hl => ?_)
    refine lv_goto (tgt := 101) hx hb dX5_bestOrder_127 (by decide) ?_
    exact hk101 _ _ _ _ _ _ _ _ _ _ _ _ h w (lv_sub hl [1, 2, 3, 4, 5, 6, 7, 0] rfl)
theorem TX5_bestOrder_101 {rr : Int32} {MR : M2} {JR : J2}  {k82 : Int32 → Int32 → Int32 → Int64 → Int64 → Int32 → M2 → J2 → Option (Int32 × M2 × J2)} (C : Cx E A p s m args meth c wdX5_bestOrder cX5_bestOrder 10 (some .int) RX5)  (hk82 : ∀ (a1 : Int32) (a2 : Int32) (a3 : Int32) (a4 : Int64) (a6 : Int64) (a8 : Int32) (M : M2) (J : J2)  (ls : Array Slot) (H : Heap) (locs : List Loc), k82 a1 a2 a3 a4 a6 a8 M J = some (rr, MR, JR) → Wd E A s (sg G 8 M) (sg K 8 J) H locs → lv_has ls 10 [(0, .ref (ad E 8 0)), (1, .int a1), (2, .int a2), (3, .int a3), (4, .long a4), (6, .long a6), (8, .int a8)] → W p l e rmX5_bestOrder s m args below meth c H locs 0 0 (QI E A below args s rr (sg G 8 MR) (sg K 8 JR)) (F0 m 82 ls [])) : ∀ (n : Nat) (a1 : Int32) (a2 : Int32) (a3 : Int32) (a4 : Int64) (a6 : Int64) (a8 : Int32) (a9 : Int32) (M : M2) (J : J2)  (ls : Array Slot) (H : Heap) (locs : List Loc), fbX5_bestOrder_101 F k82 n a1 a2 a3 a4 a6 a8 a9 M J = some (rr, MR, JR) → Wd E A s (sg G 8 M) (sg K 8 J) H locs → lv_has ls 10 [(0, .ref (ad E 8 0)), (1, .int a1), (2, .int a2), (3, .int a3), (4, .long a4), (6, .long a6), (8, .int a8), (9, .int a9)] → W p l e rmX5_bestOrder s m args below meth c H locs 0 0 (QI E A below args s rr (sg G 8 MR) (sg K 8 JR)) (F0 m 101 ls []) := by
  intro n
  induction n with
  | zero => intro a1 a2 a3 a4 a6 a8 a9 M J  ls H locs h; exact absurd (show none = _ from h) (fun z => nomatch z)
  | succ n ih => intro a1 a2 a3 a4 a6 a8 a9 M J  ls H locs h w hl; exact SX5_bestOrder_101 (F := F) C  hk82 ih a1 a2 a3 a4 a6 a8 a9 M J  h w hl
noncomputable def fsX5_bestOrder_82 (F : Nat)   (k82 : Int32 → Int32 → Int32 → Int64 → Int64 → Int32 → M2 → J2 → Option (Int32 × M2 × J2)) : Int32 → Int32 → Int32 → Int64 → Int64 → Int32 → M2 → J2 → Option (Int32 × M2 × J2) := fun a1 a2 a3 a4 a6 a8 M J => (if a3 ≤ a8 then (bd2 (fX5_restores F M J) (fun M3 J4 => chk (inb a2 5) (bd3 (fX5_tells (M3 10 a2.toNatClampNeg) M3 J4) (fun vv9 M7 J8 => some (vv9, M7, J8))))) else (bd2 (fX5_restores F M J) (fun M11 J12 => bd2 (fX5_orders F a8 M11 J12) (fun M14 J15 => fbX5_bestOrder_101 F k82 F a1 a2 a3 a4 a6 a8 (0 : Int32) M14 J15))))
noncomputable def fbX5_bestOrder_82 (F : Nat)   (n : Nat) : Int32 → Int32 → Int32 → Int64 → Int64 → Int32 → M2 → J2 → Option (Int32 × M2 × J2) := itr (fsX5_bestOrder_82 F ) (fun _ _ _ _ _ _ _ _ => none) n
set_option maxRecDepth 20000 in
set_option maxHeartbeats 1000000 in
theorem SX5_bestOrder_82 {rr : Int32} {MR : M2} {JR : J2}   {k82 : Int32 → Int32 → Int32 → Int64 → Int64 → Int32 → M2 → J2 → Option (Int32 × M2 × J2)} (C : Cx E A p s m args meth c wdX5_bestOrder cX5_bestOrder 10 (some .int) RX5)   (hk82 : ∀ (a1 : Int32) (a2 : Int32) (a3 : Int32) (a4 : Int64) (a6 : Int64) (a8 : Int32) (M : M2) (J : J2)  (ls : Array Slot) (H : Heap) (locs : List Loc), k82 a1 a2 a3 a4 a6 a8 M J = some (rr, MR, JR) → Wd E A s (sg G 8 M) (sg K 8 J) H locs → lv_has ls 10 [(0, .ref (ad E 8 0)), (1, .int a1), (2, .int a2), (3, .int a3), (4, .long a4), (6, .long a6), (8, .int a8)] → W p l e rmX5_bestOrder s m args below meth c H locs 0 0 (QI E A below args s rr (sg G 8 MR) (sg K 8 JR)) (F0 m 82 ls [])) (a1 : Int32) (a2 : Int32) (a3 : Int32) (a4 : Int64) (a6 : Int64) (a8 : Int32) (M : M2) (J : J2)  (h : fsX5_bestOrder_82 F  k82 a1 a2 a3 a4 a6 a8 M J = some (rr, MR, JR)) (w : Wd E A s (sg G 8 M) (sg K 8 J) H locs) (hl : lv_has ls 10 [(0, .ref (ad E 8 0)), (1, .int a1), (2, .int a2), (3, .int a3), (4, .long a4), (6, .long a6), (8, .int a8)]) : W p l e rmX5_bestOrder s m args below meth c H locs 0 0 (QI E A below args s rr (sg G 8 MR) (sg K 8 JR)) (F0 m 82 ls []) := by
  obtain ⟨hx, hb, hr, hml, hown, hts, hlocks, hKK, hA1, hA2⟩ := id C
  unfold fsX5_bestOrder_82 at h
  refine lv_iload hx hb dX5_bestOrder_82 (lv_at hl 6 rfl) ?_
  refine lv_iload_n hx hb dX5_bestOrder_84 rfl (lv_at hl 3 rfl) ?_
  refine lv_icmp_ge (tgt := 229) hx hb dX5_bestOrder_85 (by decide) (fun c1 => ?_) (fun c1 => ?_)
  · replace h := ite_t h c1
    refine lv_aload_n hx hb dX5_bestOrder_229 rfl (lv_at hl 0 rfl) ?_
    obtain ⟨M3, J4, hv2, h⟩ := bd2_of h
    refine x_cVv (As := []) (rest := []) C w (v8 (by decide)) cel_8 rfl (mtX5_restores  hv2) q24_16 q24_17 q24_18 q1_5 q24_19 ydX5_restores ⟨rfl, rfl⟩ ⟨by decide, by decide⟩ ⟨Nat.zero_le _, Nat.zero_le _⟩ hl.1 (Nat.le_of_ble_eq_true rfl) rfl dX5_bestOrder_230 (fun H locs w => ?_)
    refine lv_aload_n hx hb dX5_bestOrder_233 rfl (lv_at hl 0 rfl) ?_
    refine lv_aload_n hx hb dX5_bestOrder_234 rfl (lv_at hl 0 rfl) ?_
    refine gR_X5_best C w q4_1 dX5_bestOrder_235 ?_
    refine lv_iload_n hx hb dX5_bestOrder_238 rfl (lv_at hl 2 rfl) ?_
    obtain ⟨ki5, h⟩ := chk_of h
    refine x_aldI_L C w (v8 (by decide)) c8_10 ki5 rfl dX5_bestOrder_239 ?_
    obtain ⟨vv9, M7, J8, hv6, h⟩ := bd3_of h
    refine x_cVi (As := [.int (M3 10 a2.toNatClampNeg)]) (rest := []) C w (v8 (by decide)) cel_8 rfl (mtX5_tells  hv6) q7_21 q7_22 q7_23 q1_5 q8_0 ydX5_tells ⟨rfl, rfl⟩ ⟨by decide, by decide⟩ ⟨Nat.zero_le _, Nat.zero_le _⟩ hl.1 (Nat.le_of_ble_eq_true rfl) rfl dX5_bestOrder_240 (fun H locs w => ?_)
    obtain ⟨e1, e2, e3⟩ := rt3 h
    exact x_ri C w e1 (by rw [e2]) (by rw [e3]) dX5_bestOrder_243
  · replace h := ite_f h c1
    refine lv_aload_n hx hb dX5_bestOrder_88 rfl (lv_at hl 0 rfl) ?_
    obtain ⟨M11, J12, hv10, h⟩ := bd2_of h
    refine x_cVv (As := []) (rest := []) C w (v8 (by decide)) cel_8 rfl (mtX5_restores  hv10) q24_16 q24_17 q24_18 q1_5 q24_19 ydX5_restores ⟨rfl, rfl⟩ ⟨by decide, by decide⟩ ⟨Nat.zero_le _, Nat.zero_le _⟩ hl.1 (Nat.le_of_ble_eq_true rfl) rfl dX5_bestOrder_89 (fun H locs w => ?_)
    refine lv_aload_n hx hb dX5_bestOrder_92 rfl (lv_at hl 0 rfl) ?_
    refine lv_iload hx hb dX5_bestOrder_93 (lv_at hl 6 rfl) ?_
    obtain ⟨M14, J15, hv13, h⟩ := bd2_of h
    refine x_cVv (As := [.int a8]) (rest := []) C w (v8 (by decide)) cel_8 rfl (mtX5_orders  hv13) q27_14 q27_15 q27_16 q1_5 q27_17 ydX5_orders ⟨rfl, rfl⟩ ⟨by decide, by decide⟩ ⟨Nat.zero_le _, Nat.zero_le _⟩ hl.1 (Nat.le_of_ble_eq_true rfl) rfl dX5_bestOrder_95 (fun H locs w => ?_)
    refine lv_iconst (v := (0 : Int32)) hx hb dX5_bestOrder_98 (by decide) ?_
    refine lv_istore (lv' := [(9, .int (0 : Int32)), (0, .ref (ad E 8 0)), (1, .int a1), (2, .int a2), (3, .int a3), (4, .long a4), (6, .long a6), (8, .int a8)]) hx hb dX5_bestOrder_99 hl (by decide) rfl (fun ls hl => ?_)
    exact TX5_bestOrder_101 C  hk82 _ _ _ _ _ _ _ _ _ _ _ _ _ h w (lv_sub hl [1, 2, 3, 4, 5, 6, 7, 0] rfl)
theorem TX5_bestOrder_82 {rr : Int32} {MR : M2} {JR : J2}   (C : Cx E A p s m args meth c wdX5_bestOrder cX5_bestOrder 10 (some .int) RX5)   : ∀ (n : Nat) (a1 : Int32) (a2 : Int32) (a3 : Int32) (a4 : Int64) (a6 : Int64) (a8 : Int32) (M : M2) (J : J2)  (ls : Array Slot) (H : Heap) (locs : List Loc), fbX5_bestOrder_82 F  n a1 a2 a3 a4 a6 a8 M J = some (rr, MR, JR) → Wd E A s (sg G 8 M) (sg K 8 J) H locs → lv_has ls 10 [(0, .ref (ad E 8 0)), (1, .int a1), (2, .int a2), (3, .int a3), (4, .long a4), (6, .long a6), (8, .int a8)] → W p l e rmX5_bestOrder s m args below meth c H locs 0 0 (QI E A below args s rr (sg G 8 MR) (sg K 8 JR)) (F0 m 82 ls []) := by
  intro n
  induction n with
  | zero => intro a1 a2 a3 a4 a6 a8 M J  ls H locs h; exact absurd (show none = _ from h) (fun z => nomatch z)
  | succ n ih => intro a1 a2 a3 a4 a6 a8 M J  ls H locs h w hl; exact SX5_bestOrder_82 (F := F) C   ih a1 a2 a3 a4 a6 a8 M J  h w hl
noncomputable def fsX5_bestOrder_44 (F : Nat)   (k44 : Int32 → Int32 → Int32 → Int32 → M2 → J2 → Option (Int32 × M2 × J2)) : Int32 → Int32 → Int32 → Int32 → M2 → J2 → Option (Int32 × M2 × J2) := fun a1 a2 a3 a4 M J => (if (M 1 10) < a4 then (bd2 (fX5_lays F M J) (fun M3 J4 => fbX5_bestOrder_82 F F a1 a2 a3 (-1 : Int64) (0 : Int64) (0 : Int32) M3 J4)) else (k44 a1 a2 (a3 * a4) (a4 + (1 : Int32)) M J))
noncomputable def fbX5_bestOrder_44 (F : Nat)   (n : Nat) : Int32 → Int32 → Int32 → Int32 → M2 → J2 → Option (Int32 × M2 × J2) := itr (fsX5_bestOrder_44 F ) (fun _ _ _ _ _ _ => none) n
set_option maxRecDepth 20000 in
set_option maxHeartbeats 1000000 in
theorem SX5_bestOrder_44 {rr : Int32} {MR : M2} {JR : J2}   {k44 : Int32 → Int32 → Int32 → Int32 → M2 → J2 → Option (Int32 × M2 × J2)} (C : Cx E A p s m args meth c wdX5_bestOrder cX5_bestOrder 10 (some .int) RX5)   (hk44 : ∀ (a1 : Int32) (a2 : Int32) (a3 : Int32) (a4 : Int32) (M : M2) (J : J2)  (ls : Array Slot) (H : Heap) (locs : List Loc), k44 a1 a2 a3 a4 M J = some (rr, MR, JR) → Wd E A s (sg G 8 M) (sg K 8 J) H locs → lv_has ls 10 [(0, .ref (ad E 8 0)), (1, .int a1), (2, .int a2), (3, .int a3), (4, .int a4)] → W p l e rmX5_bestOrder s m args below meth c H locs 0 0 (QI E A below args s rr (sg G 8 MR) (sg K 8 JR)) (F0 m 44 ls [])) (a1 : Int32) (a2 : Int32) (a3 : Int32) (a4 : Int32) (M : M2) (J : J2)  (h : fsX5_bestOrder_44 F  k44 a1 a2 a3 a4 M J = some (rr, MR, JR)) (w : Wd E A s (sg G 8 M) (sg K 8 J) H locs) (hl : lv_has ls 10 [(0, .ref (ad E 8 0)), (1, .int a1), (2, .int a2), (3, .int a3), (4, .int a4)]) : W p l e rmX5_bestOrder s m args below meth c H locs 0 0 (QI E A below args s rr (sg G 8 MR) (sg K 8 JR)) (F0 m 44 ls []) := by
  obtain ⟨hx, hb, hr, hml, hown, hts, hlocks, hKK, hA1, hA2⟩ := id C
  unfold fsX5_bestOrder_44 at h
  refine lv_iload hx hb dX5_bestOrder_44 (lv_at hl 4 rfl) ?_
  refine lv_aload_n hx hb dX5_bestOrder_46 rfl (lv_at hl 0 rfl) ?_
  refine gR_X5_s C w q3_16 dX5_bestOrder_47 ?_
  refine lv_bipush (v := (10 : Int32)) hx hb dX5_bestOrder_50 (by decide) ?_
  refine x_aldI_L C w (v8 (by decide)) c8_1 (inb_k (k := 10) (by decide) (by decide)) cl_10 dX5_bestOrder_52 ?_
  refine lv_icmp_gt (tgt := 67) hx hb dX5_bestOrder_53 (by decide) (fun c1 => ?_) (fun c1 => ?_)
  · replace h := ite_t h c1
    refine lv_ldc2 hx hb hown (x_hts C q27_13) dX5_bestOrder_67 ?_
    refine lv_lstore (lv' := [(4, .long (-1 : Int64)), (0, .ref (ad E 8 0)), (1, .int a1), (2, .int a2), (3, .int a3)]) hx hb dX5_bestOrder_70 hl (by decide) rfl (fun ls hl => ?_)
    refine lv_lconst (v := (0 : Int64)) hx hb dX5_bestOrder_72 (by decide) ?_
    refine lv_lstore (lv' := [(6, .long (0 : Int64)), (4, .long (-1 : Int64)), (0, .ref (ad E 8 0)), (1, .int a1), (2, .int a2), (3, .int a3)]) hx hb dX5_bestOrder_73 hl (by decide) rfl (fun ls hl => ?_)
    refine lv_aload_n hx hb dX5_bestOrder_75 rfl (lv_at hl 2 rfl) ?_
    obtain ⟨M3, J4, hv2, h⟩ := bd2_of h
    refine x_cVv (As := []) (rest := []) C w (v8 (by decide)) cel_8 rfl (mtX5_lays  hv2) q24_12 q24_13 q24_14 q1_5 q24_15 ydX5_lays ⟨rfl, rfl⟩ ⟨by decide, by decide⟩ ⟨Nat.zero_le _, Nat.zero_le _⟩ hl.1 (Nat.le_of_ble_eq_true rfl) rfl dX5_bestOrder_76 (fun H locs w => ?_)
    refine lv_iconst (v := (0 : Int32)) hx hb dX5_bestOrder_79 (by decide) ?_
    refine lv_istore (lv' := [(8, .int (0 : Int32)), (6, .long (0 : Int64)), (4, .long (-1 : Int64)), (0, .ref (ad E 8 0)), (1, .int a1), (2, .int a2), (3, .int a3)]) hx hb dX5_bestOrder_80 hl (by decide) rfl (fun ls hl => ?_)
    exact TX5_bestOrder_82 C   _ _ _ _ _ _ _ _ _ _ _ _ h w (lv_sub hl [3, 4, 5, 6, 2, 1, 0] rfl)
  · replace h := ite_f h c1
    refine lv_iload_n hx hb dX5_bestOrder_56 rfl (lv_at hl 3 rfl) ?_
    refine lv_iload hx hb dX5_bestOrder_57 (lv_at hl 4 rfl) ?_
    refine lv_imul hx hb dX5_bestOrder_59 ?_
    refine lv_istore_n (lv' := [(3, .int (a3 * a4)), (0, .ref (ad E 8 0)), (1, .int a1), (2, .int a2), (4, .int a4)]) hx hb dX5_bestOrder_60 rfl hl (by decide) rfl (fun ls hl => ?_)
    refine lv_iinc (v := (a4 + (1 : Int32))) (lv' := [(4, .int (a4 + (1 : Int32))), (3, .int (a3 * a4)), (0, .ref (ad E 8 0)), (1, .int a1), (2, .int a2)]) hx hb dX5_bestOrder_61 hl (k := 4) rfl (congrArg (HAdd.hAdd _) (by decide)) (by decide) rfl (fun ls hl => ?_)
    refine lv_goto (tgt := 44) hx hb dX5_bestOrder_64 (by decide) ?_
    exact hk44 _ _ _ _ _ _ _ _ _ h w (lv_sub hl [2, 3, 4, 1, 0] rfl)
theorem TX5_bestOrder_44 {rr : Int32} {MR : M2} {JR : J2}   (C : Cx E A p s m args meth c wdX5_bestOrder cX5_bestOrder 10 (some .int) RX5)   : ∀ (n : Nat) (a1 : Int32) (a2 : Int32) (a3 : Int32) (a4 : Int32) (M : M2) (J : J2)  (ls : Array Slot) (H : Heap) (locs : List Loc), fbX5_bestOrder_44 F  n a1 a2 a3 a4 M J = some (rr, MR, JR) → Wd E A s (sg G 8 M) (sg K 8 J) H locs → lv_has ls 10 [(0, .ref (ad E 8 0)), (1, .int a1), (2, .int a2), (3, .int a3), (4, .int a4)] → W p l e rmX5_bestOrder s m args below meth c H locs 0 0 (QI E A below args s rr (sg G 8 MR) (sg K 8 JR)) (F0 m 44 ls []) := by
  intro n
  induction n with
  | zero => intro a1 a2 a3 a4 M J  ls H locs h; exact absurd (show none = _ from h) (fun z => nomatch z)
  | succ n ih => intro a1 a2 a3 a4 M J  ls H locs h w hl; exact SX5_bestOrder_44 (F := F) C   ih a1 a2 a3 a4 M J  h w hl
noncomputable def fX5_bestOrder (F : Nat)  (x1 : Int32) (x2 : Int32) (M : M2) (J : J2) : Option (Int32 × M2 × J2) := (if ¬ (fX5_in x1 (1 : Int32) (30 : Int32)) = 0 then ((if ¬ (fX5_in x2 (0 : Int32) ((M 1 10) - (1 : Int32))) = 0 then (fbX5_bestOrder_44 F F x1 x2 (1 : Int32) (2 : Int32) M J) else (bd3 (fX5_fails (2 : Int32) M J) (fun vv6 M4 J5 => some (vv6, M4, J5))))) else (bd3 (fX5_fails (1 : Int32) M J) (fun vv10 M8 J9 => some (vv10, M8, J9))))
set_option maxRecDepth 20000 in
set_option maxHeartbeats 1000000 in
theorem TX5_bestOrder {rr : Int32} {MR : M2} {JR : J2}  (C : Cx E A p s m args meth c wdX5_bestOrder cX5_bestOrder 10 (some .int) RX5)  {x1 : Int32} {x2 : Int32}  (h : fX5_bestOrder F  x1 x2 M J = some (rr, MR, JR)) (w : Wd E A s (sg G 8 M) (sg K 8 J) H locs) (hl : lv_has ls 10 [(0, .ref (ad E 8 0)), (1, .int x1), (2, .int x2)]) : W p l e rmX5_bestOrder s m args below meth c H locs 0 0 (QI E A below args s rr (sg G 8 MR) (sg K 8 JR)) (F0 m 0 ls []) := by
  obtain ⟨hx, hb, hr, hml, hown, hts, hlocks, hKK, hA1, hA2⟩ := id C
  unfold fX5_bestOrder at h
  refine lv_iload_n hx hb dX5_bestOrder_0 rfl (lv_at hl 1 rfl) ?_
  refine lv_iconst (v := (1 : Int32)) hx hb dX5_bestOrder_1 (by decide) ?_
  refine lv_bipush (v := (30 : Int32)) hx hb dX5_bestOrder_2 (by decide) ?_
  refine x_cSi (As := [.int x1, .int (1 : Int32), .int (30 : Int32)]) (rest := []) C w (mtX5_in ) q7_0 q7_1 q1_5 q7_2 ydX5_in ⟨rfl, rfl⟩ ⟨by decide, by decide⟩ ⟨Nat.zero_le _, Nat.zero_le _⟩ hl.1 (Nat.le_of_ble_eq_true rfl) rfl dX5_bestOrder_4 (fun H locs w => ?_)
  refine lv_if_ne (tgt := 16) hx hb dX5_bestOrder_7 (by decide) (fun c1 => ?_) (fun c1 => ?_)
  · replace h := ite_t h c1
    refine lv_iload_n hx hb dX5_bestOrder_16 rfl (lv_at hl 2 rfl) ?_
    refine lv_iconst (v := (0 : Int32)) hx hb dX5_bestOrder_17 (by decide) ?_
    refine lv_aload_n hx hb dX5_bestOrder_18 rfl (lv_at hl 0 rfl) ?_
    refine gR_X5_s C w q3_16 dX5_bestOrder_19 ?_
    refine lv_bipush (v := (10 : Int32)) hx hb dX5_bestOrder_22 (by decide) ?_
    refine x_aldI_L C w (v8 (by decide)) c8_1 (inb_k (k := 10) (by decide) (by decide)) cl_10 dX5_bestOrder_24 ?_
    refine lv_iconst (v := (1 : Int32)) hx hb dX5_bestOrder_25 (by decide) ?_
    refine lv_isub hx hb dX5_bestOrder_26 ?_
    refine x_cSi (As := [.int x2, .int (0 : Int32), .int ((M 1 10) - (1 : Int32))]) (rest := []) C w (mtX5_in ) q7_0 q7_1 q1_5 q7_2 ydX5_in ⟨rfl, rfl⟩ ⟨by decide, by decide⟩ ⟨Nat.zero_le _, Nat.zero_le _⟩ hl.1 (Nat.le_of_ble_eq_true rfl) rfl dX5_bestOrder_27 (fun H locs w => ?_)
    refine lv_if_ne (tgt := 39) hx hb dX5_bestOrder_30 (by decide) (fun c2 => ?_) (fun c2 => ?_)
    · replace h := ite_t h c2
      refine lv_iconst (v := (1 : Int32)) hx hb dX5_bestOrder_39 (by decide) ?_
      refine lv_istore_n (lv' := [(3, .int (1 : Int32)), (0, .ref (ad E 8 0)), (1, .int x1), (2, .int x2)]) hx hb dX5_bestOrder_40 rfl hl (by decide) rfl (fun ls hl => ?_)
      refine lv_iconst (v := (2 : Int32)) hx hb dX5_bestOrder_41 (by decide) ?_
      refine lv_istore (lv' := [(4, .int (2 : Int32)), (3, .int (1 : Int32)), (0, .ref (ad E 8 0)), (1, .int x1), (2, .int x2)]) hx hb dX5_bestOrder_42 hl (by decide) rfl (fun ls hl => ?_)
      exact TX5_bestOrder_44 C   _ _ _ _ _ _ _ _ _ _ h w (lv_sub hl [2, 3, 4, 1, 0] rfl)
    · replace h := ite_f h (fun z => z c2)
      refine lv_aload_n hx hb dX5_bestOrder_33 rfl (lv_at hl 0 rfl) ?_
      refine lv_iconst (v := (2 : Int32)) hx hb dX5_bestOrder_34 (by decide) ?_
      obtain ⟨vv6, M4, J5, hv3, h⟩ := bd3_of h
      refine x_cVi (As := [.int (2 : Int32)]) (rest := []) C w (v8 (by decide)) cel_8 rfl (mtX5_fails  hv3) q7_3 q7_4 q7_5 q1_5 q7_6 ydX5_fails ⟨rfl, rfl⟩ ⟨by decide, by decide⟩ ⟨Nat.zero_le _, Nat.zero_le _⟩ hl.1 (Nat.le_of_ble_eq_true rfl) rfl dX5_bestOrder_35 (fun H locs w => ?_)
      obtain ⟨e1, e2, e3⟩ := rt3 h
      exact x_ri C w e1 (by rw [e2]) (by rw [e3]) dX5_bestOrder_38
  · replace h := ite_f h (fun z => z c1)
    refine lv_aload_n hx hb dX5_bestOrder_10 rfl (lv_at hl 0 rfl) ?_
    refine lv_iconst (v := (1 : Int32)) hx hb dX5_bestOrder_11 (by decide) ?_
    obtain ⟨vv10, M8, J9, hv7, h⟩ := bd3_of h
    refine x_cVi (As := [.int (1 : Int32)]) (rest := []) C w (v8 (by decide)) cel_8 rfl (mtX5_fails  hv7) q7_3 q7_4 q7_5 q1_5 q7_6 ydX5_fails ⟨rfl, rfl⟩ ⟨by decide, by decide⟩ ⟨Nat.zero_le _, Nat.zero_le _⟩ hl.1 (Nat.le_of_ble_eq_true rfl) rfl dX5_bestOrder_12 (fun H locs w => ?_)
    obtain ⟨e1, e2, e3⟩ := rt3 h
    exact x_ri C w e1 (by rw [e2]) (by rw [e3]) dX5_bestOrder_15
theorem mtX5_bestOrder {rr : Int32} {MR : M2} {JR : J2}   {x1 : Int32} {x2 : Int32}  (h : fX5_bestOrder F  x1 x2 M J = some (rr, MR, JR)) : MtI l yX5_bestOrder wdX5_bestOrder rmX5_bestOrder E [.ref (ad E 8 0), .int x1, .int x2] (sg G 8 M) (sg K 8 J) rr (sg G 8 MR) (sg K 8 JR) := by
  intro sz
  refine Met.ofW (cc := cX5_bestOrder) (maxL := 10) (ret := (some .int)) (by decide) rfl ?_
  intro p e s m args below meth c s₁ B hml hv
  obtain ⟨rfl, C, w⟩ := Cx.of (own := RX5) B rfl hml hv
  have hl := lv_entry ([.ref (ad E 8 0), .int x1, .int x2]) (n := 10) (by first | exact Nat.le_of_ble_eq_true rfl)
  rw [lg_entry_eq]
  generalize (lg_sl ([.ref (ad E 8 0), .int x1, .int x2]) ++ List.replicate (10 - (lg_sl ([.ref (ad E 8 0), .int x1, .int x2])).length) Slot.unset).toArray = ls at hl ⊢
  exact TX5_bestOrder C   h w hl
theorem ydX5_bestOrder : yX5_bestOrder.cls = RX5 ∧ yX5_bestOrder.cls ≠ "java/lang/invoke/MethodHandle" ∧ yX5_bestOrder.cls ≠ "java/lang/invoke/VarHandle" ∧ (parseMethodDescriptor yX5_bestOrder.desc).map (fun d => d.parameters.length) = some 2 := by decide +kernel
end XM4
