def e0C : va_E := .inr (0, [.int 0, .int 0, .int 0, .int 0, .int 0, .int 0, .int 0, .int 0])
def e0S : va_E := .inr (3, [.int 0, .int 0, .int 0, .int 0, .int 0, .int 0, .int 0, .null, .null, .null, .null])
def e0H : va_E := .inr (1, [.int 0, .int 0, .null])
def e0P : va_E := .inr (2, [.int 0, .int 0, .int 0, .int 0, .null, .null, .null])
def e0A : va_E := .inr (4, [.null, .null, .null, .null])
def wfC (h0 : Nat) (_ : Nat → Nat) : va_W := [(h0, e0C)]
def wfS (E : WE) (h0 : Nat) (u : Nat → Nat) : va_W := [(h0, .inr (3, [.int 1000, .int 6000, .int 0, .int 0, .int 0, .int 0, .int 0, .ref (u 1), .ref (u 2), .ref (u 3), .ref (u 4)])), (u 1, .inl (E.2.1 0, 8, .inl rowFirst)), (u 2, .inl (E.2.1 1, 6, .inr (.inl (fun _ => 0)))), (u 3, .inl (E.2.1 0, 6, .inl (fun _ => 0))), (u 4, .inl (E.2.1 2, 5, .inr (.inr (.inr (.inr (fun i => if i < 5 then some (u (5 + i)) else none)))))), (u 5, e0C), (u 6, e0C), (u 7, e0C), (u 8, e0C), (u 9, e0C)]
def wfH (E : WE) (h0 : Nat) (u : Nat → Nat) : va_W := [(h0, .inr (1, [.int 0, .int 0, .ref (u 1)])), (u 1, .inl (E.2.1 3, 4, .inr (.inr (.inr (.inr (fun i => if i < 4 then some (u (10 + 10 * i)) else none))))))] ++ wfS E (u 10) (fun r => u (10 + r)) ++ wfS E (u 20) (fun r => u (20 + r)) ++ wfS E (u 30) (fun r => u (30 + r)) ++ wfS E (u 40) (fun r => u (40 + r))
def wfP (E : WE) (h0 : Nat) (u : Nat → Nat) : va_W := [(h0, .inr (2, [.int 0, .int 0, .int 0, .int 0, .ref (u 1), .ref (u 2), .ref (u 3)])), (u 1, .inl (E.2.1 0, 100, .inl (fun _ => 0))), (u 2, .inl (E.2.1 0, 100, .inl (fun _ => 0))), (u 3, .inl (E.2.1 0, 100, .inl (fun _ => 0)))]
def wfA (E : WE) (h0 : Nat) (u : Nat → Nat) : va_W := [(h0, .inr (4, [.ref (u 10), .ref (u 20), .ref (u 30), .ref (u 80)]))] ++ wfS E (u 10) (fun r => u (10 + r)) ++ wfS E (u 20) (fun r => u (20 + r)) ++ wfH E (u 30) (fun r => u (30 + r)) ++ wfP E (u 80) (fun r => u (80 + r))
theorem wfS_congr {E : WE} {h h' : Nat} {u v : Nat → Nat} (hh : h = h') (e : ∀ r, 1 ≤ r → r < 10 → u r = v r) : wfS E h u = wfS E h' v := by
  subst hh
  have e5 : (fun i => if i < 5 then some (u (5 + i)) else none) = (fun i => if i < 5 then some (v (5 + i)) else none) := by
    funext i
    by_cases hi : i < 5
    · rw [if_pos hi, if_pos hi, e (5 + i) (by omega) (by omega)]
    · rw [if_neg hi, if_neg hi]
  unfold wfS
  rw [e5, e 1 (by omega) (by omega), e 2 (by omega) (by omega), e 3 (by omega) (by omega), e 4 (by omega) (by omega), e 5 (by omega) (by omega), e 6 (by omega) (by omega), e 7 (by omega) (by omega), e 8 (by omega) (by omega), e 9 (by omega) (by omega)]
theorem wfH_congr {E : WE} {h h' : Nat} {u v : Nat → Nat} (hh : h = h') (e : ∀ r, 1 ≤ r → r < 50 → u r = v r) : wfH E h u = wfH E h' v := by
  subst hh
  have e5 : (fun i => if i < 4 then some (u (10 + 10 * i)) else none) = (fun i => if i < 4 then some (v (10 + 10 * i)) else none) := by
    funext i
    by_cases hi : i < 4
    · rw [if_pos hi, if_pos hi, e (10 + 10 * i) (by omega) (by omega)]
    · rw [if_neg hi, if_neg hi]
  unfold wfH
  rw [e5, e 1 (by omega) (by omega), wfS_congr (e 10 (by omega) (by omega)) (fun r h1 h2 => e (10 + r) (by omega) (by omega)), wfS_congr (e 20 (by omega) (by omega)) (fun r h1 h2 => e (20 + r) (by omega) (by omega)), wfS_congr (e 30 (by omega) (by omega)) (fun r h1 h2 => e (30 + r) (by omega) (by omega)), wfS_congr (e 40 (by omega) (by omega)) (fun r h1 h2 => e (40 + r) (by omega) (by omega))]
theorem row_first : cpy rowFirst (fun _ => 0) 8 = rowFirst := by
  funext i
  by_cases hi : i < 8
  · simp [cpy, hi]
  · simp only [cpy, if_neg hi]
    show (0 : Int32) = ([6500, 200, 10000, 5, 3, 2, 100, 480] : List Int32).getD i 0
    rcases i with _ | _ | _ | _ | _ | _ | _ | _ | i
    all_goals first | rfl | exact absurd (by omega) hi
def upQ (l : List Nat) : Nat → Option Nat := fun i => l[i]?
section XCT
variable {E : WE} {A : Nat → Prop} {p : Program} {l : Launch} {e : Env} {s : State} {m : MethodId} {args : Array Value} {below : List Frame} {meth : Method} {c : Code} {H : Heap} {locs : List Loc} {ls : Array Slot}

abbrev rmX0_init : Room := { frames := 1, cells := 0, slots := 0, locals := 24 }
abbrev wdX0_init : Cond := Cond.code yX0_init cX0_init 1 none
set_option maxRecDepth 20000 in
set_option maxHeartbeats 4000000 in
theorem mtX0_init {h0 : Nat} : MtC l yX0_init wdX0_init rmX0_init E h0 e0C (wfC h0) 0 0 := by
  intro sz
  refine Met.ofW (cc := cX0_init) (maxL := 1) (ret := none) (by decide) rfl ?_
  intro p e s m args below meth c s₁ B hml hv
  obtain ⟨rfl, C, w⟩ := Cc.of (own := RX0) B rfl rfl hml hv
  generalize va_A [(h0, e0C)] sz = A at C w ⊢
  obtain ⟨hx, hb, hr, -, hown, hts, hlocks, hin, hKC, hA1⟩ := id C
  have hl := lv_entry ([.ref h0]) (n := 1) (Nat.le_of_ble_eq_true rfl)
  rw [lg_entry_eq]
  generalize (lg_sl ([.ref h0]) ++ List.replicate (1 - (lg_sl ([.ref h0])).length) Slot.unset).toArray = ls at hl ⊢
  have hl : lv_has ls 1 [(0, .ref h0)] := hl
  refine lv_aload_n hx hb dX0_init_0 rfl (lv_at hl 0 rfl) ?_
  refine y_obj C hl.1 q2_20 q1_8 q1_9 (by decide) (by decide) dX0_init_1 ?_
  exact y_ret (fun _ => 0) C w (by decide) (by decide) dX0_init_4
theorem ynX0_init : yX0_init.cls ≠ "java/lang/invoke/MethodHandle" ∧ yX0_init.cls ≠ "java/lang/invoke/VarHandle" ∧ (parseMethodDescriptor yX0_init.desc).map (fun d => d.parameters.length) = some 0 := by decide +kernel
abbrev rmX3_init : Room := { frames := 2, cells := 9, slots := 65, locals := 44 }
abbrev wdX3_init : Cond := Cond.code yX3_init cX3_init 2 none
set_option maxRecDepth 20000 in
set_option maxHeartbeats 4000000 in
theorem mtX3_init {h0 : Nat} : MtC l yX3_init wdX3_init rmX3_init E h0 e0S (wfS E h0) 9 65 := by
  intro sz
  refine Met.ofW (cc := cX3_init) (maxL := 2) (ret := none) (by decide) rfl ?_
  intro p e s m args below meth c s₁ B hml hv
  obtain ⟨rfl, C, w⟩ := Cc.of (own := RX3) B rfl rfl hml hv
  generalize va_A [(h0, e0S)] sz = A at C w ⊢
  obtain ⟨hx, hb, hr, -, hown, hts, hlocks, hin, hKC, hA1⟩ := id C
  have hl := lv_entry ([.ref h0]) (n := 2) (Nat.le_of_ble_eq_true rfl)
  rw [lg_entry_eq]
  generalize (lg_sl ([.ref h0]) ++ List.replicate (2 - (lg_sl ([.ref h0])).length) Slot.unset).toArray = ls at hl ⊢
  have hl : lv_has ls 2 [(0, .ref h0)] := hl
  refine lv_aload_n hx hb dX3_init_0 rfl (lv_at hl 0 rfl) ?_
  refine y_obj C hl.1 q2_2 q1_8 q1_9 (by decide) (by decide) dX3_init_1 ?_
  refine lv_aload_n hx hb dX3_init_4 rfl (lv_at hl 0 rfl) ?_
  refine lv_sipush (v := (1000 : Int32)) hx hb dX3_init_5 (by decide) ?_
  refine y_put (q0 := 0) (k := 0) (v := .int (1000 : Int32)) (ty := .int) C w rfl rfl inlX3 tyX3_ok nmX3 (by decide) q2_3 rfl (by decide +kernel) rfl rfl (Nat.le_of_ble_eq_true rfl) dX3_init_8 (fun H locs w => ?_)
  replace w : Wc E A s ([(h0, .inr (3, [.int (1000 : Int32), .int 0, .int 0, .int 0, .int 0, .int 0, .int 0, .null, .null, .null, .null]))]) _ _ := w
  refine lv_aload_n hx hb dX3_init_11 rfl (lv_at hl 0 rfl) ?_
  refine lv_sipush (v := (6000 : Int32)) hx hb dX3_init_12 (by decide) ?_
  refine y_put (q0 := 0) (k := 1) (v := .int (6000 : Int32)) (ty := .int) C w rfl rfl inlX3 tyX3_ok nmX3 (by decide) q2_4 rfl (by decide +kernel) rfl rfl (Nat.le_of_ble_eq_true rfl) dX3_init_15 (fun H locs w => ?_)
  replace w : Wc E A s ([(h0, .inr (3, [.int (1000 : Int32), .int (6000 : Int32), .int 0, .int 0, .int 0, .int 0, .int 0, .null, .null, .null, .null]))]) _ _ := w
  refine lv_aload_n hx hb dX3_init_18 rfl (lv_at hl 0 rfl) ?_
  refine lv_bipush (v := (8 : Int32)) hx hb dX3_init_19 (by decide) ?_
  refine y_newI C w q2_5 (by decide) (N' := 8) (by decide) (by decide) (show _ ≤ _ from Nat.le_of_ble_eq_true rfl) (show _ ≤ _ from Nat.le_of_ble_eq_true rfl) dX3_init_21 (fun q1 H w => ?_)
  replace w : Wc E A s [(h0, .inr (3, [.int (1000 : Int32), .int (6000 : Int32), .int 0, .int 0, .int 0, .int 0, .int 0, .null, .null, .null, .null])), (q1, .inl (E.2.1 0, 8, .inl (fun _ => 0)))] _ _ := w
  refine y_putF (q0 := 0) (k := 7) (v := .ref q1) (ty := .array .int) C w rfl rfl inlX3 tyX3_ok nmX3 (by decide) q2_6 rfl rfl (by decide +kernel) rfl rfl (Nat.le_of_ble_eq_true rfl) dX3_init_23 (fun H locs w => ?_)
  replace w : Wc E A s ([(h0, .inr (3, [.int (1000 : Int32), .int (6000 : Int32), .int 0, .int 0, .int 0, .int 0, .int 0, .ref q1, .null, .null, .null])), (q1, .inl (E.2.1 0, 8, .inl (fun _ => 0)))]) _ _ := w
  refine lv_aload_n hx hb dX3_init_26 rfl (lv_at hl 0 rfl) ?_
  refine lv_bipush (v := (6 : Int32)) hx hb dX3_init_27 (by decide) ?_
  refine y_newJ C w q2_7 (by decide) (N' := 6) (by decide) (by decide) (show _ ≤ _ from Nat.le_of_ble_eq_true rfl) (show _ ≤ _ from Nat.le_of_ble_eq_true rfl) dX3_init_29 (fun q2 H w => ?_)
  replace w : Wc E A s [(h0, .inr (3, [.int (1000 : Int32), .int (6000 : Int32), .int 0, .int 0, .int 0, .int 0, .int 0, .ref q1, .null, .null, .null])), (q1, .inl (E.2.1 0, 8, .inl (fun _ => 0))), (q2, .inl (E.2.1 1, 6, .inr (.inl (fun _ => 0))))] _ _ := w
  refine y_putF (q0 := 0) (k := 8) (v := .ref q2) (ty := .array .long) C w rfl rfl inlX3 tyX3_ok nmX3 (by decide) q2_8 rfl rfl (by decide +kernel) rfl rfl (Nat.le_of_ble_eq_true rfl) dX3_init_31 (fun H locs w => ?_)
  replace w : Wc E A s ([(h0, .inr (3, [.int (1000 : Int32), .int (6000 : Int32), .int 0, .int 0, .int 0, .int 0, .int 0, .ref q1, .ref q2, .null, .null])), (q1, .inl (E.2.1 0, 8, .inl (fun _ => 0))), (q2, .inl (E.2.1 1, 6, .inr (.inl (fun _ => 0))))]) _ _ := w
  refine lv_aload_n hx hb dX3_init_34 rfl (lv_at hl 0 rfl) ?_
  refine lv_bipush (v := (6 : Int32)) hx hb dX3_init_35 (by decide) ?_
  refine y_newI C w q2_5 (by decide) (N' := 6) (by decide) (by decide) (show _ ≤ _ from Nat.le_of_ble_eq_true rfl) (show _ ≤ _ from Nat.le_of_ble_eq_true rfl) dX3_init_37 (fun q3 H w => ?_)
  replace w : Wc E A s [(h0, .inr (3, [.int (1000 : Int32), .int (6000 : Int32), .int 0, .int 0, .int 0, .int 0, .int 0, .ref q1, .ref q2, .null, .null])), (q1, .inl (E.2.1 0, 8, .inl (fun _ => 0))), (q2, .inl (E.2.1 1, 6, .inr (.inl (fun _ => 0)))), (q3, .inl (E.2.1 0, 6, .inl (fun _ => 0)))] _ _ := w
  refine y_putF (q0 := 0) (k := 9) (v := .ref q3) (ty := .array .int) C w rfl rfl inlX3 tyX3_ok nmX3 (by decide) q2_9 rfl rfl (by decide +kernel) rfl rfl (Nat.le_of_ble_eq_true rfl) dX3_init_39 (fun H locs w => ?_)
  replace w : Wc E A s ([(h0, .inr (3, [.int (1000 : Int32), .int (6000 : Int32), .int 0, .int 0, .int 0, .int 0, .int 0, .ref q1, .ref q2, .ref q3, .null])), (q1, .inl (E.2.1 0, 8, .inl (fun _ => 0))), (q2, .inl (E.2.1 1, 6, .inr (.inl (fun _ => 0)))), (q3, .inl (E.2.1 0, 6, .inl (fun _ => 0)))]) _ _ := w
  refine lv_aload_n hx hb dX3_init_42 rfl (lv_at hl 0 rfl) ?_
  refine lv_iconst (v := (5 : Int32)) hx hb dX3_init_43 (by decide) ?_
  refine y_newQ (t0 := 2) C w q2_10 hKC.2.1 rfl (by decide) (N' := 5) (by decide) (by decide) (show _ ≤ _ from Nat.le_of_ble_eq_true rfl) (show _ ≤ _ from Nat.le_of_ble_eq_true rfl) dX3_init_44 (fun q4 H w => ?_)
  replace w : Wc E A s [(h0, .inr (3, [.int (1000 : Int32), .int (6000 : Int32), .int 0, .int 0, .int 0, .int 0, .int 0, .ref q1, .ref q2, .ref q3, .null])), (q1, .inl (E.2.1 0, 8, .inl (fun _ => 0))), (q2, .inl (E.2.1 1, 6, .inr (.inl (fun _ => 0)))), (q3, .inl (E.2.1 0, 6, .inl (fun _ => 0))), (q4, .inl (E.2.1 2, 5, .inr (.inr (.inr (.inr (fun _ => none))))))] _ _ := w
  refine y_putF (q0 := 0) (k := 10) (v := .ref q4) (ty := .array (.object "AirStation$Compressor")) C w rfl rfl inlX3 tyX3_ok nmX3 (by decide) q2_11 rfl rfl (by decide +kernel) rfl rfl (Nat.le_of_ble_eq_true rfl) dX3_init_47 (fun H locs w => ?_)
  replace w : Wc E A s ([(h0, .inr (3, [.int (1000 : Int32), .int (6000 : Int32), .int 0, .int 0, .int 0, .int 0, .int 0, .ref q1, .ref q2, .ref q3, .ref q4])), (q1, .inl (E.2.1 0, 8, .inl (fun _ => 0))), (q2, .inl (E.2.1 1, 6, .inr (.inl (fun _ => 0)))), (q3, .inl (E.2.1 0, 6, .inl (fun _ => 0))), (q4, .inl (E.2.1 2, 5, .inr (.inr (.inr (.inr (fun _ => none))))))]) _ _ := w
  refine y_srowN C w hKC.2.2.2.2 (List.mem_of_getElem? (i := 2) rfl) dX3_init_50 (fun b hXb hbl hbA => ?_)
  refine lv_iconst (v := (0 : Int32)) hx hb dX3_init_53 (by decide) ?_
  refine lv_aload_n hx hb dX3_init_54 rfl (lv_at hl 0 rfl) ?_
  refine y_get (q0 := 0) (k := 7) (v := .ref q1) C w rfl rfl inlX3 (by decide) q2_6 rfl dX3_init_55 ?_
  refine lv_iconst (v := (0 : Int32)) hx hb dX3_init_58 (by decide) ?_
  refine lv_bipush (v := (8 : Int32)) hx hb dX3_init_59 (by decide) ?_
  refine y_cpy (q0 := 1) (kn := 8) C w hl.1 hXb hbl hbA rfl (by decide) (by decide) (by decide) q2_12 q2_13 q2_14 q2_15 (by decide) (by decide +kernel) dX3_init_61 (fun H locs w => ?_)
  replace w : Wc E A s ([(h0, .inr (3, [.int (1000 : Int32), .int (6000 : Int32), .int 0, .int 0, .int 0, .int 0, .int 0, .ref q1, .ref q2, .ref q3, .ref q4])), (q1, .inl (E.2.1 0, 8, .inl (cpy rowFirst (fun _ => 0) 8))), (q2, .inl (E.2.1 1, 6, .inr (.inl (fun _ => 0)))), (q3, .inl (E.2.1 0, 6, .inl (fun _ => 0))), (q4, .inl (E.2.1 2, 5, .inr (.inr (.inr (.inr (fun _ => none))))))]) _ _ := w
  refine lv_iconst (v := (0 : Int32)) hx hb dX3_init_64 (by decide) ?_
  refine lv_istore_n (lv' := [(1, .int (0 : Int32)), (0, .ref h0)]) hx hb dX3_init_65 rfl hl (by decide) rfl (fun ls hl => ?_)
  refine lv_iload_n hx hb dX3_init_66 rfl (lv_at hl 0 rfl) ?_
  refine lv_iconst (v := (5 : Int32)) hx hb dX3_init_67 (by decide) ?_
  refine lv_icmp_ge (tgt := 90) hx hb dX3_init_68 (by decide) (fun cc => absurd cc (by decide)) (fun _ => ?_)
  refine lv_aload_n hx hb dX3_init_71 rfl (lv_at hl 1 rfl) ?_
  refine y_get (q0 := 0) (k := 10) (v := .ref q4) C w rfl rfl inlX3 (by decide) q2_11 rfl dX3_init_72 ?_
  refine lv_iload_n hx hb dX3_init_75 rfl (lv_at hl 0 rfl) ?_
  refine y_new (ci := 0) (ty := tyX0) (fs := [.int 0, .int 0, .int 0, .int 0, .int 0, .int 0, .int 0, .int 0]) C w rfl inlX0 tyX0_ok q2_10 q2_16 q2_17 (by decide) (show _ ≤ _ from Nat.le_of_ble_eq_true rfl) (show _ ≤ _ from Nat.le_of_ble_eq_true rfl) dX3_init_76 (fun q5 H w => ?_)
  replace w : Wc E A s (([(h0, .inr (3, [.int (1000 : Int32), .int (6000 : Int32), .int 0, .int 0, .int 0, .int 0, .int 0, .ref q1, .ref q2, .ref q3, .ref q4])), (q1, .inl (E.2.1 0, 8, .inl (cpy rowFirst (fun _ => 0) 8))), (q2, .inl (E.2.1 1, 6, .inr (.inl (fun _ => 0)))), (q3, .inl (E.2.1 0, 6, .inl (fun _ => 0))), (q4, .inl (E.2.1 2, 5, .inr (.inr (.inr (.inr (fun _ => none))))))]) ++ [(q5, .inr (0, [.int 0, .int 0, .int 0, .int 0, .int 0, .int 0, .int 0, .int 0]))]) _ _ := w
  refine lv_dup hx hb dX3_init_79 rfl ?_
  refine y_callN (rest := [.ref q5, .int (0 : Int32), .ref q4]) (wr := [(h0, .inr (3, [.int (1000 : Int32), .int (6000 : Int32), .int 0, .int 0, .int 0, .int 0, .int 0, .ref q1, .ref q2, .ref q3, .ref q4])), (q1, .inl (E.2.1 0, 8, .inl (cpy rowFirst (fun _ => 0) 8))), (q2, .inl (E.2.1 1, 6, .inr (.inl (fun _ => 0)))), (q3, .inl (E.2.1 0, 6, .inl (fun _ => 0))), (q4, .inl (E.2.1 2, 5, .inr (.inr (.inr (.inr (fun _ => none))))))]) (isR := [0, 1, 2, 3, 4]) (qc := 5) C w (mtX0_init (E := E) (h0 := q5)) rfl rfl (by decide) (by decide) ⟨va_cnB 0 hts (x_good q2_19) rfl rfl rfl (hKC.2.2.2.1 _ (List.mem_of_getElem? (i := 0) rfl)) (y_hts C q2_17) ynX0_init ⟨by decide, by decide⟩, rfl, y_hts C q2_18⟩ ⟨by decide, by decide⟩ hl.1 (Nat.le_of_ble_eq_true rfl) rfl dX3_init_80 (fun u6 H locs w => ?_)
  replace w : Wc E A s ([(h0, .inr (3, [.int (1000 : Int32), .int (6000 : Int32), .int 0, .int 0, .int 0, .int 0, .int 0, .ref q1, .ref q2, .ref q3, .ref q4])), (q1, .inl (E.2.1 0, 8, .inl (cpy rowFirst (fun _ => 0) 8))), (q2, .inl (E.2.1 1, 6, .inr (.inl (fun _ => 0)))), (q3, .inl (E.2.1 0, 6, .inl (fun _ => 0))), (q4, .inl (E.2.1 2, 5, .inr (.inr (.inr (.inr (fun _ => none)))))), (q5, .inr (0, [.int 0, .int 0, .int 0, .int 0, .int 0, .int 0, .int 0, .int 0]))]) _ _ := w
  refine y_astQ (q0 := 4) (qk := 5) (t0 := 2) (ci := 0) C w rfl rfl rfl rfl (inb_k (k := 0) (by decide) (by decide)) dX3_init_83 (fun H locs w => ?_)
  replace w : Wc E A s ([(h0, .inr (3, [.int (1000 : Int32), .int (6000 : Int32), .int 0, .int 0, .int 0, .int 0, .int 0, .ref q1, .ref q2, .ref q3, .ref q4])), (q1, .inl (E.2.1 0, 8, .inl (cpy rowFirst (fun _ => 0) 8))), (q2, .inl (E.2.1 1, 6, .inr (.inl (fun _ => 0)))), (q3, .inl (E.2.1 0, 6, .inl (fun _ => 0))), (q4, .inl (E.2.1 2, 5, .inr (.inr (.inr (.inr (va_up (fun _ => none) 0 (some q5))))))), (q5, .inr (0, [.int 0, .int 0, .int 0, .int 0, .int 0, .int 0, .int 0, .int 0]))]) _ _ := w
  refine lv_iinc (v := (1 : Int32)) (lv' := [(1, .int (1 : Int32)), (0, .ref h0)]) hx hb dX3_init_84 hl (k := 0) rfl (by decide) (by decide) rfl (fun ls hl => ?_)
  refine lv_goto (tgt := 66) hx hb dX3_init_87 (by decide) ?_
  refine lv_iload_n hx hb dX3_init_66 rfl (lv_at hl 0 rfl) ?_
  refine lv_iconst (v := (5 : Int32)) hx hb dX3_init_67 (by decide) ?_
  refine lv_icmp_ge (tgt := 90) hx hb dX3_init_68 (by decide) (fun cc => absurd cc (by decide)) (fun _ => ?_)
  refine lv_aload_n hx hb dX3_init_71 rfl (lv_at hl 1 rfl) ?_
  refine y_get (q0 := 0) (k := 10) (v := .ref q4) C w rfl rfl inlX3 (by decide) q2_11 rfl dX3_init_72 ?_
  refine lv_iload_n hx hb dX3_init_75 rfl (lv_at hl 0 rfl) ?_
  refine y_new (ci := 0) (ty := tyX0) (fs := [.int 0, .int 0, .int 0, .int 0, .int 0, .int 0, .int 0, .int 0]) C w rfl inlX0 tyX0_ok q2_10 q2_16 q2_17 (by decide) (show _ ≤ _ from Nat.le_of_ble_eq_true rfl) (show _ ≤ _ from Nat.le_of_ble_eq_true rfl) dX3_init_76 (fun q7 H w => ?_)
  replace w : Wc E A s (([(h0, .inr (3, [.int (1000 : Int32), .int (6000 : Int32), .int 0, .int 0, .int 0, .int 0, .int 0, .ref q1, .ref q2, .ref q3, .ref q4])), (q1, .inl (E.2.1 0, 8, .inl (cpy rowFirst (fun _ => 0) 8))), (q2, .inl (E.2.1 1, 6, .inr (.inl (fun _ => 0)))), (q3, .inl (E.2.1 0, 6, .inl (fun _ => 0))), (q4, .inl (E.2.1 2, 5, .inr (.inr (.inr (.inr (va_up (fun _ => none) 0 (some q5))))))), (q5, .inr (0, [.int 0, .int 0, .int 0, .int 0, .int 0, .int 0, .int 0, .int 0]))]) ++ [(q7, .inr (0, [.int 0, .int 0, .int 0, .int 0, .int 0, .int 0, .int 0, .int 0]))]) _ _ := w
  refine lv_dup hx hb dX3_init_79 rfl ?_
  refine y_callN (rest := [.ref q7, .int (1 : Int32), .ref q4]) (wr := [(h0, .inr (3, [.int (1000 : Int32), .int (6000 : Int32), .int 0, .int 0, .int 0, .int 0, .int 0, .ref q1, .ref q2, .ref q3, .ref q4])), (q1, .inl (E.2.1 0, 8, .inl (cpy rowFirst (fun _ => 0) 8))), (q2, .inl (E.2.1 1, 6, .inr (.inl (fun _ => 0)))), (q3, .inl (E.2.1 0, 6, .inl (fun _ => 0))), (q4, .inl (E.2.1 2, 5, .inr (.inr (.inr (.inr (va_up (fun _ => none) 0 (some q5))))))), (q5, .inr (0, [.int 0, .int 0, .int 0, .int 0, .int 0, .int 0, .int 0, .int 0]))]) (isR := [0, 1, 2, 3, 4, 5]) (qc := 6) C w (mtX0_init (E := E) (h0 := q7)) rfl rfl (by decide) (by decide) ⟨va_cnB 0 hts (x_good q2_19) rfl rfl rfl (hKC.2.2.2.1 _ (List.mem_of_getElem? (i := 0) rfl)) (y_hts C q2_17) ynX0_init ⟨by decide, by decide⟩, rfl, y_hts C q2_18⟩ ⟨by decide, by decide⟩ hl.1 (Nat.le_of_ble_eq_true rfl) rfl dX3_init_80 (fun u8 H locs w => ?_)
  replace w : Wc E A s ([(h0, .inr (3, [.int (1000 : Int32), .int (6000 : Int32), .int 0, .int 0, .int 0, .int 0, .int 0, .ref q1, .ref q2, .ref q3, .ref q4])), (q1, .inl (E.2.1 0, 8, .inl (cpy rowFirst (fun _ => 0) 8))), (q2, .inl (E.2.1 1, 6, .inr (.inl (fun _ => 0)))), (q3, .inl (E.2.1 0, 6, .inl (fun _ => 0))), (q4, .inl (E.2.1 2, 5, .inr (.inr (.inr (.inr (va_up (fun _ => none) 0 (some q5))))))), (q5, .inr (0, [.int 0, .int 0, .int 0, .int 0, .int 0, .int 0, .int 0, .int 0])), (q7, .inr (0, [.int 0, .int 0, .int 0, .int 0, .int 0, .int 0, .int 0, .int 0]))]) _ _ := w
  refine y_astQ (q0 := 4) (qk := 6) (t0 := 2) (ci := 0) C w rfl rfl rfl rfl (inb_k (k := 1) (by decide) (by decide)) dX3_init_83 (fun H locs w => ?_)
  replace w : Wc E A s ([(h0, .inr (3, [.int (1000 : Int32), .int (6000 : Int32), .int 0, .int 0, .int 0, .int 0, .int 0, .ref q1, .ref q2, .ref q3, .ref q4])), (q1, .inl (E.2.1 0, 8, .inl (cpy rowFirst (fun _ => 0) 8))), (q2, .inl (E.2.1 1, 6, .inr (.inl (fun _ => 0)))), (q3, .inl (E.2.1 0, 6, .inl (fun _ => 0))), (q4, .inl (E.2.1 2, 5, .inr (.inr (.inr (.inr (va_up (va_up (fun _ => none) 0 (some q5)) 1 (some q7))))))), (q5, .inr (0, [.int 0, .int 0, .int 0, .int 0, .int 0, .int 0, .int 0, .int 0])), (q7, .inr (0, [.int 0, .int 0, .int 0, .int 0, .int 0, .int 0, .int 0, .int 0]))]) _ _ := w
  refine lv_iinc (v := (2 : Int32)) (lv' := [(1, .int (2 : Int32)), (0, .ref h0)]) hx hb dX3_init_84 hl (k := 0) rfl (by decide) (by decide) rfl (fun ls hl => ?_)
  refine lv_goto (tgt := 66) hx hb dX3_init_87 (by decide) ?_
  refine lv_iload_n hx hb dX3_init_66 rfl (lv_at hl 0 rfl) ?_
  refine lv_iconst (v := (5 : Int32)) hx hb dX3_init_67 (by decide) ?_
  refine lv_icmp_ge (tgt := 90) hx hb dX3_init_68 (by decide) (fun cc => absurd cc (by decide)) (fun _ => ?_)
  refine lv_aload_n hx hb dX3_init_71 rfl (lv_at hl 1 rfl) ?_
  refine y_get (q0 := 0) (k := 10) (v := .ref q4) C w rfl rfl inlX3 (by decide) q2_11 rfl dX3_init_72 ?_
  refine lv_iload_n hx hb dX3_init_75 rfl (lv_at hl 0 rfl) ?_
  refine y_new (ci := 0) (ty := tyX0) (fs := [.int 0, .int 0, .int 0, .int 0, .int 0, .int 0, .int 0, .int 0]) C w rfl inlX0 tyX0_ok q2_10 q2_16 q2_17 (by decide) (show _ ≤ _ from Nat.le_of_ble_eq_true rfl) (show _ ≤ _ from Nat.le_of_ble_eq_true rfl) dX3_init_76 (fun q9 H w => ?_)
  replace w : Wc E A s (([(h0, .inr (3, [.int (1000 : Int32), .int (6000 : Int32), .int 0, .int 0, .int 0, .int 0, .int 0, .ref q1, .ref q2, .ref q3, .ref q4])), (q1, .inl (E.2.1 0, 8, .inl (cpy rowFirst (fun _ => 0) 8))), (q2, .inl (E.2.1 1, 6, .inr (.inl (fun _ => 0)))), (q3, .inl (E.2.1 0, 6, .inl (fun _ => 0))), (q4, .inl (E.2.1 2, 5, .inr (.inr (.inr (.inr (va_up (va_up (fun _ => none) 0 (some q5)) 1 (some q7))))))), (q5, .inr (0, [.int 0, .int 0, .int 0, .int 0, .int 0, .int 0, .int 0, .int 0])), (q7, .inr (0, [.int 0, .int 0, .int 0, .int 0, .int 0, .int 0, .int 0, .int 0]))]) ++ [(q9, .inr (0, [.int 0, .int 0, .int 0, .int 0, .int 0, .int 0, .int 0, .int 0]))]) _ _ := w
  refine lv_dup hx hb dX3_init_79 rfl ?_
  refine y_callN (rest := [.ref q9, .int (2 : Int32), .ref q4]) (wr := [(h0, .inr (3, [.int (1000 : Int32), .int (6000 : Int32), .int 0, .int 0, .int 0, .int 0, .int 0, .ref q1, .ref q2, .ref q3, .ref q4])), (q1, .inl (E.2.1 0, 8, .inl (cpy rowFirst (fun _ => 0) 8))), (q2, .inl (E.2.1 1, 6, .inr (.inl (fun _ => 0)))), (q3, .inl (E.2.1 0, 6, .inl (fun _ => 0))), (q4, .inl (E.2.1 2, 5, .inr (.inr (.inr (.inr (va_up (va_up (fun _ => none) 0 (some q5)) 1 (some q7))))))), (q5, .inr (0, [.int 0, .int 0, .int 0, .int 0, .int 0, .int 0, .int 0, .int 0])), (q7, .inr (0, [.int 0, .int 0, .int 0, .int 0, .int 0, .int 0, .int 0, .int 0]))]) (isR := [0, 1, 2, 3, 4, 5, 6]) (qc := 7) C w (mtX0_init (E := E) (h0 := q9)) rfl rfl (by decide) (by decide) ⟨va_cnB 0 hts (x_good q2_19) rfl rfl rfl (hKC.2.2.2.1 _ (List.mem_of_getElem? (i := 0) rfl)) (y_hts C q2_17) ynX0_init ⟨by decide, by decide⟩, rfl, y_hts C q2_18⟩ ⟨by decide, by decide⟩ hl.1 (Nat.le_of_ble_eq_true rfl) rfl dX3_init_80 (fun u10 H locs w => ?_)
  replace w : Wc E A s ([(h0, .inr (3, [.int (1000 : Int32), .int (6000 : Int32), .int 0, .int 0, .int 0, .int 0, .int 0, .ref q1, .ref q2, .ref q3, .ref q4])), (q1, .inl (E.2.1 0, 8, .inl (cpy rowFirst (fun _ => 0) 8))), (q2, .inl (E.2.1 1, 6, .inr (.inl (fun _ => 0)))), (q3, .inl (E.2.1 0, 6, .inl (fun _ => 0))), (q4, .inl (E.2.1 2, 5, .inr (.inr (.inr (.inr (va_up (va_up (fun _ => none) 0 (some q5)) 1 (some q7))))))), (q5, .inr (0, [.int 0, .int 0, .int 0, .int 0, .int 0, .int 0, .int 0, .int 0])), (q7, .inr (0, [.int 0, .int 0, .int 0, .int 0, .int 0, .int 0, .int 0, .int 0])), (q9, .inr (0, [.int 0, .int 0, .int 0, .int 0, .int 0, .int 0, .int 0, .int 0]))]) _ _ := w
  refine y_astQ (q0 := 4) (qk := 7) (t0 := 2) (ci := 0) C w rfl rfl rfl rfl (inb_k (k := 2) (by decide) (by decide)) dX3_init_83 (fun H locs w => ?_)
  replace w : Wc E A s ([(h0, .inr (3, [.int (1000 : Int32), .int (6000 : Int32), .int 0, .int 0, .int 0, .int 0, .int 0, .ref q1, .ref q2, .ref q3, .ref q4])), (q1, .inl (E.2.1 0, 8, .inl (cpy rowFirst (fun _ => 0) 8))), (q2, .inl (E.2.1 1, 6, .inr (.inl (fun _ => 0)))), (q3, .inl (E.2.1 0, 6, .inl (fun _ => 0))), (q4, .inl (E.2.1 2, 5, .inr (.inr (.inr (.inr (va_up (va_up (va_up (fun _ => none) 0 (some q5)) 1 (some q7)) 2 (some q9))))))), (q5, .inr (0, [.int 0, .int 0, .int 0, .int 0, .int 0, .int 0, .int 0, .int 0])), (q7, .inr (0, [.int 0, .int 0, .int 0, .int 0, .int 0, .int 0, .int 0, .int 0])), (q9, .inr (0, [.int 0, .int 0, .int 0, .int 0, .int 0, .int 0, .int 0, .int 0]))]) _ _ := w
  refine lv_iinc (v := (3 : Int32)) (lv' := [(1, .int (3 : Int32)), (0, .ref h0)]) hx hb dX3_init_84 hl (k := 0) rfl (by decide) (by decide) rfl (fun ls hl => ?_)
  refine lv_goto (tgt := 66) hx hb dX3_init_87 (by decide) ?_
  refine lv_iload_n hx hb dX3_init_66 rfl (lv_at hl 0 rfl) ?_
  refine lv_iconst (v := (5 : Int32)) hx hb dX3_init_67 (by decide) ?_
  refine lv_icmp_ge (tgt := 90) hx hb dX3_init_68 (by decide) (fun cc => absurd cc (by decide)) (fun _ => ?_)
  refine lv_aload_n hx hb dX3_init_71 rfl (lv_at hl 1 rfl) ?_
  refine y_get (q0 := 0) (k := 10) (v := .ref q4) C w rfl rfl inlX3 (by decide) q2_11 rfl dX3_init_72 ?_
  refine lv_iload_n hx hb dX3_init_75 rfl (lv_at hl 0 rfl) ?_
  refine y_new (ci := 0) (ty := tyX0) (fs := [.int 0, .int 0, .int 0, .int 0, .int 0, .int 0, .int 0, .int 0]) C w rfl inlX0 tyX0_ok q2_10 q2_16 q2_17 (by decide) (show _ ≤ _ from Nat.le_of_ble_eq_true rfl) (show _ ≤ _ from Nat.le_of_ble_eq_true rfl) dX3_init_76 (fun q11 H w => ?_)
  replace w : Wc E A s (([(h0, .inr (3, [.int (1000 : Int32), .int (6000 : Int32), .int 0, .int 0, .int 0, .int 0, .int 0, .ref q1, .ref q2, .ref q3, .ref q4])), (q1, .inl (E.2.1 0, 8, .inl (cpy rowFirst (fun _ => 0) 8))), (q2, .inl (E.2.1 1, 6, .inr (.inl (fun _ => 0)))), (q3, .inl (E.2.1 0, 6, .inl (fun _ => 0))), (q4, .inl (E.2.1 2, 5, .inr (.inr (.inr (.inr (va_up (va_up (va_up (fun _ => none) 0 (some q5)) 1 (some q7)) 2 (some q9))))))), (q5, .inr (0, [.int 0, .int 0, .int 0, .int 0, .int 0, .int 0, .int 0, .int 0])), (q7, .inr (0, [.int 0, .int 0, .int 0, .int 0, .int 0, .int 0, .int 0, .int 0])), (q9, .inr (0, [.int 0, .int 0, .int 0, .int 0, .int 0, .int 0, .int 0, .int 0]))]) ++ [(q11, .inr (0, [.int 0, .int 0, .int 0, .int 0, .int 0, .int 0, .int 0, .int 0]))]) _ _ := w
  refine lv_dup hx hb dX3_init_79 rfl ?_
  refine y_callN (rest := [.ref q11, .int (3 : Int32), .ref q4]) (wr := [(h0, .inr (3, [.int (1000 : Int32), .int (6000 : Int32), .int 0, .int 0, .int 0, .int 0, .int 0, .ref q1, .ref q2, .ref q3, .ref q4])), (q1, .inl (E.2.1 0, 8, .inl (cpy rowFirst (fun _ => 0) 8))), (q2, .inl (E.2.1 1, 6, .inr (.inl (fun _ => 0)))), (q3, .inl (E.2.1 0, 6, .inl (fun _ => 0))), (q4, .inl (E.2.1 2, 5, .inr (.inr (.inr (.inr (va_up (va_up (va_up (fun _ => none) 0 (some q5)) 1 (some q7)) 2 (some q9))))))), (q5, .inr (0, [.int 0, .int 0, .int 0, .int 0, .int 0, .int 0, .int 0, .int 0])), (q7, .inr (0, [.int 0, .int 0, .int 0, .int 0, .int 0, .int 0, .int 0, .int 0])), (q9, .inr (0, [.int 0, .int 0, .int 0, .int 0, .int 0, .int 0, .int 0, .int 0]))]) (isR := [0, 1, 2, 3, 4, 5, 6, 7]) (qc := 8) C w (mtX0_init (E := E) (h0 := q11)) rfl rfl (by decide) (by decide) ⟨va_cnB 0 hts (x_good q2_19) rfl rfl rfl (hKC.2.2.2.1 _ (List.mem_of_getElem? (i := 0) rfl)) (y_hts C q2_17) ynX0_init ⟨by decide, by decide⟩, rfl, y_hts C q2_18⟩ ⟨by decide, by decide⟩ hl.1 (Nat.le_of_ble_eq_true rfl) rfl dX3_init_80 (fun u12 H locs w => ?_)
  replace w : Wc E A s ([(h0, .inr (3, [.int (1000 : Int32), .int (6000 : Int32), .int 0, .int 0, .int 0, .int 0, .int 0, .ref q1, .ref q2, .ref q3, .ref q4])), (q1, .inl (E.2.1 0, 8, .inl (cpy rowFirst (fun _ => 0) 8))), (q2, .inl (E.2.1 1, 6, .inr (.inl (fun _ => 0)))), (q3, .inl (E.2.1 0, 6, .inl (fun _ => 0))), (q4, .inl (E.2.1 2, 5, .inr (.inr (.inr (.inr (va_up (va_up (va_up (fun _ => none) 0 (some q5)) 1 (some q7)) 2 (some q9))))))), (q5, .inr (0, [.int 0, .int 0, .int 0, .int 0, .int 0, .int 0, .int 0, .int 0])), (q7, .inr (0, [.int 0, .int 0, .int 0, .int 0, .int 0, .int 0, .int 0, .int 0])), (q9, .inr (0, [.int 0, .int 0, .int 0, .int 0, .int 0, .int 0, .int 0, .int 0])), (q11, .inr (0, [.int 0, .int 0, .int 0, .int 0, .int 0, .int 0, .int 0, .int 0]))]) _ _ := w
  refine y_astQ (q0 := 4) (qk := 8) (t0 := 2) (ci := 0) C w rfl rfl rfl rfl (inb_k (k := 3) (by decide) (by decide)) dX3_init_83 (fun H locs w => ?_)
  replace w : Wc E A s ([(h0, .inr (3, [.int (1000 : Int32), .int (6000 : Int32), .int 0, .int 0, .int 0, .int 0, .int 0, .ref q1, .ref q2, .ref q3, .ref q4])), (q1, .inl (E.2.1 0, 8, .inl (cpy rowFirst (fun _ => 0) 8))), (q2, .inl (E.2.1 1, 6, .inr (.inl (fun _ => 0)))), (q3, .inl (E.2.1 0, 6, .inl (fun _ => 0))), (q4, .inl (E.2.1 2, 5, .inr (.inr (.inr (.inr (va_up (va_up (va_up (va_up (fun _ => none) 0 (some q5)) 1 (some q7)) 2 (some q9)) 3 (some q11))))))), (q5, .inr (0, [.int 0, .int 0, .int 0, .int 0, .int 0, .int 0, .int 0, .int 0])), (q7, .inr (0, [.int 0, .int 0, .int 0, .int 0, .int 0, .int 0, .int 0, .int 0])), (q9, .inr (0, [.int 0, .int 0, .int 0, .int 0, .int 0, .int 0, .int 0, .int 0])), (q11, .inr (0, [.int 0, .int 0, .int 0, .int 0, .int 0, .int 0, .int 0, .int 0]))]) _ _ := w
  refine lv_iinc (v := (4 : Int32)) (lv' := [(1, .int (4 : Int32)), (0, .ref h0)]) hx hb dX3_init_84 hl (k := 0) rfl (by decide) (by decide) rfl (fun ls hl => ?_)
  refine lv_goto (tgt := 66) hx hb dX3_init_87 (by decide) ?_
  refine lv_iload_n hx hb dX3_init_66 rfl (lv_at hl 0 rfl) ?_
  refine lv_iconst (v := (5 : Int32)) hx hb dX3_init_67 (by decide) ?_
  refine lv_icmp_ge (tgt := 90) hx hb dX3_init_68 (by decide) (fun cc => absurd cc (by decide)) (fun _ => ?_)
  refine lv_aload_n hx hb dX3_init_71 rfl (lv_at hl 1 rfl) ?_
  refine y_get (q0 := 0) (k := 10) (v := .ref q4) C w rfl rfl inlX3 (by decide) q2_11 rfl dX3_init_72 ?_
  refine lv_iload_n hx hb dX3_init_75 rfl (lv_at hl 0 rfl) ?_
  refine y_new (ci := 0) (ty := tyX0) (fs := [.int 0, .int 0, .int 0, .int 0, .int 0, .int 0, .int 0, .int 0]) C w rfl inlX0 tyX0_ok q2_10 q2_16 q2_17 (by decide) (show _ ≤ _ from Nat.le_of_ble_eq_true rfl) (show _ ≤ _ from Nat.le_of_ble_eq_true rfl) dX3_init_76 (fun q13 H w => ?_)
  replace w : Wc E A s (([(h0, .inr (3, [.int (1000 : Int32), .int (6000 : Int32), .int 0, .int 0, .int 0, .int 0, .int 0, .ref q1, .ref q2, .ref q3, .ref q4])), (q1, .inl (E.2.1 0, 8, .inl (cpy rowFirst (fun _ => 0) 8))), (q2, .inl (E.2.1 1, 6, .inr (.inl (fun _ => 0)))), (q3, .inl (E.2.1 0, 6, .inl (fun _ => 0))), (q4, .inl (E.2.1 2, 5, .inr (.inr (.inr (.inr (va_up (va_up (va_up (va_up (fun _ => none) 0 (some q5)) 1 (some q7)) 2 (some q9)) 3 (some q11))))))), (q5, .inr (0, [.int 0, .int 0, .int 0, .int 0, .int 0, .int 0, .int 0, .int 0])), (q7, .inr (0, [.int 0, .int 0, .int 0, .int 0, .int 0, .int 0, .int 0, .int 0])), (q9, .inr (0, [.int 0, .int 0, .int 0, .int 0, .int 0, .int 0, .int 0, .int 0])), (q11, .inr (0, [.int 0, .int 0, .int 0, .int 0, .int 0, .int 0, .int 0, .int 0]))]) ++ [(q13, .inr (0, [.int 0, .int 0, .int 0, .int 0, .int 0, .int 0, .int 0, .int 0]))]) _ _ := w
  refine lv_dup hx hb dX3_init_79 rfl ?_
  refine y_callN (rest := [.ref q13, .int (4 : Int32), .ref q4]) (wr := [(h0, .inr (3, [.int (1000 : Int32), .int (6000 : Int32), .int 0, .int 0, .int 0, .int 0, .int 0, .ref q1, .ref q2, .ref q3, .ref q4])), (q1, .inl (E.2.1 0, 8, .inl (cpy rowFirst (fun _ => 0) 8))), (q2, .inl (E.2.1 1, 6, .inr (.inl (fun _ => 0)))), (q3, .inl (E.2.1 0, 6, .inl (fun _ => 0))), (q4, .inl (E.2.1 2, 5, .inr (.inr (.inr (.inr (va_up (va_up (va_up (va_up (fun _ => none) 0 (some q5)) 1 (some q7)) 2 (some q9)) 3 (some q11))))))), (q5, .inr (0, [.int 0, .int 0, .int 0, .int 0, .int 0, .int 0, .int 0, .int 0])), (q7, .inr (0, [.int 0, .int 0, .int 0, .int 0, .int 0, .int 0, .int 0, .int 0])), (q9, .inr (0, [.int 0, .int 0, .int 0, .int 0, .int 0, .int 0, .int 0, .int 0])), (q11, .inr (0, [.int 0, .int 0, .int 0, .int 0, .int 0, .int 0, .int 0, .int 0]))]) (isR := [0, 1, 2, 3, 4, 5, 6, 7, 8]) (qc := 9) C w (mtX0_init (E := E) (h0 := q13)) rfl rfl (by decide) (by decide) ⟨va_cnB 0 hts (x_good q2_19) rfl rfl rfl (hKC.2.2.2.1 _ (List.mem_of_getElem? (i := 0) rfl)) (y_hts C q2_17) ynX0_init ⟨by decide, by decide⟩, rfl, y_hts C q2_18⟩ ⟨by decide, by decide⟩ hl.1 (Nat.le_of_ble_eq_true rfl) rfl dX3_init_80 (fun u14 H locs w => ?_)
  replace w : Wc E A s ([(h0, .inr (3, [.int (1000 : Int32), .int (6000 : Int32), .int 0, .int 0, .int 0, .int 0, .int 0, .ref q1, .ref q2, .ref q3, .ref q4])), (q1, .inl (E.2.1 0, 8, .inl (cpy rowFirst (fun _ => 0) 8))), (q2, .inl (E.2.1 1, 6, .inr (.inl (fun _ => 0)))), (q3, .inl (E.2.1 0, 6, .inl (fun _ => 0))), (q4, .inl (E.2.1 2, 5, .inr (.inr (.inr (.inr (va_up (va_up (va_up (va_up (fun _ => none) 0 (some q5)) 1 (some q7)) 2 (some q9)) 3 (some q11))))))), (q5, .inr (0, [.int 0, .int 0, .int 0, .int 0, .int 0, .int 0, .int 0, .int 0])), (q7, .inr (0, [.int 0, .int 0, .int 0, .int 0, .int 0, .int 0, .int 0, .int 0])), (q9, .inr (0, [.int 0, .int 0, .int 0, .int 0, .int 0, .int 0, .int 0, .int 0])), (q11, .inr (0, [.int 0, .int 0, .int 0, .int 0, .int 0, .int 0, .int 0, .int 0])), (q13, .inr (0, [.int 0, .int 0, .int 0, .int 0, .int 0, .int 0, .int 0, .int 0]))]) _ _ := w
  refine y_astQ (q0 := 4) (qk := 9) (t0 := 2) (ci := 0) C w rfl rfl rfl rfl (inb_k (k := 4) (by decide) (by decide)) dX3_init_83 (fun H locs w => ?_)
  replace w : Wc E A s ([(h0, .inr (3, [.int (1000 : Int32), .int (6000 : Int32), .int 0, .int 0, .int 0, .int 0, .int 0, .ref q1, .ref q2, .ref q3, .ref q4])), (q1, .inl (E.2.1 0, 8, .inl (cpy rowFirst (fun _ => 0) 8))), (q2, .inl (E.2.1 1, 6, .inr (.inl (fun _ => 0)))), (q3, .inl (E.2.1 0, 6, .inl (fun _ => 0))), (q4, .inl (E.2.1 2, 5, .inr (.inr (.inr (.inr (va_up (va_up (va_up (va_up (va_up (fun _ => none) 0 (some q5)) 1 (some q7)) 2 (some q9)) 3 (some q11)) 4 (some q13))))))), (q5, .inr (0, [.int 0, .int 0, .int 0, .int 0, .int 0, .int 0, .int 0, .int 0])), (q7, .inr (0, [.int 0, .int 0, .int 0, .int 0, .int 0, .int 0, .int 0, .int 0])), (q9, .inr (0, [.int 0, .int 0, .int 0, .int 0, .int 0, .int 0, .int 0, .int 0])), (q11, .inr (0, [.int 0, .int 0, .int 0, .int 0, .int 0, .int 0, .int 0, .int 0])), (q13, .inr (0, [.int 0, .int 0, .int 0, .int 0, .int 0, .int 0, .int 0, .int 0]))]) _ _ := w
  refine lv_iinc (v := (5 : Int32)) (lv' := [(1, .int (5 : Int32)), (0, .ref h0)]) hx hb dX3_init_84 hl (k := 0) rfl (by decide) (by decide) rfl (fun ls hl => ?_)
  refine lv_goto (tgt := 66) hx hb dX3_init_87 (by decide) ?_
  refine lv_iload_n hx hb dX3_init_66 rfl (lv_at hl 0 rfl) ?_
  refine lv_iconst (v := (5 : Int32)) hx hb dX3_init_67 (by decide) ?_
  refine lv_icmp_ge (tgt := 90) hx hb dX3_init_68 (by decide) (fun _ => ?_) (fun cc => absurd (by decide) cc)
  have eQ : (va_up (va_up (va_up (va_up (va_up (fun _ => none) 0 (some q5)) 1 (some q7)) 2 (some q9)) 3 (some q11)) 4 (some q13) : Nat → Option Nat) = (fun i => if i < 5 then some ((fun i => [0, q1, q2, q3, q4, q5, q7, q9, q11, q13].getD i 0 : Nat → Nat) (5 + i)) else none) := by
    funext i
    rcases i with _ | _ | _ | _ | _ | i
    · rfl
    · rfl
    · rfl
    · rfl
    · rfl
    · rw [if_neg (by omega)]; simp [va_up]
  rw [row_first, eQ] at w
  exact y_ret (wf := wfS E h0) (fun i => [0, q1, q2, q3, q4, q5, q7, q9, q11, q13].getD i 0) C w (by decide) (by decide) dX3_init_90
theorem ynX3_init : yX3_init.cls ≠ "java/lang/invoke/MethodHandle" ∧ yX3_init.cls ≠ "java/lang/invoke/VarHandle" ∧ (parseMethodDescriptor yX3_init.desc).map (fun d => d.parameters.length) = some 0 := by decide +kernel
abbrev rmX1_init : Room := { frames := 3, cells := 41, slots := 308, locals := 65 }
abbrev wdX1_init : Cond := Cond.code yX1_init cX1_init 2 none
set_option maxRecDepth 20000 in
set_option maxHeartbeats 4000000 in
theorem mtX1_init {h0 : Nat} : MtC l yX1_init wdX1_init rmX1_init E h0 e0H (wfH E h0) 41 308 := by
  intro sz
  refine Met.ofW (cc := cX1_init) (maxL := 2) (ret := none) (by decide) rfl ?_
  intro p e s m args below meth c s₁ B hml hv
  obtain ⟨rfl, C, w⟩ := Cc.of (own := RX1) B rfl rfl hml hv
  generalize va_A [(h0, e0H)] sz = A at C w ⊢
  obtain ⟨hx, hb, hr, -, hown, hts, hlocks, hin, hKC, hA1⟩ := id C
  have hl := lv_entry ([.ref h0]) (n := 2) (Nat.le_of_ble_eq_true rfl)
  rw [lg_entry_eq]
  generalize (lg_sl ([.ref h0]) ++ List.replicate (2 - (lg_sl ([.ref h0])).length) Slot.unset).toArray = ls at hl ⊢
  have hl : lv_has ls 2 [(0, .ref h0)] := hl
  refine lv_aload_n hx hb dX1_init_0 rfl (lv_at hl 0 rfl) ?_
  refine y_obj C hl.1 q3_0 q1_8 q1_9 (by decide) (by decide) dX1_init_1 ?_
  refine lv_aload_n hx hb dX1_init_4 rfl (lv_at hl 0 rfl) ?_
  refine lv_iconst (v := (4 : Int32)) hx hb dX1_init_5 (by decide) ?_
  refine y_newQ (t0 := 3) C w q3_1 hKC.2.2.1 rfl (by decide) (N' := 4) (by decide) (by decide) (show _ ≤ _ from Nat.le_of_ble_eq_true rfl) (show _ ≤ _ from Nat.le_of_ble_eq_true rfl) dX1_init_6 (fun q1 H w => ?_)
  replace w : Wc E A s [(h0, .inr (1, [.int 0, .int 0, .null])), (q1, .inl (E.2.1 3, 4, .inr (.inr (.inr (.inr (fun _ => none))))))] _ _ := w
  refine y_putF (q0 := 0) (k := 2) (v := .ref q1) (ty := .array (.object "AirStation$State")) C w rfl rfl inlX1 tyX1_ok nmX1 (by decide) q3_2 rfl rfl (by decide +kernel) rfl rfl (Nat.le_of_ble_eq_true rfl) dX1_init_9 (fun H locs w => ?_)
  replace w : Wc E A s ([(h0, .inr (1, [.int 0, .int 0, .ref q1])), (q1, .inl (E.2.1 3, 4, .inr (.inr (.inr (.inr (fun _ => none))))))]) _ _ := w
  refine lv_iconst (v := (0 : Int32)) hx hb dX1_init_12 (by decide) ?_
  refine lv_istore_n (lv' := [(1, .int (0 : Int32)), (0, .ref h0)]) hx hb dX1_init_13 rfl hl (by decide) rfl (fun ls hl => ?_)
  refine lv_iload_n hx hb dX1_init_14 rfl (lv_at hl 0 rfl) ?_
  refine lv_iconst (v := (4 : Int32)) hx hb dX1_init_15 (by decide) ?_
  refine lv_icmp_ge (tgt := 38) hx hb dX1_init_16 (by decide) (fun cc => absurd cc (by decide)) (fun _ => ?_)
  refine lv_aload_n hx hb dX1_init_19 rfl (lv_at hl 1 rfl) ?_
  refine y_get (q0 := 0) (k := 2) (v := .ref q1) C w rfl rfl inlX1 (by decide) q3_2 rfl dX1_init_20 ?_
  refine lv_iload_n hx hb dX1_init_23 rfl (lv_at hl 0 rfl) ?_
  refine y_new (ci := 3) (ty := tyX3) (fs := [.int 0, .int 0, .int 0, .int 0, .int 0, .int 0, .int 0, .null, .null, .null, .null]) C w rfl inlX3 tyX3_ok q3_1 q1_11 q1_12 (by decide) (show _ ≤ _ from Nat.le_of_ble_eq_true rfl) (show _ ≤ _ from Nat.le_of_ble_eq_true rfl) dX1_init_24 (fun q2 H w => ?_)
  replace w : Wc E A s (([(h0, .inr (1, [.int 0, .int 0, .ref q1])), (q1, .inl (E.2.1 3, 4, .inr (.inr (.inr (.inr (fun _ => none))))))]) ++ [(q2, .inr (3, [.int 0, .int 0, .int 0, .int 0, .int 0, .int 0, .int 0, .null, .null, .null, .null]))]) _ _ := w
  refine lv_dup hx hb dX1_init_27 rfl ?_
  refine y_call (rest := [.ref q2, .int (0 : Int32), .ref q1]) (wr := [(h0, .inr (1, [.int 0, .int 0, .ref q1])), (q1, .inl (E.2.1 3, 4, .inr (.inr (.inr (.inr (fun _ => none))))))]) (isR := [0, 1]) (qc := 2) C w (mtX3_init (E := E) (h0 := q2)) rfl rfl (by decide) (by decide) (cwI 0 hts (x_good q2_1) rfl rfl rfl (y_hts C q1_12) (y_hts C q3_3) (y_hts C q2_0) rfl ynX3_init ⟨by decide, by decide⟩) ⟨by decide, by decide⟩ hl.1 (Nat.le_of_ble_eq_true rfl) rfl dX1_init_28 (fun u3 H locs w => ?_)
  replace w : Wc E A s ([(h0, .inr (1, [.int 0, .int 0, .ref q1])), (q1, .inl (E.2.1 3, 4, .inr (.inr (.inr (.inr (fun _ => none))))))] ++ wfS E q2 u3) _ _ := w
  refine y_astQ (q0 := 1) (qk := 2) (t0 := 3) (ci := 3) C w rfl rfl rfl rfl (inb_k (k := 0) (by decide) (by decide)) dX1_init_31 (fun H locs w => ?_)
  replace w : Wc E A s ([(h0, .inr (1, [.int 0, .int 0, .ref q1])), (q1, .inl (E.2.1 3, 4, .inr (.inr (.inr (.inr (va_up (fun _ => none) 0 (some q2)))))))] ++ wfS E q2 u3) _ _ := w
  refine lv_iinc (v := (1 : Int32)) (lv' := [(1, .int (1 : Int32)), (0, .ref h0)]) hx hb dX1_init_32 hl (k := 0) rfl (by decide) (by decide) rfl (fun ls hl => ?_)
  refine lv_goto (tgt := 14) hx hb dX1_init_35 (by decide) ?_
  refine lv_iload_n hx hb dX1_init_14 rfl (lv_at hl 0 rfl) ?_
  refine lv_iconst (v := (4 : Int32)) hx hb dX1_init_15 (by decide) ?_
  refine lv_icmp_ge (tgt := 38) hx hb dX1_init_16 (by decide) (fun cc => absurd cc (by decide)) (fun _ => ?_)
  refine lv_aload_n hx hb dX1_init_19 rfl (lv_at hl 1 rfl) ?_
  refine y_get (q0 := 0) (k := 2) (v := .ref q1) C w rfl rfl inlX1 (by decide) q3_2 rfl dX1_init_20 ?_
  refine lv_iload_n hx hb dX1_init_23 rfl (lv_at hl 0 rfl) ?_
  refine y_new (ci := 3) (ty := tyX3) (fs := [.int 0, .int 0, .int 0, .int 0, .int 0, .int 0, .int 0, .null, .null, .null, .null]) C w rfl inlX3 tyX3_ok q3_1 q1_11 q1_12 (by decide) (show _ ≤ _ from Nat.le_of_ble_eq_true rfl) (show _ ≤ _ from Nat.le_of_ble_eq_true rfl) dX1_init_24 (fun q4 H w => ?_)
  replace w : Wc E A s (([(h0, .inr (1, [.int 0, .int 0, .ref q1])), (q1, .inl (E.2.1 3, 4, .inr (.inr (.inr (.inr (va_up (fun _ => none) 0 (some q2)))))))] ++ wfS E q2 u3) ++ [(q4, .inr (3, [.int 0, .int 0, .int 0, .int 0, .int 0, .int 0, .int 0, .null, .null, .null, .null]))]) _ _ := w
  refine lv_dup hx hb dX1_init_27 rfl ?_
  refine y_call (rest := [.ref q4, .int (1 : Int32), .ref q1]) (wr := [(h0, .inr (1, [.int 0, .int 0, .ref q1])), (q1, .inl (E.2.1 3, 4, .inr (.inr (.inr (.inr (va_up (fun _ => none) 0 (some q2)))))))] ++ wfS E q2 u3) (isR := [0, 1, 2, 3, 4, 5, 6, 7, 8, 9, 10, 11]) (qc := 12) C w (mtX3_init (E := E) (h0 := q4)) rfl rfl (by decide) (by decide) (cwI 0 hts (x_good q2_1) rfl rfl rfl (y_hts C q1_12) (y_hts C q3_3) (y_hts C q2_0) rfl ynX3_init ⟨by decide, by decide⟩) ⟨by decide, by decide⟩ hl.1 (Nat.le_of_ble_eq_true rfl) rfl dX1_init_28 (fun u5 H locs w => ?_)
  replace w : Wc E A s ([(h0, .inr (1, [.int 0, .int 0, .ref q1])), (q1, .inl (E.2.1 3, 4, .inr (.inr (.inr (.inr (va_up (fun _ => none) 0 (some q2)))))))] ++ wfS E q2 u3 ++ wfS E q4 u5) _ _ := w
  refine y_astQ (q0 := 1) (qk := 12) (t0 := 3) (ci := 3) C w rfl rfl rfl rfl (inb_k (k := 1) (by decide) (by decide)) dX1_init_31 (fun H locs w => ?_)
  replace w : Wc E A s ([(h0, .inr (1, [.int 0, .int 0, .ref q1])), (q1, .inl (E.2.1 3, 4, .inr (.inr (.inr (.inr (va_up (va_up (fun _ => none) 0 (some q2)) 1 (some q4)))))))] ++ wfS E q2 u3 ++ wfS E q4 u5) _ _ := w
  refine lv_iinc (v := (2 : Int32)) (lv' := [(1, .int (2 : Int32)), (0, .ref h0)]) hx hb dX1_init_32 hl (k := 0) rfl (by decide) (by decide) rfl (fun ls hl => ?_)
  refine lv_goto (tgt := 14) hx hb dX1_init_35 (by decide) ?_
  refine lv_iload_n hx hb dX1_init_14 rfl (lv_at hl 0 rfl) ?_
  refine lv_iconst (v := (4 : Int32)) hx hb dX1_init_15 (by decide) ?_
  refine lv_icmp_ge (tgt := 38) hx hb dX1_init_16 (by decide) (fun cc => absurd cc (by decide)) (fun _ => ?_)
  refine lv_aload_n hx hb dX1_init_19 rfl (lv_at hl 1 rfl) ?_
  refine y_get (q0 := 0) (k := 2) (v := .ref q1) C w rfl rfl inlX1 (by decide) q3_2 rfl dX1_init_20 ?_
  refine lv_iload_n hx hb dX1_init_23 rfl (lv_at hl 0 rfl) ?_
  refine y_new (ci := 3) (ty := tyX3) (fs := [.int 0, .int 0, .int 0, .int 0, .int 0, .int 0, .int 0, .null, .null, .null, .null]) C w rfl inlX3 tyX3_ok q3_1 q1_11 q1_12 (by decide) (show _ ≤ _ from Nat.le_of_ble_eq_true rfl) (show _ ≤ _ from Nat.le_of_ble_eq_true rfl) dX1_init_24 (fun q6 H w => ?_)
  replace w : Wc E A s (([(h0, .inr (1, [.int 0, .int 0, .ref q1])), (q1, .inl (E.2.1 3, 4, .inr (.inr (.inr (.inr (va_up (va_up (fun _ => none) 0 (some q2)) 1 (some q4)))))))] ++ wfS E q2 u3 ++ wfS E q4 u5) ++ [(q6, .inr (3, [.int 0, .int 0, .int 0, .int 0, .int 0, .int 0, .int 0, .null, .null, .null, .null]))]) _ _ := w
  refine lv_dup hx hb dX1_init_27 rfl ?_
  refine y_call (rest := [.ref q6, .int (2 : Int32), .ref q1]) (wr := [(h0, .inr (1, [.int 0, .int 0, .ref q1])), (q1, .inl (E.2.1 3, 4, .inr (.inr (.inr (.inr (va_up (va_up (fun _ => none) 0 (some q2)) 1 (some q4)))))))] ++ wfS E q2 u3 ++ wfS E q4 u5) (isR := [0, 1, 2, 3, 4, 5, 6, 7, 8, 9, 10, 11, 12, 13, 14, 15, 16, 17, 18, 19, 20, 21]) (qc := 22) C w (mtX3_init (E := E) (h0 := q6)) rfl rfl (by decide) (by decide) (cwI 0 hts (x_good q2_1) rfl rfl rfl (y_hts C q1_12) (y_hts C q3_3) (y_hts C q2_0) rfl ynX3_init ⟨by decide, by decide⟩) ⟨by decide, by decide⟩ hl.1 (Nat.le_of_ble_eq_true rfl) rfl dX1_init_28 (fun u7 H locs w => ?_)
  replace w : Wc E A s ([(h0, .inr (1, [.int 0, .int 0, .ref q1])), (q1, .inl (E.2.1 3, 4, .inr (.inr (.inr (.inr (va_up (va_up (fun _ => none) 0 (some q2)) 1 (some q4)))))))] ++ wfS E q2 u3 ++ wfS E q4 u5 ++ wfS E q6 u7) _ _ := w
  refine y_astQ (q0 := 1) (qk := 22) (t0 := 3) (ci := 3) C w rfl rfl rfl rfl (inb_k (k := 2) (by decide) (by decide)) dX1_init_31 (fun H locs w => ?_)
  replace w : Wc E A s ([(h0, .inr (1, [.int 0, .int 0, .ref q1])), (q1, .inl (E.2.1 3, 4, .inr (.inr (.inr (.inr (va_up (va_up (va_up (fun _ => none) 0 (some q2)) 1 (some q4)) 2 (some q6)))))))] ++ wfS E q2 u3 ++ wfS E q4 u5 ++ wfS E q6 u7) _ _ := w
  refine lv_iinc (v := (3 : Int32)) (lv' := [(1, .int (3 : Int32)), (0, .ref h0)]) hx hb dX1_init_32 hl (k := 0) rfl (by decide) (by decide) rfl (fun ls hl => ?_)
  refine lv_goto (tgt := 14) hx hb dX1_init_35 (by decide) ?_
  refine lv_iload_n hx hb dX1_init_14 rfl (lv_at hl 0 rfl) ?_
  refine lv_iconst (v := (4 : Int32)) hx hb dX1_init_15 (by decide) ?_
  refine lv_icmp_ge (tgt := 38) hx hb dX1_init_16 (by decide) (fun cc => absurd cc (by decide)) (fun _ => ?_)
  refine lv_aload_n hx hb dX1_init_19 rfl (lv_at hl 1 rfl) ?_
  refine y_get (q0 := 0) (k := 2) (v := .ref q1) C w rfl rfl inlX1 (by decide) q3_2 rfl dX1_init_20 ?_
  refine lv_iload_n hx hb dX1_init_23 rfl (lv_at hl 0 rfl) ?_
  refine y_new (ci := 3) (ty := tyX3) (fs := [.int 0, .int 0, .int 0, .int 0, .int 0, .int 0, .int 0, .null, .null, .null, .null]) C w rfl inlX3 tyX3_ok q3_1 q1_11 q1_12 (by decide) (show _ ≤ _ from Nat.le_of_ble_eq_true rfl) (show _ ≤ _ from Nat.le_of_ble_eq_true rfl) dX1_init_24 (fun q8 H w => ?_)
  replace w : Wc E A s (([(h0, .inr (1, [.int 0, .int 0, .ref q1])), (q1, .inl (E.2.1 3, 4, .inr (.inr (.inr (.inr (va_up (va_up (va_up (fun _ => none) 0 (some q2)) 1 (some q4)) 2 (some q6)))))))] ++ wfS E q2 u3 ++ wfS E q4 u5 ++ wfS E q6 u7) ++ [(q8, .inr (3, [.int 0, .int 0, .int 0, .int 0, .int 0, .int 0, .int 0, .null, .null, .null, .null]))]) _ _ := w
  refine lv_dup hx hb dX1_init_27 rfl ?_
  refine y_call (rest := [.ref q8, .int (3 : Int32), .ref q1]) (wr := [(h0, .inr (1, [.int 0, .int 0, .ref q1])), (q1, .inl (E.2.1 3, 4, .inr (.inr (.inr (.inr (va_up (va_up (va_up (fun _ => none) 0 (some q2)) 1 (some q4)) 2 (some q6)))))))] ++ wfS E q2 u3 ++ wfS E q4 u5 ++ wfS E q6 u7) (isR := [0, 1, 2, 3, 4, 5, 6, 7, 8, 9, 10, 11, 12, 13, 14, 15, 16, 17, 18, 19, 20, 21, 22, 23, 24, 25, 26, 27, 28, 29, 30, 31]) (qc := 32) C w (mtX3_init (E := E) (h0 := q8)) rfl rfl (by decide) (by decide) (cwI 0 hts (x_good q2_1) rfl rfl rfl (y_hts C q1_12) (y_hts C q3_3) (y_hts C q2_0) rfl ynX3_init ⟨by decide, by decide⟩) ⟨by decide, by decide⟩ hl.1 (Nat.le_of_ble_eq_true rfl) rfl dX1_init_28 (fun u9 H locs w => ?_)
  replace w : Wc E A s ([(h0, .inr (1, [.int 0, .int 0, .ref q1])), (q1, .inl (E.2.1 3, 4, .inr (.inr (.inr (.inr (va_up (va_up (va_up (fun _ => none) 0 (some q2)) 1 (some q4)) 2 (some q6)))))))] ++ wfS E q2 u3 ++ wfS E q4 u5 ++ wfS E q6 u7 ++ wfS E q8 u9) _ _ := w
  refine y_astQ (q0 := 1) (qk := 32) (t0 := 3) (ci := 3) C w rfl rfl rfl rfl (inb_k (k := 3) (by decide) (by decide)) dX1_init_31 (fun H locs w => ?_)
  replace w : Wc E A s ([(h0, .inr (1, [.int 0, .int 0, .ref q1])), (q1, .inl (E.2.1 3, 4, .inr (.inr (.inr (.inr (va_up (va_up (va_up (va_up (fun _ => none) 0 (some q2)) 1 (some q4)) 2 (some q6)) 3 (some q8)))))))] ++ wfS E q2 u3 ++ wfS E q4 u5 ++ wfS E q6 u7 ++ wfS E q8 u9) _ _ := w
  refine lv_iinc (v := (4 : Int32)) (lv' := [(1, .int (4 : Int32)), (0, .ref h0)]) hx hb dX1_init_32 hl (k := 0) rfl (by decide) (by decide) rfl (fun ls hl => ?_)
  refine lv_goto (tgt := 14) hx hb dX1_init_35 (by decide) ?_
  refine lv_iload_n hx hb dX1_init_14 rfl (lv_at hl 0 rfl) ?_
  refine lv_iconst (v := (4 : Int32)) hx hb dX1_init_15 (by decide) ?_
  refine lv_icmp_ge (tgt := 38) hx hb dX1_init_16 (by decide) (fun _ => ?_) (fun cc => absurd (by decide) cc)
  obtain ⟨u, hu⟩ : ∃ z : Nat → Nat, z = (fun i => if i = 1 then q1 else if i < 20 then (if i = 10 then q2 else u3 (i - 10)) else if i < 30 then (if i = 20 then q4 else u5 (i - 20)) else if i < 40 then (if i = 30 then q6 else u7 (i - 30)) else (if i = 40 then q8 else u9 (i - 40)) : Nat → Nat) := ⟨_, rfl⟩
  have eQ : (va_up (va_up (va_up (va_up (fun _ => none) 0 (some q2)) 1 (some q4)) 2 (some q6)) 3 (some q8) : Nat → Option Nat) = (fun i => if i < 4 then some (u (10 + 10 * i)) else none) := by
    funext i
    rcases i with _ | _ | _ | _ | i
    · rw [hu]; rfl
    · rw [hu]; rfl
    · rw [hu]; rfl
    · rw [hu]; rfl
    · rw [if_neg (by omega)]; simp [va_up]
  rw [eQ] at w
  rw [wfS_congr (E := E) (h := q2) (u := u3) (show q2 = u 10 by rw [hu]; rfl) (v := fun r => u (10 + r)) (fun r h1 h2 => by rw [hu]; show _ = _; dsimp only; rw [if_neg (by omega), if_pos (by omega), if_neg (by omega), show 10 + r - 10 = r by omega])] at w
  rw [wfS_congr (E := E) (h := q4) (u := u5) (show q4 = u 20 by rw [hu]; rfl) (v := fun r => u (20 + r)) (fun r h1 h2 => by rw [hu]; show _ = _; dsimp only; rw [if_neg (by omega), if_neg (by omega), if_pos (by omega), if_neg (by omega), show 20 + r - 20 = r by omega])] at w
  rw [wfS_congr (E := E) (h := q6) (u := u7) (show q6 = u 30 by rw [hu]; rfl) (v := fun r => u (30 + r)) (fun r h1 h2 => by rw [hu]; show _ = _; dsimp only; rw [if_neg (by omega), if_neg (by omega), if_neg (by omega), if_pos (by omega), if_neg (by omega), show 30 + r - 30 = r by omega])] at w
  rw [wfS_congr (E := E) (h := q8) (u := u9) (show q8 = u 40 by rw [hu]; rfl) (v := fun r => u (40 + r)) (fun r h1 h2 => by rw [hu]; show _ = _; dsimp only; rw [if_neg (by omega), if_neg (by omega), if_neg (by omega), if_neg (by omega), if_neg (by omega), show 40 + r - 40 = r by omega])] at w
  have w : Wc E A s (wfH E h0 u) H locs := by
    have e1 : q1 = u 1 := by rw [hu]; rfl
    rw [e1] at w; exact w
  exact y_ret (wf := wfH E h0) u C w (by decide) (by decide) dX1_init_38
theorem ynX1_init : yX1_init.cls ≠ "java/lang/invoke/MethodHandle" ∧ yX1_init.cls ≠ "java/lang/invoke/VarHandle" ∧ (parseMethodDescriptor yX1_init.desc).map (fun d => d.parameters.length) = some 0 := by decide +kernel
abbrev rmX2_init : Room := { frames := 1, cells := 3, slots := 300, locals := 24 }
abbrev wdX2_init : Cond := Cond.code yX2_init cX2_init 1 none
set_option maxRecDepth 20000 in
set_option maxHeartbeats 4000000 in
theorem mtX2_init {h0 : Nat} : MtC l yX2_init wdX2_init rmX2_init E h0 e0P (wfP E h0) 3 300 := by
  intro sz
  refine Met.ofW (cc := cX2_init) (maxL := 1) (ret := none) (by decide) rfl ?_
  intro p e s m args below meth c s₁ B hml hv
  obtain ⟨rfl, C, w⟩ := Cc.of (own := RX2) B rfl rfl hml hv
  generalize va_A [(h0, e0P)] sz = A at C w ⊢
  obtain ⟨hx, hb, hr, -, hown, hts, hlocks, hin, hKC, hA1⟩ := id C
  have hl := lv_entry ([.ref h0]) (n := 1) (Nat.le_of_ble_eq_true rfl)
  rw [lg_entry_eq]
  generalize (lg_sl ([.ref h0]) ++ List.replicate (1 - (lg_sl ([.ref h0])).length) Slot.unset).toArray = ls at hl ⊢
  have hl : lv_has ls 1 [(0, .ref h0)] := hl
  refine lv_aload_n hx hb dX2_init_0 rfl (lv_at hl 0 rfl) ?_
  refine y_obj C hl.1 q3_6 q1_8 q1_9 (by decide) (by decide) dX2_init_1 ?_
  refine lv_aload_n hx hb dX2_init_4 rfl (lv_at hl 0 rfl) ?_
  refine lv_bipush (v := (100 : Int32)) hx hb dX2_init_5 (by decide) ?_
  refine y_newI C w q2_5 (by decide) (N' := 100) (by decide) (by decide) (show _ ≤ _ from Nat.le_of_ble_eq_true rfl) (show _ ≤ _ from Nat.le_of_ble_eq_true rfl) dX2_init_7 (fun q1 H w => ?_)
  replace w : Wc E A s [(h0, .inr (2, [.int 0, .int 0, .int 0, .int 0, .null, .null, .null])), (q1, .inl (E.2.1 0, 100, .inl (fun _ => 0)))] _ _ := w
  refine y_putF (q0 := 0) (k := 4) (v := .ref q1) (ty := .array .int) C w rfl rfl inlX2 tyX2_ok nmX2 (by decide) q3_7 rfl rfl (by decide +kernel) rfl rfl (Nat.le_of_ble_eq_true rfl) dX2_init_9 (fun H locs w => ?_)
  replace w : Wc E A s ([(h0, .inr (2, [.int 0, .int 0, .int 0, .int 0, .ref q1, .null, .null])), (q1, .inl (E.2.1 0, 100, .inl (fun _ => 0)))]) _ _ := w
  refine lv_aload_n hx hb dX2_init_12 rfl (lv_at hl 0 rfl) ?_
  refine lv_bipush (v := (100 : Int32)) hx hb dX2_init_13 (by decide) ?_
  refine y_newI C w q2_5 (by decide) (N' := 100) (by decide) (by decide) (show _ ≤ _ from Nat.le_of_ble_eq_true rfl) (show _ ≤ _ from Nat.le_of_ble_eq_true rfl) dX2_init_15 (fun q2 H w => ?_)
  replace w : Wc E A s [(h0, .inr (2, [.int 0, .int 0, .int 0, .int 0, .ref q1, .null, .null])), (q1, .inl (E.2.1 0, 100, .inl (fun _ => 0))), (q2, .inl (E.2.1 0, 100, .inl (fun _ => 0)))] _ _ := w
  refine y_putF (q0 := 0) (k := 5) (v := .ref q2) (ty := .array .int) C w rfl rfl inlX2 tyX2_ok nmX2 (by decide) q3_8 rfl rfl (by decide +kernel) rfl rfl (Nat.le_of_ble_eq_true rfl) dX2_init_17 (fun H locs w => ?_)
  replace w : Wc E A s ([(h0, .inr (2, [.int 0, .int 0, .int 0, .int 0, .ref q1, .ref q2, .null])), (q1, .inl (E.2.1 0, 100, .inl (fun _ => 0))), (q2, .inl (E.2.1 0, 100, .inl (fun _ => 0)))]) _ _ := w
  refine lv_aload_n hx hb dX2_init_20 rfl (lv_at hl 0 rfl) ?_
  refine lv_bipush (v := (100 : Int32)) hx hb dX2_init_21 (by decide) ?_
  refine y_newI C w q2_5 (by decide) (N' := 100) (by decide) (by decide) (show _ ≤ _ from Nat.le_of_ble_eq_true rfl) (show _ ≤ _ from Nat.le_of_ble_eq_true rfl) dX2_init_23 (fun q3 H w => ?_)
  replace w : Wc E A s [(h0, .inr (2, [.int 0, .int 0, .int 0, .int 0, .ref q1, .ref q2, .null])), (q1, .inl (E.2.1 0, 100, .inl (fun _ => 0))), (q2, .inl (E.2.1 0, 100, .inl (fun _ => 0))), (q3, .inl (E.2.1 0, 100, .inl (fun _ => 0)))] _ _ := w
  refine y_putF (q0 := 0) (k := 6) (v := .ref q3) (ty := .array .int) C w rfl rfl inlX2 tyX2_ok nmX2 (by decide) q3_9 rfl rfl (by decide +kernel) rfl rfl (Nat.le_of_ble_eq_true rfl) dX2_init_25 (fun H locs w => ?_)
  replace w : Wc E A s ([(h0, .inr (2, [.int 0, .int 0, .int 0, .int 0, .ref q1, .ref q2, .ref q3])), (q1, .inl (E.2.1 0, 100, .inl (fun _ => 0))), (q2, .inl (E.2.1 0, 100, .inl (fun _ => 0))), (q3, .inl (E.2.1 0, 100, .inl (fun _ => 0)))]) _ _ := w
  exact y_ret (wf := wfP E h0) (fun i => [0, q1, q2, q3].getD i 0) C w (by decide) (by decide) dX2_init_28
theorem ynX2_init : yX2_init.cls ≠ "java/lang/invoke/MethodHandle" ∧ yX2_init.cls ≠ "java/lang/invoke/VarHandle" ∧ (parseMethodDescriptor yX2_init.desc).map (fun d => d.parameters.length) = some 0 := by decide +kernel
abbrev rmX4_init : Room := { frames := 4, cells := 66, slots := 770, locals := 86 }
abbrev wdX4_init : Cond := Cond.code yX4_init cX4_init 1 none
set_option maxRecDepth 20000 in
set_option maxHeartbeats 4000000 in
theorem mtX4_init {h0 : Nat} : MtC l yX4_init wdX4_init rmX4_init E h0 e0A (wfA E h0) 66 770 := by
  intro sz
  refine Met.ofW (cc := cX4_init) (maxL := 1) (ret := none) (by decide) rfl ?_
  intro p e s m args below meth c s₁ B hml hv
  obtain ⟨rfl, C, w⟩ := Cc.of (own := RX4) B rfl rfl hml hv
  generalize va_A [(h0, e0A)] sz = A at C w ⊢
  obtain ⟨hx, hb, hr, -, hown, hts, hlocks, hin, hKC, hA1⟩ := id C
  have hl := lv_entry ([.ref h0]) (n := 1) (Nat.le_of_ble_eq_true rfl)
  rw [lg_entry_eq]
  generalize (lg_sl ([.ref h0]) ++ List.replicate (1 - (lg_sl ([.ref h0])).length) Slot.unset).toArray = ls at hl ⊢
  have hl : lv_has ls 1 [(0, .ref h0)] := hl
  refine lv_aload_n hx hb dX4_init_0 rfl (lv_at hl 0 rfl) ?_
  refine y_obj C hl.1 q1_7 q1_8 q1_9 (by decide) (by decide) dX4_init_1 ?_
  refine lv_aload_n hx hb dX4_init_4 rfl (lv_at hl 0 rfl) ?_
  refine y_new (ci := 3) (ty := tyX3) (fs := [.int 0, .int 0, .int 0, .int 0, .int 0, .int 0, .int 0, .null, .null, .null, .null]) C w rfl inlX3 tyX3_ok q1_10 q1_11 q1_12 (by decide) (show _ ≤ _ from Nat.le_of_ble_eq_true rfl) (show _ ≤ _ from Nat.le_of_ble_eq_true rfl) dX4_init_5 (fun q1 H w => ?_)
  replace w : Wc E A s (([(h0, .inr (4, [.null, .null, .null, .null]))]) ++ [(q1, .inr (3, [.int 0, .int 0, .int 0, .int 0, .int 0, .int 0, .int 0, .null, .null, .null, .null]))]) _ _ := w
  refine lv_dup hx hb dX4_init_8 rfl ?_
  refine y_call (rest := [.ref q1, .ref h0]) (wr := [(h0, .inr (4, [.null, .null, .null, .null]))]) (isR := [0]) (qc := 1) C w (mtX3_init (E := E) (h0 := q1)) rfl rfl (by decide) (by decide) (cwI 0 hts (x_good q2_1) rfl rfl rfl (y_hts C q1_12) (y_hts C q1_23) (y_hts C q2_0) rfl ynX3_init ⟨by decide, by decide⟩) ⟨by decide, by decide⟩ hl.1 (Nat.le_of_ble_eq_true rfl) rfl dX4_init_9 (fun u2 H locs w => ?_)
  replace w : Wc E A s ([(h0, .inr (4, [.null, .null, .null, .null]))] ++ wfS E q1 u2) _ _ := w
  refine y_putF (q0 := 0) (k := 0) (v := .ref q1) (ty := .object "AirStation$State") C w rfl rfl inlX4 tyX4_ok nmX4 (by decide) q1_13 rfl rfl (by decide +kernel) rfl rfl (Nat.le_of_ble_eq_true rfl) dX4_init_12 (fun H locs w => ?_)
  replace w : Wc E A s ([(h0, .inr (4, [.ref q1, .null, .null, .null]))] ++ wfS E q1 u2) _ _ := w
  refine lv_aload_n hx hb dX4_init_15 rfl (lv_at hl 0 rfl) ?_
  refine y_new (ci := 3) (ty := tyX3) (fs := [.int 0, .int 0, .int 0, .int 0, .int 0, .int 0, .int 0, .null, .null, .null, .null]) C w rfl inlX3 tyX3_ok q1_10 q1_11 q1_12 (by decide) (show _ ≤ _ from Nat.le_of_ble_eq_true rfl) (show _ ≤ _ from Nat.le_of_ble_eq_true rfl) dX4_init_16 (fun q3 H w => ?_)
  replace w : Wc E A s (([(h0, .inr (4, [.ref q1, .null, .null, .null]))] ++ wfS E q1 u2) ++ [(q3, .inr (3, [.int 0, .int 0, .int 0, .int 0, .int 0, .int 0, .int 0, .null, .null, .null, .null]))]) _ _ := w
  refine lv_dup hx hb dX4_init_19 rfl ?_
  refine y_call (rest := [.ref q3, .ref h0]) (wr := [(h0, .inr (4, [.ref q1, .null, .null, .null]))] ++ wfS E q1 u2) (isR := [0, 1, 2, 3, 4, 5, 6, 7, 8, 9, 10]) (qc := 11) C w (mtX3_init (E := E) (h0 := q3)) rfl rfl (by decide) (by decide) (cwI 0 hts (x_good q2_1) rfl rfl rfl (y_hts C q1_12) (y_hts C q1_23) (y_hts C q2_0) rfl ynX3_init ⟨by decide, by decide⟩) ⟨by decide, by decide⟩ hl.1 (Nat.le_of_ble_eq_true rfl) rfl dX4_init_20 (fun u4 H locs w => ?_)
  replace w : Wc E A s ([(h0, .inr (4, [.ref q1, .null, .null, .null]))] ++ wfS E q1 u2 ++ wfS E q3 u4) _ _ := w
  refine y_putF (q0 := 0) (k := 1) (v := .ref q3) (ty := .object "AirStation$State") C w rfl rfl inlX4 tyX4_ok nmX4 (by decide) q1_14 rfl rfl (by decide +kernel) rfl rfl (Nat.le_of_ble_eq_true rfl) dX4_init_23 (fun H locs w => ?_)
  replace w : Wc E A s ([(h0, .inr (4, [.ref q1, .ref q3, .null, .null]))] ++ wfS E q1 u2 ++ wfS E q3 u4) _ _ := w
  refine lv_aload_n hx hb dX4_init_26 rfl (lv_at hl 0 rfl) ?_
  refine y_new (ci := 1) (ty := tyX1) (fs := [.int 0, .int 0, .null]) C w rfl inlX1 tyX1_ok q1_15 q1_16 q1_17 (by decide) (show _ ≤ _ from Nat.le_of_ble_eq_true rfl) (show _ ≤ _ from Nat.le_of_ble_eq_true rfl) dX4_init_27 (fun q5 H w => ?_)
  replace w : Wc E A s (([(h0, .inr (4, [.ref q1, .ref q3, .null, .null]))] ++ wfS E q1 u2 ++ wfS E q3 u4) ++ [(q5, .inr (1, [.int 0, .int 0, .null]))]) _ _ := w
  refine lv_dup hx hb dX4_init_30 rfl ?_
  refine y_call (rest := [.ref q5, .ref h0]) (wr := [(h0, .inr (4, [.ref q1, .ref q3, .null, .null]))] ++ wfS E q1 u2 ++ wfS E q3 u4) (isR := [0, 1, 2, 3, 4, 5, 6, 7, 8, 9, 10, 11, 12, 13, 14, 15, 16, 17, 18, 19, 20]) (qc := 21) C w (mtX1_init (E := E) (h0 := q5)) rfl rfl (by decide) (by decide) (cwI 0 hts (x_good q2_23) rfl rfl rfl (y_hts C q1_17) (y_hts C q2_21) (y_hts C q2_22) rfl ynX1_init ⟨by decide, by decide⟩) ⟨by decide, by decide⟩ hl.1 (Nat.le_of_ble_eq_true rfl) rfl dX4_init_31 (fun u6 H locs w => ?_)
  replace w : Wc E A s ([(h0, .inr (4, [.ref q1, .ref q3, .null, .null]))] ++ wfS E q1 u2 ++ wfS E q3 u4 ++ wfH E q5 u6) _ _ := w
  refine y_putF (q0 := 0) (k := 2) (v := .ref q5) (ty := .object "AirStation$History") C w rfl rfl inlX4 tyX4_ok nmX4 (by decide) q1_18 rfl rfl (by decide +kernel) rfl rfl (Nat.le_of_ble_eq_true rfl) dX4_init_34 (fun H locs w => ?_)
  replace w : Wc E A s ([(h0, .inr (4, [.ref q1, .ref q3, .ref q5, .null]))] ++ wfS E q1 u2 ++ wfS E q3 u4 ++ wfH E q5 u6) _ _ := w
  refine lv_aload_n hx hb dX4_init_37 rfl (lv_at hl 0 rfl) ?_
  refine y_new (ci := 2) (ty := tyX2) (fs := [.int 0, .int 0, .int 0, .int 0, .null, .null, .null]) C w rfl inlX2 tyX2_ok q1_19 q1_20 q1_21 (by decide) (show _ ≤ _ from Nat.le_of_ble_eq_true rfl) (show _ ≤ _ from Nat.le_of_ble_eq_true rfl) dX4_init_38 (fun q7 H w => ?_)
  replace w : Wc E A s (([(h0, .inr (4, [.ref q1, .ref q3, .ref q5, .null]))] ++ wfS E q1 u2 ++ wfS E q3 u4 ++ wfH E q5 u6) ++ [(q7, .inr (2, [.int 0, .int 0, .int 0, .int 0, .null, .null, .null]))]) _ _ := w
  refine lv_dup hx hb dX4_init_41 rfl ?_
  refine y_callN (rest := [.ref q7, .ref h0]) (wr := [(h0, .inr (4, [.ref q1, .ref q3, .ref q5, .null]))] ++ wfS E q1 u2 ++ wfS E q3 u4 ++ wfH E q5 u6) (isR := [0, 1, 2, 3, 4, 5, 6, 7, 8, 9, 10, 11, 12, 13, 14, 15, 16, 17, 18, 19, 20, 21, 22, 23, 24, 25, 26, 27, 28, 29, 30, 31, 32, 33, 34, 35, 36, 37, 38, 39, 40, 41, 42, 43, 44, 45, 46, 47, 48, 49, 50, 51, 52, 53, 54, 55, 56, 57, 58, 59, 60, 61, 62]) (qc := 63) C w (mtX2_init (E := E) (h0 := q7)) rfl rfl (by decide) (by decide) ⟨va_cnB 0 hts (x_good q3_5) rfl rfl rfl (hKC.2.2.2.1 _ (List.mem_of_getElem? (i := 1) rfl)) (y_hts C q1_21) ynX2_init ⟨by decide, by decide⟩, rfl, y_hts C q3_4⟩ ⟨by decide, by decide⟩ hl.1 (Nat.le_of_ble_eq_true rfl) rfl dX4_init_42 (fun u8 H locs w => ?_)
  replace w : Wc E A s ([(h0, .inr (4, [.ref q1, .ref q3, .ref q5, .null]))] ++ wfS E q1 u2 ++ wfS E q3 u4 ++ wfH E q5 u6 ++ wfP E q7 u8) _ _ := w
  refine y_putF (q0 := 0) (k := 3) (v := .ref q7) (ty := .object "AirStation$Program") C w rfl rfl inlX4 tyX4_ok nmX4 (by decide) q1_22 rfl rfl (by decide +kernel) rfl rfl (Nat.le_of_ble_eq_true rfl) dX4_init_45 (fun H locs w => ?_)
  replace w : Wc E A s ([(h0, .inr (4, [.ref q1, .ref q3, .ref q5, .ref q7]))] ++ wfS E q1 u2 ++ wfS E q3 u4 ++ wfH E q5 u6 ++ wfP E q7 u8) _ _ := w
  obtain ⟨u, hu⟩ : ∃ z : Nat → Nat, z = (fun i => if i < 20 then (if i = 10 then q1 else u2 (i - 10)) else if i < 30 then (if i = 20 then q3 else u4 (i - 20)) else if i < 80 then (if i = 30 then q5 else u6 (i - 30)) else (if i = 80 then q7 else u8 (i - 80)) : Nat → Nat) := ⟨_, rfl⟩
  rw [wfS_congr (E := E) (h := q1) (u := u2) (show q1 = u 10 by rw [hu]; rfl) (v := fun r => u (10 + r)) (fun r h1 h2 => by rw [hu]; dsimp only; rw [if_pos (by omega), if_neg (by omega), show 10 + r - 10 = r by omega])] at w
  rw [wfS_congr (E := E) (h := q3) (u := u4) (show q3 = u 20 by rw [hu]; rfl) (v := fun r => u (20 + r)) (fun r h1 h2 => by rw [hu]; dsimp only; rw [if_neg (by omega), if_pos (by omega), if_neg (by omega), show 20 + r - 20 = r by omega])] at w
  rw [wfH_congr (E := E) (h := q5) (u := u6) (show q5 = u 30 by rw [hu]; rfl) (v := fun r => u (30 + r)) (fun r h1 h2 => by rw [hu]; dsimp only; rw [if_neg (by omega), if_neg (by omega), if_pos (by omega), if_neg (by omega), show 30 + r - 30 = r by omega])] at w
  have w : Wc E A s (wfA E h0 u) H locs := by
    have e10 : q1 = u 10 := by rw [hu]; rfl
    have e20 : q3 = u 20 := by rw [hu]; rfl
    have e30 : q5 = u 30 := by rw [hu]; rfl
    have e80 : q7 = u 80 := by rw [hu]; rfl
    have p1 : u8 1 = u (80 + 1) := by rw [hu]; rfl
    have p2 : u8 2 = u (80 + 2) := by rw [hu]; rfl
    have p3 : u8 3 = u (80 + 3) := by rw [hu]; rfl
    have eP : wfP E q7 u8 = wfP E (u 80) (fun r => u (80 + r)) := by unfold wfP; rw [e80, p1, p2, p3]
    rw [eP, e10, e20, e30, e80] at w; exact w
  exact y_ret (wf := wfA E h0) u C w (by decide) (by decide) dX4_init_48
theorem ynX4_init : yX4_init.cls ≠ "java/lang/invoke/MethodHandle" ∧ yX4_init.cls ≠ "java/lang/invoke/VarHandle" ∧ (parseMethodDescriptor yX4_init.desc).map (fun d => d.parameters.length) = some 0 := by decide +kernel
end XCT
