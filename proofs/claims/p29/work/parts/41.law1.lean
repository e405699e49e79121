section XLW
variable {E : WE} {A : Nat → Prop} {p : Program} {l : Launch} {e : Env} {s : State} {m : MethodId} {below : List Frame} {meth : Method} {c : Code} {H : Heap} {locs : List Loc} {ls : Array Slot} {G : M3} {K : J3} {F : Nat} {b L c0 s0 : Nat} {xs : Nat → Int32}
noncomputable def fbL_law_592 (F : Nat) (k98 : Int32 → M3 → J3 → Option Int32) (xs : Nat → Int32) (L : Nat) (a3 : Int32) (G : M3) (K : J3) : Option Int32 := bdh (fL_holds F G K) (fun G1 K2 => k98 (a3 + (1 : Int32)) G1 K2)
set_option maxRecDepth 20000 in
set_option maxHeartbeats 1000000 in
theorem TL_law_592  {k98 : Int32 → M3 → J3 → Option Int32} (C : Cx E A p s m #[Value.ref b] meth c (Cond.initialized RX4) code 16 ret RL) (hst : l.stackTraces = false) (hX : va_X b L xs s s.heap) (hbl : b < s.heap.size) (hbA : ¬ A b) (hAn : ∀ q, A q → s.heap.size ≤ q) (hRB : RB c0 s0) (hk98 : ∀ (a3 : Int32) (G : M3) (K : J3)  (ls : Array Slot) (H : Heap) (locs : List Loc), k98 a3 G K = some 1 → Wd E A s G K H locs → lv_has ls 16 [(0, .ref b), (1, .ref (ad E 6 0)), (2, .int (1 : Int32)), (3, .int a3)] → W p l e room_1 s m #[Value.ref b] below meth c H locs c0 s0 (lw_Z below #[Value.ref b] s) (F0 m 98 ls [])) (a3 : Int32) (G : M3) (K : J3)  (h : fbL_law_592 F k98 xs L a3 G K = some 1) (w : Wd E A s G K H locs) (hl : lv_has ls 16 [(0, .ref b), (1, .ref (ad E 6 0)), (2, .int (1 : Int32)), (3, .int a3)]) : W p l e room_1 s m #[Value.ref b] below meth c H locs c0 s0 (lw_Z below #[Value.ref b] s) (F0 m 592 ls []) := by
  obtain ⟨hx, hb, hr, hml, hown, hts, hlocks, hKK, hA1, hA2⟩ := id C
  unfold fbL_law_592 at h
  refine lv_iload_n hx hb dL_law_592 rfl (lv_at hl 2 rfl) ?_
  refine lv_if_eq (tgt := 607) hx hb dL_law_593 (by decide) (fun cc => absurd cc (by decide)) (fun _ => ?_)
  refine lv_aload_n hx hb dL_law_596 rfl (lv_at hl 1 rfl) ?_
  obtain ⟨G1, K2, hv3, h⟩ := bdh_of h
  refine x_cSi (As := [.ref (ad E 6 0)]) (rest := []) C w (mtL_holds hst hv3) q3_10 q3_11 q3_12 q3_13 ydL_holds ⟨rfl, rfl⟩ ⟨by decide, by decide⟩ (rb0 hRB) hl.1 (by exact Nat.le_of_ble_eq_true rfl) rfl dL_law_597 (fun H locs w => ?_)
  refine lv_if_eq (tgt := 607) hx hb dL_law_600 (by decide) (fun cc => absurd cc (by decide)) (fun _ => ?_)
  refine lv_iconst (v := (1 : Int32)) hx hb dL_law_603 (by decide) ?_
  refine lv_goto (tgt := 608) hx hb dL_law_604 (by decide) ?_
  refine lv_istore_n (lv' := [(2, .int (1 : Int32)), (0, .ref b), (1, .ref (ad E 6 0)), (3, .int a3)]) hx hb dL_law_608 rfl hl (by decide) rfl (fun ls hl => ?_)
  refine lv_iinc (v := (a3 + (1 : Int32))) (lv' := [(3, .int (a3 + (1 : Int32))), (2, .int (1 : Int32)), (0, .ref b), (1, .ref (ad E 6 0))]) hx hb dL_law_609 hl (k := 3) rfl (congrArg (HAdd.hAdd _) (by decide)) (by decide) rfl (fun ls hl => ?_)
  refine lv_goto (tgt := 98) hx hb dL_law_612 (by decide) ?_
  exact hk98 _ _ _ _ _ _ h w (lv_sub hl [2, 3, 1, 0] rfl)
noncomputable def fbL_law_337 (F : Nat) (k98 : Int32 → M3 → J3 → Option Int32) (xs : Nat → Int32) (L : Nat) (a3 : Int32) (G : M3) (K : J3) : Option Int32 := fbL_law_592 F k98 xs L a3 G K
set_option maxRecDepth 20000 in
set_option maxHeartbeats 1000000 in
theorem TL_law_337  {k98 : Int32 → M3 → J3 → Option Int32} (C : Cx E A p s m #[Value.ref b] meth c (Cond.initialized RX4) code 16 ret RL) (hst : l.stackTraces = false) (hX : va_X b L xs s s.heap) (hbl : b < s.heap.size) (hbA : ¬ A b) (hAn : ∀ q, A q → s.heap.size ≤ q) (hRB : RB c0 s0) (hk98 : ∀ (a3 : Int32) (G : M3) (K : J3)  (ls : Array Slot) (H : Heap) (locs : List Loc), k98 a3 G K = some 1 → Wd E A s G K H locs → lv_has ls 16 [(0, .ref b), (1, .ref (ad E 6 0)), (2, .int (1 : Int32)), (3, .int a3)] → W p l e room_1 s m #[Value.ref b] below meth c H locs c0 s0 (lw_Z below #[Value.ref b] s) (F0 m 98 ls [])) (a3 : Int32) (G : M3) (K : J3)  (h : fbL_law_337 F k98 xs L a3 G K = some 1) (w : Wd E A s G K H locs) (hl : lv_has ls 16 [(0, .ref b), (1, .ref (ad E 6 0)), (3, .int a3)]) : W p l e room_1 s m #[Value.ref b] below meth c H locs c0 s0 (lw_Z below #[Value.ref b] s) (F0 m 337 ls [.int (1 : Int32)]) := by
  obtain ⟨hx, hb, hr, hml, hown, hts, hlocks, hKK, hA1, hA2⟩ := id C
  unfold fbL_law_337 at h
  refine lv_istore_n (lv' := [(2, .int (1 : Int32)), (0, .ref b), (1, .ref (ad E 6 0)), (3, .int a3)]) hx hb dL_law_337 rfl hl (by decide) rfl (fun ls hl => ?_)
  refine lv_goto (tgt := 592) hx hb dL_law_338 (by decide) ?_
  exact TL_law_592 C hst hX hbl hbA hAn hRB hk98 _ _ _ h w (lv_sub hl [1, 2, 0, 3] rfl)
noncomputable def fbL_law_526 (F : Nat) (k98 : Int32 → M3 → J3 → Option Int32) (k457 : Int32 → Int32 → M3 → J3 → Option Int32) (xs : Nat → Int32) (L : Nat) (a3 : Int32) (a13 : Int32) (G : M3) (K : J3) : Option Int32 := k457 a3 (a13 + (1 : Int32)) G K
set_option maxRecDepth 20000 in
set_option maxHeartbeats 1000000 in
theorem TL_law_526  {k98 : Int32 → M3 → J3 → Option Int32} {k457 : Int32 → Int32 → M3 → J3 → Option Int32} (C : Cx E A p s m #[Value.ref b] meth c (Cond.initialized RX4) code 16 ret RL) (hst : l.stackTraces = false) (hX : va_X b L xs s s.heap) (hbl : b < s.heap.size) (hbA : ¬ A b) (hAn : ∀ q, A q → s.heap.size ≤ q) (hRB : RB c0 s0) (hk98 : ∀ (a3 : Int32) (G : M3) (K : J3)  (ls : Array Slot) (H : Heap) (locs : List Loc), k98 a3 G K = some 1 → Wd E A s G K H locs → lv_has ls 16 [(0, .ref b), (1, .ref (ad E 6 0)), (2, .int (1 : Int32)), (3, .int a3)] → W p l e room_1 s m #[Value.ref b] below meth c H locs c0 s0 (lw_Z below #[Value.ref b] s) (F0 m 98 ls [])) (hk457 : ∀ (a3 : Int32) (a13 : Int32) (G : M3) (K : J3)  (ls : Array Slot) (H : Heap) (locs : List Loc), k457 a3 a13 G K = some 1 → Wd E A s G K H locs → lv_has ls 16 [(0, .ref b), (1, .ref (ad E 6 0)), (2, .int (1 : Int32)), (3, .int a3), (13, .int a13)] → W p l e room_1 s m #[Value.ref b] below meth c H locs c0 s0 (lw_Z below #[Value.ref b] s) (F0 m 457 ls [])) (a3 : Int32) (a13 : Int32) (G : M3) (K : J3)  (h : fbL_law_526 F k98 k457 xs L a3 a13 G K = some 1) (w : Wd E A s G K H locs) (hl : lv_has ls 16 [(0, .ref b), (1, .ref (ad E 6 0)), (3, .int a3), (13, .int a13)]) : W p l e room_1 s m #[Value.ref b] below meth c H locs c0 s0 (lw_Z below #[Value.ref b] s) (F0 m 526 ls []) := by
  obtain ⟨hx, hb, hr, hml, hown, hts, hlocks, hKK, hA1, hA2⟩ := id C
  unfold fbL_law_526 at h
  refine lv_iconst (v := (1 : Int32)) hx hb dL_law_526 (by decide) ?_
  refine lv_goto (tgt := 531) hx hb dL_law_527 (by decide) ?_
  refine lv_istore_n (lv' := [(2, .int (1 : Int32)), (0, .ref b), (1, .ref (ad E 6 0)), (3, .int a3), (13, .int a13)]) hx hb dL_law_531 rfl hl (by decide) rfl (fun ls hl => ?_)
  refine lv_iinc (v := (a13 + (1 : Int32))) (lv' := [(13, .int (a13 + (1 : Int32))), (2, .int (1 : Int32)), (0, .ref b), (1, .ref (ad E 6 0)), (3, .int a3)]) hx hb dL_law_532 hl (k := 4) rfl (congrArg (HAdd.hAdd _) (by decide)) (by decide) rfl (fun ls hl => ?_)
  refine lv_goto (tgt := 457) hx hb dL_law_535 (by decide) ?_
  exact hk457 _ _ _ _ _ _ _ h w (lv_sub hl [2, 3, 1, 4, 0] rfl)
noncomputable def fsL_law_457 (F : Nat) (k98 : Int32 → M3 → J3 → Option Int32) (xs : Nat → Int32) (L : Nat) (k457 : Int32 → Int32 → M3 → J3 → Option Int32) : Int32 → Int32 → M3 → J3 → Option Int32 := fun a3 a13 G K => (if (4 : Int32) ≤ a13 then (fbL_law_592 F k98 xs L a3 G K) else (bdz (fX4_atStage F (a13 - (1 : Int32)) G K) (fun vv2 G3 K4 => bdz (fX4_atStage F a13 G3 K4) (fun vv6 G7 K8 => bdz (fX4_compressor vv2 (3 : Int32) G7 K8) (fun vv10 G11 K12 => bdz (fX4_compressor vv6 (3 : Int32) G11 K12) (fun vv14 G15 K16 => (if vv10 < vv14 then (fbL_law_526 F k98 k457 xs L a3 a13 G15 K16) else (bdz (fX4_compressor vv2 (3 : Int32) G15 K16) (fun vv19 G20 K21 => bdz (fX4_compressor vv6 (3 : Int32) G20 K21) (fun vv23 G24 K25 => chk (vv19 = vv23) (chk (¬ vv6 ≤ vv2) (fbL_law_526 F k98 k457 xs L a3 a13 G24 K25))))))))))))
noncomputable def fbL_law_457 (F : Nat) (k98 : Int32 → M3 → J3 → Option Int32) (xs : Nat → Int32) (L : Nat) (n : Nat) : Int32 → Int32 → M3 → J3 → Option Int32 := itr (fsL_law_457 F k98 xs L) (fun _ _ _ _ => none) n
set_option maxRecDepth 20000 in
set_option maxHeartbeats 1000000 in
theorem SL_law_457  {k98 : Int32 → M3 → J3 → Option Int32} {k457 : Int32 → Int32 → M3 → J3 → Option Int32} (C : Cx E A p s m #[Value.ref b] meth c (Cond.initialized RX4) code 16 ret RL) (hst : l.stackTraces = false) (hX : va_X b L xs s s.heap) (hbl : b < s.heap.size) (hbA : ¬ A b) (hAn : ∀ q, A q → s.heap.size ≤ q) (hRB : RB c0 s0) (hk98 : ∀ (a3 : Int32) (G : M3) (K : J3)  (ls : Array Slot) (H : Heap) (locs : List Loc), k98 a3 G K = some 1 → Wd E A s G K H locs → lv_has ls 16 [(0, .ref b), (1, .ref (ad E 6 0)), (2, .int (1 : Int32)), (3, .int a3)] → W p l e room_1 s m #[Value.ref b] below meth c H locs c0 s0 (lw_Z below #[Value.ref b] s) (F0 m 98 ls [])) (hk457 : ∀ (a3 : Int32) (a13 : Int32) (G : M3) (K : J3)  (ls : Array Slot) (H : Heap) (locs : List Loc), k457 a3 a13 G K = some 1 → Wd E A s G K H locs → lv_has ls 16 [(0, .ref b), (1, .ref (ad E 6 0)), (2, .int (1 : Int32)), (3, .int a3), (13, .int a13)] → W p l e room_1 s m #[Value.ref b] below meth c H locs c0 s0 (lw_Z below #[Value.ref b] s) (F0 m 457 ls [])) (a3 : Int32) (a13 : Int32) (G : M3) (K : J3)  (h : fsL_law_457 F k98 xs L k457 a3 a13 G K = some 1) (w : Wd E A s G K H locs) (hl : lv_has ls 16 [(0, .ref b), (1, .ref (ad E 6 0)), (2, .int (1 : Int32)), (3, .int a3), (13, .int a13)]) : W p l e room_1 s m #[Value.ref b] below meth c H locs c0 s0 (lw_Z below #[Value.ref b] s) (F0 m 457 ls []) := by
  obtain ⟨hx, hb, hr, hml, hown, hts, hlocks, hKK, hA1, hA2⟩ := id C
  unfold fsL_law_457 at h
  refine lv_iload hx hb dL_law_457 (lv_at hl 4 rfl) ?_
  refine lv_iconst (v := (4 : Int32)) hx hb dL_law_459 (by decide) ?_
  refine lv_icmp_ge (tgt := 538) hx hb dL_law_460 (by decide) (fun c1 => ?_) (fun c1 => ?_)
  · replace h := ite_t h c1
    refine lv_goto (tgt := 592) hx hb dL_law_538 (by decide) ?_
    exact TL_law_592 C hst hX hbl hbA hAn hRB hk98 _ _ _ h w (lv_sub hl [0, 1, 2, 3] rfl)
  · replace h := ite_f h c1
    refine lv_iload_n hx hb dL_law_463 rfl (lv_at hl 2 rfl) ?_
    refine lv_if_eq (tgt := 538) hx hb dL_law_464 (by decide) (fun cc => absurd cc (by decide)) (fun _ => ?_)
    refine lv_aload_n hx hb dL_law_467 rfl (lv_at hl 1 rfl) ?_
    refine lv_iload hx hb dL_law_468 (lv_at hl 4 rfl) ?_
    refine lv_iconst (v := (1 : Int32)) hx hb dL_law_470 (by decide) ?_
    refine lv_isub hx hb dL_law_471 ?_
    obtain ⟨vv2, G3, K4, hv5, h⟩ := bdz_of h
    refine x_cZi (As := [.ref (ad E 6 0), .int (a13 - (1 : Int32))]) (rest := []) C w (mzL_atStage hst hv5) q7_2 q7_3 q3_12 q7_4 ynL_atStage ⟨rfl, rfl⟩ ⟨by decide, by decide⟩ (rb0 hRB) hl.1 (by exact Nat.le_of_ble_eq_true rfl) rfl dL_law_472 (fun H locs w => ?_)
    refine lv_istore (lv' := [(14, .int vv2), (0, .ref b), (1, .ref (ad E 6 0)), (2, .int (1 : Int32)), (3, .int a3), (13, .int a13)]) hx hb dL_law_475 hl (by decide) rfl (fun ls hl => ?_)
    refine lv_aload_n hx hb dL_law_477 rfl (lv_at hl 2 rfl) ?_
    refine lv_iload hx hb dL_law_478 (lv_at hl 5 rfl) ?_
    obtain ⟨vv6, G7, K8, hv9, h⟩ := bdz_of h
    refine x_cZi (As := [.ref (ad E 6 0), .int a13]) (rest := []) C w (mzL_atStage hst hv9) q7_2 q7_3 q3_12 q7_4 ynL_atStage ⟨rfl, rfl⟩ ⟨by decide, by decide⟩ (rb0 hRB) hl.1 (by exact Nat.le_of_ble_eq_true rfl) rfl dL_law_480 (fun H locs w => ?_)
    refine lv_istore (lv' := [(15, .int vv6), (14, .int vv2), (0, .ref b), (1, .ref (ad E 6 0)), (2, .int (1 : Int32)), (3, .int a3), (13, .int a13)]) hx hb dL_law_483 hl (by decide) rfl (fun ls hl => ?_)
    refine lv_aload_n hx hb dL_law_485 rfl (lv_at hl 3 rfl) ?_
    refine lv_iload hx hb dL_law_486 (lv_at hl 1 rfl) ?_
    refine lv_iconst (v := (3 : Int32)) hx hb dL_law_488 (by decide) ?_
    obtain ⟨vv10, G11, K12, hv13, h⟩ := bdz_of h
    refine x_cZi (As := [.ref (ad E 6 0), .int vv2, .int (3 : Int32)]) (rest := []) C w (mzL_its hst hv13) q5_20 q5_21 q3_12 q5_22 ynL_its ⟨rfl, rfl⟩ ⟨by decide, by decide⟩ (rb0 hRB) hl.1 (by exact Nat.le_of_ble_eq_true rfl) rfl dL_law_489 (fun H locs w => ?_)
    refine lv_aload_n hx hb dL_law_492 rfl (lv_at hl 3 rfl) ?_
    refine lv_iload hx hb dL_law_493 (lv_at hl 0 rfl) ?_
    refine lv_iconst (v := (3 : Int32)) hx hb dL_law_495 (by decide) ?_
    obtain ⟨vv14, G15, K16, hv17, h⟩ := bdz_of h
    refine x_cZi (As := [.ref (ad E 6 0), .int vv6, .int (3 : Int32)]) (rest := [.int vv10]) C w (mzL_its hst hv17) q5_20 q5_21 q3_12 q5_22 ynL_its ⟨rfl, rfl⟩ ⟨by decide, by decide⟩ (rb0 hRB) hl.1 (by exact Nat.le_of_ble_eq_true rfl) rfl dL_law_496 (fun H locs w => ?_)
    refine lv_icmp_lt (tgt := 526) hx hb dL_law_499 (by decide) (fun c18 => ?_) (fun c18 => ?_)
    · replace h := ite_t h c18
      exact TL_law_526 C hst hX hbl hbA hAn hRB hk98 hk457 _ _ _ _ h w (lv_sub hl [2, 3, 5, 6] rfl)
    · replace h := ite_f h c18
      refine lv_aload_n hx hb dL_law_502 rfl (lv_at hl 3 rfl) ?_
      refine lv_iload hx hb dL_law_503 (lv_at hl 1 rfl) ?_
      refine lv_iconst (v := (3 : Int32)) hx hb dL_law_505 (by decide) ?_
      obtain ⟨vv19, G20, K21, hv22, h⟩ := bdz_of h
      refine x_cZi (As := [.ref (ad E 6 0), .int vv2, .int (3 : Int32)]) (rest := []) C w (mzL_its hst hv22) q5_20 q5_21 q3_12 q5_22 ynL_its ⟨rfl, rfl⟩ ⟨by decide, by decide⟩ (rb0 hRB) hl.1 (by exact Nat.le_of_ble_eq_true rfl) rfl dL_law_506 (fun H locs w => ?_)
      refine lv_aload_n hx hb dL_law_509 rfl (lv_at hl 3 rfl) ?_
      refine lv_iload hx hb dL_law_510 (lv_at hl 0 rfl) ?_
      refine lv_iconst (v := (3 : Int32)) hx hb dL_law_512 (by decide) ?_
      obtain ⟨vv23, G24, K25, hv26, h⟩ := bdz_of h
      refine x_cZi (As := [.ref (ad E 6 0), .int vv6, .int (3 : Int32)]) (rest := [.int vv19]) C w (mzL_its hst hv26) q5_20 q5_21 q3_12 q5_22 ynL_its ⟨rfl, rfl⟩ ⟨by decide, by decide⟩ (rb0 hRB) hl.1 (by exact Nat.le_of_ble_eq_true rfl) rfl dL_law_513 (fun H locs w => ?_)
      obtain ⟨kc27, h⟩ := chk_of h
      refine lv_icmp_ne (tgt := 530) hx hb dL_law_516 (by decide) (fun cc => absurd kc27 cc) (fun _ => ?_)
      refine lv_iload hx hb dL_law_519 (lv_at hl 1 rfl) ?_
      refine lv_iload hx hb dL_law_521 (lv_at hl 0 rfl) ?_
      obtain ⟨kc28, h⟩ := chk_of h
      refine lv_icmp_ge (tgt := 530) hx hb dL_law_523 (by decide) (fun cc => absurd cc kc28) (fun _ => ?_)
      exact TL_law_526 C hst hX hbl hbA hAn hRB hk98 hk457 _ _ _ _ h w (lv_sub hl [2, 3, 5, 6] rfl)
theorem TL_law_457  {k98 : Int32 → M3 → J3 → Option Int32} (C : Cx E A p s m #[Value.ref b] meth c (Cond.initialized RX4) code 16 ret RL) (hst : l.stackTraces = false) (hX : va_X b L xs s s.heap) (hbl : b < s.heap.size) (hbA : ¬ A b) (hAn : ∀ q, A q → s.heap.size ≤ q) (hRB : RB c0 s0) (hk98 : ∀ (a3 : Int32) (G : M3) (K : J3)  (ls : Array Slot) (H : Heap) (locs : List Loc), k98 a3 G K = some 1 → Wd E A s G K H locs → lv_has ls 16 [(0, .ref b), (1, .ref (ad E 6 0)), (2, .int (1 : Int32)), (3, .int a3)] → W p l e room_1 s m #[Value.ref b] below meth c H locs c0 s0 (lw_Z below #[Value.ref b] s) (F0 m 98 ls [])) : ∀ (n : Nat) (a3 : Int32) (a13 : Int32) (G : M3) (K : J3)  (ls : Array Slot) (H : Heap) (locs : List Loc), fbL_law_457 F k98 xs L n a3 a13 G K = some 1 → Wd E A s G K H locs → lv_has ls 16 [(0, .ref b), (1, .ref (ad E 6 0)), (2, .int (1 : Int32)), (3, .int a3), (13, .int a13)] → W p l e room_1 s m #[Value.ref b] below meth c H locs c0 s0 (lw_Z below #[Value.ref b] s) (F0 m 457 ls []) := by
  intro n
  induction n with
  | zero => intro a3 a13 G K  ls H locs h; exact absurd (show none = _ from h) (fun z => nomatch z)
  | succ n ih => intro a3 a13 G K  ls H locs h w hl; exact SL_law_457 (F := F) C hst hX hbl hbA hAn hRB hk98 ih a3 a13 G K  h w hl
noncomputable def fsL_law_98 (F : Nat)  (xs : Nat → Int32) (L : Nat) (k98 : Int32 → M3 → J3 → Option Int32) : Int32 → M3 → J3 → Option Int32 := fun a3 G K => (if (30 : Int32) ≤ a3 then (bdz (fX4_value F (1 : Int32) G K) (fun vv2 G3 K4 => bdz (fX4_booked (5 : Int32) G3 K4) (fun vv6 G7 K8 => (fX4_digest F G7 K8).bind (fun vv11 => bdx 1 (fX4_pass F (0 : Int32) G7 K8) (fun G13 K14 => bdx 3 (fX4_trip F (4 : Int32) G13 K14) (fun G17 K18 => bd3 (fX4_minutesToLoad F G17 K18) (fun vv23 G21 K22 => chk (¬ vv23 < (-1 : Int32)) ((fX4_digest F G21 K22).bind (fun vv26 => chk ((lg_cmp vv26 vv11) = 0) (bdz (fX4_pass F (30 : Int32) G21 K22) (fun vv28 G29 K30 => chk (¬ vv28 < 0) (bdh (fL_holds F G29 K30) (fun G33 K34 => bdz (fX4_undo F G33 K34) (fun vv36 G37 K38 => chk (¬ vv36 < 0) (bdz (fX4_value F (1 : Int32) G37 K38) (fun vv41 G42 K43 => chk (vv41 = vv2) (bdz (fX4_booked (5 : Int32) G42 K43) (fun vv46 G47 K48 => chk ((lg_cmp vv46 vv6) = 0) (some 1))))))))))))))))))) else ((fL_cell L xs ((5 : Int32) + a3)).bind (fun vv51 => bdz (fX4_value F (7 : Int32) G K) (fun vv53 G54 K55 => (if (vv51 - vv51 / (8 : Int32) * (8 : Int32)) = (0 : Int32) then (bdz (fX4_set F (6 : Int32) ((vv51 / (8 : Int32)) - (vv51 / (8 : Int32)) / (1200 : Int32) * (1200 : Int32)) G54 K55) (fun vv62 G63 K64 => chk (¬ vv62 < 0) (bdz (fX4_setting (6 : Int32) G63 K64) (fun vv67 G68 K69 => chk (vv67 = ((vv51 / (8 : Int32)) - (vv51 / (8 : Int32)) / (1200 : Int32) * (1200 : Int32))) (fbL_law_592 F k98 xs L a3 G68 K69))))) else if (vv51 - vv51 / (8 : Int32) * (8 : Int32)) = (1 : Int32) then (bdz (fX4_set F (1 : Int32) ((10 : Int32) + ((vv51 / (8 : Int32)) - (vv51 / (8 : Int32)) / (491 : Int32) * (491 : Int32))) G54 K55) (fun vv72 G73 K74 => chk (¬ vv72 < (10 : Int32)) (fbL_law_592 F k98 xs L a3 G73 K74))) else if (vv51 - vv51 / (8 : Int32) * (8 : Int32)) = (2 : Int32) then (bdz (fX4_compressor ((vv51 / (8 : Int32)) - (vv51 / (8 : Int32)) / (4 : Int32) * (4 : Int32)) (1 : Int32) G54 K55) (fun vv77 G78 K79 => (if ¬ vv77 = (3 : Int32) then (bdz (fX4_trip F ((vv51 / (8 : Int32)) - (vv51 / (8 : Int32)) / (4 : Int32) * (4 : Int32)) G78 K79) (fun vv82 G83 K84 => chk (vv82 = vv77) (bdz (fX4_compressor ((vv51 / (8 : Int32)) - (vv51 / (8 : Int32)) / (4 : Int32) * (4 : Int32)) (1 : Int32) G83 K84) (fun vv87 G88 K89 => chk (vv87 = (3 : Int32)) (fbL_law_337 F k98 xs L a3 G88 K89))))) else (bdz (fX4_clear F ((vv51 / (8 : Int32)) - (vv51 / (8 : Int32)) / (4 : Int32) * (4 : Int32)) G78 K79) (fun vv92 G93 K94 => bdz (fX4_compressor ((vv51 / (8 : Int32)) - (vv51 / (8 : Int32)) / (4 : Int32) * (4 : Int32)) (2 : Int32) G93 K94) (fun vv96 G97 K98 => chk (vv92 = vv96) (bdz (fX4_compressor ((vv51 / (8 : Int32)) - (vv51 / (8 : Int32)) / (4 : Int32) * (4 : Int32)) (1 : Int32) G97 K98) (fun vv101 G102 K103 => chk (vv101 = 0) (bdz (fX4_compressor ((vv51 / (8 : Int32)) - (vv51 / (8 : Int32)) / (4 : Int32) * (4 : Int32)) (6 : Int32) G102 K103) (fun vv106 G107 K108 => bdz (fX4_setting (4 : Int32) G107 K108) (fun vv110 G111 K112 => chk (vv106 = vv110) (fbL_law_337 F k98 xs L a3 G111 K112)))))))))))) else if (vv51 - vv51 / (8 : Int32) * (8 : Int32)) = (3 : Int32) then (bdz (fX4_booked (1 : Int32) G54 K55) (fun vv115 G116 K117 => bdz (fX4_leakTest F ((1 : Int32) + ((vv51 / (8 : Int32)) - (vv51 / (8 : Int32)) / (20 : Int32) * (20 : Int32))) G116 K117) (fun vv119 G120 K121 => bdz (fX4_booked (1 : Int32) G120 K121) (fun vv123 G124 K125 => chk (vv119 = (vv123.toInt32 - vv115.toInt32)) (bdz (fX4_value F (7 : Int32) G124 K125) (fun vv128 G129 K130 => chk (vv128 = (vv53 + ((1 : Int32) + ((vv51 / (8 : Int32)) - (vv51 / (8 : Int32)) / (20 : Int32) * (20 : Int32))))) (bdz (fX4_value F (4 : Int32) G129 K130) (fun vv133 G134 K135 => chk (vv133 = 0) (fbL_law_592 F k98 xs L a3 G134 K135))))))))) else if (vv51 - vv51 / (8 : Int32) * (8 : Int32)) = (4 : Int32) then (bdz (fX4_value F (9 : Int32) G54 K55) (fun vv138 G139 K140 => bd3 (fX4_rotate F G139 K140) (fun vv145 G143 K144 => chk (¬ vv145 < 0) (bdz (fX4_value F (9 : Int32) G143 K144) (fun vv147 G148 K149 => chk (vv147 = (vv138 + (1 : Int32))) (bdz (fX4_value F (8 : Int32) G148 K149) (fun vv152 G153 K154 => chk (vv152 = 0) (fbL_law_457 F k98 xs L F a3 (1 : Int32) G153 K154)))))))) else (bdz (fX4_pass F ((1 : Int32) + ((vv51 / (8 : Int32)) - (vv51 / (8 : Int32)) / (50 : Int32) * (50 : Int32))) G54 K55) (fun vv157 G158 K159 => chk (¬ vv157 < 0) (bdz (fX4_value F (7 : Int32) G158 K159) (fun vv162 G163 K164 => chk (vv162 = (vv53 + ((1 : Int32) + ((vv51 / (8 : Int32)) - (vv51 / (8 : Int32)) / (50 : Int32) * (50 : Int32))))) (bdz (fX4_value F (2 : Int32) G163 K164) (fun vv167 G168 K169 => bdz (fX4_setting (2 : Int32) G168 K169) (fun vv171 G172 K173 => chk (¬ vv171 < vv167) (fbL_law_592 F k98 xs L a3 G172 K173)))))))))))))
noncomputable def fbL_law_98 (F : Nat)  (xs : Nat → Int32) (L : Nat) (n : Nat) : Int32 → M3 → J3 → Option Int32 := itr (fsL_law_98 F xs L) (fun _ _ _ => none) n
set_option maxRecDepth 20000 in
set_option maxHeartbeats 1000000 in
theorem SL_law_98   {k98 : Int32 → M3 → J3 → Option Int32} (C : Cx E A p s m #[Value.ref b] meth c (Cond.initialized RX4) code 16 ret RL) (hst : l.stackTraces = false) (hX : va_X b L xs s s.heap) (hbl : b < s.heap.size) (hbA : ¬ A b) (hAn : ∀ q, A q → s.heap.size ≤ q) (hRB : RB c0 s0)  (hk98 : ∀ (a3 : Int32) (G : M3) (K : J3)  (ls : Array Slot) (H : Heap) (locs : List Loc), k98 a3 G K = some 1 → Wd E A s G K H locs → lv_has ls 16 [(0, .ref b), (1, .ref (ad E 6 0)), (2, .int (1 : Int32)), (3, .int a3)] → W p l e room_1 s m #[Value.ref b] below meth c H locs c0 s0 (lw_Z below #[Value.ref b] s) (F0 m 98 ls [])) (a3 : Int32) (G : M3) (K : J3)  (h : fsL_law_98 F xs L k98 a3 G K = some 1) (w : Wd E A s G K H locs) (hl : lv_has ls 16 [(0, .ref b), (1, .ref (ad E 6 0)), (2, .int (1 : Int32)), (3, .int a3)]) : W p l e room_1 s m #[Value.ref b] below meth c H locs c0 s0 (lw_Z below #[Value.ref b] s) (F0 m 98 ls []) := by
  obtain ⟨hx, hb, hr, hml, hown, hts, hlocks, hKK, hA1, hA2⟩ := id C
  unfold fsL_law_98 at h
  refine lv_iload_n hx hb dL_law_98 rfl (lv_at hl 3 rfl) ?_
  refine lv_bipush (v := (30 : Int32)) hx hb dL_law_99 (by decide) ?_
  refine lv_icmp_ge (tgt := 615) hx hb dL_law_101 (by decide) (fun c1 => ?_) (fun c1 => ?_)
  · replace h := ite_t h c1
    refine lv_aload_n hx hb dL_law_615 rfl (lv_at hl 1 rfl) ?_
    refine lv_iconst (v := (1 : Int32)) hx hb dL_law_616 (by decide) ?_
    obtain ⟨vv2, G3, K4, hv5, h⟩ := bdz_of h
    refine x_cZi (As := [.ref (ad E 6 0), .int (1 : Int32)]) (rest := []) C w (mzL_value hst hv5) q3_17 q3_18 q3_12 q3_19 ynL_value ⟨rfl, rfl⟩ ⟨by decide, by decide⟩ (rb0 hRB) hl.1 (by exact Nat.le_of_ble_eq_true rfl) rfl dL_law_617 (fun H locs w => ?_)
    refine lv_istore_n (lv' := [(3, .int vv2), (0, .ref b), (1, .ref (ad E 6 0)), (2, .int (1 : Int32))]) hx hb dL_law_620 rfl hl (by decide) rfl (fun ls hl => ?_)
    refine lv_aload_n hx hb dL_law_621 rfl (lv_at hl 2 rfl) ?_
    refine lv_iconst (v := (5 : Int32)) hx hb dL_law_622 (by decide) ?_
    obtain ⟨vv6, G7, K8, hv9, h⟩ := bdz_of h
    refine x_cZl (As := [.ref (ad E 6 0), .int (5 : Int32)]) (rest := []) C w (mzL_booked hst hv9) q5_11 q5_12 q3_12 q5_13 ynL_booked ⟨rfl, rfl⟩ ⟨by decide, by decide⟩ (rb0 hRB) hl.1 (by exact Nat.le_of_ble_eq_true rfl) rfl dL_law_623 (fun H locs w => ?_)
    refine lv_lstore (lv' := [(4, .long vv6), (3, .int vv2), (0, .ref b), (1, .ref (ad E 6 0)), (2, .int (1 : Int32))]) hx hb dL_law_626 hl (by decide) rfl (fun ls hl => ?_)
    refine lv_aload_n hx hb dL_law_628 rfl (lv_at hl 3 rfl) ?_
    obtain ⟨vv11, hv10, h⟩ := bind_of h
    refine x_cVl (As := []) (rest := []) C w (v6 (by decide)) cel_6 rfl (mtX4_digest  hv10) q15_16 q15_17 q15_18 q1_2 q15_19 ydX4_digest ⟨rfl, rfl⟩ ⟨by decide, by decide⟩ (rb0 hRB) hl.1 (Nat.le_of_ble_eq_true rfl) rfl dL_law_629 (fun H locs w => ?_)
    refine lv_lstore (lv' := [(6, .long vv11), (4, .long vv6), (3, .int vv2), (0, .ref b), (1, .ref (ad E 6 0)), (2, .int (1 : Int32))]) hx hb dL_law_632 hl (by decide) rfl (fun ls hl => ?_)
    refine lv_iload_n hx hb dL_law_634 rfl (lv_at hl 5 rfl) ?_
    refine lv_if_eq (tgt := 680) hx hb dL_law_635 (by decide) (fun cc => absurd cc (by decide)) (fun _ => ?_)
    refine lv_aload_n hx hb dL_law_638 rfl (lv_at hl 4 rfl) ?_
    refine lv_iconst (v := (0 : Int32)) hx hb dL_law_639 (by decide) ?_
    obtain ⟨vv12, G13, K14, hv15, h⟩ := bdx_of h
    refine x_cYi (As := [.ref (ad E 6 0), .int (0 : Int32)]) (rest := []) C w (mtL_passes hst hv15) q14_10 q14_11 q3_12 q14_12 ynL_passes ⟨rfl, rfl⟩ ⟨by decide, by decide⟩ (rb1 hRB) hl.1 (by exact Nat.le_of_ble_eq_true rfl) rfl dL_law_640 (fun H locs w => ?_)
    refine lv_ldc hx hb hown (x_hts C q1_3) dL_law_643 ?_
    refine lv_icmp_ne (tgt := 680) hx hb dL_law_645 (by decide) (fun cc => absurd cc (by decide)) (fun _ => ?_)
    refine lv_aload_n hx hb dL_law_648 rfl (lv_at hl 4 rfl) ?_
    refine lv_iconst (v := (4 : Int32)) hx hb dL_law_649 (by decide) ?_
    obtain ⟨vv16, G17, K18, hv19, h⟩ := bdx_of h
    refine x_cYi (As := [.ref (ad E 6 0), .int (4 : Int32)]) (rest := []) C w (mtL_trips hst hv19) q11_13 q11_14 q3_12 q11_15 ynL_trips ⟨rfl, rfl⟩ ⟨by decide, by decide⟩ (rb2 hRB) hl.1 (by exact Nat.le_of_ble_eq_true rfl) rfl dL_law_650 (fun H locs w => ?_)
    refine lv_ldc hx hb hown (x_hts C q1_3) dL_law_653 ?_
    refine lv_icmp_ne (tgt := 680) hx hb dL_law_655 (by decide) (fun cc => absurd cc (by decide)) (fun _ => ?_)
    refine lv_aload_n hx hb dL_law_658 rfl (lv_at hl 4 rfl) ?_
    obtain ⟨vv23, G21, K22, hv20, h⟩ := bd3_of h
    refine x_cVi (As := []) (rest := []) C w (v6 (by decide)) cel_6 rfl (mtX4_minutesToLoad  hv20) q16_6 q16_7 q16_8 q1_2 q16_9 ydX4_minutesToLoad ⟨rfl, rfl⟩ ⟨by decide, by decide⟩ (rb2 hRB) hl.1 (Nat.le_of_ble_eq_true rfl) rfl dL_law_659 (fun H locs w => ?_)
    refine lv_iconst (v := (-1 : Int32)) hx hb dL_law_662 (by decide) ?_
    obtain ⟨kc24, h⟩ := chk_of h
    refine lv_icmp_lt (tgt := 680) hx hb dL_law_663 (by decide) (fun cc => absurd cc kc24) (fun _ => ?_)
    refine lv_aload_n hx hb dL_law_666 rfl (lv_at hl 4 rfl) ?_
    obtain ⟨vv26, hv25, h⟩ := bind_of h
    refine x_cVl (As := []) (rest := []) C w (v6 (by decide)) cel_6 rfl (mtX4_digest  hv25) q15_16 q15_17 q15_18 q1_2 q15_19 ydX4_digest ⟨rfl, rfl⟩ ⟨by decide, by decide⟩ (rb2 hRB) hl.1 (Nat.le_of_ble_eq_true rfl) rfl dL_law_667 (fun H locs w => ?_)
    refine lv_lload hx hb dL_law_670 (lv_at hl 0 rfl) ?_
    refine W.lcmp hx hb dL_law_672 ?_
    obtain ⟨kc27, h⟩ := chk_of h
    refine lv_if_ne (tgt := 680) hx hb dL_law_673 (by decide) (fun cc => absurd kc27 cc) (fun _ => ?_)
    refine lv_iconst (v := (1 : Int32)) hx hb dL_law_676 (by decide) ?_
    refine lv_goto (tgt := 681) hx hb dL_law_677 (by decide) ?_
    refine lv_istore_n (lv' := [(2, .int (1 : Int32)), (6, .long vv11), (4, .long vv6), (3, .int vv2), (0, .ref b), (1, .ref (ad E 6 0))]) hx hb dL_law_681 rfl hl (by decide) rfl (fun ls hl => ?_)
    refine lv_iload_n hx hb dL_law_682 rfl (lv_at hl 0 rfl) ?_
    refine lv_if_eq (tgt := 733) hx hb dL_law_683 (by decide) (fun cc => absurd cc (by decide)) (fun _ => ?_)
    refine lv_aload_n hx hb dL_law_686 rfl (lv_at hl 5 rfl) ?_
    refine lv_bipush (v := (30 : Int32)) hx hb dL_law_687 (by decide) ?_
    obtain ⟨vv28, G29, K30, hv31, h⟩ := bdz_of h
    refine x_cZi (As := [.ref (ad E 6 0), .int (30 : Int32)]) (rest := []) C w (mzL_passes hst hv31) q14_10 q14_11 q3_12 q14_12 ynL_passes ⟨rfl, rfl⟩ ⟨by decide, by decide⟩ (rb2 hRB) hl.1 (by exact Nat.le_of_ble_eq_true rfl) rfl dL_law_689 (fun H locs w => ?_)
    obtain ⟨kc32, h⟩ := chk_of h
    refine lv_if_lt (tgt := 733) hx hb dL_law_692 (by decide) (fun cc => absurd cc kc32) (fun _ => ?_)
    refine lv_aload_n hx hb dL_law_695 rfl (lv_at hl 5 rfl) ?_
    obtain ⟨G33, K34, hv35, h⟩ := bdh_of h
    refine x_cSi (As := [.ref (ad E 6 0)]) (rest := []) C w (mtL_holds hst hv35) q3_10 q3_11 q3_12 q3_13 ydL_holds ⟨rfl, rfl⟩ ⟨by decide, by decide⟩ (rb2 hRB) hl.1 (by exact Nat.le_of_ble_eq_true rfl) rfl dL_law_696 (fun H locs w => ?_)
    refine lv_if_eq (tgt := 733) hx hb dL_law_699 (by decide) (fun cc => absurd cc (by decide)) (fun _ => ?_)
    refine lv_aload_n hx hb dL_law_702 rfl (lv_at hl 5 rfl) ?_
    obtain ⟨vv36, G37, K38, hv39, h⟩ := bdz_of h
    refine x_cZi (As := [.ref (ad E 6 0)]) (rest := []) C w (mzL_undoes hst hv39) q16_12 q16_13 q3_12 q16_14 ynL_undoes ⟨rfl, rfl⟩ ⟨by decide, by decide⟩ (rb2 hRB) hl.1 (by exact Nat.le_of_ble_eq_true rfl) rfl dL_law_703 (fun H locs w => ?_)
    obtain ⟨kc40, h⟩ := chk_of h
    refine lv_if_lt (tgt := 733) hx hb dL_law_706 (by decide) (fun cc => absurd cc kc40) (fun _ => ?_)
    refine lv_aload_n hx hb dL_law_709 rfl (lv_at hl 5 rfl) ?_
    refine lv_iconst (v := (1 : Int32)) hx hb dL_law_710 (by decide) ?_
    obtain ⟨vv41, G42, K43, hv44, h⟩ := bdz_of h
    refine x_cZi (As := [.ref (ad E 6 0), .int (1 : Int32)]) (rest := []) C w (mzL_value hst hv44) q3_17 q3_18 q3_12 q3_19 ynL_value ⟨rfl, rfl⟩ ⟨by decide, by decide⟩ (rb2 hRB) hl.1 (by exact Nat.le_of_ble_eq_true rfl) rfl dL_law_711 (fun H locs w => ?_)
    refine lv_iload_n hx hb dL_law_714 rfl (lv_at hl 3 rfl) ?_
    obtain ⟨kc45, h⟩ := chk_of h
    refine lv_icmp_ne (tgt := 733) hx hb dL_law_715 (by decide) (fun cc => absurd kc45 cc) (fun _ => ?_)
    refine lv_aload_n hx hb dL_law_718 rfl (lv_at hl 5 rfl) ?_
    refine lv_iconst (v := (5 : Int32)) hx hb dL_law_719 (by decide) ?_
    obtain ⟨vv46, G47, K48, hv49, h⟩ := bdz_of h
    refine x_cZl (As := [.ref (ad E 6 0), .int (5 : Int32)]) (rest := []) C w (mzL_booked hst hv49) q5_11 q5_12 q3_12 q5_13 ynL_booked ⟨rfl, rfl⟩ ⟨by decide, by decide⟩ (rb2 hRB) hl.1 (by exact Nat.le_of_ble_eq_true rfl) rfl dL_law_720 (fun H locs w => ?_)
    refine lv_lload hx hb dL_law_723 (lv_at hl 2 rfl) ?_
    refine W.lcmp hx hb dL_law_725 ?_
    obtain ⟨kc50, h⟩ := chk_of h
    refine lv_if_ne (tgt := 733) hx hb dL_law_726 (by decide) (fun cc => absurd kc50 cc) (fun _ => ?_)
    refine lv_iconst (v := (1 : Int32)) hx hb dL_law_729 (by decide) ?_
    refine lv_goto (tgt := 734) hx hb dL_law_730 (by decide) ?_
    refine va_forget (fun q hq => hAn _ (w.2.2.2 q hq)) (W.widen (k := 600172) (n := 7300668) (rb2 hRB).1 (rb2 hRB).2 ?_)
    exact lw_ret hx hb hr hlocks dL_law_734
  · replace h := ite_f h c1
    refine lv_iload_n hx hb dL_law_104 rfl (lv_at hl 2 rfl) ?_
    refine lv_if_eq (tgt := 615) hx hb dL_law_105 (by decide) (fun cc => absurd cc (by decide)) (fun _ => ?_)
    refine lv_aload_n hx hb dL_law_108 rfl (lv_at hl 0 rfl) ?_
    refine lv_iconst (v := (5 : Int32)) hx hb dL_law_109 (by decide) ?_
    refine lv_iload_n hx hb dL_law_110 rfl (lv_at hl 3 rfl) ?_
    refine lv_iadd hx hb dL_law_111 ?_
    obtain ⟨vv51, hv52, h⟩ := bind_of h
    refine x_cell (rest := []) C w hX hbl hbA hv52 ⟨by decide, by decide⟩ (rb0 hRB) hl.1 (by exact Nat.le_of_ble_eq_true rfl) rfl q8_10 dL_law_112 (fun H locs w => ?_)
    refine lv_istore (lv' := [(4, .int vv51), (0, .ref b), (1, .ref (ad E 6 0)), (2, .int (1 : Int32)), (3, .int a3)]) hx hb dL_law_115 hl (by decide) rfl (fun ls hl => ?_)
    refine lv_iload hx hb dL_law_117 (lv_at hl 0 rfl) ?_
    refine lv_bipush (v := (8 : Int32)) hx hb dL_law_119 (by decide) ?_
    refine lv_idiv hx hb dL_law_121 (by decide) ?_
    refine lv_istore (lv' := [(5, .int (vv51 / (8 : Int32))), (4, .int vv51), (0, .ref b), (1, .ref (ad E 6 0)), (2, .int (1 : Int32)), (3, .int a3)]) hx hb dL_law_122 hl (by decide) rfl (fun ls hl => ?_)
    refine lv_aload_n hx hb dL_law_124 rfl (lv_at hl 3 rfl) ?_
    refine lv_bipush (v := (7 : Int32)) hx hb dL_law_125 (by decide) ?_
    obtain ⟨vv53, G54, K55, hv56, h⟩ := bdz_of h
    refine x_cZi (As := [.ref (ad E 6 0), .int (7 : Int32)]) (rest := []) C w (mzL_value hst hv56) q3_17 q3_18 q3_12 q3_19 ynL_value ⟨rfl, rfl⟩ ⟨by decide, by decide⟩ (rb0 hRB) hl.1 (by exact Nat.le_of_ble_eq_true rfl) rfl dL_law_127 (fun H locs w => ?_)
    refine lv_istore (lv' := [(6, .int vv53), (5, .int (vv51 / (8 : Int32))), (4, .int vv51), (0, .ref b), (1, .ref (ad E 6 0)), (2, .int (1 : Int32)), (3, .int a3)]) hx hb dL_law_130 hl (by decide) rfl (fun ls hl => ?_)
    refine lv_iload hx hb dL_law_132 (lv_at hl 2 rfl) ?_
    refine lv_bipush (v := (8 : Int32)) hx hb dL_law_134 (by decide) ?_
    refine lv_irem hx hb dL_law_136 (by decide) ?_
    by_cases c57 : (vv51 - vv51 / (8 : Int32) * (8 : Int32)) = (0 : Int32)
    · replace h := ite_t h c57
      refine lv_tableIn (tgt := 172) hx hb dL_law_137 (by rw [c57]; decide) (by rw [c57]; decide) (by rw [c57]; rfl) (by decide) ?_
      refine lv_aload_n hx hb dL_law_172 rfl (lv_at hl 4 rfl) ?_
      refine lv_bipush (v := (6 : Int32)) hx hb dL_law_173 (by decide) ?_
      refine lv_iload hx hb dL_law_175 (lv_at hl 1 rfl) ?_
      refine lv_sipush (v := (1200 : Int32)) hx hb dL_law_177 (by decide) ?_
      refine lv_irem hx hb dL_law_180 (by decide) ?_
      obtain ⟨vv62, G63, K64, hv65, h⟩ := bdz_of h
      refine x_cZi (As := [.ref (ad E 6 0), .int (6 : Int32), .int ((vv51 / (8 : Int32)) - (vv51 / (8 : Int32)) / (1200 : Int32) * (1200 : Int32))]) (rest := []) C w (mzL_sets hst hv65) q10_15 q10_16 q3_12 q10_17 ynL_sets ⟨rfl, rfl⟩ ⟨by decide, by decide⟩ (rb0 hRB) hl.1 (by exact Nat.le_of_ble_eq_true rfl) rfl dL_law_181 (fun H locs w => ?_)
      obtain ⟨kc66, h⟩ := chk_of h
      refine lv_if_lt (tgt := 206) hx hb dL_law_184 (by decide) (fun cc => absurd cc kc66) (fun _ => ?_)
      refine lv_aload_n hx hb dL_law_187 rfl (lv_at hl 4 rfl) ?_
      refine lv_bipush (v := (6 : Int32)) hx hb dL_law_188 (by decide) ?_
      obtain ⟨vv67, G68, K69, hv70, h⟩ := bdz_of h
      refine x_cZi (As := [.ref (ad E 6 0), .int (6 : Int32)]) (rest := []) C w (mzL_setting hst hv70) q7_14 q7_15 q3_12 q7_16 ynL_setting ⟨rfl, rfl⟩ ⟨by decide, by decide⟩ (rb0 hRB) hl.1 (by exact Nat.le_of_ble_eq_true rfl) rfl dL_law_190 (fun H locs w => ?_)
      refine lv_iload hx hb dL_law_193 (lv_at hl 1 rfl) ?_
      refine lv_sipush (v := (1200 : Int32)) hx hb dL_law_195 (by decide) ?_
      refine lv_irem hx hb dL_law_198 (by decide) ?_
      obtain ⟨kc71, h⟩ := chk_of h
      refine lv_icmp_ne (tgt := 206) hx hb dL_law_199 (by decide) (fun cc => absurd kc71 cc) (fun _ => ?_)
      refine lv_iconst (v := (1 : Int32)) hx hb dL_law_202 (by decide) ?_
      refine lv_goto (tgt := 207) hx hb dL_law_203 (by decide) ?_
      refine lv_istore_n (lv' := [(2, .int (1 : Int32)), (6, .int vv53), (5, .int (vv51 / (8 : Int32))), (4, .int vv51), (0, .ref b), (1, .ref (ad E 6 0)), (3, .int a3)]) hx hb dL_law_207 rfl hl (by decide) rfl (fun ls hl => ?_)
      refine lv_goto (tgt := 592) hx hb dL_law_208 (by decide) ?_
      exact TL_law_592 C hst hX hbl hbA hAn hRB hk98 _ _ _ h w (lv_sub hl [4, 5, 0, 6] rfl)
    replace h := ite_f h c57
    by_cases c58 : (vv51 - vv51 / (8 : Int32) * (8 : Int32)) = (1 : Int32)
    · replace h := ite_t h c58
      refine lv_tableIn (tgt := 211) hx hb dL_law_137 (by rw [c58]; decide) (by rw [c58]; decide) (by rw [c58]; rfl) (by decide) ?_
      refine lv_aload_n hx hb dL_law_211 rfl (lv_at hl 4 rfl) ?_
      refine lv_iconst (v := (1 : Int32)) hx hb dL_law_212 (by decide) ?_
      refine lv_bipush (v := (10 : Int32)) hx hb dL_law_213 (by decide) ?_
      refine lv_iload hx hb dL_law_215 (lv_at hl 1 rfl) ?_
      refine lv_sipush (v := (491 : Int32)) hx hb dL_law_217 (by decide) ?_
      refine lv_irem hx hb dL_law_220 (by decide) ?_
      refine lv_iadd hx hb dL_law_221 ?_
      obtain ⟨vv72, G73, K74, hv75, h⟩ := bdz_of h
      refine x_cZi (As := [.ref (ad E 6 0), .int (1 : Int32), .int ((10 : Int32) + ((vv51 / (8 : Int32)) - (vv51 / (8 : Int32)) / (491 : Int32) * (491 : Int32)))]) (rest := []) C w (mzL_sets hst hv75) q10_15 q10_16 q3_12 q10_17 ynL_sets ⟨rfl, rfl⟩ ⟨by decide, by decide⟩ (rb0 hRB) hl.1 (by exact Nat.le_of_ble_eq_true rfl) rfl dL_law_222 (fun H locs w => ?_)
      refine lv_bipush (v := (10 : Int32)) hx hb dL_law_225 (by decide) ?_
      obtain ⟨kc76, h⟩ := chk_of h
      refine lv_icmp_lt (tgt := 234) hx hb dL_law_227 (by decide) (fun cc => absurd cc kc76) (fun _ => ?_)
      refine lv_iconst (v := (1 : Int32)) hx hb dL_law_230 (by decide) ?_
      refine lv_goto (tgt := 235) hx hb dL_law_231 (by decide) ?_
      refine lv_istore_n (lv' := [(2, .int (1 : Int32)), (6, .int vv53), (5, .int (vv51 / (8 : Int32))), (4, .int vv51), (0, .ref b), (1, .ref (ad E 6 0)), (3, .int a3)]) hx hb dL_law_235 rfl hl (by decide) rfl (fun ls hl => ?_)
      refine lv_goto (tgt := 592) hx hb dL_law_236 (by decide) ?_
      exact TL_law_592 C hst hX hbl hbA hAn hRB hk98 _ _ _ h w (lv_sub hl [4, 5, 0, 6] rfl)
    replace h := ite_f h c58
    by_cases c59 : (vv51 - vv51 / (8 : Int32) * (8 : Int32)) = (2 : Int32)
    · replace h := ite_t h c59
      refine lv_tableIn (tgt := 239) hx hb dL_law_137 (by rw [c59]; decide) (by rw [c59]; decide) (by rw [c59]; rfl) (by decide) ?_
      refine lv_iload hx hb dL_law_239 (lv_at hl 1 rfl) ?_
      refine lv_iconst (v := (4 : Int32)) hx hb dL_law_241 (by decide) ?_
      refine lv_irem hx hb dL_law_242 (by decide) ?_
      refine lv_istore (lv' := [(7, .int ((vv51 / (8 : Int32)) - (vv51 / (8 : Int32)) / (4 : Int32) * (4 : Int32))), (6, .int vv53), (5, .int (vv51 / (8 : Int32))), (4, .int vv51), (0, .ref b), (1, .ref (ad E 6 0)), (2, .int (1 : Int32)), (3, .int a3)]) hx hb dL_law_243 hl (by decide) rfl (fun ls hl => ?_)
      refine lv_aload_n hx hb dL_law_245 rfl (lv_at hl 5 rfl) ?_
      refine lv_iload hx hb dL_law_246 (lv_at hl 0 rfl) ?_
      refine lv_iconst (v := (1 : Int32)) hx hb dL_law_248 (by decide) ?_
      obtain ⟨vv77, G78, K79, hv80, h⟩ := bdz_of h
      refine x_cZi (As := [.ref (ad E 6 0), .int ((vv51 / (8 : Int32)) - (vv51 / (8 : Int32)) / (4 : Int32) * (4 : Int32)), .int (1 : Int32)]) (rest := []) C w (mzL_its hst hv80) q5_20 q5_21 q3_12 q5_22 ynL_its ⟨rfl, rfl⟩ ⟨by decide, by decide⟩ (rb0 hRB) hl.1 (by exact Nat.le_of_ble_eq_true rfl) rfl dL_law_249 (fun H locs w => ?_)
      refine lv_istore (lv' := [(8, .int vv77), (7, .int ((vv51 / (8 : Int32)) - (vv51 / (8 : Int32)) / (4 : Int32) * (4 : Int32))), (6, .int vv53), (5, .int (vv51 / (8 : Int32))), (4, .int vv51), (0, .ref b), (1, .ref (ad E 6 0)), (2, .int (1 : Int32)), (3, .int a3)]) hx hb dL_law_252 hl (by decide) rfl (fun ls hl => ?_)
      refine lv_iload hx hb dL_law_254 (lv_at hl 0 rfl) ?_
      refine lv_iconst (v := (3 : Int32)) hx hb dL_law_256 (by decide) ?_
      refine lv_icmp_ne (tgt := 310) hx hb dL_law_257 (by decide) (fun c81 => ?_) (fun c81 => ?_)
      · replace h := ite_t h c81
        refine lv_aload_n hx hb dL_law_310 rfl (lv_at hl 6 rfl) ?_
        refine lv_iload hx hb dL_law_311 (lv_at hl 1 rfl) ?_
        obtain ⟨vv82, G83, K84, hv85, h⟩ := bdz_of h
        refine x_cZi (As := [.ref (ad E 6 0), .int ((vv51 / (8 : Int32)) - (vv51 / (8 : Int32)) / (4 : Int32) * (4 : Int32))]) (rest := []) C w (mzL_trips hst hv85) q11_13 q11_14 q3_12 q11_15 ynL_trips ⟨rfl, rfl⟩ ⟨by decide, by decide⟩ (rb0 hRB) hl.1 (by exact Nat.le_of_ble_eq_true rfl) rfl dL_law_313 (fun H locs w => ?_)
        refine lv_iload hx hb dL_law_316 (lv_at hl 0 rfl) ?_
        obtain ⟨kc86, h⟩ := chk_of h
        refine lv_icmp_ne (tgt := 336) hx hb dL_law_318 (by decide) (fun cc => absurd kc86 cc) (fun _ => ?_)
        refine lv_aload_n hx hb dL_law_321 rfl (lv_at hl 6 rfl) ?_
        refine lv_iload hx hb dL_law_322 (lv_at hl 1 rfl) ?_
        refine lv_iconst (v := (1 : Int32)) hx hb dL_law_324 (by decide) ?_
        obtain ⟨vv87, G88, K89, hv90, h⟩ := bdz_of h
        refine x_cZi (As := [.ref (ad E 6 0), .int ((vv51 / (8 : Int32)) - (vv51 / (8 : Int32)) / (4 : Int32) * (4 : Int32)), .int (1 : Int32)]) (rest := []) C w (mzL_its hst hv90) q5_20 q5_21 q3_12 q5_22 ynL_its ⟨rfl, rfl⟩ ⟨by decide, by decide⟩ (rb0 hRB) hl.1 (by exact Nat.le_of_ble_eq_true rfl) rfl dL_law_325 (fun H locs w => ?_)
        refine lv_iconst (v := (3 : Int32)) hx hb dL_law_328 (by decide) ?_
        obtain ⟨kc91, h⟩ := chk_of h
        refine lv_icmp_ne (tgt := 336) hx hb dL_law_329 (by decide) (fun cc => absurd kc91 cc) (fun _ => ?_)
        refine lv_iconst (v := (1 : Int32)) hx hb dL_law_332 (by decide) ?_
        refine lv_goto (tgt := 337) hx hb dL_law_333 (by decide) ?_
        exact TL_law_337 C hst hX hbl hbA hAn hRB hk98 _ _ _ h w (lv_sub hl [5, 6, 8] rfl)
      · replace h := ite_f h (fun z => z c81)
        refine lv_aload_n hx hb dL_law_260 rfl (lv_at hl 6 rfl) ?_
        refine lv_iload hx hb dL_law_261 (lv_at hl 1 rfl) ?_
        obtain ⟨vv92, G93, K94, hv95, h⟩ := bdz_of h
        refine x_cZi (As := [.ref (ad E 6 0), .int ((vv51 / (8 : Int32)) - (vv51 / (8 : Int32)) / (4 : Int32) * (4 : Int32))]) (rest := []) C w (mzL_clears hst hv95) q11_0 q11_1 q3_12 q11_2 ynL_clears ⟨rfl, rfl⟩ ⟨by decide, by decide⟩ (rb0 hRB) hl.1 (by exact Nat.le_of_ble_eq_true rfl) rfl dL_law_263 (fun H locs w => ?_)
        refine lv_aload_n hx hb dL_law_266 rfl (lv_at hl 6 rfl) ?_
        refine lv_iload hx hb dL_law_267 (lv_at hl 1 rfl) ?_
        refine lv_iconst (v := (2 : Int32)) hx hb dL_law_269 (by decide) ?_
        obtain ⟨vv96, G97, K98, hv99, h⟩ := bdz_of h
        refine x_cZi (As := [.ref (ad E 6 0), .int ((vv51 / (8 : Int32)) - (vv51 / (8 : Int32)) / (4 : Int32) * (4 : Int32)), .int (2 : Int32)]) (rest := [.int vv92]) C w (mzL_its hst hv99) q5_20 q5_21 q3_12 q5_22 ynL_its ⟨rfl, rfl⟩ ⟨by decide, by decide⟩ (rb0 hRB) hl.1 (by exact Nat.le_of_ble_eq_true rfl) rfl dL_law_270 (fun H locs w => ?_)
        obtain ⟨kc100, h⟩ := chk_of h
        refine lv_icmp_ne (tgt := 306) hx hb dL_law_273 (by decide) (fun cc => absurd kc100 cc) (fun _ => ?_)
        refine lv_aload_n hx hb dL_law_276 rfl (lv_at hl 6 rfl) ?_
        refine lv_iload hx hb dL_law_277 (lv_at hl 1 rfl) ?_
        refine lv_iconst (v := (1 : Int32)) hx hb dL_law_279 (by decide) ?_
        obtain ⟨vv101, G102, K103, hv104, h⟩ := bdz_of h
        refine x_cZi (As := [.ref (ad E 6 0), .int ((vv51 / (8 : Int32)) - (vv51 / (8 : Int32)) / (4 : Int32) * (4 : Int32)), .int (1 : Int32)]) (rest := []) C w (mzL_its hst hv104) q5_20 q5_21 q3_12 q5_22 ynL_its ⟨rfl, rfl⟩ ⟨by decide, by decide⟩ (rb0 hRB) hl.1 (by exact Nat.le_of_ble_eq_true rfl) rfl dL_law_280 (fun H locs w => ?_)
        obtain ⟨kc105, h⟩ := chk_of h
        refine lv_if_ne (tgt := 306) hx hb dL_law_283 (by decide) (fun cc => absurd kc105 cc) (fun _ => ?_)
        refine lv_aload_n hx hb dL_law_286 rfl (lv_at hl 6 rfl) ?_
        refine lv_iload hx hb dL_law_287 (lv_at hl 1 rfl) ?_
        refine lv_bipush (v := (6 : Int32)) hx hb dL_law_289 (by decide) ?_
        obtain ⟨vv106, G107, K108, hv109, h⟩ := bdz_of h
        refine x_cZi (As := [.ref (ad E 6 0), .int ((vv51 / (8 : Int32)) - (vv51 / (8 : Int32)) / (4 : Int32) * (4 : Int32)), .int (6 : Int32)]) (rest := []) C w (mzL_its hst hv109) q5_20 q5_21 q3_12 q5_22 ynL_its ⟨rfl, rfl⟩ ⟨by decide, by decide⟩ (rb0 hRB) hl.1 (by exact Nat.le_of_ble_eq_true rfl) rfl dL_law_291 (fun H locs w => ?_)
        refine lv_aload_n hx hb dL_law_294 rfl (lv_at hl 6 rfl) ?_
        refine lv_iconst (v := (4 : Int32)) hx hb dL_law_295 (by decide) ?_
        obtain ⟨vv110, G111, K112, hv113, h⟩ := bdz_of h
        refine x_cZi (As := [.ref (ad E 6 0), .int (4 : Int32)]) (rest := [.int vv106]) C w (mzL_setting hst hv113) q7_14 q7_15 q3_12 q7_16 ynL_setting ⟨rfl, rfl⟩ ⟨by decide, by decide⟩ (rb0 hRB) hl.1 (by exact Nat.le_of_ble_eq_true rfl) rfl dL_law_296 (fun H locs w => ?_)
        obtain ⟨kc114, h⟩ := chk_of h
        refine lv_icmp_ne (tgt := 306) hx hb dL_law_299 (by decide) (fun cc => absurd kc114 cc) (fun _ => ?_)
        refine lv_iconst (v := (1 : Int32)) hx hb dL_law_302 (by decide) ?_
        refine lv_goto (tgt := 337) hx hb dL_law_303 (by decide) ?_
        exact TL_law_337 C hst hX hbl hbA hAn hRB hk98 _ _ _ h w (lv_sub hl [5, 6, 8] rfl)
    replace h := ite_f h c59
    by_cases c60 : (vv51 - vv51 / (8 : Int32) * (8 : Int32)) = (3 : Int32)
    · replace h := ite_t h c60
      refine lv_tableIn (tgt := 341) hx hb dL_law_137 (by rw [c60]; decide) (by rw [c60]; decide) (by rw [c60]; rfl) (by decide) ?_
      refine lv_iconst (v := (1 : Int32)) hx hb dL_law_341 (by decide) ?_
      refine lv_iload hx hb dL_law_342 (lv_at hl 1 rfl) ?_
      refine lv_bipush (v := (20 : Int32)) hx hb dL_law_344 (by decide) ?_
      refine lv_irem hx hb dL_law_346 (by decide) ?_
      refine lv_iadd hx hb dL_law_347 ?_
      refine lv_istore (lv' := [(9, .int ((1 : Int32) + ((vv51 / (8 : Int32)) - (vv51 / (8 : Int32)) / (20 : Int32) * (20 : Int32)))), (6, .int vv53), (5, .int (vv51 / (8 : Int32))), (4, .int vv51), (0, .ref b), (1, .ref (ad E 6 0)), (2, .int (1 : Int32)), (3, .int a3)]) hx hb dL_law_348 hl (by decide) rfl (fun ls hl => ?_)
      refine lv_aload_n hx hb dL_law_350 rfl (lv_at hl 5 rfl) ?_
      refine lv_iconst (v := (1 : Int32)) hx hb dL_law_351 (by decide) ?_
      obtain ⟨vv115, G116, K117, hv118, h⟩ := bdz_of h
      refine x_cZl (As := [.ref (ad E 6 0), .int (1 : Int32)]) (rest := []) C w (mzL_booked hst hv118) q5_11 q5_12 q3_12 q5_13 ynL_booked ⟨rfl, rfl⟩ ⟨by decide, by decide⟩ (rb0 hRB) hl.1 (by exact Nat.le_of_ble_eq_true rfl) rfl dL_law_352 (fun H locs w => ?_)
      refine lv_l2i hx hb dL_law_355 rfl ?_
      refine lv_istore (lv' := [(10, .int vv115.toInt32), (9, .int ((1 : Int32) + ((vv51 / (8 : Int32)) - (vv51 / (8 : Int32)) / (20 : Int32) * (20 : Int32)))), (6, .int vv53), (5, .int (vv51 / (8 : Int32))), (4, .int vv51), (0, .ref b), (1, .ref (ad E 6 0)), (2, .int (1 : Int32)), (3, .int a3)]) hx hb dL_law_356 hl (by decide) rfl (fun ls hl => ?_)
      refine lv_aload_n hx hb dL_law_358 rfl (lv_at hl 6 rfl) ?_
      refine lv_iload hx hb dL_law_359 (lv_at hl 1 rfl) ?_
      obtain ⟨vv119, G120, K121, hv122, h⟩ := bdz_of h
      refine x_cZi (As := [.ref (ad E 6 0), .int ((1 : Int32) + ((vv51 / (8 : Int32)) - (vv51 / (8 : Int32)) / (20 : Int32) * (20 : Int32)))]) (rest := []) C w (mzL_tests hst hv122) q12_0 q12_1 q3_12 q12_2 ynL_tests ⟨rfl, rfl⟩ ⟨by decide, by decide⟩ (rb0 hRB) hl.1 (by exact Nat.le_of_ble_eq_true rfl) rfl dL_law_361 (fun H locs w => ?_)
      refine lv_istore (lv' := [(11, .int vv119), (10, .int vv115.toInt32), (9, .int ((1 : Int32) + ((vv51 / (8 : Int32)) - (vv51 / (8 : Int32)) / (20 : Int32) * (20 : Int32)))), (6, .int vv53), (5, .int (vv51 / (8 : Int32))), (4, .int vv51), (0, .ref b), (1, .ref (ad E 6 0)), (2, .int (1 : Int32)), (3, .int a3)]) hx hb dL_law_364 hl (by decide) rfl (fun ls hl => ?_)
      refine lv_iload hx hb dL_law_366 (lv_at hl 0 rfl) ?_
      refine lv_aload_n hx hb dL_law_368 rfl (lv_at hl 7 rfl) ?_
      refine lv_iconst (v := (1 : Int32)) hx hb dL_law_369 (by decide) ?_
      obtain ⟨vv123, G124, K125, hv126, h⟩ := bdz_of h
      refine x_cZl (As := [.ref (ad E 6 0), .int (1 : Int32)]) (rest := [.int vv119]) C w (mzL_booked hst hv126) q5_11 q5_12 q3_12 q5_13 ynL_booked ⟨rfl, rfl⟩ ⟨by decide, by decide⟩ (rb0 hRB) hl.1 (by exact Nat.le_of_ble_eq_true rfl) rfl dL_law_370 (fun H locs w => ?_)
      refine lv_l2i hx hb dL_law_373 rfl ?_
      refine lv_iload hx hb dL_law_374 (lv_at hl 1 rfl) ?_
      refine lv_isub hx hb dL_law_376 ?_
      obtain ⟨kc127, h⟩ := chk_of h
      refine lv_icmp_ne (tgt := 406) hx hb dL_law_377 (by decide) (fun cc => absurd kc127 cc) (fun _ => ?_)
      refine lv_aload_n hx hb dL_law_380 rfl (lv_at hl 7 rfl) ?_
      refine lv_bipush (v := (7 : Int32)) hx hb dL_law_381 (by decide) ?_
      obtain ⟨vv128, G129, K130, hv131, h⟩ := bdz_of h
      refine x_cZi (As := [.ref (ad E 6 0), .int (7 : Int32)]) (rest := []) C w (mzL_value hst hv131) q3_17 q3_18 q3_12 q3_19 ynL_value ⟨rfl, rfl⟩ ⟨by decide, by decide⟩ (rb0 hRB) hl.1 (by exact Nat.le_of_ble_eq_true rfl) rfl dL_law_383 (fun H locs w => ?_)
      refine lv_iload hx hb dL_law_386 (lv_at hl 3 rfl) ?_
      refine lv_iload hx hb dL_law_388 (lv_at hl 2 rfl) ?_
      refine lv_iadd hx hb dL_law_390 ?_
      obtain ⟨kc132, h⟩ := chk_of h
      refine lv_icmp_ne (tgt := 406) hx hb dL_law_391 (by decide) (fun cc => absurd kc132 cc) (fun _ => ?_)
      refine lv_aload_n hx hb dL_law_394 rfl (lv_at hl 7 rfl) ?_
      refine lv_iconst (v := (4 : Int32)) hx hb dL_law_395 (by decide) ?_
      obtain ⟨vv133, G134, K135, hv136, h⟩ := bdz_of h
      refine x_cZi (As := [.ref (ad E 6 0), .int (4 : Int32)]) (rest := []) C w (mzL_value hst hv136) q3_17 q3_18 q3_12 q3_19 ynL_value ⟨rfl, rfl⟩ ⟨by decide, by decide⟩ (rb0 hRB) hl.1 (by exact Nat.le_of_ble_eq_true rfl) rfl dL_law_396 (fun H locs w => ?_)
      obtain ⟨kc137, h⟩ := chk_of h
      refine lv_if_ne (tgt := 406) hx hb dL_law_399 (by decide) (fun cc => absurd kc137 cc) (fun _ => ?_)
      refine lv_iconst (v := (1 : Int32)) hx hb dL_law_402 (by decide) ?_
      refine lv_goto (tgt := 407) hx hb dL_law_403 (by decide) ?_
      refine lv_istore_n (lv' := [(2, .int (1 : Int32)), (11, .int vv119), (10, .int vv115.toInt32), (9, .int ((1 : Int32) + ((vv51 / (8 : Int32)) - (vv51 / (8 : Int32)) / (20 : Int32) * (20 : Int32)))), (6, .int vv53), (5, .int (vv51 / (8 : Int32))), (4, .int vv51), (0, .ref b), (1, .ref (ad E 6 0)), (3, .int a3)]) hx hb dL_law_407 rfl hl (by decide) rfl (fun ls hl => ?_)
      refine lv_goto (tgt := 592) hx hb dL_law_408 (by decide) ?_
      exact TL_law_592 C hst hX hbl hbA hAn hRB hk98 _ _ _ h w (lv_sub hl [7, 8, 0, 9] rfl)
    replace h := ite_f h c60
    by_cases c61 : (vv51 - vv51 / (8 : Int32) * (8 : Int32)) = (4 : Int32)
    · replace h := ite_t h c61
      refine lv_tableIn (tgt := 411) hx hb dL_law_137 (by rw [c61]; decide) (by rw [c61]; decide) (by rw [c61]; rfl) (by decide) ?_
      refine lv_aload_n hx hb dL_law_411 rfl (lv_at hl 4 rfl) ?_
      refine lv_bipush (v := (9 : Int32)) hx hb dL_law_412 (by decide) ?_
      obtain ⟨vv138, G139, K140, hv141, h⟩ := bdz_of h
      refine x_cZi (As := [.ref (ad E 6 0), .int (9 : Int32)]) (rest := []) C w (mzL_value hst hv141) q3_17 q3_18 q3_12 q3_19 ynL_value ⟨rfl, rfl⟩ ⟨by decide, by decide⟩ (rb0 hRB) hl.1 (by exact Nat.le_of_ble_eq_true rfl) rfl dL_law_414 (fun H locs w => ?_)
      refine lv_istore (lv' := [(12, .int vv138), (6, .int vv53), (5, .int (vv51 / (8 : Int32))), (4, .int vv51), (0, .ref b), (1, .ref (ad E 6 0)), (2, .int (1 : Int32)), (3, .int a3)]) hx hb dL_law_417 hl (by decide) rfl (fun ls hl => ?_)
      refine lv_aload_n hx hb dL_law_419 rfl (lv_at hl 5 rfl) ?_
      obtain ⟨vv145, G143, K144, hv142, h⟩ := bd3_of h
      refine x_cVi (As := []) (rest := []) C w (v6 (by decide)) cel_6 rfl (mtX4_rotate  hv142) q14_5 q14_6 q14_7 q1_2 q14_8 ydX4_rotate ⟨rfl, rfl⟩ ⟨by decide, by decide⟩ (rb0 hRB) hl.1 (Nat.le_of_ble_eq_true rfl) rfl dL_law_420 (fun H locs w => ?_)
      obtain ⟨kc146, h⟩ := chk_of h
      refine lv_if_lt (tgt := 452) hx hb dL_law_423 (by decide) (fun cc => absurd cc kc146) (fun _ => ?_)
      refine lv_aload_n hx hb dL_law_426 rfl (lv_at hl 5 rfl) ?_
      refine lv_bipush (v := (9 : Int32)) hx hb dL_law_427 (by decide) ?_
      obtain ⟨vv147, G148, K149, hv150, h⟩ := bdz_of h
      refine x_cZi (As := [.ref (ad E 6 0), .int (9 : Int32)]) (rest := []) C w (mzL_value hst hv150) q3_17 q3_18 q3_12 q3_19 ynL_value ⟨rfl, rfl⟩ ⟨by decide, by decide⟩ (rb0 hRB) hl.1 (by exact Nat.le_of_ble_eq_true rfl) rfl dL_law_429 (fun H locs w => ?_)
      refine lv_iload hx hb dL_law_432 (lv_at hl 0 rfl) ?_
      refine lv_iconst (v := (1 : Int32)) hx hb dL_law_434 (by decide) ?_
      refine lv_iadd hx hb dL_law_435 ?_
      obtain ⟨kc151, h⟩ := chk_of h
      refine lv_icmp_ne (tgt := 452) hx hb dL_law_436 (by decide) (fun cc => absurd kc151 cc) (fun _ => ?_)
      refine lv_aload_n hx hb dL_law_439 rfl (lv_at hl 5 rfl) ?_
      refine lv_bipush (v := (8 : Int32)) hx hb dL_law_440 (by decide) ?_
      obtain ⟨vv152, G153, K154, hv155, h⟩ := bdz_of h
      refine x_cZi (As := [.ref (ad E 6 0), .int (8 : Int32)]) (rest := []) C w (mzL_value hst hv155) q3_17 q3_18 q3_12 q3_19 ynL_value ⟨rfl, rfl⟩ ⟨by decide, by decide⟩ (rb0 hRB) hl.1 (by exact Nat.le_of_ble_eq_true rfl) rfl dL_law_442 (fun H locs w => ?_)
      obtain ⟨kc156, h⟩ := chk_of h
      refine lv_if_ne (tgt := 452) hx hb dL_law_445 (by decide) (fun cc => absurd kc156 cc) (fun _ => ?_)
      refine lv_iconst (v := (1 : Int32)) hx hb dL_law_448 (by decide) ?_
      refine lv_goto (tgt := 453) hx hb dL_law_449 (by decide) ?_
      refine lv_istore_n (lv' := [(2, .int (1 : Int32)), (12, .int vv138), (6, .int vv53), (5, .int (vv51 / (8 : Int32))), (4, .int vv51), (0, .ref b), (1, .ref (ad E 6 0)), (3, .int a3)]) hx hb dL_law_453 rfl hl (by decide) rfl (fun ls hl => ?_)
      refine lv_iconst (v := (1 : Int32)) hx hb dL_law_454 (by decide) ?_
      refine lv_istore (lv' := [(13, .int (1 : Int32)), (2, .int (1 : Int32)), (12, .int vv138), (6, .int vv53), (5, .int (vv51 / (8 : Int32))), (4, .int vv51), (0, .ref b), (1, .ref (ad E 6 0)), (3, .int a3)]) hx hb dL_law_455 hl (by decide) rfl (fun ls hl => ?_)
      exact TL_law_457 C hst hX hbl hbA hAn hRB hk98 _ _ _ _ _ _ _ _ h w (lv_sub hl [6, 7, 1, 8, 0] rfl)
    replace h := ite_f h c61
    have hsw : (vv51 - vv51 / (8 : Int32) * (8 : Int32)).toInt < 0 ∨ 4 < (vv51 - vv51 / (8 : Int32) * (8 : Int32)).toInt := by
      have n0 := ne_toInt c57
      have n1 := ne_toInt c58
      have n2 := ne_toInt c59
      have n3 := ne_toInt c60
      have n4 := ne_toInt c61
      have e0 : (0 : Int32).toInt = 0 := by decide
      have e1 : (1 : Int32).toInt = 1 := by decide
      have e2 : (2 : Int32).toInt = 2 := by decide
      have e3 : (3 : Int32).toInt = 3 := by decide
      have e4 : (4 : Int32).toInt = 4 := by decide
      simp only [e0, e1, e2, e3, e4] at n0 n1 n2 n3 n4
      omega
    refine lv_tableOut (tgt := 541) hx hb dL_law_137 hsw (by decide) ?_
    refine lv_iconst (v := (1 : Int32)) hx hb dL_law_541 (by decide) ?_
    refine lv_iload hx hb dL_law_542 (lv_at hl 1 rfl) ?_
    refine lv_bipush (v := (50 : Int32)) hx hb dL_law_544 (by decide) ?_
    refine lv_irem hx hb dL_law_546 (by decide) ?_
    refine lv_iadd hx hb dL_law_547 ?_
    refine lv_istore (lv' := [(13, .int ((1 : Int32) + ((vv51 / (8 : Int32)) - (vv51 / (8 : Int32)) / (50 : Int32) * (50 : Int32)))), (6, .int vv53), (5, .int (vv51 / (8 : Int32))), (4, .int vv51), (0, .ref b), (1, .ref (ad E 6 0)), (2, .int (1 : Int32)), (3, .int a3)]) hx hb dL_law_548 hl (by decide) rfl (fun ls hl => ?_)
    refine lv_aload_n hx hb dL_law_550 rfl (lv_at hl 5 rfl) ?_
    refine lv_iload hx hb dL_law_551 (lv_at hl 0 rfl) ?_
    obtain ⟨vv157, G158, K159, hv160, h⟩ := bdz_of h
    refine x_cZi (As := [.ref (ad E 6 0), .int ((1 : Int32) + ((vv51 / (8 : Int32)) - (vv51 / (8 : Int32)) / (50 : Int32) * (50 : Int32)))]) (rest := []) C w (mzL_passes hst hv160) q14_10 q14_11 q3_12 q14_12 ynL_passes ⟨rfl, rfl⟩ ⟨by decide, by decide⟩ (rb0 hRB) hl.1 (by exact Nat.le_of_ble_eq_true rfl) rfl dL_law_553 (fun H locs w => ?_)
    obtain ⟨kc161, h⟩ := chk_of h
    refine lv_if_lt (tgt := 590) hx hb dL_law_556 (by decide) (fun cc => absurd cc kc161) (fun _ => ?_)
    refine lv_aload_n hx hb dL_law_559 rfl (lv_at hl 5 rfl) ?_
    refine lv_bipush (v := (7 : Int32)) hx hb dL_law_560 (by decide) ?_
    obtain ⟨vv162, G163, K164, hv165, h⟩ := bdz_of h
    refine x_cZi (As := [.ref (ad E 6 0), .int (7 : Int32)]) (rest := []) C w (mzL_value hst hv165) q3_17 q3_18 q3_12 q3_19 ynL_value ⟨rfl, rfl⟩ ⟨by decide, by decide⟩ (rb0 hRB) hl.1 (by exact Nat.le_of_ble_eq_true rfl) rfl dL_law_562 (fun H locs w => ?_)
    refine lv_iload hx hb dL_law_565 (lv_at hl 1 rfl) ?_
    refine lv_iload hx hb dL_law_567 (lv_at hl 0 rfl) ?_
    refine lv_iadd hx hb dL_law_569 ?_
    obtain ⟨kc166, h⟩ := chk_of h
    refine lv_icmp_ne (tgt := 590) hx hb dL_law_570 (by decide) (fun cc => absurd kc166 cc) (fun _ => ?_)
    refine lv_aload_n hx hb dL_law_573 rfl (lv_at hl 5 rfl) ?_
    refine lv_iconst (v := (2 : Int32)) hx hb dL_law_574 (by decide) ?_
    obtain ⟨vv167, G168, K169, hv170, h⟩ := bdz_of h
    refine x_cZi (As := [.ref (ad E 6 0), .int (2 : Int32)]) (rest := []) C w (mzL_value hst hv170) q3_17 q3_18 q3_12 q3_19 ynL_value ⟨rfl, rfl⟩ ⟨by decide, by decide⟩ (rb0 hRB) hl.1 (by exact Nat.le_of_ble_eq_true rfl) rfl dL_law_575 (fun H locs w => ?_)
    refine lv_aload_n hx hb dL_law_578 rfl (lv_at hl 5 rfl) ?_
    refine lv_iconst (v := (2 : Int32)) hx hb dL_law_579 (by decide) ?_
    obtain ⟨vv171, G172, K173, hv174, h⟩ := bdz_of h
    refine x_cZi (As := [.ref (ad E 6 0), .int (2 : Int32)]) (rest := [.int vv167]) C w (mzL_setting hst hv174) q7_14 q7_15 q3_12 q7_16 ynL_setting ⟨rfl, rfl⟩ ⟨by decide, by decide⟩ (rb0 hRB) hl.1 (by exact Nat.le_of_ble_eq_true rfl) rfl dL_law_580 (fun H locs w => ?_)
    obtain ⟨kc175, h⟩ := chk_of h
    refine lv_icmp_gt (tgt := 590) hx hb dL_law_583 (by decide) (fun cc => absurd cc kc175) (fun _ => ?_)
    refine lv_iconst (v := (1 : Int32)) hx hb dL_law_586 (by decide) ?_
    refine lv_goto (tgt := 591) hx hb dL_law_587 (by decide) ?_
    refine lv_istore_n (lv' := [(2, .int (1 : Int32)), (13, .int ((1 : Int32) + ((vv51 / (8 : Int32)) - (vv51 / (8 : Int32)) / (50 : Int32) * (50 : Int32)))), (6, .int vv53), (5, .int (vv51 / (8 : Int32))), (4, .int vv51), (0, .ref b), (1, .ref (ad E 6 0)), (3, .int a3)]) hx hb dL_law_591 rfl hl (by decide) rfl (fun ls hl => ?_)
    exact TL_law_592 C hst hX hbl hbA hAn hRB hk98 _ _ _ h w (lv_sub hl [5, 6, 0, 7] rfl)
theorem TL_law_98   (C : Cx E A p s m #[Value.ref b] meth c (Cond.initialized RX4) code 16 ret RL) (hst : l.stackTraces = false) (hX : va_X b L xs s s.heap) (hbl : b < s.heap.size) (hbA : ¬ A b) (hAn : ∀ q, A q → s.heap.size ≤ q) (hRB : RB c0 s0)  : ∀ (n : Nat) (a3 : Int32) (G : M3) (K : J3)  (ls : Array Slot) (H : Heap) (locs : List Loc), fbL_law_98 F xs L n a3 G K = some 1 → Wd E A s G K H locs → lv_has ls 16 [(0, .ref b), (1, .ref (ad E 6 0)), (2, .int (1 : Int32)), (3, .int a3)] → W p l e room_1 s m #[Value.ref b] below meth c H locs c0 s0 (lw_Z below #[Value.ref b] s) (F0 m 98 ls []) := by
  intro n
  induction n with
  | zero => intro a3 G K  ls H locs h; exact absurd (show none = _ from h) (fun z => nomatch z)
  | succ n ih => intro a3 G K  ls H locs h w hl; exact SL_law_98 (F := F) C hst hX hbl hbA hAn hRB  ih a3 G K  h w hl
noncomputable def fsL_law_15 (F : Nat)  (xs : Nat → Int32) (L : Nat) (k15 : Int32 → M3 → J3 → Option Int32) : Int32 → M3 → J3 → Option Int32 := fun a3 G K => (if (4 : Int32) ≤ a3 then ((fL_cell L xs (4 : Int32)).bind (fun vv2 => bdz (fX4_set F (7 : Int32) ((10 : Int32) + (vv2 - vv2 / (60 : Int32) * (60 : Int32))) G K) (fun vv4 G5 K6 => chk (vv4 = (480 : Int32)) (fbL_law_98 F xs L F (0 : Int32) G5 K6)))) else ((fL_cell L xs a3).bind (fun vv9 => bdz (fX4_addCompressor F ((10 : Int32) + (vv9 - vv9 / (300 : Int32) * (300 : Int32))) G K) (fun vv11 G12 K13 => chk (vv11 = a3) (bdh (fL_holds F G12 K13) (fun G16 K17 => k15 (a3 + (1 : Int32)) G16 K17))))))
noncomputable def fbL_law_15 (F : Nat)  (xs : Nat → Int32) (L : Nat) (n : Nat) : Int32 → M3 → J3 → Option Int32 := itr (fsL_law_15 F xs L) (fun _ _ _ => none) n
set_option maxRecDepth 20000 in
set_option maxHeartbeats 1000000 in
theorem SL_law_15   {k15 : Int32 → M3 → J3 → Option Int32} (C : Cx E A p s m #[Value.ref b] meth c (Cond.initialized RX4) code 16 ret RL) (hst : l.stackTraces = false) (hX : va_X b L xs s s.heap) (hbl : b < s.heap.size) (hbA : ¬ A b) (hAn : ∀ q, A q → s.heap.size ≤ q) (hRB : RB c0 s0)  (hk15 : ∀ (a3 : Int32) (G : M3) (K : J3)  (ls : Array Slot) (H : Heap) (locs : List Loc), k15 a3 G K = some 1 → Wd E A s G K H locs → lv_has ls 16 [(0, .ref b), (1, .ref (ad E 6 0)), (2, .int (1 : Int32)), (3, .int a3)] → W p l e room_1 s m #[Value.ref b] below meth c H locs c0 s0 (lw_Z below #[Value.ref b] s) (F0 m 15 ls [])) (a3 : Int32) (G : M3) (K : J3)  (h : fsL_law_15 F xs L k15 a3 G K = some 1) (w : Wd E A s G K H locs) (hl : lv_has ls 16 [(0, .ref b), (1, .ref (ad E 6 0)), (2, .int (1 : Int32)), (3, .int a3)]) : W p l e room_1 s m #[Value.ref b] below meth c H locs c0 s0 (lw_Z below #[Value.ref b] s) (F0 m 15 ls []) := by
  obtain ⟨hx, hb, hr, hml, hown, hts, hlocks, hKK, hA1, hA2⟩ := id C
  unfold fsL_law_15 at h
  refine lv_iload_n hx hb dL_law_15 rfl (lv_at hl 3 rfl) ?_
  refine lv_iconst (v := (4 : Int32)) hx hb dL_law_16 (by decide) ?_
  refine lv_icmp_ge (tgt := 63) hx hb dL_law_17 (by decide) (fun c1 => ?_) (fun c1 => ?_)
  · replace h := ite_t h c1
    refine lv_iload_n hx hb dL_law_63 rfl (lv_at hl 2 rfl) ?_
    refine lv_if_eq (tgt := 94) hx hb dL_law_64 (by decide) (fun cc => absurd cc (by decide)) (fun _ => ?_)
    refine lv_aload_n hx hb dL_law_67 rfl (lv_at hl 1 rfl) ?_
    refine lv_bipush (v := (7 : Int32)) hx hb dL_law_68 (by decide) ?_
    refine lv_bipush (v := (10 : Int32)) hx hb dL_law_70 (by decide) ?_
    refine lv_aload_n hx hb dL_law_72 rfl (lv_at hl 0 rfl) ?_
    refine lv_iconst (v := (4 : Int32)) hx hb dL_law_73 (by decide) ?_
    obtain ⟨vv2, hv3, h⟩ := bind_of h
    refine x_cell (rest := [.int (10 : Int32), .int (7 : Int32), .ref (ad E 6 0)]) C w hX hbl hbA hv3 ⟨by decide, by decide⟩ (rb0 hRB) hl.1 (by exact Nat.le_of_ble_eq_true rfl) rfl q8_10 dL_law_74 (fun H locs w => ?_)
    refine lv_bipush (v := (60 : Int32)) hx hb dL_law_77 (by decide) ?_
    refine lv_irem hx hb dL_law_79 (by decide) ?_
    refine lv_iadd hx hb dL_law_80 ?_
    obtain ⟨vv4, G5, K6, hv7, h⟩ := bdz_of h
    refine x_cZi (As := [.ref (ad E 6 0), .int (7 : Int32), .int ((10 : Int32) + (vv2 - vv2 / (60 : Int32) * (60 : Int32)))]) (rest := []) C w (mzL_sets hst hv7) q10_15 q10_16 q3_12 q10_17 ynL_sets ⟨rfl, rfl⟩ ⟨by decide, by decide⟩ (rb0 hRB) hl.1 (by exact Nat.le_of_ble_eq_true rfl) rfl dL_law_81 (fun H locs w => ?_)
    refine lv_sipush (v := (480 : Int32)) hx hb dL_law_84 (by decide) ?_
    obtain ⟨kc8, h⟩ := chk_of h
    refine lv_icmp_ne (tgt := 94) hx hb dL_law_87 (by decide) (fun cc => absurd kc8 cc) (fun _ => ?_)
    refine lv_iconst (v := (1 : Int32)) hx hb dL_law_90 (by decide) ?_
    refine lv_goto (tgt := 95) hx hb dL_law_91 (by decide) ?_
    refine lv_istore_n (lv' := [(2, .int (1 : Int32)), (0, .ref b), (1, .ref (ad E 6 0)), (3, .int a3)]) hx hb dL_law_95 rfl hl (by decide) rfl (fun ls hl => ?_)
    refine lv_iconst (v := (0 : Int32)) hx hb dL_law_96 (by decide) ?_
    refine lv_istore_n (lv' := [(3, .int (0 : Int32)), (2, .int (1 : Int32)), (0, .ref b), (1, .ref (ad E 6 0))]) hx hb dL_law_97 rfl hl (by decide) rfl (fun ls hl => ?_)
    exact TL_law_98 C hst hX hbl hbA hAn hRB  _ _ _ _ _ _ _ h w (lv_sub hl [2, 3, 1, 0] rfl)
  · replace h := ite_f h c1
    refine lv_iload_n hx hb dL_law_20 rfl (lv_at hl 2 rfl) ?_
    refine lv_if_eq (tgt := 63) hx hb dL_law_21 (by decide) (fun cc => absurd cc (by decide)) (fun _ => ?_)
    refine lv_aload_n hx hb dL_law_24 rfl (lv_at hl 1 rfl) ?_
    refine lv_bipush (v := (10 : Int32)) hx hb dL_law_25 (by decide) ?_
    refine lv_aload_n hx hb dL_law_27 rfl (lv_at hl 0 rfl) ?_
    refine lv_iload_n hx hb dL_law_28 rfl (lv_at hl 3 rfl) ?_
    obtain ⟨vv9, hv10, h⟩ := bind_of h
    refine x_cell (rest := [.int (10 : Int32), .ref (ad E 6 0)]) C w hX hbl hbA hv10 ⟨by decide, by decide⟩ (rb0 hRB) hl.1 (by exact Nat.le_of_ble_eq_true rfl) rfl q8_10 dL_law_29 (fun H locs w => ?_)
    refine lv_sipush (v := (300 : Int32)) hx hb dL_law_32 (by decide) ?_
    refine lv_irem hx hb dL_law_35 (by decide) ?_
    refine lv_iadd hx hb dL_law_36 ?_
    obtain ⟨vv11, G12, K13, hv14, h⟩ := bdz_of h
    refine x_cZi (As := [.ref (ad E 6 0), .int ((10 : Int32) + (vv9 - vv9 / (300 : Int32) * (300 : Int32)))]) (rest := []) C w (mzL_adds hst hv14) q8_15 q8_16 q3_12 q8_17 ynL_adds ⟨rfl, rfl⟩ ⟨by decide, by decide⟩ (rb0 hRB) hl.1 (by exact Nat.le_of_ble_eq_true rfl) rfl dL_law_37 (fun H locs w => ?_)
    refine lv_iload_n hx hb dL_law_40 rfl (lv_at hl 3 rfl) ?_
    obtain ⟨kc15, h⟩ := chk_of h
    refine lv_icmp_ne (tgt := 55) hx hb dL_law_41 (by decide) (fun cc => absurd kc15 cc) (fun _ => ?_)
    refine lv_aload_n hx hb dL_law_44 rfl (lv_at hl 1 rfl) ?_
    obtain ⟨G16, K17, hv18, h⟩ := bdh_of h
    refine x_cSi (As := [.ref (ad E 6 0)]) (rest := []) C w (mtL_holds hst hv18) q3_10 q3_11 q3_12 q3_13 ydL_holds ⟨rfl, rfl⟩ ⟨by decide, by decide⟩ (rb0 hRB) hl.1 (by exact Nat.le_of_ble_eq_true rfl) rfl dL_law_45 (fun H locs w => ?_)
    refine lv_if_eq (tgt := 55) hx hb dL_law_48 (by decide) (fun cc => absurd cc (by decide)) (fun _ => ?_)
    refine lv_iconst (v := (1 : Int32)) hx hb dL_law_51 (by decide) ?_
    refine lv_goto (tgt := 56) hx hb dL_law_52 (by decide) ?_
    refine lv_istore_n (lv' := [(2, .int (1 : Int32)), (0, .ref b), (1, .ref (ad E 6 0)), (3, .int a3)]) hx hb dL_law_56 rfl hl (by decide) rfl (fun ls hl => ?_)
    refine lv_iinc (v := (a3 + (1 : Int32))) (lv' := [(3, .int (a3 + (1 : Int32))), (2, .int (1 : Int32)), (0, .ref b), (1, .ref (ad E 6 0))]) hx hb dL_law_57 hl (k := 3) rfl (congrArg (HAdd.hAdd _) (by decide)) (by decide) rfl (fun ls hl => ?_)
    refine lv_goto (tgt := 15) hx hb dL_law_60 (by decide) ?_
    exact hk15 _ _ _ _ _ _ h w (lv_sub hl [2, 3, 1, 0] rfl)
theorem TL_law_15   (C : Cx E A p s m #[Value.ref b] meth c (Cond.initialized RX4) code 16 ret RL) (hst : l.stackTraces = false) (hX : va_X b L xs s s.heap) (hbl : b < s.heap.size) (hbA : ¬ A b) (hAn : ∀ q, A q → s.heap.size ≤ q) (hRB : RB c0 s0)  : ∀ (n : Nat) (a3 : Int32) (G : M3) (K : J3)  (ls : Array Slot) (H : Heap) (locs : List Loc), fbL_law_15 F xs L n a3 G K = some 1 → Wd E A s G K H locs → lv_has ls 16 [(0, .ref b), (1, .ref (ad E 6 0)), (2, .int (1 : Int32)), (3, .int a3)] → W p l e room_1 s m #[Value.ref b] below meth c H locs c0 s0 (lw_Z below #[Value.ref b] s) (F0 m 15 ls []) := by
  intro n
  induction n with
  | zero => intro a3 G K  ls H locs h; exact absurd (show none = _ from h) (fun z => nomatch z)
  | succ n ih => intro a3 G K  ls H locs h w hl; exact SL_law_15 (F := F) C hst hX hbl hbA hAn hRB  ih a3 G K  h w hl
noncomputable def fbL_law_8 (F : Nat)  (xs : Nat → Int32) (L : Nat)  (G : M3) (K : J3) : Option Int32 := bdh (fL_holds F G K) (fun G1 K2 => fbL_law_15 F xs L F (0 : Int32) G1 K2)
set_option maxRecDepth 20000 in
set_option maxHeartbeats 1000000 in
theorem TL_law_8   (C : Cx E A p s m #[Value.ref b] meth c (Cond.initialized RX4) code 16 ret RL) (hst : l.stackTraces = false) (hX : va_X b L xs s s.heap) (hbl : b < s.heap.size) (hbA : ¬ A b) (hAn : ∀ q, A q → s.heap.size ≤ q) (hRB : RB c0 s0)   (G : M3) (K : J3)  (h : fbL_law_8 F xs L G K = some 1) (w : Wd E A s G K H locs) (hl : lv_has ls 16 [(0, .ref b), (1, .ref (ad E 6 0))]) : W p l e room_1 s m #[Value.ref b] below meth c H locs c0 s0 (lw_Z below #[Value.ref b] s) (F0 m 8 ls []) := by
  obtain ⟨hx, hb, hr, hml, hown, hts, hlocks, hKK, hA1, hA2⟩ := id C
  unfold fbL_law_8 at h
  refine lv_aload_n hx hb dL_law_8 rfl (lv_at hl 1 rfl) ?_
  obtain ⟨G1, K2, hv3, h⟩ := bdh_of h
  refine x_cSi (As := [.ref (ad E 6 0)]) (rest := []) C w (mtL_holds hst hv3) q3_10 q3_11 q3_12 q3_13 ydL_holds ⟨rfl, rfl⟩ ⟨by decide, by decide⟩ (rb0 hRB) hl.1 (by exact Nat.le_of_ble_eq_true rfl) rfl dL_law_9 (fun H locs w => ?_)
  refine lv_istore_n (lv' := [(2, .int (1 : Int32)), (0, .ref b), (1, .ref (ad E 6 0))]) hx hb dL_law_12 rfl hl (by decide) rfl (fun ls hl => ?_)
  refine lv_iconst (v := (0 : Int32)) hx hb dL_law_13 (by decide) ?_
  refine lv_istore_n (lv' := [(3, .int (0 : Int32)), (2, .int (1 : Int32)), (0, .ref b), (1, .ref (ad E 6 0))]) hx hb dL_law_14 rfl hl (by decide) rfl (fun ls hl => ?_)
  exact TL_law_15 C hst hX hbl hbA hAn hRB  _ _ _ _ _ _ _ h w (lv_sub hl [2, 3, 1, 0] rfl)
end XLW
