section XLW1
variable {E : WE} {p : Program} {l : Launch} {e : Env} {s : State} {m : MethodId} {below : List Frame} {meth : Method} {c : Code} {H : Heap} {locs : List Loc} {ls : Array Slot} {F cells slots b L : Nat} {xs : Nat → Int32}
noncomputable def fbL_law_514 (F : Nat) (k23 : Int32 → M3 → J3 → Option Int32) (xs : Nat → Int32) (L : Nat) (a4 : Int32) (G : M3) (K : J3) : Option Int32 := fbL_law_1418 F k23 xs L a4 G K
set_option maxRecDepth 20000 in
set_option maxHeartbeats 1000000 in
theorem TL_law_514 {n : Nat} {k23 : Int32 → M3 → J3 → Option Int32} (C : Cx E (fun q : Nat => s.heap.size ≤ q) p s m #[Value.ref b] meth c (Cond.initialized RX4) code 9 ret RL) (hst : l.stackTraces = false) (hX : va_X b L xs s s.heap) (hbl : b < s.heap.size) (hbA : ¬ (fun q : Nat => s.heap.size ≤ q) b) (hk23 : ∀ (a4 : Int32) (G : M3) (K : J3) (ls : Array Slot) (H : Heap) (locs : List Loc) (cells slots : Nat), RB n cells slots → k23 a4 G K = some 1 → Wd E (fun q : Nat => s.heap.size ≤ q) s G K H locs → lv_has ls 9 [(0, .ref b), (1, .ref (ad E 6 0)), (2, .ref (ad E 8 0)), (3, .ref (ad E 9 0)), (4, .int a4)] → W p l e room_1 s m #[Value.ref b] below meth c H locs cells slots (lw_Z below #[Value.ref b] s) (F0 m 23 ls [])) (a4 : Int32) (G : M3) (K : J3) (hRB : RB n cells slots) (h : fbL_law_514 F k23 xs L a4 G K = some 1) (w : Wd E (fun q : Nat => s.heap.size ≤ q) s G K H locs) (hl : lv_has ls 9 [(0, .ref b), (1, .ref (ad E 6 0)), (2, .ref (ad E 8 0)), (3, .ref (ad E 9 0)), (4, .int a4)]) : W p l e room_1 s m #[Value.ref b] below meth c H locs cells slots (lw_Z below #[Value.ref b] s) (F0 m 514 ls []) := by
  obtain ⟨hx, hb, hr, hml, hown, hts, hlocks, hKK, hA1, hA2⟩ := id C
  unfold fbL_law_514 at h
  refine lv_goto (tgt := 1418) hx hb dL_law_514 (by decide) ?_
  exact TL_law_1418 C hst hX hbl hbA hk23 _ _ _ hRB h w (lv_sub hl [0, 1, 2, 3, 4] rfl)
noncomputable def fbL_law_461 (F : Nat) (k23 : Int32 → M3 → J3 → Option Int32) (xs : Nat → Int32) (L : Nat) (a4 : Int32) (G : M3) (K : J3) : Option Int32 := chk (inb (a4 + (1 : Int32)) L) (bd3 (fL_pass F (xs (a4 + (1 : Int32)).toNatClampNeg) G K) (fun vv2 G3 K4 => chk (inb (a4 + (1 : Int32)) L) (bd3 (fX5_pass F (xs (a4 + (1 : Int32)).toNatClampNeg) (G3 8) (K4 8)) (fun vv14 M8 J9 => bnd (sg G3 8 M8) (fun G10 => bnd (sg K4 8 J9) (fun K11 => (if (fX5_thrown (G10 8) (K11 8)) = vv2 then ((if ¬ vv2 = 0 then (fbL_law_514 F k23 xs L a4 G10 K11) else ((if (lg_cmp (K11 9 0 0) (vv14.toInt64)) = 0 then (fbL_law_514 F k23 xs L a4 G10 K11) else (some 0))))) else (some 0))))))))
set_option maxRecDepth 20000 in
set_option maxHeartbeats 1000000 in
theorem TL_law_461 {n : Nat} {k23 : Int32 → M3 → J3 → Option Int32} (C : Cx E (fun q : Nat => s.heap.size ≤ q) p s m #[Value.ref b] meth c (Cond.initialized RX4) code 9 ret RL) (hst : l.stackTraces = false) (hX : va_X b L xs s s.heap) (hbl : b < s.heap.size) (hbA : ¬ (fun q : Nat => s.heap.size ≤ q) b) (hk23 : ∀ (a4 : Int32) (G : M3) (K : J3) (ls : Array Slot) (H : Heap) (locs : List Loc) (cells slots : Nat), RB n cells slots → k23 a4 G K = some 1 → Wd E (fun q : Nat => s.heap.size ≤ q) s G K H locs → lv_has ls 9 [(0, .ref b), (1, .ref (ad E 6 0)), (2, .ref (ad E 8 0)), (3, .ref (ad E 9 0)), (4, .int a4)] → W p l e room_1 s m #[Value.ref b] below meth c H locs cells slots (lw_Z below #[Value.ref b] s) (F0 m 23 ls [])) (a4 : Int32) (G : M3) (K : J3) (hRB : RB (n + 1) cells slots) (h : fbL_law_461 F k23 xs L a4 G K = some 1) (w : Wd E (fun q : Nat => s.heap.size ≤ q) s G K H locs) (hl : lv_has ls 9 [(0, .ref b), (1, .ref (ad E 6 0)), (2, .ref (ad E 8 0)), (3, .ref (ad E 9 0)), (4, .int a4)]) : W p l e room_1 s m #[Value.ref b] below meth c H locs cells slots (lw_Z below #[Value.ref b] s) (F0 m 461 ls []) := by
  obtain ⟨hx, hb, hr, hml, hown, hts, hlocks, hKK, hA1, hA2⟩ := id C
  unfold fbL_law_461 at h
  refine lv_aload_n hx hb dL_law_461 rfl (lv_at hl 1 rfl) ?_
  refine lv_aload_n hx hb dL_law_462 rfl (lv_at hl 0 rfl) ?_
  refine lv_iload hx hb dL_law_463 (lv_at hl 4 rfl) ?_
  refine lv_iconst (v := (1 : Int32)) hx hb dL_law_465 (by decide) ?_
  refine lv_iadd hx hb dL_law_466 ?_
  obtain ⟨ki1, h⟩ := chk_of h
  refine x_scr C w hX hbl hbA ki1 rfl dL_law_467 ?_
  refine lv_aload_n hx hb dL_law_468 rfl (lv_at hl 3 rfl) ?_
  obtain ⟨vv2, G3, K4, hv5, h⟩ := bd3_of h
  refine x_cWi (As := [.ref (ad E 6 0), .int (xs (a4 + (1 : Int32)).toNatClampNeg), .ref (ad E 9 0)]) (rest := []) C w (mtL_pass hst hv5) q13_15 q13_16 q4_4 q13_17 ynL_pass ⟨rfl, rfl⟩ ⟨by decide, by decide⟩ (rb_c hRB) hl.1 (Nat.le_of_ble_eq_true rfl) rfl dL_law_469 (fun H locs w => ?_)
  replace hRB := rb_go hRB
  refine lv_istore (lv' := [(5, .int vv2), (0, .ref b), (1, .ref (ad E 6 0)), (2, .ref (ad E 8 0)), (3, .ref (ad E 9 0)), (4, .int a4)]) hx hb dL_law_472 hl (by decide) rfl (fun ls hl => ?_)
  refine lv_aload_n hx hb dL_law_474 rfl (lv_at hl 3 rfl) ?_
  refine lv_aload_n hx hb dL_law_475 rfl (lv_at hl 1 rfl) ?_
  refine lv_iload hx hb dL_law_476 (lv_at hl 5 rfl) ?_
  refine lv_iconst (v := (1 : Int32)) hx hb dL_law_478 (by decide) ?_
  refine lv_iadd hx hb dL_law_479 ?_
  obtain ⟨ki6, h⟩ := chk_of h
  refine x_scr C w hX hbl hbA ki6 rfl dL_law_480 ?_
  obtain ⟨vv14, M8, J9, hv7, h⟩ := bd3_of h
  refine x_cVi (As := [.int (xs (a4 + (1 : Int32)).toNatClampNeg)]) (rest := []) C (Wd.ofS 8 w) (v8 (by decide)) cel_8 rfl (mtX5_pass  hv7) q16_16 q16_17 q16_18 q1_5 q16_19 ydX5_pass ⟨rfl, rfl⟩ ⟨by decide, by decide⟩ (rb_z hRB) hl.1 (Nat.le_of_ble_eq_true rfl) rfl dL_law_481 (fun H locs w => ?_)
  obtain ⟨G10, e12⟩ : ∃ z, z = sg G3 8 M8 := ⟨_, rfl⟩
  obtain ⟨K11, e13⟩ : ∃ z, z = sg K4 8 J9 := ⟨_, rfl⟩
  rw [← e12, ← e13] at w
  replace h := bnd_of h e12
  replace h := bnd_of h e13
  refine lv_istore (lv' := [(6, .int vv14), (5, .int vv2), (0, .ref b), (1, .ref (ad E 6 0)), (2, .ref (ad E 8 0)), (3, .ref (ad E 9 0)), (4, .int a4)]) hx hb dL_law_484 hl (by decide) rfl (fun ls hl => ?_)
  refine lv_aload_n hx hb dL_law_486 rfl (lv_at hl 4 rfl) ?_
  refine x_cVi (As := []) (rest := []) C (Wd.ofS 8 w) (v8 (by decide)) cel_8 rfl (mtX5_thrown ) q8_1 q8_2 q8_3 q1_5 q8_4 ydX5_thrown ⟨rfl, rfl⟩ ⟨by decide, by decide⟩ (rb_z hRB) hl.1 (Nat.le_of_ble_eq_true rfl) rfl dL_law_487 (fun H locs w => ?_)
  have w := Wd.back w
  refine lv_iload hx hb dL_law_490 (lv_at hl 1 rfl) ?_
  refine lv_icmp_eq (tgt := 497) hx hb dL_law_492 (by decide) (fun c15 => ?_) (fun c15 => ?_)
  · replace h := ite_t h c15
    refine lv_iload hx hb dL_law_497 (lv_at hl 1 rfl) ?_
    refine lv_if_ne (tgt := 514) hx hb dL_law_499 (by decide) (fun c16 => ?_) (fun c16 => ?_)
    · replace h := ite_t h c16
      exact TL_law_514 C hst hX hbl hbA hk23 _ _ _ hRB h w (lv_sub hl [2, 3, 4, 5, 6] rfl)
    · replace h := ite_f h (fun z => z c16)
      refine lv_aload_n hx hb dL_law_502 rfl (lv_at hl 5 rfl) ?_
      refine lv_iconst (v := (0 : Int32)) hx hb dL_law_503 (by decide) ?_
      refine x_aldJ C w v9 c9_0 (inb_k (k := 0) (by decide) (by decide)) cl_0 dL_law_504 ?_
      refine lv_iload hx hb dL_law_505 (lv_at hl 0 rfl) ?_
      refine lv_i2l hx hb dL_law_507 rfl ?_
      refine W.lcmp hx hb dL_law_508 ?_
      refine lv_if_eq (tgt := 514) hx hb dL_law_509 (by decide) (fun c17 => ?_) (fun c17 => ?_)
      · replace h := ite_t h c17
        exact TL_law_514 C hst hX hbl hbA hk23 _ _ _ hRB h w (lv_sub hl [2, 3, 4, 5, 6] rfl)
      · replace h := ite_f h c17
        refine lv_iconst (v := (0 : Int32)) hx hb dL_law_512 (by decide) ?_
        exact absurd (Option.some.inj h) (by decide)
  · replace h := ite_f h c15
    refine lv_iconst (v := (0 : Int32)) hx hb dL_law_495 (by decide) ?_
    exact absurd (Option.some.inj h) (by decide)
noncomputable def fbL_law_570 (F : Nat) (k23 : Int32 → M3 → J3 → Option Int32) (xs : Nat → Int32) (L : Nat) (a4 : Int32) (G : M3) (K : J3) : Option Int32 := fbL_law_1418 F k23 xs L a4 G K
set_option maxRecDepth 20000 in
set_option maxHeartbeats 1000000 in
theorem TL_law_570 {n : Nat} {k23 : Int32 → M3 → J3 → Option Int32} (C : Cx E (fun q : Nat => s.heap.size ≤ q) p s m #[Value.ref b] meth c (Cond.initialized RX4) code 9 ret RL) (hst : l.stackTraces = false) (hX : va_X b L xs s s.heap) (hbl : b < s.heap.size) (hbA : ¬ (fun q : Nat => s.heap.size ≤ q) b) (hk23 : ∀ (a4 : Int32) (G : M3) (K : J3) (ls : Array Slot) (H : Heap) (locs : List Loc) (cells slots : Nat), RB n cells slots → k23 a4 G K = some 1 → Wd E (fun q : Nat => s.heap.size ≤ q) s G K H locs → lv_has ls 9 [(0, .ref b), (1, .ref (ad E 6 0)), (2, .ref (ad E 8 0)), (3, .ref (ad E 9 0)), (4, .int a4)] → W p l e room_1 s m #[Value.ref b] below meth c H locs cells slots (lw_Z below #[Value.ref b] s) (F0 m 23 ls [])) (a4 : Int32) (G : M3) (K : J3) (hRB : RB n cells slots) (h : fbL_law_570 F k23 xs L a4 G K = some 1) (w : Wd E (fun q : Nat => s.heap.size ≤ q) s G K H locs) (hl : lv_has ls 9 [(0, .ref b), (1, .ref (ad E 6 0)), (2, .ref (ad E 8 0)), (3, .ref (ad E 9 0)), (4, .int a4)]) : W p l e room_1 s m #[Value.ref b] below meth c H locs cells slots (lw_Z below #[Value.ref b] s) (F0 m 570 ls []) := by
  obtain ⟨hx, hb, hr, hml, hown, hts, hlocks, hKK, hA1, hA2⟩ := id C
  unfold fbL_law_570 at h
  refine lv_goto (tgt := 1418) hx hb dL_law_570 (by decide) ?_
  exact TL_law_1418 C hst hX hbl hbA hk23 _ _ _ hRB h w (lv_sub hl [0, 1, 2, 3, 4] rfl)
noncomputable def fbL_law_517 (F : Nat) (k23 : Int32 → M3 → J3 → Option Int32) (xs : Nat → Int32) (L : Nat) (a4 : Int32) (G : M3) (K : J3) : Option Int32 := chk (inb (a4 + (1 : Int32)) L) (bd3 (fL_leakTest F (xs (a4 + (1 : Int32)).toNatClampNeg) G K) (fun vv2 G3 K4 => chk (inb (a4 + (1 : Int32)) L) (bd3 (fX5_leakTest F (xs (a4 + (1 : Int32)).toNatClampNeg) (G3 8) (K4 8)) (fun vv14 M8 J9 => bnd (sg G3 8 M8) (fun G10 => bnd (sg K4 8 J9) (fun K11 => (if (fX5_thrown (G10 8) (K11 8)) = vv2 then ((if ¬ vv2 = 0 then (fbL_law_570 F k23 xs L a4 G10 K11) else ((if (lg_cmp (K11 9 0 0) (vv14.toInt64)) = 0 then (fbL_law_570 F k23 xs L a4 G10 K11) else (some 0))))) else (some 0))))))))
set_option maxRecDepth 20000 in
set_option maxHeartbeats 1000000 in
theorem TL_law_517 {n : Nat} {k23 : Int32 → M3 → J3 → Option Int32} (C : Cx E (fun q : Nat => s.heap.size ≤ q) p s m #[Value.ref b] meth c (Cond.initialized RX4) code 9 ret RL) (hst : l.stackTraces = false) (hX : va_X b L xs s s.heap) (hbl : b < s.heap.size) (hbA : ¬ (fun q : Nat => s.heap.size ≤ q) b) (hk23 : ∀ (a4 : Int32) (G : M3) (K : J3) (ls : Array Slot) (H : Heap) (locs : List Loc) (cells slots : Nat), RB n cells slots → k23 a4 G K = some 1 → Wd E (fun q : Nat => s.heap.size ≤ q) s G K H locs → lv_has ls 9 [(0, .ref b), (1, .ref (ad E 6 0)), (2, .ref (ad E 8 0)), (3, .ref (ad E 9 0)), (4, .int a4)] → W p l e room_1 s m #[Value.ref b] below meth c H locs cells slots (lw_Z below #[Value.ref b] s) (F0 m 23 ls [])) (a4 : Int32) (G : M3) (K : J3) (hRB : RB (n + 1) cells slots) (h : fbL_law_517 F k23 xs L a4 G K = some 1) (w : Wd E (fun q : Nat => s.heap.size ≤ q) s G K H locs) (hl : lv_has ls 9 [(0, .ref b), (1, .ref (ad E 6 0)), (2, .ref (ad E 8 0)), (3, .ref (ad E 9 0)), (4, .int a4)]) : W p l e room_1 s m #[Value.ref b] below meth c H locs cells slots (lw_Z below #[Value.ref b] s) (F0 m 517 ls []) := by
  obtain ⟨hx, hb, hr, hml, hown, hts, hlocks, hKK, hA1, hA2⟩ := id C
  unfold fbL_law_517 at h
  refine lv_aload_n hx hb dL_law_517 rfl (lv_at hl 1 rfl) ?_
  refine lv_aload_n hx hb dL_law_518 rfl (lv_at hl 0 rfl) ?_
  refine lv_iload hx hb dL_law_519 (lv_at hl 4 rfl) ?_
  refine lv_iconst (v := (1 : Int32)) hx hb dL_law_521 (by decide) ?_
  refine lv_iadd hx hb dL_law_522 ?_
  obtain ⟨ki1, h⟩ := chk_of h
  refine x_scr C w hX hbl hbA ki1 rfl dL_law_523 ?_
  refine lv_aload_n hx hb dL_law_524 rfl (lv_at hl 3 rfl) ?_
  obtain ⟨vv2, G3, K4, hv5, h⟩ := bd3_of h
  refine x_cWi (As := [.ref (ad E 6 0), .int (xs (a4 + (1 : Int32)).toNatClampNeg), .ref (ad E 9 0)]) (rest := []) C w (mtL_leakTest hst hv5) q18_2 q18_3 q4_4 q18_4 ynL_leakTest ⟨rfl, rfl⟩ ⟨by decide, by decide⟩ (rb_c hRB) hl.1 (Nat.le_of_ble_eq_true rfl) rfl dL_law_525 (fun H locs w => ?_)
  replace hRB := rb_go hRB
  refine lv_istore (lv' := [(5, .int vv2), (0, .ref b), (1, .ref (ad E 6 0)), (2, .ref (ad E 8 0)), (3, .ref (ad E 9 0)), (4, .int a4)]) hx hb dL_law_528 hl (by decide) rfl (fun ls hl => ?_)
  refine lv_aload_n hx hb dL_law_530 rfl (lv_at hl 3 rfl) ?_
  refine lv_aload_n hx hb dL_law_531 rfl (lv_at hl 1 rfl) ?_
  refine lv_iload hx hb dL_law_532 (lv_at hl 5 rfl) ?_
  refine lv_iconst (v := (1 : Int32)) hx hb dL_law_534 (by decide) ?_
  refine lv_iadd hx hb dL_law_535 ?_
  obtain ⟨ki6, h⟩ := chk_of h
  refine x_scr C w hX hbl hbA ki6 rfl dL_law_536 ?_
  obtain ⟨vv14, M8, J9, hv7, h⟩ := bd3_of h
  refine x_cVi (As := [.int (xs (a4 + (1 : Int32)).toNatClampNeg)]) (rest := []) C (Wd.ofS 8 w) (v8 (by decide)) cel_8 rfl (mtX5_leakTest  hv7) q18_22 q18_23 q19_0 q1_5 q19_1 ydX5_leakTest ⟨rfl, rfl⟩ ⟨by decide, by decide⟩ (rb_z hRB) hl.1 (Nat.le_of_ble_eq_true rfl) rfl dL_law_537 (fun H locs w => ?_)
  obtain ⟨G10, e12⟩ : ∃ z, z = sg G3 8 M8 := ⟨_, rfl⟩
  obtain ⟨K11, e13⟩ : ∃ z, z = sg K4 8 J9 := ⟨_, rfl⟩
  rw [← e12, ← e13] at w
  replace h := bnd_of h e12
  replace h := bnd_of h e13
  refine lv_istore (lv' := [(6, .int vv14), (5, .int vv2), (0, .ref b), (1, .ref (ad E 6 0)), (2, .ref (ad E 8 0)), (3, .ref (ad E 9 0)), (4, .int a4)]) hx hb dL_law_540 hl (by decide) rfl (fun ls hl => ?_)
  refine lv_aload_n hx hb dL_law_542 rfl (lv_at hl 4 rfl) ?_
  refine x_cVi (As := []) (rest := []) C (Wd.ofS 8 w) (v8 (by decide)) cel_8 rfl (mtX5_thrown ) q8_1 q8_2 q8_3 q1_5 q8_4 ydX5_thrown ⟨rfl, rfl⟩ ⟨by decide, by decide⟩ (rb_z hRB) hl.1 (Nat.le_of_ble_eq_true rfl) rfl dL_law_543 (fun H locs w => ?_)
  have w := Wd.back w
  refine lv_iload hx hb dL_law_546 (lv_at hl 1 rfl) ?_
  refine lv_icmp_eq (tgt := 553) hx hb dL_law_548 (by decide) (fun c15 => ?_) (fun c15 => ?_)
  · replace h := ite_t h c15
    refine lv_iload hx hb dL_law_553 (lv_at hl 1 rfl) ?_
    refine lv_if_ne (tgt := 570) hx hb dL_law_555 (by decide) (fun c16 => ?_) (fun c16 => ?_)
    · replace h := ite_t h c16
      exact TL_law_570 C hst hX hbl hbA hk23 _ _ _ hRB h w (lv_sub hl [2, 3, 4, 5, 6] rfl)
    · replace h := ite_f h (fun z => z c16)
      refine lv_aload_n hx hb dL_law_558 rfl (lv_at hl 5 rfl) ?_
      refine lv_iconst (v := (0 : Int32)) hx hb dL_law_559 (by decide) ?_
      refine x_aldJ C w v9 c9_0 (inb_k (k := 0) (by decide) (by decide)) cl_0 dL_law_560 ?_
      refine lv_iload hx hb dL_law_561 (lv_at hl 0 rfl) ?_
      refine lv_i2l hx hb dL_law_563 rfl ?_
      refine W.lcmp hx hb dL_law_564 ?_
      refine lv_if_eq (tgt := 570) hx hb dL_law_565 (by decide) (fun c17 => ?_) (fun c17 => ?_)
      · replace h := ite_t h c17
        exact TL_law_570 C hst hX hbl hbA hk23 _ _ _ hRB h w (lv_sub hl [2, 3, 4, 5, 6] rfl)
      · replace h := ite_f h c17
        refine lv_iconst (v := (0 : Int32)) hx hb dL_law_568 (by decide) ?_
        exact absurd (Option.some.inj h) (by decide)
  · replace h := ite_f h c15
    refine lv_iconst (v := (0 : Int32)) hx hb dL_law_551 (by decide) ?_
    exact absurd (Option.some.inj h) (by decide)
noncomputable def fbL_law_638 (F : Nat) (k23 : Int32 → M3 → J3 → Option Int32) (xs : Nat → Int32) (L : Nat) (a4 : Int32) (G : M3) (K : J3) : Option Int32 := fbL_law_1418 F k23 xs L a4 G K
set_option maxRecDepth 20000 in
set_option maxHeartbeats 1000000 in
theorem TL_law_638 {n : Nat} {k23 : Int32 → M3 → J3 → Option Int32} (C : Cx E (fun q : Nat => s.heap.size ≤ q) p s m #[Value.ref b] meth c (Cond.initialized RX4) code 9 ret RL) (hst : l.stackTraces = false) (hX : va_X b L xs s s.heap) (hbl : b < s.heap.size) (hbA : ¬ (fun q : Nat => s.heap.size ≤ q) b) (hk23 : ∀ (a4 : Int32) (G : M3) (K : J3) (ls : Array Slot) (H : Heap) (locs : List Loc) (cells slots : Nat), RB n cells slots → k23 a4 G K = some 1 → Wd E (fun q : Nat => s.heap.size ≤ q) s G K H locs → lv_has ls 9 [(0, .ref b), (1, .ref (ad E 6 0)), (2, .ref (ad E 8 0)), (3, .ref (ad E 9 0)), (4, .int a4)] → W p l e room_1 s m #[Value.ref b] below meth c H locs cells slots (lw_Z below #[Value.ref b] s) (F0 m 23 ls [])) (a4 : Int32) (G : M3) (K : J3) (hRB : RB n cells slots) (h : fbL_law_638 F k23 xs L a4 G K = some 1) (w : Wd E (fun q : Nat => s.heap.size ≤ q) s G K H locs) (hl : lv_has ls 9 [(0, .ref b), (1, .ref (ad E 6 0)), (2, .ref (ad E 8 0)), (3, .ref (ad E 9 0)), (4, .int a4)]) : W p l e room_1 s m #[Value.ref b] below meth c H locs cells slots (lw_Z below #[Value.ref b] s) (F0 m 638 ls []) := by
  obtain ⟨hx, hb, hr, hml, hown, hts, hlocks, hKK, hA1, hA2⟩ := id C
  unfold fbL_law_638 at h
  refine lv_goto (tgt := 1418) hx hb dL_law_638 (by decide) ?_
  exact TL_law_1418 C hst hX hbl hbA hk23 _ _ _ hRB h w (lv_sub hl [0, 1, 2, 3, 4] rfl)
noncomputable def fbL_law_573 (F : Nat) (k23 : Int32 → M3 → J3 → Option Int32) (xs : Nat → Int32) (L : Nat) (a4 : Int32) (G : M3) (K : J3) : Option Int32 := chk (inb (a4 + (1 : Int32)) L) (chk (inb (a4 + (2 : Int32)) L) (bd3 (fL_compressor (xs (a4 + (1 : Int32)).toNatClampNeg) (xs (a4 + (2 : Int32)).toNatClampNeg) G K) (fun vv3 G4 K5 => chk (inb (a4 + (1 : Int32)) L) (chk (inb (a4 + (2 : Int32)) L) (bd3 (fX5_compressor F (xs (a4 + (1 : Int32)).toNatClampNeg) (xs (a4 + (2 : Int32)).toNatClampNeg) (G4 8) (K5 8)) (fun vv16 M10 J11 => bnd (sg G4 8 M10) (fun G12 => bnd (sg K5 8 J11) (fun K13 => (if (fX5_thrown (G12 8) (K13 8)) = vv3 then ((if ¬ vv3 = 0 then (fbL_law_638 F k23 xs L a4 G12 K13) else ((if (lg_cmp (K13 9 0 0) (vv16.toInt64)) = 0 then (fbL_law_638 F k23 xs L a4 G12 K13) else (some 0))))) else (some 0))))))))))
set_option maxRecDepth 20000 in
set_option maxHeartbeats 1000000 in
theorem TL_law_573 {n : Nat} {k23 : Int32 → M3 → J3 → Option Int32} (C : Cx E (fun q : Nat => s.heap.size ≤ q) p s m #[Value.ref b] meth c (Cond.initialized RX4) code 9 ret RL) (hst : l.stackTraces = false) (hX : va_X b L xs s s.heap) (hbl : b < s.heap.size) (hbA : ¬ (fun q : Nat => s.heap.size ≤ q) b) (hk23 : ∀ (a4 : Int32) (G : M3) (K : J3) (ls : Array Slot) (H : Heap) (locs : List Loc) (cells slots : Nat), RB n cells slots → k23 a4 G K = some 1 → Wd E (fun q : Nat => s.heap.size ≤ q) s G K H locs → lv_has ls 9 [(0, .ref b), (1, .ref (ad E 6 0)), (2, .ref (ad E 8 0)), (3, .ref (ad E 9 0)), (4, .int a4)] → W p l e room_1 s m #[Value.ref b] below meth c H locs cells slots (lw_Z below #[Value.ref b] s) (F0 m 23 ls [])) (a4 : Int32) (G : M3) (K : J3) (hRB : RB (n + 1) cells slots) (h : fbL_law_573 F k23 xs L a4 G K = some 1) (w : Wd E (fun q : Nat => s.heap.size ≤ q) s G K H locs) (hl : lv_has ls 9 [(0, .ref b), (1, .ref (ad E 6 0)), (2, .ref (ad E 8 0)), (3, .ref (ad E 9 0)), (4, .int a4)]) : W p l e room_1 s m #[Value.ref b] below meth c H locs cells slots (lw_Z below #[Value.ref b] s) (F0 m 573 ls []) := by
  obtain ⟨hx, hb, hr, hml, hown, hts, hlocks, hKK, hA1, hA2⟩ := id C
  unfold fbL_law_573 at h
  refine lv_aload_n hx hb dL_law_573 rfl (lv_at hl 1 rfl) ?_
  refine lv_aload_n hx hb dL_law_574 rfl (lv_at hl 0 rfl) ?_
  refine lv_iload hx hb dL_law_575 (lv_at hl 4 rfl) ?_
  refine lv_iconst (v := (1 : Int32)) hx hb dL_law_577 (by decide) ?_
  refine lv_iadd hx hb dL_law_578 ?_
  obtain ⟨ki1, h⟩ := chk_of h
  refine x_scr C w hX hbl hbA ki1 rfl dL_law_579 ?_
  refine lv_aload_n hx hb dL_law_580 rfl (lv_at hl 0 rfl) ?_
  refine lv_iload hx hb dL_law_581 (lv_at hl 4 rfl) ?_
  refine lv_iconst (v := (2 : Int32)) hx hb dL_law_583 (by decide) ?_
  refine lv_iadd hx hb dL_law_584 ?_
  obtain ⟨ki2, h⟩ := chk_of h
  refine x_scr C w hX hbl hbA ki2 rfl dL_law_585 ?_
  refine lv_aload_n hx hb dL_law_586 rfl (lv_at hl 3 rfl) ?_
  obtain ⟨vv3, G4, K5, hv6, h⟩ := bd3_of h
  refine x_cWi (As := [.ref (ad E 6 0), .int (xs (a4 + (1 : Int32)).toNatClampNeg), .int (xs (a4 + (2 : Int32)).toNatClampNeg), .ref (ad E 9 0)]) (rest := []) C w (mtL_compressor hst hv6) q19_2 q19_3 q4_4 q19_4 ynL_compressor ⟨rfl, rfl⟩ ⟨by decide, by decide⟩ (rb_c hRB) hl.1 (Nat.le_of_ble_eq_true rfl) rfl dL_law_587 (fun H locs w => ?_)
  replace hRB := rb_go hRB
  refine lv_istore (lv' := [(5, .int vv3), (0, .ref b), (1, .ref (ad E 6 0)), (2, .ref (ad E 8 0)), (3, .ref (ad E 9 0)), (4, .int a4)]) hx hb dL_law_590 hl (by decide) rfl (fun ls hl => ?_)
  refine lv_aload_n hx hb dL_law_592 rfl (lv_at hl 3 rfl) ?_
  refine lv_aload_n hx hb dL_law_593 rfl (lv_at hl 1 rfl) ?_
  refine lv_iload hx hb dL_law_594 (lv_at hl 5 rfl) ?_
  refine lv_iconst (v := (1 : Int32)) hx hb dL_law_596 (by decide) ?_
  refine lv_iadd hx hb dL_law_597 ?_
  obtain ⟨ki7, h⟩ := chk_of h
  refine x_scr C w hX hbl hbA ki7 rfl dL_law_598 ?_
  refine lv_aload_n hx hb dL_law_599 rfl (lv_at hl 1 rfl) ?_
  refine lv_iload hx hb dL_law_600 (lv_at hl 5 rfl) ?_
  refine lv_iconst (v := (2 : Int32)) hx hb dL_law_602 (by decide) ?_
  refine lv_iadd hx hb dL_law_603 ?_
  obtain ⟨ki8, h⟩ := chk_of h
  refine x_scr C w hX hbl hbA ki8 rfl dL_law_604 ?_
  obtain ⟨vv16, M10, J11, hv9, h⟩ := bd3_of h
  refine x_cVi (As := [.int (xs (a4 + (1 : Int32)).toNatClampNeg), .int (xs (a4 + (2 : Int32)).toNatClampNeg)]) (rest := []) C (Wd.ofS 8 w) (v8 (by decide)) cel_8 rfl (mtX5_compressor  hv9) q19_14 q19_15 q19_16 q1_5 q19_17 ydX5_compressor ⟨rfl, rfl⟩ ⟨by decide, by decide⟩ (rb_z hRB) hl.1 (Nat.le_of_ble_eq_true rfl) rfl dL_law_605 (fun H locs w => ?_)
  obtain ⟨G12, e14⟩ : ∃ z, z = sg G4 8 M10 := ⟨_, rfl⟩
  obtain ⟨K13, e15⟩ : ∃ z, z = sg K5 8 J11 := ⟨_, rfl⟩
  rw [← e14, ← e15] at w
  replace h := bnd_of h e14
  replace h := bnd_of h e15
  refine lv_istore (lv' := [(6, .int vv16), (5, .int vv3), (0, .ref b), (1, .ref (ad E 6 0)), (2, .ref (ad E 8 0)), (3, .ref (ad E 9 0)), (4, .int a4)]) hx hb dL_law_608 hl (by decide) rfl (fun ls hl => ?_)
  refine lv_aload_n hx hb dL_law_610 rfl (lv_at hl 4 rfl) ?_
  refine x_cVi (As := []) (rest := []) C (Wd.ofS 8 w) (v8 (by decide)) cel_8 rfl (mtX5_thrown ) q8_1 q8_2 q8_3 q1_5 q8_4 ydX5_thrown ⟨rfl, rfl⟩ ⟨by decide, by decide⟩ (rb_z hRB) hl.1 (Nat.le_of_ble_eq_true rfl) rfl dL_law_611 (fun H locs w => ?_)
  have w := Wd.back w
  refine lv_iload hx hb dL_law_614 (lv_at hl 1 rfl) ?_
  refine lv_icmp_eq (tgt := 621) hx hb dL_law_616 (by decide) (fun c17 => ?_) (fun c17 => ?_)
  · replace h := ite_t h c17
    refine lv_iload hx hb dL_law_621 (lv_at hl 1 rfl) ?_
    refine lv_if_ne (tgt := 638) hx hb dL_law_623 (by decide) (fun c18 => ?_) (fun c18 => ?_)
    · replace h := ite_t h c18
      exact TL_law_638 C hst hX hbl hbA hk23 _ _ _ hRB h w (lv_sub hl [2, 3, 4, 5, 6] rfl)
    · replace h := ite_f h (fun z => z c18)
      refine lv_aload_n hx hb dL_law_626 rfl (lv_at hl 5 rfl) ?_
      refine lv_iconst (v := (0 : Int32)) hx hb dL_law_627 (by decide) ?_
      refine x_aldJ C w v9 c9_0 (inb_k (k := 0) (by decide) (by decide)) cl_0 dL_law_628 ?_
      refine lv_iload hx hb dL_law_629 (lv_at hl 0 rfl) ?_
      refine lv_i2l hx hb dL_law_631 rfl ?_
      refine W.lcmp hx hb dL_law_632 ?_
      refine lv_if_eq (tgt := 638) hx hb dL_law_633 (by decide) (fun c19 => ?_) (fun c19 => ?_)
      · replace h := ite_t h c19
        exact TL_law_638 C hst hX hbl hbA hk23 _ _ _ hRB h w (lv_sub hl [2, 3, 4, 5, 6] rfl)
      · replace h := ite_f h c19
        refine lv_iconst (v := (0 : Int32)) hx hb dL_law_636 (by decide) ?_
        exact absurd (Option.some.inj h) (by decide)
  · replace h := ite_f h c17
    refine lv_iconst (v := (0 : Int32)) hx hb dL_law_619 (by decide) ?_
    exact absurd (Option.some.inj h) (by decide)
noncomputable def fbL_law_694 (F : Nat) (k23 : Int32 → M3 → J3 → Option Int32) (xs : Nat → Int32) (L : Nat) (a4 : Int32) (G : M3) (K : J3) : Option Int32 := fbL_law_1418 F k23 xs L a4 G K
set_option maxRecDepth 20000 in
set_option maxHeartbeats 1000000 in
theorem TL_law_694 {n : Nat} {k23 : Int32 → M3 → J3 → Option Int32} (C : Cx E (fun q : Nat => s.heap.size ≤ q) p s m #[Value.ref b] meth c (Cond.initialized RX4) code 9 ret RL) (hst : l.stackTraces = false) (hX : va_X b L xs s s.heap) (hbl : b < s.heap.size) (hbA : ¬ (fun q : Nat => s.heap.size ≤ q) b) (hk23 : ∀ (a4 : Int32) (G : M3) (K : J3) (ls : Array Slot) (H : Heap) (locs : List Loc) (cells slots : Nat), RB n cells slots → k23 a4 G K = some 1 → Wd E (fun q : Nat => s.heap.size ≤ q) s G K H locs → lv_has ls 9 [(0, .ref b), (1, .ref (ad E 6 0)), (2, .ref (ad E 8 0)), (3, .ref (ad E 9 0)), (4, .int a4)] → W p l e room_1 s m #[Value.ref b] below meth c H locs cells slots (lw_Z below #[Value.ref b] s) (F0 m 23 ls [])) (a4 : Int32) (G : M3) (K : J3) (hRB : RB n cells slots) (h : fbL_law_694 F k23 xs L a4 G K = some 1) (w : Wd E (fun q : Nat => s.heap.size ≤ q) s G K H locs) (hl : lv_has ls 9 [(0, .ref b), (1, .ref (ad E 6 0)), (2, .ref (ad E 8 0)), (3, .ref (ad E 9 0)), (4, .int a4)]) : W p l e room_1 s m #[Value.ref b] below meth c H locs cells slots (lw_Z below #[Value.ref b] s) (F0 m 694 ls []) := by
  obtain ⟨hx, hb, hr, hml, hown, hts, hlocks, hKK, hA1, hA2⟩ := id C
  unfold fbL_law_694 at h
  refine lv_goto (tgt := 1418) hx hb dL_law_694 (by decide) ?_
  exact TL_law_1418 C hst hX hbl hbA hk23 _ _ _ hRB h w (lv_sub hl [0, 1, 2, 3, 4] rfl)
noncomputable def fbL_law_641 (F : Nat) (k23 : Int32 → M3 → J3 → Option Int32) (xs : Nat → Int32) (L : Nat) (a4 : Int32) (G : M3) (K : J3) : Option Int32 := chk (inb (a4 + (1 : Int32)) L) (bd3 (fL_atStage F (xs (a4 + (1 : Int32)).toNatClampNeg) G K) (fun vv2 G3 K4 => chk (inb (a4 + (1 : Int32)) L) (bd3 (fX5_atStage (xs (a4 + (1 : Int32)).toNatClampNeg) (G3 8) (K4 8)) (fun vv14 M8 J9 => bnd (sg G3 8 M8) (fun G10 => bnd (sg K4 8 J9) (fun K11 => (if (fX5_thrown (G10 8) (K11 8)) = vv2 then ((if ¬ vv2 = 0 then (fbL_law_694 F k23 xs L a4 G10 K11) else ((if (lg_cmp (K11 9 0 0) (vv14.toInt64)) = 0 then (fbL_law_694 F k23 xs L a4 G10 K11) else (some 0))))) else (some 0))))))))
set_option maxRecDepth 20000 in
set_option maxHeartbeats 1000000 in
theorem TL_law_641 {n : Nat} {k23 : Int32 → M3 → J3 → Option Int32} (C : Cx E (fun q : Nat => s.heap.size ≤ q) p s m #[Value.ref b] meth c (Cond.initialized RX4) code 9 ret RL) (hst : l.stackTraces = false) (hX : va_X b L xs s s.heap) (hbl : b < s.heap.size) (hbA : ¬ (fun q : Nat => s.heap.size ≤ q) b) (hk23 : ∀ (a4 : Int32) (G : M3) (K : J3) (ls : Array Slot) (H : Heap) (locs : List Loc) (cells slots : Nat), RB n cells slots → k23 a4 G K = some 1 → Wd E (fun q : Nat => s.heap.size ≤ q) s G K H locs → lv_has ls 9 [(0, .ref b), (1, .ref (ad E 6 0)), (2, .ref (ad E 8 0)), (3, .ref (ad E 9 0)), (4, .int a4)] → W p l e room_1 s m #[Value.ref b] below meth c H locs cells slots (lw_Z below #[Value.ref b] s) (F0 m 23 ls [])) (a4 : Int32) (G : M3) (K : J3) (hRB : RB (n + 1) cells slots) (h : fbL_law_641 F k23 xs L a4 G K = some 1) (w : Wd E (fun q : Nat => s.heap.size ≤ q) s G K H locs) (hl : lv_has ls 9 [(0, .ref b), (1, .ref (ad E 6 0)), (2, .ref (ad E 8 0)), (3, .ref (ad E 9 0)), (4, .int a4)]) : W p l e room_1 s m #[Value.ref b] below meth c H locs cells slots (lw_Z below #[Value.ref b] s) (F0 m 641 ls []) := by
  obtain ⟨hx, hb, hr, hml, hown, hts, hlocks, hKK, hA1, hA2⟩ := id C
  unfold fbL_law_641 at h
  refine lv_aload_n hx hb dL_law_641 rfl (lv_at hl 1 rfl) ?_
  refine lv_aload_n hx hb dL_law_642 rfl (lv_at hl 0 rfl) ?_
  refine lv_iload hx hb dL_law_643 (lv_at hl 4 rfl) ?_
  refine lv_iconst (v := (1 : Int32)) hx hb dL_law_645 (by decide) ?_
  refine lv_iadd hx hb dL_law_646 ?_
  obtain ⟨ki1, h⟩ := chk_of h
  refine x_scr C w hX hbl hbA ki1 rfl dL_law_647 ?_
  refine lv_aload_n hx hb dL_law_648 rfl (lv_at hl 3 rfl) ?_
  obtain ⟨vv2, G3, K4, hv5, h⟩ := bd3_of h
  refine x_cWi (As := [.ref (ad E 6 0), .int (xs (a4 + (1 : Int32)).toNatClampNeg), .ref (ad E 9 0)]) (rest := []) C w (mtL_atStage hst hv5) q19_22 q19_23 q4_4 q20_0 ynL_atStage ⟨rfl, rfl⟩ ⟨by decide, by decide⟩ (rb_c hRB) hl.1 (Nat.le_of_ble_eq_true rfl) rfl dL_law_649 (fun H locs w => ?_)
  replace hRB := rb_go hRB
  refine lv_istore (lv' := [(5, .int vv2), (0, .ref b), (1, .ref (ad E 6 0)), (2, .ref (ad E 8 0)), (3, .ref (ad E 9 0)), (4, .int a4)]) hx hb dL_law_652 hl (by decide) rfl (fun ls hl => ?_)
  refine lv_aload_n hx hb dL_law_654 rfl (lv_at hl 3 rfl) ?_
  refine lv_aload_n hx hb dL_law_655 rfl (lv_at hl 1 rfl) ?_
  refine lv_iload hx hb dL_law_656 (lv_at hl 5 rfl) ?_
  refine lv_iconst (v := (1 : Int32)) hx hb dL_law_658 (by decide) ?_
  refine lv_iadd hx hb dL_law_659 ?_
  obtain ⟨ki6, h⟩ := chk_of h
  refine x_scr C w hX hbl hbA ki6 rfl dL_law_660 ?_
  obtain ⟨vv14, M8, J9, hv7, h⟩ := bd3_of h
  refine x_cVi (As := [.int (xs (a4 + (1 : Int32)).toNatClampNeg)]) (rest := []) C (Wd.ofS 8 w) (v8 (by decide)) cel_8 rfl (mtX5_atStage  hv7) q20_9 q20_10 q20_11 q1_5 q20_12 ydX5_atStage ⟨rfl, rfl⟩ ⟨by decide, by decide⟩ (rb_z hRB) hl.1 (Nat.le_of_ble_eq_true rfl) rfl dL_law_661 (fun H locs w => ?_)
  obtain ⟨G10, e12⟩ : ∃ z, z = sg G3 8 M8 := ⟨_, rfl⟩
  obtain ⟨K11, e13⟩ : ∃ z, z = sg K4 8 J9 := ⟨_, rfl⟩
  rw [← e12, ← e13] at w
  replace h := bnd_of h e12
  replace h := bnd_of h e13
  refine lv_istore (lv' := [(6, .int vv14), (5, .int vv2), (0, .ref b), (1, .ref (ad E 6 0)), (2, .ref (ad E 8 0)), (3, .ref (ad E 9 0)), (4, .int a4)]) hx hb dL_law_664 hl (by decide) rfl (fun ls hl => ?_)
  refine lv_aload_n hx hb dL_law_666 rfl (lv_at hl 4 rfl) ?_
  refine x_cVi (As := []) (rest := []) C (Wd.ofS 8 w) (v8 (by decide)) cel_8 rfl (mtX5_thrown ) q8_1 q8_2 q8_3 q1_5 q8_4 ydX5_thrown ⟨rfl, rfl⟩ ⟨by decide, by decide⟩ (rb_z hRB) hl.1 (Nat.le_of_ble_eq_true rfl) rfl dL_law_667 (fun H locs w => ?_)
  have w := Wd.back w
  refine lv_iload hx hb dL_law_670 (lv_at hl 1 rfl) ?_
  refine lv_icmp_eq (tgt := 677) hx hb dL_law_672 (by decide) (fun c15 => ?_) (fun c15 => ?_)
  · replace h := ite_t h c15
    refine lv_iload hx hb dL_law_677 (lv_at hl 1 rfl) ?_
    refine lv_if_ne (tgt := 694) hx hb dL_law_679 (by decide) (fun c16 => ?_) (fun c16 => ?_)
    · replace h := ite_t h c16
      exact TL_law_694 C hst hX hbl hbA hk23 _ _ _ hRB h w (lv_sub hl [2, 3, 4, 5, 6] rfl)
    · replace h := ite_f h (fun z => z c16)
      refine lv_aload_n hx hb dL_law_682 rfl (lv_at hl 5 rfl) ?_
      refine lv_iconst (v := (0 : Int32)) hx hb dL_law_683 (by decide) ?_
      refine x_aldJ C w v9 c9_0 (inb_k (k := 0) (by decide) (by decide)) cl_0 dL_law_684 ?_
      refine lv_iload hx hb dL_law_685 (lv_at hl 0 rfl) ?_
      refine lv_i2l hx hb dL_law_687 rfl ?_
      refine W.lcmp hx hb dL_law_688 ?_
      refine lv_if_eq (tgt := 694) hx hb dL_law_689 (by decide) (fun c17 => ?_) (fun c17 => ?_)
      · replace h := ite_t h c17
        exact TL_law_694 C hst hX hbl hbA hk23 _ _ _ hRB h w (lv_sub hl [2, 3, 4, 5, 6] rfl)
      · replace h := ite_f h c17
        refine lv_iconst (v := (0 : Int32)) hx hb dL_law_692 (by decide) ?_
        exact absurd (Option.some.inj h) (by decide)
  · replace h := ite_f h c15
    refine lv_iconst (v := (0 : Int32)) hx hb dL_law_675 (by decide) ?_
    exact absurd (Option.some.inj h) (by decide)
noncomputable def fbL_law_750 (F : Nat) (k23 : Int32 → M3 → J3 → Option Int32) (xs : Nat → Int32) (L : Nat) (a4 : Int32) (G : M3) (K : J3) : Option Int32 := fbL_law_1418 F k23 xs L a4 G K
set_option maxRecDepth 20000 in
set_option maxHeartbeats 1000000 in
theorem TL_law_750 {n : Nat} {k23 : Int32 → M3 → J3 → Option Int32} (C : Cx E (fun q : Nat => s.heap.size ≤ q) p s m #[Value.ref b] meth c (Cond.initialized RX4) code 9 ret RL) (hst : l.stackTraces = false) (hX : va_X b L xs s s.heap) (hbl : b < s.heap.size) (hbA : ¬ (fun q : Nat => s.heap.size ≤ q) b) (hk23 : ∀ (a4 : Int32) (G : M3) (K : J3) (ls : Array Slot) (H : Heap) (locs : List Loc) (cells slots : Nat), RB n cells slots → k23 a4 G K = some 1 → Wd E (fun q : Nat => s.heap.size ≤ q) s G K H locs → lv_has ls 9 [(0, .ref b), (1, .ref (ad E 6 0)), (2, .ref (ad E 8 0)), (3, .ref (ad E 9 0)), (4, .int a4)] → W p l e room_1 s m #[Value.ref b] below meth c H locs cells slots (lw_Z below #[Value.ref b] s) (F0 m 23 ls [])) (a4 : Int32) (G : M3) (K : J3) (hRB : RB n cells slots) (h : fbL_law_750 F k23 xs L a4 G K = some 1) (w : Wd E (fun q : Nat => s.heap.size ≤ q) s G K H locs) (hl : lv_has ls 9 [(0, .ref b), (1, .ref (ad E 6 0)), (2, .ref (ad E 8 0)), (3, .ref (ad E 9 0)), (4, .int a4)]) : W p l e room_1 s m #[Value.ref b] below meth c H locs cells slots (lw_Z below #[Value.ref b] s) (F0 m 750 ls []) := by
  obtain ⟨hx, hb, hr, hml, hown, hts, hlocks, hKK, hA1, hA2⟩ := id C
  unfold fbL_law_750 at h
  refine lv_goto (tgt := 1418) hx hb dL_law_750 (by decide) ?_
  exact TL_law_1418 C hst hX hbl hbA hk23 _ _ _ hRB h w (lv_sub hl [0, 1, 2, 3, 4] rfl)
noncomputable def fbL_law_697 (F : Nat) (k23 : Int32 → M3 → J3 → Option Int32) (xs : Nat → Int32) (L : Nat) (a4 : Int32) (G : M3) (K : J3) : Option Int32 := chk (inb (a4 + (1 : Int32)) L) (bd3 (fL_value F (xs (a4 + (1 : Int32)).toNatClampNeg) G K) (fun vv2 G3 K4 => chk (inb (a4 + (1 : Int32)) L) (bd3 (fX5_value F (xs (a4 + (1 : Int32)).toNatClampNeg) (G3 8) (K4 8)) (fun vv14 M8 J9 => bnd (sg G3 8 M8) (fun G10 => bnd (sg K4 8 J9) (fun K11 => (if (fX5_thrown (G10 8) (K11 8)) = vv2 then ((if ¬ vv2 = 0 then (fbL_law_750 F k23 xs L a4 G10 K11) else ((if (lg_cmp (K11 9 0 0) (vv14.toInt64)) = 0 then (fbL_law_750 F k23 xs L a4 G10 K11) else (some 0))))) else (some 0))))))))
set_option maxRecDepth 20000 in
set_option maxHeartbeats 1000000 in
theorem TL_law_697 {n : Nat} {k23 : Int32 → M3 → J3 → Option Int32} (C : Cx E (fun q : Nat => s.heap.size ≤ q) p s m #[Value.ref b] meth c (Cond.initialized RX4) code 9 ret RL) (hst : l.stackTraces = false) (hX : va_X b L xs s s.heap) (hbl : b < s.heap.size) (hbA : ¬ (fun q : Nat => s.heap.size ≤ q) b) (hk23 : ∀ (a4 : Int32) (G : M3) (K : J3) (ls : Array Slot) (H : Heap) (locs : List Loc) (cells slots : Nat), RB n cells slots → k23 a4 G K = some 1 → Wd E (fun q : Nat => s.heap.size ≤ q) s G K H locs → lv_has ls 9 [(0, .ref b), (1, .ref (ad E 6 0)), (2, .ref (ad E 8 0)), (3, .ref (ad E 9 0)), (4, .int a4)] → W p l e room_1 s m #[Value.ref b] below meth c H locs cells slots (lw_Z below #[Value.ref b] s) (F0 m 23 ls [])) (a4 : Int32) (G : M3) (K : J3) (hRB : RB (n + 1) cells slots) (h : fbL_law_697 F k23 xs L a4 G K = some 1) (w : Wd E (fun q : Nat => s.heap.size ≤ q) s G K H locs) (hl : lv_has ls 9 [(0, .ref b), (1, .ref (ad E 6 0)), (2, .ref (ad E 8 0)), (3, .ref (ad E 9 0)), (4, .int a4)]) : W p l e room_1 s m #[Value.ref b] below meth c H locs cells slots (lw_Z below #[Value.ref b] s) (F0 m 697 ls []) := by
  obtain ⟨hx, hb, hr, hml, hown, hts, hlocks, hKK, hA1, hA2⟩ := id C
  unfold fbL_law_697 at h
  refine lv_aload_n hx hb dL_law_697 rfl (lv_at hl 1 rfl) ?_
  refine lv_aload_n hx hb dL_law_698 rfl (lv_at hl 0 rfl) ?_
  refine lv_iload hx hb dL_law_699 (lv_at hl 4 rfl) ?_
  refine lv_iconst (v := (1 : Int32)) hx hb dL_law_701 (by decide) ?_
  refine lv_iadd hx hb dL_law_702 ?_
  obtain ⟨ki1, h⟩ := chk_of h
  refine x_scr C w hX hbl hbA ki1 rfl dL_law_703 ?_
  refine lv_aload_n hx hb dL_law_704 rfl (lv_at hl 3 rfl) ?_
  obtain ⟨vv2, G3, K4, hv5, h⟩ := bd3_of h
  refine x_cWi (As := [.ref (ad E 6 0), .int (xs (a4 + (1 : Int32)).toNatClampNeg), .ref (ad E 9 0)]) (rest := []) C w (mtL_value hst hv5) q20_13 q20_14 q4_4 q20_15 ynL_value ⟨rfl, rfl⟩ ⟨by decide, by decide⟩ (rb_c hRB) hl.1 (Nat.le_of_ble_eq_true rfl) rfl dL_law_705 (fun H locs w => ?_)
  replace hRB := rb_go hRB
  refine lv_istore (lv' := [(5, .int vv2), (0, .ref b), (1, .ref (ad E 6 0)), (2, .ref (ad E 8 0)), (3, .ref (ad E 9 0)), (4, .int a4)]) hx hb dL_law_708 hl (by decide) rfl (fun ls hl => ?_)
  refine lv_aload_n hx hb dL_law_710 rfl (lv_at hl 3 rfl) ?_
  refine lv_aload_n hx hb dL_law_711 rfl (lv_at hl 1 rfl) ?_
  refine lv_iload hx hb dL_law_712 (lv_at hl 5 rfl) ?_
  refine lv_iconst (v := (1 : Int32)) hx hb dL_law_714 (by decide) ?_
  refine lv_iadd hx hb dL_law_715 ?_
  obtain ⟨ki6, h⟩ := chk_of h
  refine x_scr C w hX hbl hbA ki6 rfl dL_law_716 ?_
  obtain ⟨vv14, M8, J9, hv7, h⟩ := bd3_of h
  refine x_cVi (As := [.int (xs (a4 + (1 : Int32)).toNatClampNeg)]) (rest := []) C (Wd.ofS 8 w) (v8 (by decide)) cel_8 rfl (mtX5_value  hv7) q21_8 q21_9 q21_10 q1_5 q21_11 ydX5_value ⟨rfl, rfl⟩ ⟨by decide, by decide⟩ (rb_z hRB) hl.1 (Nat.le_of_ble_eq_true rfl) rfl dL_law_717 (fun H locs w => ?_)
  obtain ⟨G10, e12⟩ : ∃ z, z = sg G3 8 M8 := ⟨_, rfl⟩
  obtain ⟨K11, e13⟩ : ∃ z, z = sg K4 8 J9 := ⟨_, rfl⟩
  rw [← e12, ← e13] at w
  replace h := bnd_of h e12
  replace h := bnd_of h e13
  refine lv_istore (lv' := [(6, .int vv14), (5, .int vv2), (0, .ref b), (1, .ref (ad E 6 0)), (2, .ref (ad E 8 0)), (3, .ref (ad E 9 0)), (4, .int a4)]) hx hb dL_law_720 hl (by decide) rfl (fun ls hl => ?_)
  refine lv_aload_n hx hb dL_law_722 rfl (lv_at hl 4 rfl) ?_
  refine x_cVi (As := []) (rest := []) C (Wd.ofS 8 w) (v8 (by decide)) cel_8 rfl (mtX5_thrown ) q8_1 q8_2 q8_3 q1_5 q8_4 ydX5_thrown ⟨rfl, rfl⟩ ⟨by decide, by decide⟩ (rb_z hRB) hl.1 (Nat.le_of_ble_eq_true rfl) rfl dL_law_723 (fun H locs w => ?_)
  have w := Wd.back w
  refine lv_iload hx hb dL_law_726 (lv_at hl 1 rfl) ?_
  refine lv_icmp_eq (tgt := 733) hx hb dL_law_728 (by decide) (fun c15 => ?_) (fun c15 => ?_)
  · replace h := ite_t h c15
    refine lv_iload hx hb dL_law_733 (lv_at hl 1 rfl) ?_
    refine lv_if_ne (tgt := 750) hx hb dL_law_735 (by decide) (fun c16 => ?_) (fun c16 => ?_)
    · replace h := ite_t h c16
      exact TL_law_750 C hst hX hbl hbA hk23 _ _ _ hRB h w (lv_sub hl [2, 3, 4, 5, 6] rfl)
    · replace h := ite_f h (fun z => z c16)
      refine lv_aload_n hx hb dL_law_738 rfl (lv_at hl 5 rfl) ?_
      refine lv_iconst (v := (0 : Int32)) hx hb dL_law_739 (by decide) ?_
      refine x_aldJ C w v9 c9_0 (inb_k (k := 0) (by decide) (by decide)) cl_0 dL_law_740 ?_
      refine lv_iload hx hb dL_law_741 (lv_at hl 0 rfl) ?_
      refine lv_i2l hx hb dL_law_743 rfl ?_
      refine W.lcmp hx hb dL_law_744 ?_
      refine lv_if_eq (tgt := 750) hx hb dL_law_745 (by decide) (fun c17 => ?_) (fun c17 => ?_)
      · replace h := ite_t h c17
        exact TL_law_750 C hst hX hbl hbA hk23 _ _ _ hRB h w (lv_sub hl [2, 3, 4, 5, 6] rfl)
      · replace h := ite_f h c17
        refine lv_iconst (v := (0 : Int32)) hx hb dL_law_748 (by decide) ?_
        exact absurd (Option.some.inj h) (by decide)
  · replace h := ite_f h c15
    refine lv_iconst (v := (0 : Int32)) hx hb dL_law_731 (by decide) ?_
    exact absurd (Option.some.inj h) (by decide)
noncomputable def fbL_law_806 (F : Nat) (k23 : Int32 → M3 → J3 → Option Int32) (xs : Nat → Int32) (L : Nat) (a4 : Int32) (G : M3) (K : J3) : Option Int32 := fbL_law_1418 F k23 xs L a4 G K
set_option maxRecDepth 20000 in
set_option maxHeartbeats 1000000 in
theorem TL_law_806 {n : Nat} {k23 : Int32 → M3 → J3 → Option Int32} (C : Cx E (fun q : Nat => s.heap.size ≤ q) p s m #[Value.ref b] meth c (Cond.initialized RX4) code 9 ret RL) (hst : l.stackTraces = false) (hX : va_X b L xs s s.heap) (hbl : b < s.heap.size) (hbA : ¬ (fun q : Nat => s.heap.size ≤ q) b) (hk23 : ∀ (a4 : Int32) (G : M3) (K : J3) (ls : Array Slot) (H : Heap) (locs : List Loc) (cells slots : Nat), RB n cells slots → k23 a4 G K = some 1 → Wd E (fun q : Nat => s.heap.size ≤ q) s G K H locs → lv_has ls 9 [(0, .ref b), (1, .ref (ad E 6 0)), (2, .ref (ad E 8 0)), (3, .ref (ad E 9 0)), (4, .int a4)] → W p l e room_1 s m #[Value.ref b] below meth c H locs cells slots (lw_Z below #[Value.ref b] s) (F0 m 23 ls [])) (a4 : Int32) (G : M3) (K : J3) (hRB : RB n cells slots) (h : fbL_law_806 F k23 xs L a4 G K = some 1) (w : Wd E (fun q : Nat => s.heap.size ≤ q) s G K H locs) (hl : lv_has ls 9 [(0, .ref b), (1, .ref (ad E 6 0)), (2, .ref (ad E 8 0)), (3, .ref (ad E 9 0)), (4, .int a4)]) : W p l e room_1 s m #[Value.ref b] below meth c H locs cells slots (lw_Z below #[Value.ref b] s) (F0 m 806 ls []) := by
  obtain ⟨hx, hb, hr, hml, hown, hts, hlocks, hKK, hA1, hA2⟩ := id C
  unfold fbL_law_806 at h
  refine lv_goto (tgt := 1418) hx hb dL_law_806 (by decide) ?_
  exact TL_law_1418 C hst hX hbl hbA hk23 _ _ _ hRB h w (lv_sub hl [0, 1, 2, 3, 4] rfl)
noncomputable def fbL_law_753 (F : Nat) (k23 : Int32 → M3 → J3 → Option Int32) (xs : Nat → Int32) (L : Nat) (a4 : Int32) (G : M3) (K : J3) : Option Int32 := chk (inb (a4 + (1 : Int32)) L) (bd3 (fL_setting (xs (a4 + (1 : Int32)).toNatClampNeg) G K) (fun vv2 G3 K4 => chk (inb (a4 + (1 : Int32)) L) (bd3 (fX5_setting (xs (a4 + (1 : Int32)).toNatClampNeg) (G3 8) (K4 8)) (fun vv14 M8 J9 => bnd (sg G3 8 M8) (fun G10 => bnd (sg K4 8 J9) (fun K11 => (if (fX5_thrown (G10 8) (K11 8)) = vv2 then ((if ¬ vv2 = 0 then (fbL_law_806 F k23 xs L a4 G10 K11) else ((if (lg_cmp (K11 9 0 0) (vv14.toInt64)) = 0 then (fbL_law_806 F k23 xs L a4 G10 K11) else (some 0))))) else (some 0))))))))
set_option maxRecDepth 20000 in
set_option maxHeartbeats 1000000 in
theorem TL_law_753 {n : Nat} {k23 : Int32 → M3 → J3 → Option Int32} (C : Cx E (fun q : Nat => s.heap.size ≤ q) p s m #[Value.ref b] meth c (Cond.initialized RX4) code 9 ret RL) (hst : l.stackTraces = false) (hX : va_X b L xs s s.heap) (hbl : b < s.heap.size) (hbA : ¬ (fun q : Nat => s.heap.size ≤ q) b) (hk23 : ∀ (a4 : Int32) (G : M3) (K : J3) (ls : Array Slot) (H : Heap) (locs : List Loc) (cells slots : Nat), RB n cells slots → k23 a4 G K = some 1 → Wd E (fun q : Nat => s.heap.size ≤ q) s G K H locs → lv_has ls 9 [(0, .ref b), (1, .ref (ad E 6 0)), (2, .ref (ad E 8 0)), (3, .ref (ad E 9 0)), (4, .int a4)] → W p l e room_1 s m #[Value.ref b] below meth c H locs cells slots (lw_Z below #[Value.ref b] s) (F0 m 23 ls [])) (a4 : Int32) (G : M3) (K : J3) (hRB : RB (n + 1) cells slots) (h : fbL_law_753 F k23 xs L a4 G K = some 1) (w : Wd E (fun q : Nat => s.heap.size ≤ q) s G K H locs) (hl : lv_has ls 9 [(0, .ref b), (1, .ref (ad E 6 0)), (2, .ref (ad E 8 0)), (3, .ref (ad E 9 0)), (4, .int a4)]) : W p l e room_1 s m #[Value.ref b] below meth c H locs cells slots (lw_Z below #[Value.ref b] s) (F0 m 753 ls []) := by
  obtain ⟨hx, hb, hr, hml, hown, hts, hlocks, hKK, hA1, hA2⟩ := id C
  unfold fbL_law_753 at h
  refine lv_aload_n hx hb dL_law_753 rfl (lv_at hl 1 rfl) ?_
  refine lv_aload_n hx hb dL_law_754 rfl (lv_at hl 0 rfl) ?_
  refine lv_iload hx hb dL_law_755 (lv_at hl 4 rfl) ?_
  refine lv_iconst (v := (1 : Int32)) hx hb dL_law_757 (by decide) ?_
  refine lv_iadd hx hb dL_law_758 ?_
  obtain ⟨ki1, h⟩ := chk_of h
  refine x_scr C w hX hbl hbA ki1 rfl dL_law_759 ?_
  refine lv_aload_n hx hb dL_law_760 rfl (lv_at hl 3 rfl) ?_
  obtain ⟨vv2, G3, K4, hv5, h⟩ := bd3_of h
  refine x_cWi (As := [.ref (ad E 6 0), .int (xs (a4 + (1 : Int32)).toNatClampNeg), .ref (ad E 9 0)]) (rest := []) C w (mtL_setting hst hv5) q22_0 q22_1 q4_4 q22_2 ynL_setting ⟨rfl, rfl⟩ ⟨by decide, by decide⟩ (rb_c hRB) hl.1 (Nat.le_of_ble_eq_true rfl) rfl dL_law_761 (fun H locs w => ?_)
  replace hRB := rb_go hRB
  refine lv_istore (lv' := [(5, .int vv2), (0, .ref b), (1, .ref (ad E 6 0)), (2, .ref (ad E 8 0)), (3, .ref (ad E 9 0)), (4, .int a4)]) hx hb dL_law_764 hl (by decide) rfl (fun ls hl => ?_)
  refine lv_aload_n hx hb dL_law_766 rfl (lv_at hl 3 rfl) ?_
  refine lv_aload_n hx hb dL_law_767 rfl (lv_at hl 1 rfl) ?_
  refine lv_iload hx hb dL_law_768 (lv_at hl 5 rfl) ?_
  refine lv_iconst (v := (1 : Int32)) hx hb dL_law_770 (by decide) ?_
  refine lv_iadd hx hb dL_law_771 ?_
  obtain ⟨ki6, h⟩ := chk_of h
  refine x_scr C w hX hbl hbA ki6 rfl dL_law_772 ?_
  obtain ⟨vv14, M8, J9, hv7, h⟩ := bd3_of h
  refine x_cVi (As := [.int (xs (a4 + (1 : Int32)).toNatClampNeg)]) (rest := []) C (Wd.ofS 8 w) (v8 (by decide)) cel_8 rfl (mtX5_setting  hv7) q22_7 q22_8 q22_9 q1_5 q22_10 ydX5_setting ⟨rfl, rfl⟩ ⟨by decide, by decide⟩ (rb_z hRB) hl.1 (Nat.le_of_ble_eq_true rfl) rfl dL_law_773 (fun H locs w => ?_)
  obtain ⟨G10, e12⟩ : ∃ z, z = sg G3 8 M8 := ⟨_, rfl⟩
  obtain ⟨K11, e13⟩ : ∃ z, z = sg K4 8 J9 := ⟨_, rfl⟩
  rw [← e12, ← e13] at w
  replace h := bnd_of h e12
  replace h := bnd_of h e13
  refine lv_istore (lv' := [(6, .int vv14), (5, .int vv2), (0, .ref b), (1, .ref (ad E 6 0)), (2, .ref (ad E 8 0)), (3, .ref (ad E 9 0)), (4, .int a4)]) hx hb dL_law_776 hl (by decide) rfl (fun ls hl => ?_)
  refine lv_aload_n hx hb dL_law_778 rfl (lv_at hl 4 rfl) ?_
  refine x_cVi (As := []) (rest := []) C (Wd.ofS 8 w) (v8 (by decide)) cel_8 rfl (mtX5_thrown ) q8_1 q8_2 q8_3 q1_5 q8_4 ydX5_thrown ⟨rfl, rfl⟩ ⟨by decide, by decide⟩ (rb_z hRB) hl.1 (Nat.le_of_ble_eq_true rfl) rfl dL_law_779 (fun H locs w => ?_)
  have w := Wd.back w
  refine lv_iload hx hb dL_law_782 (lv_at hl 1 rfl) ?_
  refine lv_icmp_eq (tgt := 789) hx hb dL_law_784 (by decide) (fun c15 => ?_) (fun c15 => ?_)
  · replace h := ite_t h c15
    refine lv_iload hx hb dL_law_789 (lv_at hl 1 rfl) ?_
    refine lv_if_ne (tgt := 806) hx hb dL_law_791 (by decide) (fun c16 => ?_) (fun c16 => ?_)
    · replace h := ite_t h c16
      exact TL_law_806 C hst hX hbl hbA hk23 _ _ _ hRB h w (lv_sub hl [2, 3, 4, 5, 6] rfl)
    · replace h := ite_f h (fun z => z c16)
      refine lv_aload_n hx hb dL_law_794 rfl (lv_at hl 5 rfl) ?_
      refine lv_iconst (v := (0 : Int32)) hx hb dL_law_795 (by decide) ?_
      refine x_aldJ C w v9 c9_0 (inb_k (k := 0) (by decide) (by decide)) cl_0 dL_law_796 ?_
      refine lv_iload hx hb dL_law_797 (lv_at hl 0 rfl) ?_
      refine lv_i2l hx hb dL_law_799 rfl ?_
      refine W.lcmp hx hb dL_law_800 ?_
      refine lv_if_eq (tgt := 806) hx hb dL_law_801 (by decide) (fun c17 => ?_) (fun c17 => ?_)
      · replace h := ite_t h c17
        exact TL_law_806 C hst hX hbl hbA hk23 _ _ _ hRB h w (lv_sub hl [2, 3, 4, 5, 6] rfl)
      · replace h := ite_f h c17
        refine lv_iconst (v := (0 : Int32)) hx hb dL_law_804 (by decide) ?_
        exact absurd (Option.some.inj h) (by decide)
  · replace h := ite_f h c15
    refine lv_iconst (v := (0 : Int32)) hx hb dL_law_787 (by decide) ?_
    exact absurd (Option.some.inj h) (by decide)
end XLW1
