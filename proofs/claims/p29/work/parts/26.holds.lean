section XHO
variable {E : WE} {A : Nat → Prop} {p : Program} {l : Launch} {e : Env} {s : State} {m : MethodId} {args : Array Value} {below : List Frame} {meth : Method} {c : Code} {H : Heap} {locs : List Loc} {ls : Array Slot} {G : M3} {K : J3} {F : Nat} {b L c0 s0 : Nat} {xs : Nat → Int32}
/-! L.holds(LAirStation;)Z -/
abbrev rmL_holds : Room := { frames := 8, cells := 0, slots := 0, locals := 128 }
abbrev wdL_holds : Cond := Cond.code yL_holds cL_holds 12 (some .boolean)
noncomputable def fsL_holds_363 (F : Nat)   (k363 : Int32 → Int32 → Int32 → Int32 → Int32 → Int64 → Int32 → M3 → J3 → Option (Int32 × M3 × J3)) : Int32 → Int32 → Int32 → Int32 → Int32 → Int64 → Int32 → M3 → J3 → Option (Int32 × M3 × J3) := fun a1 a2 a3 a4 a5 a6 a9 G K => (if a1 ≤ a9 then (bdz (fX4_value F (4 : Int32) G K) (fun vv2 G3 K4 => chk (vv2 = a2) (bdz (fX4_value F (5 : Int32) G3 K4) (fun vv7 G8 K9 => chk (vv7 = a3) (bdz (fX4_value F (6 : Int32) G8 K9) (fun vv12 G13 K14 => chk (vv12 = a4) (bdz (fX4_value F (10 : Int32) G13 K14) (fun vv17 G18 K19 => chk (vv17 = a5) (bdz (fX4_booked (5 : Int32) G18 K19) (fun vv22 G23 K24 => chk ((lg_cmp vv22 a6) = 0) (some ((1 : Int32), G23, K24)))))))))))) else (bdz (fX4_atStage F (a9 - (1 : Int32)) G K) (fun vv27 G28 K29 => bdz (fX4_atStage F a9 G28 K29) (fun vv31 G32 K33 => bdz (fX4_compressor vv27 (8 : Int32) G32 K33) (fun vv35 G36 K37 => bdz (fX4_compressor vv31 (8 : Int32) G36 K37) (fun vv39 G40 K41 => bdz (fX4_setting (1 : Int32) G40 K41) (fun vv43 G44 K45 => chk ((vv35 - vv39) = vv43) (bdz (fX4_compressor vv27 (9 : Int32) G44 K45) (fun vv48 G49 K50 => bdz (fX4_compressor vv31 (9 : Int32) G49 K50) (fun vv52 G53 K54 => bdz (fX4_setting (1 : Int32) G53 K54) (fun vv56 G57 K58 => chk ((vv48 - vv52) = vv56) (k363 a1 a2 a3 a4 a5 a6 (a9 + (1 : Int32)) G57 K58))))))))))))
noncomputable def fbL_holds_363 (F : Nat)   (n : Nat) : Int32 → Int32 → Int32 → Int32 → Int32 → Int64 → Int32 → M3 → J3 → Option (Int32 × M3 × J3) := itr (fsL_holds_363 F ) (fun _ _ _ _ _ _ _ _ _ => none) n
set_option maxRecDepth 20000 in
set_option maxHeartbeats 1000000 in
theorem SL_holds_363 {rr : Int32} {GR : M3} {KR : J3}   {k363 : Int32 → Int32 → Int32 → Int32 → Int32 → Int64 → Int32 → M3 → J3 → Option (Int32 × M3 × J3)} (C : Cx E A p s m args meth c wdL_holds cL_holds 12 (some .boolean) RL) (hst : l.stackTraces = false)  (hk363 : ∀ (a1 : Int32) (a2 : Int32) (a3 : Int32) (a4 : Int32) (a5 : Int32) (a6 : Int64) (a9 : Int32) (G : M3) (K : J3)  (ls : Array Slot) (H : Heap) (locs : List Loc), k363 a1 a2 a3 a4 a5 a6 a9 G K = some (rr, GR, KR) → Wd E A s G K H locs → lv_has ls 12 [(0, .ref (ad E 6 0)), (1, .int a1), (2, .int a2), (3, .int a3), (4, .int a4), (5, .int a5), (6, .long a6), (8, .int (1 : Int32)), (9, .int a9)] → W p l e rmL_holds s m args below meth c H locs 0 0 (QI E A below args s rr GR KR) (F0 m 363 ls [])) (a1 : Int32) (a2 : Int32) (a3 : Int32) (a4 : Int32) (a5 : Int32) (a6 : Int64) (a9 : Int32) (G : M3) (K : J3)  (h : fsL_holds_363 F  k363 a1 a2 a3 a4 a5 a6 a9 G K = some (rr, GR, KR)) (w : Wd E A s G K H locs) (hl : lv_has ls 12 [(0, .ref (ad E 6 0)), (1, .int a1), (2, .int a2), (3, .int a3), (4, .int a4), (5, .int a5), (6, .long a6), (8, .int (1 : Int32)), (9, .int a9)]) : W p l e rmL_holds s m args below meth c H locs 0 0 (QI E A below args s rr GR KR) (F0 m 363 ls []) := by
  obtain ⟨hx, hb, hr, hml, hown, hts, hlocks, hKK, hA1, hA2⟩ := id C
  unfold fsL_holds_363 at h
  refine lv_iload hx hb dL_holds_363 (lv_at hl 8 rfl) ?_
  refine lv_iload_n hx hb dL_holds_365 rfl (lv_at hl 1 rfl) ?_
  refine lv_icmp_ge (tgt := 455) hx hb dL_holds_366 (by decide) (fun c1 => ?_) (fun c1 => ?_)
  · replace h := ite_t h c1
    refine lv_iload hx hb dL_holds_455 (lv_at hl 7 rfl) ?_
    refine lv_if_eq (tgt := 515) hx hb dL_holds_457 (by decide) (fun cc => absurd cc (by decide)) (fun _ => ?_)
    refine lv_aload_n hx hb dL_holds_460 rfl (lv_at hl 0 rfl) ?_
    refine lv_iconst (v := (4 : Int32)) hx hb dL_holds_461 (by decide) ?_
    obtain ⟨vv2, G3, K4, hv5, h⟩ := bdz_of h
    refine x_cZi (As := [.ref (ad E 6 0), .int (4 : Int32)]) (rest := []) C w (mzL_value hst hv5) q3_17 q3_18 q3_12 q3_19 ynL_value ⟨rfl, rfl⟩ ⟨by decide, by decide⟩ ⟨by decide, by decide⟩ hl.1 (by exact Nat.le_of_ble_eq_true rfl) rfl dL_holds_462 (fun H locs w => ?_)
    refine lv_iload_n hx hb dL_holds_465 rfl (lv_at hl 2 rfl) ?_
    obtain ⟨kc6, h⟩ := chk_of h
    refine lv_icmp_ne (tgt := 515) hx hb dL_holds_466 (by decide) (fun cc => absurd kc6 cc) (fun _ => ?_)
    refine lv_aload_n hx hb dL_holds_469 rfl (lv_at hl 0 rfl) ?_
    refine lv_iconst (v := (5 : Int32)) hx hb dL_holds_470 (by decide) ?_
    obtain ⟨vv7, G8, K9, hv10, h⟩ := bdz_of h
    refine x_cZi (As := [.ref (ad E 6 0), .int (5 : Int32)]) (rest := []) C w (mzL_value hst hv10) q3_17 q3_18 q3_12 q3_19 ynL_value ⟨rfl, rfl⟩ ⟨by decide, by decide⟩ ⟨by decide, by decide⟩ hl.1 (by exact Nat.le_of_ble_eq_true rfl) rfl dL_holds_471 (fun H locs w => ?_)
    refine lv_iload_n hx hb dL_holds_474 rfl (lv_at hl 3 rfl) ?_
    obtain ⟨kc11, h⟩ := chk_of h
    refine lv_icmp_ne (tgt := 515) hx hb dL_holds_475 (by decide) (fun cc => absurd kc11 cc) (fun _ => ?_)
    refine lv_aload_n hx hb dL_holds_478 rfl (lv_at hl 0 rfl) ?_
    refine lv_bipush (v := (6 : Int32)) hx hb dL_holds_479 (by decide) ?_
    obtain ⟨vv12, G13, K14, hv15, h⟩ := bdz_of h
    refine x_cZi (As := [.ref (ad E 6 0), .int (6 : Int32)]) (rest := []) C w (mzL_value hst hv15) q3_17 q3_18 q3_12 q3_19 ynL_value ⟨rfl, rfl⟩ ⟨by decide, by decide⟩ ⟨by decide, by decide⟩ hl.1 (by exact Nat.le_of_ble_eq_true rfl) rfl dL_holds_481 (fun H locs w => ?_)
    refine lv_iload hx hb dL_holds_484 (lv_at hl 4 rfl) ?_
    obtain ⟨kc16, h⟩ := chk_of h
    refine lv_icmp_ne (tgt := 515) hx hb dL_holds_486 (by decide) (fun cc => absurd kc16 cc) (fun _ => ?_)
    refine lv_aload_n hx hb dL_holds_489 rfl (lv_at hl 0 rfl) ?_
    refine lv_bipush (v := (10 : Int32)) hx hb dL_holds_490 (by decide) ?_
    obtain ⟨vv17, G18, K19, hv20, h⟩ := bdz_of h
    refine x_cZi (As := [.ref (ad E 6 0), .int (10 : Int32)]) (rest := []) C w (mzL_value hst hv20) q3_17 q3_18 q3_12 q3_19 ynL_value ⟨rfl, rfl⟩ ⟨by decide, by decide⟩ ⟨by decide, by decide⟩ hl.1 (by exact Nat.le_of_ble_eq_true rfl) rfl dL_holds_492 (fun H locs w => ?_)
    refine lv_iload hx hb dL_holds_495 (lv_at hl 5 rfl) ?_
    obtain ⟨kc21, h⟩ := chk_of h
    refine lv_icmp_ne (tgt := 515) hx hb dL_holds_497 (by decide) (fun cc => absurd kc21 cc) (fun _ => ?_)
    refine lv_aload_n hx hb dL_holds_500 rfl (lv_at hl 0 rfl) ?_
    refine lv_iconst (v := (5 : Int32)) hx hb dL_holds_501 (by decide) ?_
    obtain ⟨vv22, G23, K24, hv25, h⟩ := bdz_of h
    refine x_cZl (As := [.ref (ad E 6 0), .int (5 : Int32)]) (rest := []) C w (mzL_booked hst hv25) q5_11 q5_12 q3_12 q5_13 ynL_booked ⟨rfl, rfl⟩ ⟨by decide, by decide⟩ ⟨by decide, by decide⟩ hl.1 (by exact Nat.le_of_ble_eq_true rfl) rfl dL_holds_502 (fun H locs w => ?_)
    refine lv_lload hx hb dL_holds_505 (lv_at hl 6 rfl) ?_
    refine W.lcmp hx hb dL_holds_507 ?_
    obtain ⟨kc26, h⟩ := chk_of h
    refine lv_if_ne (tgt := 515) hx hb dL_holds_508 (by decide) (fun cc => absurd kc26 cc) (fun _ => ?_)
    refine lv_iconst (v := (1 : Int32)) hx hb dL_holds_511 (by decide) ?_
    refine lv_goto (tgt := 516) hx hb dL_holds_512 (by decide) ?_
    obtain ⟨e1, e2, e3⟩ := rt3 h
    exact x_rz C w (Or.inr rfl) e1 (by rw [e2]) (by rw [e3]) dL_holds_516
  · replace h := ite_f h c1
    refine lv_iload hx hb dL_holds_369 (lv_at hl 7 rfl) ?_
    refine lv_if_eq (tgt := 455) hx hb dL_holds_371 (by decide) (fun cc => absurd cc (by decide)) (fun _ => ?_)
    refine lv_aload_n hx hb dL_holds_374 rfl (lv_at hl 0 rfl) ?_
    refine lv_iload hx hb dL_holds_375 (lv_at hl 8 rfl) ?_
    refine lv_iconst (v := (1 : Int32)) hx hb dL_holds_377 (by decide) ?_
    refine lv_isub hx hb dL_holds_378 ?_
    obtain ⟨vv27, G28, K29, hv30, h⟩ := bdz_of h
    refine x_cZi (As := [.ref (ad E 6 0), .int (a9 - (1 : Int32))]) (rest := []) C w (mzL_atStage hst hv30) q7_2 q7_3 q3_12 q7_4 ynL_atStage ⟨rfl, rfl⟩ ⟨by decide, by decide⟩ ⟨by decide, by decide⟩ hl.1 (by exact Nat.le_of_ble_eq_true rfl) rfl dL_holds_379 (fun H locs w => ?_)
    refine lv_istore (lv' := [(10, .int vv27), (0, .ref (ad E 6 0)), (1, .int a1), (2, .int a2), (3, .int a3), (4, .int a4), (5, .int a5), (6, .long a6), (8, .int (1 : Int32)), (9, .int a9)]) hx hb dL_holds_382 hl (by decide) rfl (fun ls hl => ?_)
    refine lv_aload_n hx hb dL_holds_384 rfl (lv_at hl 1 rfl) ?_
    refine lv_iload hx hb dL_holds_385 (lv_at hl 9 rfl) ?_
    obtain ⟨vv31, G32, K33, hv34, h⟩ := bdz_of h
    refine x_cZi (As := [.ref (ad E 6 0), .int a9]) (rest := []) C w (mzL_atStage hst hv34) q7_2 q7_3 q3_12 q7_4 ynL_atStage ⟨rfl, rfl⟩ ⟨by decide, by decide⟩ ⟨by decide, by decide⟩ hl.1 (by exact Nat.le_of_ble_eq_true rfl) rfl dL_holds_387 (fun H locs w => ?_)
    refine lv_istore (lv' := [(11, .int vv31), (10, .int vv27), (0, .ref (ad E 6 0)), (1, .int a1), (2, .int a2), (3, .int a3), (4, .int a4), (5, .int a5), (6, .long a6), (8, .int (1 : Int32)), (9, .int a9)]) hx hb dL_holds_390 hl (by decide) rfl (fun ls hl => ?_)
    refine lv_aload_n hx hb dL_holds_392 rfl (lv_at hl 2 rfl) ?_
    refine lv_iload hx hb dL_holds_393 (lv_at hl 1 rfl) ?_
    refine lv_bipush (v := (8 : Int32)) hx hb dL_holds_395 (by decide) ?_
    obtain ⟨vv35, G36, K37, hv38, h⟩ := bdz_of h
    refine x_cZi (As := [.ref (ad E 6 0), .int vv27, .int (8 : Int32)]) (rest := []) C w (mzL_its hst hv38) q5_20 q5_21 q3_12 q5_22 ynL_its ⟨rfl, rfl⟩ ⟨by decide, by decide⟩ ⟨by decide, by decide⟩ hl.1 (by exact Nat.le_of_ble_eq_true rfl) rfl dL_holds_397 (fun H locs w => ?_)
    refine lv_aload_n hx hb dL_holds_400 rfl (lv_at hl 2 rfl) ?_
    refine lv_iload hx hb dL_holds_401 (lv_at hl 0 rfl) ?_
    refine lv_bipush (v := (8 : Int32)) hx hb dL_holds_403 (by decide) ?_
    obtain ⟨vv39, G40, K41, hv42, h⟩ := bdz_of h
    refine x_cZi (As := [.ref (ad E 6 0), .int vv31, .int (8 : Int32)]) (rest := [.int vv35]) C w (mzL_its hst hv42) q5_20 q5_21 q3_12 q5_22 ynL_its ⟨rfl, rfl⟩ ⟨by decide, by decide⟩ ⟨by decide, by decide⟩ hl.1 (by exact Nat.le_of_ble_eq_true rfl) rfl dL_holds_405 (fun H locs w => ?_)
    refine lv_isub hx hb dL_holds_408 ?_
    refine lv_aload_n hx hb dL_holds_409 rfl (lv_at hl 2 rfl) ?_
    refine lv_iconst (v := (1 : Int32)) hx hb dL_holds_410 (by decide) ?_
    obtain ⟨vv43, G44, K45, hv46, h⟩ := bdz_of h
    refine x_cZi (As := [.ref (ad E 6 0), .int (1 : Int32)]) (rest := [.int (vv35 - vv39)]) C w (mzL_setting hst hv46) q7_14 q7_15 q3_12 q7_16 ynL_setting ⟨rfl, rfl⟩ ⟨by decide, by decide⟩ ⟨by decide, by decide⟩ hl.1 (by exact Nat.le_of_ble_eq_true rfl) rfl dL_holds_411 (fun H locs w => ?_)
    obtain ⟨kc47, h⟩ := chk_of h
    refine lv_icmp_ne (tgt := 446) hx hb dL_holds_414 (by decide) (fun cc => absurd kc47 cc) (fun _ => ?_)
    refine lv_aload_n hx hb dL_holds_417 rfl (lv_at hl 2 rfl) ?_
    refine lv_iload hx hb dL_holds_418 (lv_at hl 1 rfl) ?_
    refine lv_bipush (v := (9 : Int32)) hx hb dL_holds_420 (by decide) ?_
    obtain ⟨vv48, G49, K50, hv51, h⟩ := bdz_of h
    refine x_cZi (As := [.ref (ad E 6 0), .int vv27, .int (9 : Int32)]) (rest := []) C w (mzL_its hst hv51) q5_20 q5_21 q3_12 q5_22 ynL_its ⟨rfl, rfl⟩ ⟨by decide, by decide⟩ ⟨by decide, by decide⟩ hl.1 (by exact Nat.le_of_ble_eq_true rfl) rfl dL_holds_422 (fun H locs w => ?_)
    refine lv_aload_n hx hb dL_holds_425 rfl (lv_at hl 2 rfl) ?_
    refine lv_iload hx hb dL_holds_426 (lv_at hl 0 rfl) ?_
    refine lv_bipush (v := (9 : Int32)) hx hb dL_holds_428 (by decide) ?_
    obtain ⟨vv52, G53, K54, hv55, h⟩ := bdz_of h
    refine x_cZi (As := [.ref (ad E 6 0), .int vv31, .int (9 : Int32)]) (rest := [.int vv48]) C w (mzL_its hst hv55) q5_20 q5_21 q3_12 q5_22 ynL_its ⟨rfl, rfl⟩ ⟨by decide, by decide⟩ ⟨by decide, by decide⟩ hl.1 (by exact Nat.le_of_ble_eq_true rfl) rfl dL_holds_430 (fun H locs w => ?_)
    refine lv_isub hx hb dL_holds_433 ?_
    refine lv_aload_n hx hb dL_holds_434 rfl (lv_at hl 2 rfl) ?_
    refine lv_iconst (v := (1 : Int32)) hx hb dL_holds_435 (by decide) ?_
    obtain ⟨vv56, G57, K58, hv59, h⟩ := bdz_of h
    refine x_cZi (As := [.ref (ad E 6 0), .int (1 : Int32)]) (rest := [.int (vv48 - vv52)]) C w (mzL_setting hst hv59) q7_14 q7_15 q3_12 q7_16 ynL_setting ⟨rfl, rfl⟩ ⟨by decide, by decide⟩ ⟨by decide, by decide⟩ hl.1 (by exact Nat.le_of_ble_eq_true rfl) rfl dL_holds_436 (fun H locs w => ?_)
    obtain ⟨kc60, h⟩ := chk_of h
    refine lv_icmp_ne (tgt := 446) hx hb dL_holds_439 (by decide) (fun cc => absurd kc60 cc) (fun _ => ?_)
    refine lv_iconst (v := (1 : Int32)) hx hb dL_holds_442 (by decide) ?_
    refine lv_goto (tgt := 447) hx hb dL_holds_443 (by decide) ?_
    refine lv_istore (lv' := [(8, .int (1 : Int32)), (11, .int vv31), (10, .int vv27), (0, .ref (ad E 6 0)), (1, .int a1), (2, .int a2), (3, .int a3), (4, .int a4), (5, .int a5), (6, .long a6), (9, .int a9)]) hx hb dL_holds_447 hl (by decide) rfl (fun ls hl => ?_)
    refine lv_iinc (v := (a9 + (1 : Int32))) (lv' := [(9, .int (a9 + (1 : Int32))), (8, .int (1 : Int32)), (11, .int vv31), (10, .int vv27), (0, .ref (ad E 6 0)), (1, .int a1), (2, .int a2), (3, .int a3), (4, .int a4), (5, .int a5), (6, .long a6)]) hx hb dL_holds_449 hl (k := 10) rfl (congrArg (HAdd.hAdd _) (by decide)) (by decide) rfl (fun ls hl => ?_)
    refine lv_goto (tgt := 363) hx hb dL_holds_452 (by decide) ?_
    exact hk363 _ _ _ _ _ _ _ _ _ _ _ _ h w (lv_sub hl [4, 5, 6, 7, 8, 9, 10, 1, 0] rfl)
theorem TL_holds_363 {rr : Int32} {GR : M3} {KR : J3}   (C : Cx E A p s m args meth c wdL_holds cL_holds 12 (some .boolean) RL) (hst : l.stackTraces = false)  : ∀ (n : Nat) (a1 : Int32) (a2 : Int32) (a3 : Int32) (a4 : Int32) (a5 : Int32) (a6 : Int64) (a9 : Int32) (G : M3) (K : J3)  (ls : Array Slot) (H : Heap) (locs : List Loc), fbL_holds_363 F  n a1 a2 a3 a4 a5 a6 a9 G K = some (rr, GR, KR) → Wd E A s G K H locs → lv_has ls 12 [(0, .ref (ad E 6 0)), (1, .int a1), (2, .int a2), (3, .int a3), (4, .int a4), (5, .int a5), (6, .long a6), (8, .int (1 : Int32)), (9, .int a9)] → W p l e rmL_holds s m args below meth c H locs 0 0 (QI E A below args s rr GR KR) (F0 m 363 ls []) := by
  intro n
  induction n with
  | zero => intro a1 a2 a3 a4 a5 a6 a9 G K  ls H locs h; exact absurd (show none = _ from h) (fun z => nomatch z)
  | succ n ih => intro a1 a2 a3 a4 a5 a6 a9 G K  ls H locs h w hl; exact SL_holds_363 (F := F) C hst  ih a1 a2 a3 a4 a5 a6 a9 G K  h w hl
noncomputable def fbL_holds_344 (F : Nat) (k108 : Int32 → Int32 → Int32 → Int32 → Int32 → Int64 → Int32 → M3 → J3 → Option (Int32 × M3 × J3))  (a1 : Int32) (a2 : Int32) (a3 : Int32) (a4 : Int32) (a5 : Int32) (a6 : Int64) (a9 : Int32) (s0 : Int32) (s1 : Int32) (G : M3) (K : J3) : Option (Int32 × M3 × J3) := chk (s1 = s0) (k108 a1 a2 a3 a4 a5 a6 (a9 + (1 : Int32)) G K)
set_option maxRecDepth 20000 in
set_option maxHeartbeats 1000000 in
theorem TL_holds_344 {rr : Int32} {GR : M3} {KR : J3}  {k108 : Int32 → Int32 → Int32 → Int32 → Int32 → Int64 → Int32 → M3 → J3 → Option (Int32 × M3 × J3)} (C : Cx E A p s m args meth c wdL_holds cL_holds 12 (some .boolean) RL) (hst : l.stackTraces = false) (hk108 : ∀ (a1 : Int32) (a2 : Int32) (a3 : Int32) (a4 : Int32) (a5 : Int32) (a6 : Int64) (a9 : Int32) (G : M3) (K : J3)  (ls : Array Slot) (H : Heap) (locs : List Loc), k108 a1 a2 a3 a4 a5 a6 a9 G K = some (rr, GR, KR) → Wd E A s G K H locs → lv_has ls 12 [(0, .ref (ad E 6 0)), (1, .int a1), (2, .int a2), (3, .int a3), (4, .int a4), (5, .int a5), (6, .long a6), (8, .int (1 : Int32)), (9, .int a9)] → W p l e rmL_holds s m args below meth c H locs 0 0 (QI E A below args s rr GR KR) (F0 m 108 ls [])) (a1 : Int32) (a2 : Int32) (a3 : Int32) (a4 : Int32) (a5 : Int32) (a6 : Int64) (a9 : Int32) (s0 : Int32) (s1 : Int32) (G : M3) (K : J3)  (h : fbL_holds_344 F k108 a1 a2 a3 a4 a5 a6 a9 s0 s1 G K = some (rr, GR, KR)) (w : Wd E A s G K H locs) (hl : lv_has ls 12 [(0, .ref (ad E 6 0)), (1, .int a1), (2, .int a2), (3, .int a3), (4, .int a4), (5, .int a5), (6, .long a6), (9, .int a9)]) : W p l e rmL_holds s m args below meth c H locs 0 0 (QI E A below args s rr GR KR) (F0 m 344 ls [.int s0, .int s1]) := by
  obtain ⟨hx, hb, hr, hml, hown, hts, hlocks, hKK, hA1, hA2⟩ := id C
  unfold fbL_holds_344 at h
  obtain ⟨kc1, h⟩ := chk_of h
  refine lv_icmp_ne (tgt := 351) hx hb dL_holds_344 (by decide) (fun cc => absurd kc1 cc) (fun _ => ?_)
  refine lv_iconst (v := (1 : Int32)) hx hb dL_holds_347 (by decide) ?_
  refine lv_goto (tgt := 352) hx hb dL_holds_348 (by decide) ?_
  refine lv_istore (lv' := [(8, .int (1 : Int32)), (0, .ref (ad E 6 0)), (1, .int a1), (2, .int a2), (3, .int a3), (4, .int a4), (5, .int a5), (6, .long a6), (9, .int a9)]) hx hb dL_holds_352 hl (by decide) rfl (fun ls hl => ?_)
  refine lv_iinc (v := (a9 + (1 : Int32))) (lv' := [(9, .int (a9 + (1 : Int32))), (8, .int (1 : Int32)), (0, .ref (ad E 6 0)), (1, .int a1), (2, .int a2), (3, .int a3), (4, .int a4), (5, .int a5), (6, .long a6)]) hx hb dL_holds_354 hl (k := 8) rfl (congrArg (HAdd.hAdd _) (by decide)) (by decide) rfl (fun ls hl => ?_)
  refine lv_goto (tgt := 108) hx hb dL_holds_357 (by decide) ?_
  exact hk108 _ _ _ _ _ _ _ _ _ _ _ _ h w (lv_sub hl [2, 3, 4, 5, 6, 7, 8, 1, 0] rfl)
noncomputable def fbL_holds_330 (F : Nat) (k108 : Int32 → Int32 → Int32 → Int32 → Int32 → Int64 → Int32 → M3 → J3 → Option (Int32 × M3 × J3))  (a1 : Int32) (a2 : Int32) (a3 : Int32) (a4 : Int32) (a5 : Int32) (a6 : Int64) (a9 : Int32) (s0 : Int32) (G : M3) (K : J3) : Option (Int32 × M3 × J3) := bdz (fX4_next a9 G K) (fun vv1 G2 K3 => (if ¬ vv1 = 0 then (fbL_holds_344 F k108 a1 a2 a3 a4 a5 a6 a9 (0 : Int32) s0 G2 K3) else (fbL_holds_344 F k108 a1 a2 a3 a4 a5 a6 a9 (1 : Int32) s0 G2 K3)))
set_option maxRecDepth 20000 in
set_option maxHeartbeats 1000000 in
theorem TL_holds_330 {rr : Int32} {GR : M3} {KR : J3}  {k108 : Int32 → Int32 → Int32 → Int32 → Int32 → Int64 → Int32 → M3 → J3 → Option (Int32 × M3 × J3)} (C : Cx E A p s m args meth c wdL_holds cL_holds 12 (some .boolean) RL) (hst : l.stackTraces = false) (hk108 : ∀ (a1 : Int32) (a2 : Int32) (a3 : Int32) (a4 : Int32) (a5 : Int32) (a6 : Int64) (a9 : Int32) (G : M3) (K : J3)  (ls : Array Slot) (H : Heap) (locs : List Loc), k108 a1 a2 a3 a4 a5 a6 a9 G K = some (rr, GR, KR) → Wd E A s G K H locs → lv_has ls 12 [(0, .ref (ad E 6 0)), (1, .int a1), (2, .int a2), (3, .int a3), (4, .int a4), (5, .int a5), (6, .long a6), (8, .int (1 : Int32)), (9, .int a9)] → W p l e rmL_holds s m args below meth c H locs 0 0 (QI E A below args s rr GR KR) (F0 m 108 ls [])) (a1 : Int32) (a2 : Int32) (a3 : Int32) (a4 : Int32) (a5 : Int32) (a6 : Int64) (a9 : Int32) (s0 : Int32) (G : M3) (K : J3)  (h : fbL_holds_330 F k108 a1 a2 a3 a4 a5 a6 a9 s0 G K = some (rr, GR, KR)) (w : Wd E A s G K H locs) (hl : lv_has ls 12 [(0, .ref (ad E 6 0)), (1, .int a1), (2, .int a2), (3, .int a3), (4, .int a4), (5, .int a5), (6, .long a6), (9, .int a9)]) : W p l e rmL_holds s m args below meth c H locs 0 0 (QI E A below args s rr GR KR) (F0 m 330 ls [.int s0]) := by
  obtain ⟨hx, hb, hr, hml, hown, hts, hlocks, hKK, hA1, hA2⟩ := id C
  unfold fbL_holds_330 at h
  refine lv_aload_n hx hb dL_holds_330 rfl (lv_at hl 0 rfl) ?_
  refine lv_iload hx hb dL_holds_331 (lv_at hl 7 rfl) ?_
  obtain ⟨vv1, G2, K3, hv4, h⟩ := bdz_of h
  refine x_cZi (As := [.ref (ad E 6 0), .int a9]) (rest := [.int s0]) C w (mzL_next hst hv4) q7_22 q7_23 q3_12 q8_0 ynL_next ⟨rfl, rfl⟩ ⟨by decide, by decide⟩ ⟨by decide, by decide⟩ hl.1 (by exact Nat.le_of_ble_eq_true rfl) rfl dL_holds_333 (fun H locs w => ?_)
  refine lv_if_ne (tgt := 343) hx hb dL_holds_336 (by decide) (fun c5 => ?_) (fun c5 => ?_)
  · replace h := ite_t h c5
    refine lv_iconst (v := (0 : Int32)) hx hb dL_holds_343 (by decide) ?_
    exact TL_holds_344 C hst hk108 _ _ _ _ _ _ _ _ _ _ _ h w (lv_sub hl [0, 1, 2, 3, 4, 5, 6, 7] rfl)
  · replace h := ite_f h (fun z => z c5)
    refine lv_iconst (v := (1 : Int32)) hx hb dL_holds_339 (by decide) ?_
    refine lv_goto (tgt := 344) hx hb dL_holds_340 (by decide) ?_
    exact TL_holds_344 C hst hk108 _ _ _ _ _ _ _ _ _ _ _ h w (lv_sub hl [0, 1, 2, 3, 4, 5, 6, 7] rfl)
noncomputable def fbL_holds_319 (F : Nat) (k108 : Int32 → Int32 → Int32 → Int32 → Int32 → Int64 → Int32 → M3 → J3 → Option (Int32 × M3 × J3))  (a1 : Int32) (a2 : Int32) (a3 : Int32) (a4 : Int32) (a5 : Int32) (a6 : Int64) (a9 : Int32) (a10 : Int32) (G : M3) (K : J3) : Option (Int32 × M3 × J3) := (if ¬ a10 = (3 : Int32) then (fbL_holds_330 F k108 a1 a2 a3 a4 a5 a6 a9 (0 : Int32) G K) else (fbL_holds_330 F k108 a1 a2 a3 a4 a5 a6 a9 (1 : Int32) G K))
set_option maxRecDepth 20000 in
set_option maxHeartbeats 1000000 in
theorem TL_holds_319 {rr : Int32} {GR : M3} {KR : J3}  {k108 : Int32 → Int32 → Int32 → Int32 → Int32 → Int64 → Int32 → M3 → J3 → Option (Int32 × M3 × J3)} (C : Cx E A p s m args meth c wdL_holds cL_holds 12 (some .boolean) RL) (hst : l.stackTraces = false) (hk108 : ∀ (a1 : Int32) (a2 : Int32) (a3 : Int32) (a4 : Int32) (a5 : Int32) (a6 : Int64) (a9 : Int32) (G : M3) (K : J3)  (ls : Array Slot) (H : Heap) (locs : List Loc), k108 a1 a2 a3 a4 a5 a6 a9 G K = some (rr, GR, KR) → Wd E A s G K H locs → lv_has ls 12 [(0, .ref (ad E 6 0)), (1, .int a1), (2, .int a2), (3, .int a3), (4, .int a4), (5, .int a5), (6, .long a6), (8, .int (1 : Int32)), (9, .int a9)] → W p l e rmL_holds s m args below meth c H locs 0 0 (QI E A below args s rr GR KR) (F0 m 108 ls [])) (a1 : Int32) (a2 : Int32) (a3 : Int32) (a4 : Int32) (a5 : Int32) (a6 : Int64) (a9 : Int32) (a10 : Int32) (G : M3) (K : J3)  (h : fbL_holds_319 F k108 a1 a2 a3 a4 a5 a6 a9 a10 G K = some (rr, GR, KR)) (w : Wd E A s G K H locs) (hl : lv_has ls 12 [(0, .ref (ad E 6 0)), (1, .int a1), (2, .int a2), (3, .int a3), (4, .int a4), (5, .int a5), (6, .long a6), (9, .int a9), (10, .int a10)]) : W p l e rmL_holds s m args below meth c H locs 0 0 (QI E A below args s rr GR KR) (F0 m 319 ls []) := by
  obtain ⟨hx, hb, hr, hml, hown, hts, hlocks, hKK, hA1, hA2⟩ := id C
  unfold fbL_holds_319 at h
  refine lv_iload hx hb dL_holds_319 (lv_at hl 8 rfl) ?_
  refine lv_iconst (v := (3 : Int32)) hx hb dL_holds_321 (by decide) ?_
  refine lv_icmp_ne (tgt := 329) hx hb dL_holds_322 (by decide) (fun c1 => ?_) (fun c1 => ?_)
  · replace h := ite_t h c1
    refine lv_iconst (v := (0 : Int32)) hx hb dL_holds_329 (by decide) ?_
    exact TL_holds_330 C hst hk108 _ _ _ _ _ _ _ _ _ _ h w (lv_sub hl [0, 1, 2, 3, 4, 5, 6, 7] rfl)
  · replace h := ite_f h (fun z => z c1)
    refine lv_iconst (v := (1 : Int32)) hx hb dL_holds_325 (by decide) ?_
    refine lv_goto (tgt := 330) hx hb dL_holds_326 (by decide) ?_
    exact TL_holds_330 C hst hk108 _ _ _ _ _ _ _ _ _ _ h w (lv_sub hl [0, 1, 2, 3, 4, 5, 6, 7] rfl)
noncomputable def fbL_holds_303 (F : Nat) (k108 : Int32 → Int32 → Int32 → Int32 → Int32 → Int64 → Int32 → M3 → J3 → Option (Int32 × M3 × J3))  (a1 : Int32) (a2 : Int32) (a3 : Int32) (a4 : Int32) (a5 : Int32) (a6 : Int64) (a9 : Int32) (a10 : Int32) (G : M3) (K : J3) : Option (Int32 × M3 × J3) := (if a10 = 0 then (fbL_holds_319 F k108 a1 a2 a3 a4 a5 a6 a9 a10 G K) else (bdz (fX4_compressor a9 (6 : Int32) G K) (fun vv2 G3 K4 => chk (vv2 = 0) (fbL_holds_319 F k108 a1 a2 a3 a4 a5 a6 a9 a10 G3 K4))))
set_option maxRecDepth 20000 in
set_option maxHeartbeats 1000000 in
theorem TL_holds_303 {rr : Int32} {GR : M3} {KR : J3}  {k108 : Int32 → Int32 → Int32 → Int32 → Int32 → Int64 → Int32 → M3 → J3 → Option (Int32 × M3 × J3)} (C : Cx E A p s m args meth c wdL_holds cL_holds 12 (some .boolean) RL) (hst : l.stackTraces = false) (hk108 : ∀ (a1 : Int32) (a2 : Int32) (a3 : Int32) (a4 : Int32) (a5 : Int32) (a6 : Int64) (a9 : Int32) (G : M3) (K : J3)  (ls : Array Slot) (H : Heap) (locs : List Loc), k108 a1 a2 a3 a4 a5 a6 a9 G K = some (rr, GR, KR) → Wd E A s G K H locs → lv_has ls 12 [(0, .ref (ad E 6 0)), (1, .int a1), (2, .int a2), (3, .int a3), (4, .int a4), (5, .int a5), (6, .long a6), (8, .int (1 : Int32)), (9, .int a9)] → W p l e rmL_holds s m args below meth c H locs 0 0 (QI E A below args s rr GR KR) (F0 m 108 ls [])) (a1 : Int32) (a2 : Int32) (a3 : Int32) (a4 : Int32) (a5 : Int32) (a6 : Int64) (a9 : Int32) (a10 : Int32) (G : M3) (K : J3)  (h : fbL_holds_303 F k108 a1 a2 a3 a4 a5 a6 a9 a10 G K = some (rr, GR, KR)) (w : Wd E A s G K H locs) (hl : lv_has ls 12 [(0, .ref (ad E 6 0)), (1, .int a1), (2, .int a2), (3, .int a3), (4, .int a4), (5, .int a5), (6, .long a6), (9, .int a9), (10, .int a10)]) : W p l e rmL_holds s m args below meth c H locs 0 0 (QI E A below args s rr GR KR) (F0 m 303 ls []) := by
  obtain ⟨hx, hb, hr, hml, hown, hts, hlocks, hKK, hA1, hA2⟩ := id C
  unfold fbL_holds_303 at h
  refine lv_iload hx hb dL_holds_303 (lv_at hl 8 rfl) ?_
  refine lv_if_eq (tgt := 319) hx hb dL_holds_305 (by decide) (fun c1 => ?_) (fun c1 => ?_)
  · replace h := ite_t h c1
    exact TL_holds_319 C hst hk108 _ _ _ _ _ _ _ _ _ _ h w (lv_sub hl [0, 1, 2, 3, 4, 5, 6, 7, 8] rfl)
  · replace h := ite_f h c1
    refine lv_aload_n hx hb dL_holds_308 rfl (lv_at hl 0 rfl) ?_
    refine lv_iload hx hb dL_holds_309 (lv_at hl 7 rfl) ?_
    refine lv_bipush (v := (6 : Int32)) hx hb dL_holds_311 (by decide) ?_
    obtain ⟨vv2, G3, K4, hv5, h⟩ := bdz_of h
    refine x_cZi (As := [.ref (ad E 6 0), .int a9, .int (6 : Int32)]) (rest := []) C w (mzL_its hst hv5) q5_20 q5_21 q3_12 q5_22 ynL_its ⟨rfl, rfl⟩ ⟨by decide, by decide⟩ ⟨by decide, by decide⟩ hl.1 (by exact Nat.le_of_ble_eq_true rfl) rfl dL_holds_313 (fun H locs w => ?_)
    obtain ⟨kc6, h⟩ := chk_of h
    refine lv_if_ne (tgt := 351) hx hb dL_holds_316 (by decide) (fun cc => absurd kc6 cc) (fun _ => ?_)
    exact TL_holds_319 C hst hk108 _ _ _ _ _ _ _ _ _ _ h w (lv_sub hl [0, 1, 2, 3, 4, 5, 6, 7, 8] rfl)
noncomputable def fbL_holds_191 (F : Nat) (k108 : Int32 → Int32 → Int32 → Int32 → Int32 → Int64 → Int32 → M3 → J3 → Option (Int32 × M3 × J3))  (a1 : Int32) (a2 : Int32) (a3 : Int32) (a4 : Int32) (a6 : Int64) (a9 : Int32) (a10 : Int32) (s0 : Int32) (s1 : Int32) (G : M3) (K : J3) : Option (Int32 × M3 × J3) := bdz (fX4_compressor a9 (0 : Int32) G K) (fun vv1 G2 K3 => bdz (fX4_compressor a9 (3 : Int32) G2 K3) (fun vv5 G6 K7 => bdz (fX4_compressor a9 (0 : Int32) G6 K7) (fun vv9 G10 K11 => bdz (fX4_compressor a9 (4 : Int32) G10 K11) (fun vv13 G14 K15 => bdz (fX4_compressor a9 (2 : Int32) G14 K15) (fun vv17 G18 K19 => bdz (fX4_atStage F vv17 G18 K19) (fun vv21 G22 K23 => chk (vv21 = a9) (bdz (fX4_compressor a9 (9 : Int32) G22 K23) (fun vv26 G27 K28 => bdz (fX4_compressor a9 (8 : Int32) G27 K28) (fun vv30 G31 K32 => bdz (fX4_setting (1 : Int32) G31 K32) (fun vv34 G35 K36 => chk ((vv26 - vv30) = ((a1 + (1 : Int32)) * vv34)) ((if a10 = (2 : Int32) then (fbL_holds_303 F k108 a1 a2 a3 a4 (s1 + s0) (a6 + ((((10 : Int64) * vv1.toInt64) * vv5.toInt64) + (((3 : Int64) * vv9.toInt64) * vv13.toInt64))) a9 a10 G35 K36) else (bdz (fX4_compressor a9 (5 : Int32) G35 K36) (fun vv40 G41 K42 => chk (vv40 = 0) (fbL_holds_303 F k108 a1 a2 a3 a4 (s1 + s0) (a6 + ((((10 : Int64) * vv1.toInt64) * vv5.toInt64) + (((3 : Int64) * vv9.toInt64) * vv13.toInt64))) a9 a10 G41 K42)))))))))))))))
set_option maxRecDepth 20000 in
set_option maxHeartbeats 1000000 in
theorem TL_holds_191 {rr : Int32} {GR : M3} {KR : J3}  {k108 : Int32 → Int32 → Int32 → Int32 → Int32 → Int64 → Int32 → M3 → J3 → Option (Int32 × M3 × J3)} (C : Cx E A p s m args meth c wdL_holds cL_holds 12 (some .boolean) RL) (hst : l.stackTraces = false) (hk108 : ∀ (a1 : Int32) (a2 : Int32) (a3 : Int32) (a4 : Int32) (a5 : Int32) (a6 : Int64) (a9 : Int32) (G : M3) (K : J3)  (ls : Array Slot) (H : Heap) (locs : List Loc), k108 a1 a2 a3 a4 a5 a6 a9 G K = some (rr, GR, KR) → Wd E A s G K H locs → lv_has ls 12 [(0, .ref (ad E 6 0)), (1, .int a1), (2, .int a2), (3, .int a3), (4, .int a4), (5, .int a5), (6, .long a6), (8, .int (1 : Int32)), (9, .int a9)] → W p l e rmL_holds s m args below meth c H locs 0 0 (QI E A below args s rr GR KR) (F0 m 108 ls [])) (a1 : Int32) (a2 : Int32) (a3 : Int32) (a4 : Int32) (a6 : Int64) (a9 : Int32) (a10 : Int32) (s0 : Int32) (s1 : Int32) (G : M3) (K : J3)  (h : fbL_holds_191 F k108 a1 a2 a3 a4 a6 a9 a10 s0 s1 G K = some (rr, GR, KR)) (w : Wd E A s G K H locs) (hl : lv_has ls 12 [(0, .ref (ad E 6 0)), (1, .int a1), (2, .int a2), (3, .int a3), (4, .int a4), (6, .long a6), (9, .int a9), (10, .int a10)]) : W p l e rmL_holds s m args below meth c H locs 0 0 (QI E A below args s rr GR KR) (F0 m 191 ls [.int s0, .int s1]) := by
  obtain ⟨hx, hb, hr, hml, hown, hts, hlocks, hKK, hA1, hA2⟩ := id C
  unfold fbL_holds_191 at h
  refine lv_iadd hx hb dL_holds_191 ?_
  refine lv_istore (lv' := [(5, .int (s1 + s0)), (0, .ref (ad E 6 0)), (1, .int a1), (2, .int a2), (3, .int a3), (4, .int a4), (6, .long a6), (9, .int a9), (10, .int a10)]) hx hb dL_holds_192 hl (by decide) rfl (fun ls hl => ?_)
  refine lv_lload hx hb dL_holds_194 (lv_at hl 6 rfl) ?_
  refine lv_ldc2 hx hb hown (x_hts C q3_15) dL_holds_196 ?_
  refine lv_aload_n hx hb dL_holds_199 rfl (lv_at hl 1 rfl) ?_
  refine lv_iload hx hb dL_holds_200 (lv_at hl 7 rfl) ?_
  refine lv_iconst (v := (0 : Int32)) hx hb dL_holds_202 (by decide) ?_
  obtain ⟨vv1, G2, K3, hv4, h⟩ := bdz_of h
  refine x_cZi (As := [.ref (ad E 6 0), .int a9, .int (0 : Int32)]) (rest := [.long (10 : Int64), .long a6]) C w (mzL_its hst hv4) q5_20 q5_21 q3_12 q5_22 ynL_its ⟨rfl, rfl⟩ ⟨by decide, by decide⟩ ⟨by decide, by decide⟩ hl.1 (by exact Nat.le_of_ble_eq_true rfl) rfl dL_holds_203 (fun H locs w => ?_)
  refine lv_i2l hx hb dL_holds_206 rfl ?_
  refine lv_lmul hx hb dL_holds_207 ?_
  refine lv_aload_n hx hb dL_holds_208 rfl (lv_at hl 1 rfl) ?_
  refine lv_iload hx hb dL_holds_209 (lv_at hl 7 rfl) ?_
  refine lv_iconst (v := (3 : Int32)) hx hb dL_holds_211 (by decide) ?_
  obtain ⟨vv5, G6, K7, hv8, h⟩ := bdz_of h
  refine x_cZi (As := [.ref (ad E 6 0), .int a9, .int (3 : Int32)]) (rest := [.long ((10 : Int64) * vv1.toInt64), .long a6]) C w (mzL_its hst hv8) q5_20 q5_21 q3_12 q5_22 ynL_its ⟨rfl, rfl⟩ ⟨by decide, by decide⟩ ⟨by decide, by decide⟩ hl.1 (by exact Nat.le_of_ble_eq_true rfl) rfl dL_holds_212 (fun H locs w => ?_)
  refine lv_i2l hx hb dL_holds_215 rfl ?_
  refine lv_lmul hx hb dL_holds_216 ?_
  refine lv_ldc2 hx hb hown (x_hts C q3_16) dL_holds_217 ?_
  refine lv_aload_n hx hb dL_holds_220 rfl (lv_at hl 1 rfl) ?_
  refine lv_iload hx hb dL_holds_221 (lv_at hl 7 rfl) ?_
  refine lv_iconst (v := (0 : Int32)) hx hb dL_holds_223 (by decide) ?_
  obtain ⟨vv9, G10, K11, hv12, h⟩ := bdz_of h
  refine x_cZi (As := [.ref (ad E 6 0), .int a9, .int (0 : Int32)]) (rest := [.long (3 : Int64), .long (((10 : Int64) * vv1.toInt64) * vv5.toInt64), .long a6]) C w (mzL_its hst hv12) q5_20 q5_21 q3_12 q5_22 ynL_its ⟨rfl, rfl⟩ ⟨by decide, by decide⟩ ⟨by decide, by decide⟩ hl.1 (by exact Nat.le_of_ble_eq_true rfl) rfl dL_holds_224 (fun H locs w => ?_)
  refine lv_i2l hx hb dL_holds_227 rfl ?_
  refine lv_lmul hx hb dL_holds_228 ?_
  refine lv_aload_n hx hb dL_holds_229 rfl (lv_at hl 1 rfl) ?_
  refine lv_iload hx hb dL_holds_230 (lv_at hl 7 rfl) ?_
  refine lv_iconst (v := (4 : Int32)) hx hb dL_holds_232 (by decide) ?_
  obtain ⟨vv13, G14, K15, hv16, h⟩ := bdz_of h
  refine x_cZi (As := [.ref (ad E 6 0), .int a9, .int (4 : Int32)]) (rest := [.long ((3 : Int64) * vv9.toInt64), .long (((10 : Int64) * vv1.toInt64) * vv5.toInt64), .long a6]) C w (mzL_its hst hv16) q5_20 q5_21 q3_12 q5_22 ynL_its ⟨rfl, rfl⟩ ⟨by decide, by decide⟩ ⟨by decide, by decide⟩ hl.1 (by exact Nat.le_of_ble_eq_true rfl) rfl dL_holds_233 (fun H locs w => ?_)
  refine lv_i2l hx hb dL_holds_236 rfl ?_
  refine lv_lmul hx hb dL_holds_237 ?_
  refine lv_ladd hx hb dL_holds_238 ?_
  refine lv_ladd hx hb dL_holds_239 ?_
  refine lv_lstore (lv' := [(6, .long (a6 + ((((10 : Int64) * vv1.toInt64) * vv5.toInt64) + (((3 : Int64) * vv9.toInt64) * vv13.toInt64)))), (5, .int (s1 + s0)), (0, .ref (ad E 6 0)), (1, .int a1), (2, .int a2), (3, .int a3), (4, .int a4), (9, .int a9), (10, .int a10)]) hx hb dL_holds_240 hl (by decide) rfl (fun ls hl => ?_)
  refine lv_aload_n hx hb dL_holds_242 rfl (lv_at hl 2 rfl) ?_
  refine lv_aload_n hx hb dL_holds_243 rfl (lv_at hl 2 rfl) ?_
  refine lv_iload hx hb dL_holds_244 (lv_at hl 7 rfl) ?_
  refine lv_iconst (v := (2 : Int32)) hx hb dL_holds_246 (by decide) ?_
  obtain ⟨vv17, G18, K19, hv20, h⟩ := bdz_of h
  refine x_cZi (As := [.ref (ad E 6 0), .int a9, .int (2 : Int32)]) (rest := [.ref (ad E 6 0)]) C w (mzL_its hst hv20) q5_20 q5_21 q3_12 q5_22 ynL_its ⟨rfl, rfl⟩ ⟨by decide, by decide⟩ ⟨by decide, by decide⟩ hl.1 (by exact Nat.le_of_ble_eq_true rfl) rfl dL_holds_247 (fun H locs w => ?_)
  obtain ⟨vv21, G22, K23, hv24, h⟩ := bdz_of h
  refine x_cZi (As := [.ref (ad E 6 0), .int vv17]) (rest := []) C w (mzL_atStage hst hv24) q7_2 q7_3 q3_12 q7_4 ynL_atStage ⟨rfl, rfl⟩ ⟨by decide, by decide⟩ ⟨by decide, by decide⟩ hl.1 (by exact Nat.le_of_ble_eq_true rfl) rfl dL_holds_250 (fun H locs w => ?_)
  refine lv_iload hx hb dL_holds_253 (lv_at hl 7 rfl) ?_
  obtain ⟨kc25, h⟩ := chk_of h
  refine lv_icmp_ne (tgt := 351) hx hb dL_holds_255 (by decide) (fun cc => absurd kc25 cc) (fun _ => ?_)
  refine lv_aload_n hx hb dL_holds_258 rfl (lv_at hl 2 rfl) ?_
  refine lv_iload hx hb dL_holds_259 (lv_at hl 7 rfl) ?_
  refine lv_bipush (v := (9 : Int32)) hx hb dL_holds_261 (by decide) ?_
  obtain ⟨vv26, G27, K28, hv29, h⟩ := bdz_of h
  refine x_cZi (As := [.ref (ad E 6 0), .int a9, .int (9 : Int32)]) (rest := []) C w (mzL_its hst hv29) q5_20 q5_21 q3_12 q5_22 ynL_its ⟨rfl, rfl⟩ ⟨by decide, by decide⟩ ⟨by decide, by decide⟩ hl.1 (by exact Nat.le_of_ble_eq_true rfl) rfl dL_holds_263 (fun H locs w => ?_)
  refine lv_aload_n hx hb dL_holds_266 rfl (lv_at hl 2 rfl) ?_
  refine lv_iload hx hb dL_holds_267 (lv_at hl 7 rfl) ?_
  refine lv_bipush (v := (8 : Int32)) hx hb dL_holds_269 (by decide) ?_
  obtain ⟨vv30, G31, K32, hv33, h⟩ := bdz_of h
  refine x_cZi (As := [.ref (ad E 6 0), .int a9, .int (8 : Int32)]) (rest := [.int vv26]) C w (mzL_its hst hv33) q5_20 q5_21 q3_12 q5_22 ynL_its ⟨rfl, rfl⟩ ⟨by decide, by decide⟩ ⟨by decide, by decide⟩ hl.1 (by exact Nat.le_of_ble_eq_true rfl) rfl dL_holds_271 (fun H locs w => ?_)
  refine lv_isub hx hb dL_holds_274 ?_
  refine lv_iload_n hx hb dL_holds_275 rfl (lv_at hl 3 rfl) ?_
  refine lv_iconst (v := (1 : Int32)) hx hb dL_holds_276 (by decide) ?_
  refine lv_iadd hx hb dL_holds_277 ?_
  refine lv_aload_n hx hb dL_holds_278 rfl (lv_at hl 2 rfl) ?_
  refine lv_iconst (v := (1 : Int32)) hx hb dL_holds_279 (by decide) ?_
  obtain ⟨vv34, G35, K36, hv37, h⟩ := bdz_of h
  refine x_cZi (As := [.ref (ad E 6 0), .int (1 : Int32)]) (rest := [.int (a1 + (1 : Int32)), .int (vv26 - vv30)]) C w (mzL_setting hst hv37) q7_14 q7_15 q3_12 q7_16 ynL_setting ⟨rfl, rfl⟩ ⟨by decide, by decide⟩ ⟨by decide, by decide⟩ hl.1 (by exact Nat.le_of_ble_eq_true rfl) rfl dL_holds_280 (fun H locs w => ?_)
  refine lv_imul hx hb dL_holds_283 ?_
  obtain ⟨kc38, h⟩ := chk_of h
  refine lv_icmp_ne (tgt := 351) hx hb dL_holds_284 (by decide) (fun cc => absurd kc38 cc) (fun _ => ?_)
  refine lv_iload hx hb dL_holds_287 (lv_at hl 8 rfl) ?_
  refine lv_iconst (v := (2 : Int32)) hx hb dL_holds_289 (by decide) ?_
  refine lv_icmp_eq (tgt := 303) hx hb dL_holds_290 (by decide) (fun c39 => ?_) (fun c39 => ?_)
  · replace h := ite_t h c39
    exact TL_holds_303 C hst hk108 _ _ _ _ _ _ _ _ _ _ h w (lv_sub hl [2, 3, 4, 5, 6, 1, 0, 7, 8] rfl)
  · replace h := ite_f h c39
    refine lv_aload_n hx hb dL_holds_293 rfl (lv_at hl 2 rfl) ?_
    refine lv_iload hx hb dL_holds_294 (lv_at hl 7 rfl) ?_
    refine lv_iconst (v := (5 : Int32)) hx hb dL_holds_296 (by decide) ?_
    obtain ⟨vv40, G41, K42, hv43, h⟩ := bdz_of h
    refine x_cZi (As := [.ref (ad E 6 0), .int a9, .int (5 : Int32)]) (rest := []) C w (mzL_its hst hv43) q5_20 q5_21 q3_12 q5_22 ynL_its ⟨rfl, rfl⟩ ⟨by decide, by decide⟩ ⟨by decide, by decide⟩ hl.1 (by exact Nat.le_of_ble_eq_true rfl) rfl dL_holds_297 (fun H locs w => ?_)
    obtain ⟨kc44, h⟩ := chk_of h
    refine lv_if_ne (tgt := 351) hx hb dL_holds_300 (by decide) (fun cc => absurd kc44 cc) (fun _ => ?_)
    exact TL_holds_303 C hst hk108 _ _ _ _ _ _ _ _ _ _ h w (lv_sub hl [2, 3, 4, 5, 6, 1, 0, 7, 8] rfl)
noncomputable def fbL_holds_169 (F : Nat) (k108 : Int32 → Int32 → Int32 → Int32 → Int32 → Int64 → Int32 → M3 → J3 → Option (Int32 × M3 × J3))  (a1 : Int32) (a2 : Int32) (a3 : Int32) (a5 : Int32) (a6 : Int64) (a9 : Int32) (a10 : Int32) (s0 : Int32) (s1 : Int32) (G : M3) (K : J3) : Option (Int32 × M3 × J3) := (if ¬ a10 = (1 : Int32) then (fbL_holds_191 F k108 a1 a2 a3 (s1 + s0) a6 a9 a10 (0 : Int32) a5 G K) else (bdz (fX4_compressor a9 (0 : Int32) G K) (fun vv2 G3 K4 => fbL_holds_191 F k108 a1 a2 a3 (s1 + s0) a6 a9 a10 vv2 a5 G3 K4)))
set_option maxRecDepth 20000 in
set_option maxHeartbeats 1000000 in
theorem TL_holds_169 {rr : Int32} {GR : M3} {KR : J3}  {k108 : Int32 → Int32 → Int32 → Int32 → Int32 → Int64 → Int32 → M3 → J3 → Option (Int32 × M3 × J3)} (C : Cx E A p s m args meth c wdL_holds cL_holds 12 (some .boolean) RL) (hst : l.stackTraces = false) (hk108 : ∀ (a1 : Int32) (a2 : Int32) (a3 : Int32) (a4 : Int32) (a5 : Int32) (a6 : Int64) (a9 : Int32) (G : M3) (K : J3)  (ls : Array Slot) (H : Heap) (locs : List Loc), k108 a1 a2 a3 a4 a5 a6 a9 G K = some (rr, GR, KR) → Wd E A s G K H locs → lv_has ls 12 [(0, .ref (ad E 6 0)), (1, .int a1), (2, .int a2), (3, .int a3), (4, .int a4), (5, .int a5), (6, .long a6), (8, .int (1 : Int32)), (9, .int a9)] → W p l e rmL_holds s m args below meth c H locs 0 0 (QI E A below args s rr GR KR) (F0 m 108 ls [])) (a1 : Int32) (a2 : Int32) (a3 : Int32) (a5 : Int32) (a6 : Int64) (a9 : Int32) (a10 : Int32) (s0 : Int32) (s1 : Int32) (G : M3) (K : J3)  (h : fbL_holds_169 F k108 a1 a2 a3 a5 a6 a9 a10 s0 s1 G K = some (rr, GR, KR)) (w : Wd E A s G K H locs) (hl : lv_has ls 12 [(0, .ref (ad E 6 0)), (1, .int a1), (2, .int a2), (3, .int a3), (5, .int a5), (6, .long a6), (9, .int a9), (10, .int a10)]) : W p l e rmL_holds s m args below meth c H locs 0 0 (QI E A below args s rr GR KR) (F0 m 169 ls [.int s0, .int s1]) := by
  obtain ⟨hx, hb, hr, hml, hown, hts, hlocks, hKK, hA1, hA2⟩ := id C
  unfold fbL_holds_169 at h
  refine lv_iadd hx hb dL_holds_169 ?_
  refine lv_istore (lv' := [(4, .int (s1 + s0)), (0, .ref (ad E 6 0)), (1, .int a1), (2, .int a2), (3, .int a3), (5, .int a5), (6, .long a6), (9, .int a9), (10, .int a10)]) hx hb dL_holds_170 hl (by decide) rfl (fun ls hl => ?_)
  refine lv_iload hx hb dL_holds_172 (lv_at hl 5 rfl) ?_
  refine lv_iload hx hb dL_holds_174 (lv_at hl 8 rfl) ?_
  refine lv_iconst (v := (1 : Int32)) hx hb dL_holds_176 (by decide) ?_
  refine lv_icmp_ne (tgt := 190) hx hb dL_holds_177 (by decide) (fun c1 => ?_) (fun c1 => ?_)
  · replace h := ite_t h c1
    refine lv_iconst (v := (0 : Int32)) hx hb dL_holds_190 (by decide) ?_
    exact TL_holds_191 C hst hk108 _ _ _ _ _ _ _ _ _ _ _ h w (lv_sub hl [1, 2, 3, 4, 0, 6, 7, 8] rfl)
  · replace h := ite_f h (fun z => z c1)
    refine lv_aload_n hx hb dL_holds_180 rfl (lv_at hl 1 rfl) ?_
    refine lv_iload hx hb dL_holds_181 (lv_at hl 7 rfl) ?_
    refine lv_iconst (v := (0 : Int32)) hx hb dL_holds_183 (by decide) ?_
    obtain ⟨vv2, G3, K4, hv5, h⟩ := bdz_of h
    refine x_cZi (As := [.ref (ad E 6 0), .int a9, .int (0 : Int32)]) (rest := [.int a5]) C w (mzL_its hst hv5) q5_20 q5_21 q3_12 q5_22 ynL_its ⟨rfl, rfl⟩ ⟨by decide, by decide⟩ ⟨by decide, by decide⟩ hl.1 (by exact Nat.le_of_ble_eq_true rfl) rfl dL_holds_184 (fun H locs w => ?_)
    refine lv_goto (tgt := 191) hx hb dL_holds_187 (by decide) ?_
    exact TL_holds_191 C hst hk108 _ _ _ _ _ _ _ _ _ _ _ h w (lv_sub hl [1, 2, 3, 4, 0, 6, 7, 8] rfl)
noncomputable def fbL_holds_154 (F : Nat) (k108 : Int32 → Int32 → Int32 → Int32 → Int32 → Int64 → Int32 → M3 → J3 → Option (Int32 × M3 × J3))  (a1 : Int32) (a2 : Int32) (a4 : Int32) (a5 : Int32) (a6 : Int64) (a9 : Int32) (a10 : Int32) (s0 : Int32) (s1 : Int32) (G : M3) (K : J3) : Option (Int32 × M3 × J3) := (if ¬ a10 = (3 : Int32) then (fbL_holds_169 F k108 a1 a2 (s1 + s0) a5 a6 a9 a10 (0 : Int32) a4 G K) else (fbL_holds_169 F k108 a1 a2 (s1 + s0) a5 a6 a9 a10 (1 : Int32) a4 G K))
set_option maxRecDepth 20000 in
set_option maxHeartbeats 1000000 in
theorem TL_holds_154 {rr : Int32} {GR : M3} {KR : J3}  {k108 : Int32 → Int32 → Int32 → Int32 → Int32 → Int64 → Int32 → M3 → J3 → Option (Int32 × M3 × J3)} (C : Cx E A p s m args meth c wdL_holds cL_holds 12 (some .boolean) RL) (hst : l.stackTraces = false) (hk108 : ∀ (a1 : Int32) (a2 : Int32) (a3 : Int32) (a4 : Int32) (a5 : Int32) (a6 : Int64) (a9 : Int32) (G : M3) (K : J3)  (ls : Array Slot) (H : Heap) (locs : List Loc), k108 a1 a2 a3 a4 a5 a6 a9 G K = some (rr, GR, KR) → Wd E A s G K H locs → lv_has ls 12 [(0, .ref (ad E 6 0)), (1, .int a1), (2, .int a2), (3, .int a3), (4, .int a4), (5, .int a5), (6, .long a6), (8, .int (1 : Int32)), (9, .int a9)] → W p l e rmL_holds s m args below meth c H locs 0 0 (QI E A below args s rr GR KR) (F0 m 108 ls [])) (a1 : Int32) (a2 : Int32) (a4 : Int32) (a5 : Int32) (a6 : Int64) (a9 : Int32) (a10 : Int32) (s0 : Int32) (s1 : Int32) (G : M3) (K : J3)  (h : fbL_holds_154 F k108 a1 a2 a4 a5 a6 a9 a10 s0 s1 G K = some (rr, GR, KR)) (w : Wd E A s G K H locs) (hl : lv_has ls 12 [(0, .ref (ad E 6 0)), (1, .int a1), (2, .int a2), (4, .int a4), (5, .int a5), (6, .long a6), (9, .int a9), (10, .int a10)]) : W p l e rmL_holds s m args below meth c H locs 0 0 (QI E A below args s rr GR KR) (F0 m 154 ls [.int s0, .int s1]) := by
  obtain ⟨hx, hb, hr, hml, hown, hts, hlocks, hKK, hA1, hA2⟩ := id C
  unfold fbL_holds_154 at h
  refine lv_iadd hx hb dL_holds_154 ?_
  refine lv_istore_n (lv' := [(3, .int (s1 + s0)), (0, .ref (ad E 6 0)), (1, .int a1), (2, .int a2), (4, .int a4), (5, .int a5), (6, .long a6), (9, .int a9), (10, .int a10)]) hx hb dL_holds_155 rfl hl (by decide) rfl (fun ls hl => ?_)
  refine lv_iload hx hb dL_holds_156 (lv_at hl 4 rfl) ?_
  refine lv_iload hx hb dL_holds_158 (lv_at hl 8 rfl) ?_
  refine lv_iconst (v := (3 : Int32)) hx hb dL_holds_160 (by decide) ?_
  refine lv_icmp_ne (tgt := 168) hx hb dL_holds_161 (by decide) (fun c1 => ?_) (fun c1 => ?_)
  · replace h := ite_t h c1
    refine lv_iconst (v := (0 : Int32)) hx hb dL_holds_168 (by decide) ?_
    exact TL_holds_169 C hst hk108 _ _ _ _ _ _ _ _ _ _ _ h w (lv_sub hl [1, 2, 3, 0, 5, 6, 7, 8] rfl)
  · replace h := ite_f h (fun z => z c1)
    refine lv_iconst (v := (1 : Int32)) hx hb dL_holds_164 (by decide) ?_
    refine lv_goto (tgt := 169) hx hb dL_holds_165 (by decide) ?_
    exact TL_holds_169 C hst hk108 _ _ _ _ _ _ _ _ _ _ _ h w (lv_sub hl [1, 2, 3, 0, 5, 6, 7, 8] rfl)
noncomputable def fbL_holds_140 (F : Nat) (k108 : Int32 → Int32 → Int32 → Int32 → Int32 → Int64 → Int32 → M3 → J3 → Option (Int32 × M3 × J3))  (a1 : Int32) (a3 : Int32) (a4 : Int32) (a5 : Int32) (a6 : Int64) (a9 : Int32) (a10 : Int32) (s0 : Int32) (s1 : Int32) (G : M3) (K : J3) : Option (Int32 × M3 × J3) := (if ¬ a10 = (2 : Int32) then (fbL_holds_154 F k108 a1 (s1 + s0) a4 a5 a6 a9 a10 (0 : Int32) a3 G K) else (fbL_holds_154 F k108 a1 (s1 + s0) a4 a5 a6 a9 a10 (1 : Int32) a3 G K))
set_option maxRecDepth 20000 in
set_option maxHeartbeats 1000000 in
theorem TL_holds_140 {rr : Int32} {GR : M3} {KR : J3}  {k108 : Int32 → Int32 → Int32 → Int32 → Int32 → Int64 → Int32 → M3 → J3 → Option (Int32 × M3 × J3)} (C : Cx E A p s m args meth c wdL_holds cL_holds 12 (some .boolean) RL) (hst : l.stackTraces = false) (hk108 : ∀ (a1 : Int32) (a2 : Int32) (a3 : Int32) (a4 : Int32) (a5 : Int32) (a6 : Int64) (a9 : Int32) (G : M3) (K : J3)  (ls : Array Slot) (H : Heap) (locs : List Loc), k108 a1 a2 a3 a4 a5 a6 a9 G K = some (rr, GR, KR) → Wd E A s G K H locs → lv_has ls 12 [(0, .ref (ad E 6 0)), (1, .int a1), (2, .int a2), (3, .int a3), (4, .int a4), (5, .int a5), (6, .long a6), (8, .int (1 : Int32)), (9, .int a9)] → W p l e rmL_holds s m args below meth c H locs 0 0 (QI E A below args s rr GR KR) (F0 m 108 ls [])) (a1 : Int32) (a3 : Int32) (a4 : Int32) (a5 : Int32) (a6 : Int64) (a9 : Int32) (a10 : Int32) (s0 : Int32) (s1 : Int32) (G : M3) (K : J3)  (h : fbL_holds_140 F k108 a1 a3 a4 a5 a6 a9 a10 s0 s1 G K = some (rr, GR, KR)) (w : Wd E A s G K H locs) (hl : lv_has ls 12 [(0, .ref (ad E 6 0)), (1, .int a1), (3, .int a3), (4, .int a4), (5, .int a5), (6, .long a6), (9, .int a9), (10, .int a10)]) : W p l e rmL_holds s m args below meth c H locs 0 0 (QI E A below args s rr GR KR) (F0 m 140 ls [.int s0, .int s1]) := by
  obtain ⟨hx, hb, hr, hml, hown, hts, hlocks, hKK, hA1, hA2⟩ := id C
  unfold fbL_holds_140 at h
  refine lv_iadd hx hb dL_holds_140 ?_
  refine lv_istore_n (lv' := [(2, .int (s1 + s0)), (0, .ref (ad E 6 0)), (1, .int a1), (3, .int a3), (4, .int a4), (5, .int a5), (6, .long a6), (9, .int a9), (10, .int a10)]) hx hb dL_holds_141 rfl hl (by decide) rfl (fun ls hl => ?_)
  refine lv_iload_n hx hb dL_holds_142 rfl (lv_at hl 3 rfl) ?_
  refine lv_iload hx hb dL_holds_143 (lv_at hl 8 rfl) ?_
  refine lv_iconst (v := (2 : Int32)) hx hb dL_holds_145 (by decide) ?_
  refine lv_icmp_ne (tgt := 153) hx hb dL_holds_146 (by decide) (fun c1 => ?_) (fun c1 => ?_)
  · replace h := ite_t h c1
    refine lv_iconst (v := (0 : Int32)) hx hb dL_holds_153 (by decide) ?_
    exact TL_holds_154 C hst hk108 _ _ _ _ _ _ _ _ _ _ _ h w (lv_sub hl [1, 2, 0, 4, 5, 6, 7, 8] rfl)
  · replace h := ite_f h (fun z => z c1)
    refine lv_iconst (v := (1 : Int32)) hx hb dL_holds_149 (by decide) ?_
    refine lv_goto (tgt := 154) hx hb dL_holds_150 (by decide) ?_
    exact TL_holds_154 C hst hk108 _ _ _ _ _ _ _ _ _ _ _ h w (lv_sub hl [1, 2, 0, 4, 5, 6, 7, 8] rfl)
noncomputable def fsL_holds_108 (F : Nat)   (k108 : Int32 → Int32 → Int32 → Int32 → Int32 → Int64 → Int32 → M3 → J3 → Option (Int32 × M3 × J3)) : Int32 → Int32 → Int32 → Int32 → Int32 → Int64 → Int32 → M3 → J3 → Option (Int32 × M3 × J3) := fun a1 a2 a3 a4 a5 a6 a9 G K => (if a1 ≤ a9 then (fbL_holds_363 F F a1 a2 a3 a4 a5 a6 (1 : Int32) G K) else (bdz (fX4_compressor a9 (1 : Int32) G K) (fun vv2 G3 K4 => (if ¬ vv2 = (1 : Int32) then (fbL_holds_140 F k108 a1 a3 a4 a5 a6 a9 vv2 (0 : Int32) a2 G3 K4) else (fbL_holds_140 F k108 a1 a3 a4 a5 a6 a9 vv2 (1 : Int32) a2 G3 K4)))))
noncomputable def fbL_holds_108 (F : Nat)   (n : Nat) : Int32 → Int32 → Int32 → Int32 → Int32 → Int64 → Int32 → M3 → J3 → Option (Int32 × M3 × J3) := itr (fsL_holds_108 F ) (fun _ _ _ _ _ _ _ _ _ => none) n
set_option maxRecDepth 20000 in
set_option maxHeartbeats 1000000 in
theorem SL_holds_108 {rr : Int32} {GR : M3} {KR : J3}   {k108 : Int32 → Int32 → Int32 → Int32 → Int32 → Int64 → Int32 → M3 → J3 → Option (Int32 × M3 × J3)} (C : Cx E A p s m args meth c wdL_holds cL_holds 12 (some .boolean) RL) (hst : l.stackTraces = false)  (hk108 : ∀ (a1 : Int32) (a2 : Int32) (a3 : Int32) (a4 : Int32) (a5 : Int32) (a6 : Int64) (a9 : Int32) (G : M3) (K : J3)  (ls : Array Slot) (H : Heap) (locs : List Loc), k108 a1 a2 a3 a4 a5 a6 a9 G K = some (rr, GR, KR) → Wd E A s G K H locs → lv_has ls 12 [(0, .ref (ad E 6 0)), (1, .int a1), (2, .int a2), (3, .int a3), (4, .int a4), (5, .int a5), (6, .long a6), (8, .int (1 : Int32)), (9, .int a9)] → W p l e rmL_holds s m args below meth c H locs 0 0 (QI E A below args s rr GR KR) (F0 m 108 ls [])) (a1 : Int32) (a2 : Int32) (a3 : Int32) (a4 : Int32) (a5 : Int32) (a6 : Int64) (a9 : Int32) (G : M3) (K : J3)  (h : fsL_holds_108 F  k108 a1 a2 a3 a4 a5 a6 a9 G K = some (rr, GR, KR)) (w : Wd E A s G K H locs) (hl : lv_has ls 12 [(0, .ref (ad E 6 0)), (1, .int a1), (2, .int a2), (3, .int a3), (4, .int a4), (5, .int a5), (6, .long a6), (8, .int (1 : Int32)), (9, .int a9)]) : W p l e rmL_holds s m args below meth c H locs 0 0 (QI E A below args s rr GR KR) (F0 m 108 ls []) := by
  obtain ⟨hx, hb, hr, hml, hown, hts, hlocks, hKK, hA1, hA2⟩ := id C
  unfold fsL_holds_108 at h
  refine lv_iload hx hb dL_holds_108 (lv_at hl 8 rfl) ?_
  refine lv_iload_n hx hb dL_holds_110 rfl (lv_at hl 1 rfl) ?_
  refine lv_icmp_ge (tgt := 360) hx hb dL_holds_111 (by decide) (fun c1 => ?_) (fun c1 => ?_)
  · replace h := ite_t h c1
    refine lv_iconst (v := (1 : Int32)) hx hb dL_holds_360 (by decide) ?_
    refine lv_istore (lv' := [(9, .int (1 : Int32)), (0, .ref (ad E 6 0)), (1, .int a1), (2, .int a2), (3, .int a3), (4, .int a4), (5, .int a5), (6, .long a6), (8, .int (1 : Int32))]) hx hb dL_holds_361 hl (by decide) rfl (fun ls hl => ?_)
    exact TL_holds_363 C hst  _ _ _ _ _ _ _ _ _ _ _ _ _ h w (lv_sub hl [1, 2, 3, 4, 5, 6, 7, 8, 0] rfl)
  · replace h := ite_f h c1
    refine lv_iload hx hb dL_holds_114 (lv_at hl 7 rfl) ?_
    refine lv_if_eq (tgt := 360) hx hb dL_holds_116 (by decide) (fun cc => absurd cc (by decide)) (fun _ => ?_)
    refine lv_aload_n hx hb dL_holds_119 rfl (lv_at hl 0 rfl) ?_
    refine lv_iload hx hb dL_holds_120 (lv_at hl 8 rfl) ?_
    refine lv_iconst (v := (1 : Int32)) hx hb dL_holds_122 (by decide) ?_
    obtain ⟨vv2, G3, K4, hv5, h⟩ := bdz_of h
    refine x_cZi (As := [.ref (ad E 6 0), .int a9, .int (1 : Int32)]) (rest := []) C w (mzL_its hst hv5) q5_20 q5_21 q3_12 q5_22 ynL_its ⟨rfl, rfl⟩ ⟨by decide, by decide⟩ ⟨by decide, by decide⟩ hl.1 (by exact Nat.le_of_ble_eq_true rfl) rfl dL_holds_123 (fun H locs w => ?_)
    refine lv_istore (lv' := [(10, .int vv2), (0, .ref (ad E 6 0)), (1, .int a1), (2, .int a2), (3, .int a3), (4, .int a4), (5, .int a5), (6, .long a6), (8, .int (1 : Int32)), (9, .int a9)]) hx hb dL_holds_126 hl (by decide) rfl (fun ls hl => ?_)
    refine lv_iload_n hx hb dL_holds_128 rfl (lv_at hl 3 rfl) ?_
    refine lv_iload hx hb dL_holds_129 (lv_at hl 0 rfl) ?_
    refine lv_iconst (v := (1 : Int32)) hx hb dL_holds_131 (by decide) ?_
    refine lv_icmp_ne (tgt := 139) hx hb dL_holds_132 (by decide) (fun c6 => ?_) (fun c6 => ?_)
    · replace h := ite_t h c6
      refine lv_iconst (v := (0 : Int32)) hx hb dL_holds_139 (by decide) ?_
      exact TL_holds_140 C hst hk108 _ _ _ _ _ _ _ _ _ _ _ h w (lv_sub hl [1, 2, 4, 5, 6, 7, 9, 0] rfl)
    · replace h := ite_f h (fun z => z c6)
      refine lv_iconst (v := (1 : Int32)) hx hb dL_holds_135 (by decide) ?_
      refine lv_goto (tgt := 140) hx hb dL_holds_136 (by decide) ?_
      exact TL_holds_140 C hst hk108 _ _ _ _ _ _ _ _ _ _ _ h w (lv_sub hl [1, 2, 4, 5, 6, 7, 9, 0] rfl)
theorem TL_holds_108 {rr : Int32} {GR : M3} {KR : J3}   (C : Cx E A p s m args meth c wdL_holds cL_holds 12 (some .boolean) RL) (hst : l.stackTraces = false)  : ∀ (n : Nat) (a1 : Int32) (a2 : Int32) (a3 : Int32) (a4 : Int32) (a5 : Int32) (a6 : Int64) (a9 : Int32) (G : M3) (K : J3)  (ls : Array Slot) (H : Heap) (locs : List Loc), fbL_holds_108 F  n a1 a2 a3 a4 a5 a6 a9 G K = some (rr, GR, KR) → Wd E A s G K H locs → lv_has ls 12 [(0, .ref (ad E 6 0)), (1, .int a1), (2, .int a2), (3, .int a3), (4, .int a4), (5, .int a5), (6, .long a6), (8, .int (1 : Int32)), (9, .int a9)] → W p l e rmL_holds s m args below meth c H locs 0 0 (QI E A below args s rr GR KR) (F0 m 108 ls []) := by
  intro n
  induction n with
  | zero => intro a1 a2 a3 a4 a5 a6 a9 G K  ls H locs h; exact absurd (show none = _ from h) (fun z => nomatch z)
  | succ n ih => intro a1 a2 a3 a4 a5 a6 a9 G K  ls H locs h w hl; exact SL_holds_108 (F := F) C hst  ih a1 a2 a3 a4 a5 a6 a9 G K  h w hl
noncomputable def fL_holds (F : Nat)   (G : M3) (K : J3) : Option (Int32 × M3 × J3) := bdz (fX4_value F (3 : Int32) G K) (fun vv1 G2 K3 => bdz (fX4_value F (1 : Int32) G2 K3) (fun vv5 G6 K7 => bdz (fX4_booked (1 : Int32) G6 K7) (fun vv9 G10 K11 => bdz (fX4_booked (2 : Int32) G10 K11) (fun vv13 G14 K15 => bdz (fX4_booked (4 : Int32) G14 K15) (fun vv17 G18 K19 => bdz (fX4_booked (0 : Int32) G18 K19) (fun vv21 G22 K23 => chk ((lg_cmp ((((vv5.toInt64 + vv9) + vv13) + vv17) - vv21) (6000 : Int64)) = 0) (bdz (fX4_value F (2 : Int32) G22 K23) (fun vv26 G27 K28 => bdz (fX4_value F (1 : Int32) G27 K28) (fun vv30 G31 K32 => bdz (fX4_value F (0 : Int32) G31 K32) (fun vv34 G35 K36 => chk (¬ vv34 = 0) (chk (vv26 = ((vv30 * (1000 : Int32)) / vv34)) (bdz (fX4_value F (1 : Int32) G35 K36) (fun vv40 G41 K42 => chk (¬ vv40 < 0) (bdz (fX4_value F (11 : Int32) G41 K42) (fun vv45 G46 K47 => chk (¬ (6 : Int32) < vv45) (fbL_holds_108 F F vv1 (0 : Int32) (0 : Int32) (0 : Int32) (0 : Int32) (0 : Int64) (0 : Int32) G46 K47))))))))))))))))
set_option maxRecDepth 20000 in
set_option maxHeartbeats 1000000 in
theorem TL_holds {rr : Int32} {GR : M3} {KR : J3}  (C : Cx E A p s m args meth c wdL_holds cL_holds 12 (some .boolean) RL) (hst : l.stackTraces = false)   (h : fL_holds F  G K = some (rr, GR, KR)) (w : Wd E A s G K H locs) (hl : lv_has ls 12 [(0, .ref (ad E 6 0))]) : W p l e rmL_holds s m args below meth c H locs 0 0 (QI E A below args s rr GR KR) (F0 m 0 ls []) := by
  obtain ⟨hx, hb, hr, hml, hown, hts, hlocks, hKK, hA1, hA2⟩ := id C
  unfold fL_holds at h
  refine lv_aload_n hx hb dL_holds_0 rfl (lv_at hl 0 rfl) ?_
  refine lv_iconst (v := (3 : Int32)) hx hb dL_holds_1 (by decide) ?_
  obtain ⟨vv1, G2, K3, hv4, h⟩ := bdz_of h
  refine x_cZi (As := [.ref (ad E 6 0), .int (3 : Int32)]) (rest := []) C w (mzL_value hst hv4) q3_17 q3_18 q3_12 q3_19 ynL_value ⟨rfl, rfl⟩ ⟨by decide, by decide⟩ ⟨by decide, by decide⟩ hl.1 (by exact Nat.le_of_ble_eq_true rfl) rfl dL_holds_2 (fun H locs w => ?_)
  refine lv_istore_n (lv' := [(1, .int vv1), (0, .ref (ad E 6 0))]) hx hb dL_holds_5 rfl hl (by decide) rfl (fun ls hl => ?_)
  refine lv_iconst (v := (0 : Int32)) hx hb dL_holds_6 (by decide) ?_
  refine lv_istore_n (lv' := [(2, .int (0 : Int32)), (1, .int vv1), (0, .ref (ad E 6 0))]) hx hb dL_holds_7 rfl hl (by decide) rfl (fun ls hl => ?_)
  refine lv_iconst (v := (0 : Int32)) hx hb dL_holds_8 (by decide) ?_
  refine lv_istore_n (lv' := [(3, .int (0 : Int32)), (2, .int (0 : Int32)), (1, .int vv1), (0, .ref (ad E 6 0))]) hx hb dL_holds_9 rfl hl (by decide) rfl (fun ls hl => ?_)
  refine lv_iconst (v := (0 : Int32)) hx hb dL_holds_10 (by decide) ?_
  refine lv_istore (lv' := [(4, .int (0 : Int32)), (3, .int (0 : Int32)), (2, .int (0 : Int32)), (1, .int vv1), (0, .ref (ad E 6 0))]) hx hb dL_holds_11 hl (by decide) rfl (fun ls hl => ?_)
  refine lv_iconst (v := (0 : Int32)) hx hb dL_holds_13 (by decide) ?_
  refine lv_istore (lv' := [(5, .int (0 : Int32)), (4, .int (0 : Int32)), (3, .int (0 : Int32)), (2, .int (0 : Int32)), (1, .int vv1), (0, .ref (ad E 6 0))]) hx hb dL_holds_14 hl (by decide) rfl (fun ls hl => ?_)
  refine lv_lconst (v := (0 : Int64)) hx hb dL_holds_16 (by decide) ?_
  refine lv_lstore (lv' := [(6, .long (0 : Int64)), (5, .int (0 : Int32)), (4, .int (0 : Int32)), (3, .int (0 : Int32)), (2, .int (0 : Int32)), (1, .int vv1), (0, .ref (ad E 6 0))]) hx hb dL_holds_17 hl (by decide) rfl (fun ls hl => ?_)
  refine lv_aload_n hx hb dL_holds_19 rfl (lv_at hl 6 rfl) ?_
  refine lv_iconst (v := (1 : Int32)) hx hb dL_holds_20 (by decide) ?_
  obtain ⟨vv5, G6, K7, hv8, h⟩ := bdz_of h
  refine x_cZi (As := [.ref (ad E 6 0), .int (1 : Int32)]) (rest := []) C w (mzL_value hst hv8) q3_17 q3_18 q3_12 q3_19 ynL_value ⟨rfl, rfl⟩ ⟨by decide, by decide⟩ ⟨by decide, by decide⟩ hl.1 (by exact Nat.le_of_ble_eq_true rfl) rfl dL_holds_21 (fun H locs w => ?_)
  refine lv_i2l hx hb dL_holds_24 rfl ?_
  refine lv_aload_n hx hb dL_holds_25 rfl (lv_at hl 6 rfl) ?_
  refine lv_iconst (v := (1 : Int32)) hx hb dL_holds_26 (by decide) ?_
  obtain ⟨vv9, G10, K11, hv12, h⟩ := bdz_of h
  refine x_cZl (As := [.ref (ad E 6 0), .int (1 : Int32)]) (rest := [.long vv5.toInt64]) C w (mzL_booked hst hv12) q5_11 q5_12 q3_12 q5_13 ynL_booked ⟨rfl, rfl⟩ ⟨by decide, by decide⟩ ⟨by decide, by decide⟩ hl.1 (by exact Nat.le_of_ble_eq_true rfl) rfl dL_holds_27 (fun H locs w => ?_)
  refine lv_ladd hx hb dL_holds_30 ?_
  refine lv_aload_n hx hb dL_holds_31 rfl (lv_at hl 6 rfl) ?_
  refine lv_iconst (v := (2 : Int32)) hx hb dL_holds_32 (by decide) ?_
  obtain ⟨vv13, G14, K15, hv16, h⟩ := bdz_of h
  refine x_cZl (As := [.ref (ad E 6 0), .int (2 : Int32)]) (rest := [.long (vv5.toInt64 + vv9)]) C w (mzL_booked hst hv16) q5_11 q5_12 q3_12 q5_13 ynL_booked ⟨rfl, rfl⟩ ⟨by decide, by decide⟩ ⟨by decide, by decide⟩ hl.1 (by exact Nat.le_of_ble_eq_true rfl) rfl dL_holds_33 (fun H locs w => ?_)
  refine lv_ladd hx hb dL_holds_36 ?_
  refine lv_aload_n hx hb dL_holds_37 rfl (lv_at hl 6 rfl) ?_
  refine lv_iconst (v := (4 : Int32)) hx hb dL_holds_38 (by decide) ?_
  obtain ⟨vv17, G18, K19, hv20, h⟩ := bdz_of h
  refine x_cZl (As := [.ref (ad E 6 0), .int (4 : Int32)]) (rest := [.long ((vv5.toInt64 + vv9) + vv13)]) C w (mzL_booked hst hv20) q5_11 q5_12 q3_12 q5_13 ynL_booked ⟨rfl, rfl⟩ ⟨by decide, by decide⟩ ⟨by decide, by decide⟩ hl.1 (by exact Nat.le_of_ble_eq_true rfl) rfl dL_holds_39 (fun H locs w => ?_)
  refine lv_ladd hx hb dL_holds_42 ?_
  refine lv_aload_n hx hb dL_holds_43 rfl (lv_at hl 6 rfl) ?_
  refine lv_iconst (v := (0 : Int32)) hx hb dL_holds_44 (by decide) ?_
  obtain ⟨vv21, G22, K23, hv24, h⟩ := bdz_of h
  refine x_cZl (As := [.ref (ad E 6 0), .int (0 : Int32)]) (rest := [.long (((vv5.toInt64 + vv9) + vv13) + vv17)]) C w (mzL_booked hst hv24) q5_11 q5_12 q3_12 q5_13 ynL_booked ⟨rfl, rfl⟩ ⟨by decide, by decide⟩ ⟨by decide, by decide⟩ hl.1 (by exact Nat.le_of_ble_eq_true rfl) rfl dL_holds_45 (fun H locs w => ?_)
  refine lv_lsub hx hb dL_holds_48 ?_
  refine lv_ldc2 hx hb hown (x_hts C q3_14) dL_holds_49 ?_
  refine W.lcmp hx hb dL_holds_52 ?_
  obtain ⟨kc25, h⟩ := chk_of h
  refine lv_if_ne (tgt := 102) hx hb dL_holds_53 (by decide) (fun cc => absurd kc25 cc) (fun _ => ?_)
  refine lv_aload_n hx hb dL_holds_56 rfl (lv_at hl 6 rfl) ?_
  refine lv_iconst (v := (2 : Int32)) hx hb dL_holds_57 (by decide) ?_
  obtain ⟨vv26, G27, K28, hv29, h⟩ := bdz_of h
  refine x_cZi (As := [.ref (ad E 6 0), .int (2 : Int32)]) (rest := []) C w (mzL_value hst hv29) q3_17 q3_18 q3_12 q3_19 ynL_value ⟨rfl, rfl⟩ ⟨by decide, by decide⟩ ⟨by decide, by decide⟩ hl.1 (by exact Nat.le_of_ble_eq_true rfl) rfl dL_holds_58 (fun H locs w => ?_)
  refine lv_aload_n hx hb dL_holds_61 rfl (lv_at hl 6 rfl) ?_
  refine lv_iconst (v := (1 : Int32)) hx hb dL_holds_62 (by decide) ?_
  obtain ⟨vv30, G31, K32, hv33, h⟩ := bdz_of h
  refine x_cZi (As := [.ref (ad E 6 0), .int (1 : Int32)]) (rest := [.int vv26]) C w (mzL_value hst hv33) q3_17 q3_18 q3_12 q3_19 ynL_value ⟨rfl, rfl⟩ ⟨by decide, by decide⟩ ⟨by decide, by decide⟩ hl.1 (by exact Nat.le_of_ble_eq_true rfl) rfl dL_holds_63 (fun H locs w => ?_)
  refine lv_sipush (v := (1000 : Int32)) hx hb dL_holds_66 (by decide) ?_
  refine lv_imul hx hb dL_holds_69 ?_
  refine lv_aload_n hx hb dL_holds_70 rfl (lv_at hl 6 rfl) ?_
  refine lv_iconst (v := (0 : Int32)) hx hb dL_holds_71 (by decide) ?_
  obtain ⟨vv34, G35, K36, hv37, h⟩ := bdz_of h
  refine x_cZi (As := [.ref (ad E 6 0), .int (0 : Int32)]) (rest := [.int (vv30 * (1000 : Int32)), .int vv26]) C w (mzL_value hst hv37) q3_17 q3_18 q3_12 q3_19 ynL_value ⟨rfl, rfl⟩ ⟨by decide, by decide⟩ ⟨by decide, by decide⟩ hl.1 (by exact Nat.le_of_ble_eq_true rfl) rfl dL_holds_72 (fun H locs w => ?_)
  obtain ⟨kz38, h⟩ := chk_of h
  refine lv_idiv hx hb dL_holds_75 kz38 ?_
  obtain ⟨kc39, h⟩ := chk_of h
  refine lv_icmp_ne (tgt := 102) hx hb dL_holds_76 (by decide) (fun cc => absurd kc39 cc) (fun _ => ?_)
  refine lv_aload_n hx hb dL_holds_79 rfl (lv_at hl 6 rfl) ?_
  refine lv_iconst (v := (1 : Int32)) hx hb dL_holds_80 (by decide) ?_
  obtain ⟨vv40, G41, K42, hv43, h⟩ := bdz_of h
  refine x_cZi (As := [.ref (ad E 6 0), .int (1 : Int32)]) (rest := []) C w (mzL_value hst hv43) q3_17 q3_18 q3_12 q3_19 ynL_value ⟨rfl, rfl⟩ ⟨by decide, by decide⟩ ⟨by decide, by decide⟩ hl.1 (by exact Nat.le_of_ble_eq_true rfl) rfl dL_holds_81 (fun H locs w => ?_)
  obtain ⟨kc44, h⟩ := chk_of h
  refine lv_if_lt (tgt := 102) hx hb dL_holds_84 (by decide) (fun cc => absurd cc kc44) (fun _ => ?_)
  refine lv_aload_n hx hb dL_holds_87 rfl (lv_at hl 6 rfl) ?_
  refine lv_bipush (v := (11 : Int32)) hx hb dL_holds_88 (by decide) ?_
  obtain ⟨vv45, G46, K47, hv48, h⟩ := bdz_of h
  refine x_cZi (As := [.ref (ad E 6 0), .int (11 : Int32)]) (rest := []) C w (mzL_value hst hv48) q3_17 q3_18 q3_12 q3_19 ynL_value ⟨rfl, rfl⟩ ⟨by decide, by decide⟩ ⟨by decide, by decide⟩ hl.1 (by exact Nat.le_of_ble_eq_true rfl) rfl dL_holds_90 (fun H locs w => ?_)
  refine lv_bipush (v := (6 : Int32)) hx hb dL_holds_93 (by decide) ?_
  obtain ⟨kc49, h⟩ := chk_of h
  refine lv_icmp_gt (tgt := 102) hx hb dL_holds_95 (by decide) (fun cc => absurd cc kc49) (fun _ => ?_)
  refine lv_iconst (v := (1 : Int32)) hx hb dL_holds_98 (by decide) ?_
  refine lv_goto (tgt := 103) hx hb dL_holds_99 (by decide) ?_
  refine lv_istore (lv' := [(8, .int (1 : Int32)), (6, .long (0 : Int64)), (5, .int (0 : Int32)), (4, .int (0 : Int32)), (3, .int (0 : Int32)), (2, .int (0 : Int32)), (1, .int vv1), (0, .ref (ad E 6 0))]) hx hb dL_holds_103 hl (by decide) rfl (fun ls hl => ?_)
  refine lv_iconst (v := (0 : Int32)) hx hb dL_holds_105 (by decide) ?_
  refine lv_istore (lv' := [(9, .int (0 : Int32)), (8, .int (1 : Int32)), (6, .long (0 : Int64)), (5, .int (0 : Int32)), (4, .int (0 : Int32)), (3, .int (0 : Int32)), (2, .int (0 : Int32)), (1, .int vv1), (0, .ref (ad E 6 0))]) hx hb dL_holds_106 hl (by decide) rfl (fun ls hl => ?_)
  exact TL_holds_108 C hst  _ _ _ _ _ _ _ _ _ _ _ _ _ h w (lv_sub hl [8, 7, 6, 5, 4, 3, 2, 1, 0] rfl)
theorem mtL_holds {rr : Int32} {GR : M3} {KR : J3}  (hst : l.stackTraces = false)   (h : fL_holds F  G K = some (rr, GR, KR)) : MtI l yL_holds wdL_holds rmL_holds E [.ref (ad E 6 0)] G K rr GR KR := by
  intro sz
  refine Met.ofW (cc := cL_holds) (maxL := 12) (ret := (some .boolean)) (by decide) rfl ?_
  intro p e s m args below meth c s₁ B hml hv
  obtain ⟨rfl, C, w⟩ := Cx.of (own := RL) B rfl hml hv
  have hl := lv_entry ([.ref (ad E 6 0)]) (n := 12) (by first | exact Nat.le_of_ble_eq_true rfl)
  rw [lg_entry_eq]
  generalize (lg_sl ([.ref (ad E 6 0)]) ++ List.replicate (12 - (lg_sl ([.ref (ad E 6 0)])).length) Slot.unset).toArray = ls at hl ⊢
  exact TL_holds C hst  h w hl
theorem ydL_holds : yL_holds.cls = RL ∧ yL_holds.cls ≠ "java/lang/invoke/MethodHandle" ∧ yL_holds.cls ≠ "java/lang/invoke/VarHandle" ∧ (parseMethodDescriptor yL_holds.desc).map (fun d => d.parameters.length) = some 1 := by decide +kernel
theorem ynL_holds : yL_holds.cls ≠ "java/lang/invoke/MethodHandle" ∧ yL_holds.cls ≠ "java/lang/invoke/VarHandle" ∧ (parseMethodDescriptor yL_holds.desc).map (fun d => d.parameters.length) = some 1 := by decide +kernel
end XHO
