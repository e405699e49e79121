section XLW2
variable {E : WE} {p : Program} {l : Launch} {e : Env} {s : State} {m : MethodId} {below : List Frame} {meth : Method} {c : Code} {H : Heap} {locs : List Loc} {ls : Array Slot} {F cells slots b L : Nat} {xs : Nat → Int32}
noncomputable def fbL_law_861 (F : Nat) (k23 : Int32 → M3 → J3 → Option Int32) (xs : Nat → Int32) (L : Nat) (a4 : Int32) (G : M3) (K : J3) : Option Int32 := fbL_law_1418 F k23 xs L a4 G K
set_option maxRecDepth 20000 in
set_option maxHeartbeats 1000000 in
theorem TL_law_861 {n : Nat} {k23 : Int32 → M3 → J3 → Option Int32} (C : Cx E (fun q : Nat => s.heap.size ≤ q) p s m #[Value.ref b] meth c (Cond.initialized RX4) code 9 ret RL) (hst : l.stackTraces = false) (hX : va_X b L xs s s.heap) (hbl : b < s.heap.size) (hbA : ¬ (fun q : Nat => s.heap.size ≤ q) b) (hk23 : ∀ (a4 : Int32) (G : M3) (K : J3) (ls : Array Slot) (H : Heap) (locs : List Loc) (cells slots : Nat), RB n cells slots → k23 a4 G K = some 1 → Wd E (fun q : Nat => s.heap.size ≤ q) s G K H locs → lv_has ls 9 [(0, .ref b), (1, .ref (ad E 6 0)), (2, .ref (ad E 8 0)), (3, .ref (ad E 9 0)), (4, .int a4)] → W p l e room_1 s m #[Value.ref b] below meth c H locs cells slots (lw_Z below #[Value.ref b] s) (F0 m 23 ls [])) (a4 : Int32) (G : M3) (K : J3) (hRB : RB n cells slots) (h : fbL_law_861 F k23 xs L a4 G K = some 1) (w : Wd E (fun q : Nat => s.heap.size ≤ q) s G K H locs) (hl : lv_has ls 9 [(0, .ref b), (1, .ref (ad E 6 0)), (2, .ref (ad E 8 0)), (3, .ref (ad E 9 0)), (4, .int a4)]) : W p l e room_1 s m #[Value.ref b] below meth c H locs cells slots (lw_Z below #[Value.ref b] s) (F0 m 861 ls []) := by
  obtain ⟨hx, hb, hr, hml, hown, hts, hlocks, hKK, hA1, hA2⟩ := id C
  unfold fbL_law_861 at h
  refine lv_goto (tgt := 1418) hx hb dL_law_861 (by decide) ?_
  exact TL_law_1418 C hst hX hbl hbA hk23 _ _ _ hRB h w (lv_sub hl [0, 1, 2, 3, 4] rfl)
noncomputable def fbL_law_809 (F : Nat) (k23 : Int32 → M3 → J3 → Option Int32) (xs : Nat → Int32) (L : Nat) (a4 : Int32) (G : M3) (K : J3) : Option Int32 := chk (inb (a4 + (1 : Int32)) L) (bd3 (fL_booked (xs (a4 + (1 : Int32)).toNatClampNeg) G K) (fun vv2 G3 K4 => chk (inb (a4 + (1 : Int32)) L) (bd3 (fX5_booked (xs (a4 + (1 : Int32)).toNatClampNeg) (G3 8) (K4 8)) (fun vv14 M8 J9 => bnd (sg G3 8 M8) (fun G10 => bnd (sg K4 8 J9) (fun K11 => (if (fX5_thrown (G10 8) (K11 8)) = vv2 then ((if ¬ vv2 = 0 then (fbL_law_861 F k23 xs L a4 G10 K11) else ((if (lg_cmp (K11 9 0 0) vv14) = 0 then (fbL_law_861 F k23 xs L a4 G10 K11) else (some 0))))) else (some 0))))))))
set_option maxRecDepth 20000 in
set_option maxHeartbeats 1000000 in
theorem TL_law_809 {n : Nat} {k23 : Int32 → M3 → J3 → Option Int32} (C : Cx E (fun q : Nat => s.heap.size ≤ q) p s m #[Value.ref b] meth c (Cond.initialized RX4) code 9 ret RL) (hst : l.stackTraces = false) (hX : va_X b L xs s s.heap) (hbl : b < s.heap.size) (hbA : ¬ (fun q : Nat => s.heap.size ≤ q) b) (hk23 : ∀ (a4 : Int32) (G : M3) (K : J3) (ls : Array Slot) (H : Heap) (locs : List Loc) (cells slots : Nat), RB n cells slots → k23 a4 G K = some 1 → Wd E (fun q : Nat => s.heap.size ≤ q) s G K H locs → lv_has ls 9 [(0, .ref b), (1, .ref (ad E 6 0)), (2, .ref (ad E 8 0)), (3, .ref (ad E 9 0)), (4, .int a4)] → W p l e room_1 s m #[Value.ref b] below meth c H locs cells slots (lw_Z below #[Value.ref b] s) (F0 m 23 ls [])) (a4 : Int32) (G : M3) (K : J3) (hRB : RB (n + 1) cells slots) (h : fbL_law_809 F k23 xs L a4 G K = some 1) (w : Wd E (fun q : Nat => s.heap.size ≤ q) s G K H locs) (hl : lv_has ls 9 [(0, .ref b), (1, .ref (ad E 6 0)), (2, .ref (ad E 8 0)), (3, .ref (ad E 9 0)), (4, .int a4)]) : W p l e room_1 s m #[Value.ref b] below meth c H locs cells slots (lw_Z below #[Value.ref b] s) (F0 m 809 ls []) := by
  obtain ⟨hx, hb, hr, hml, hown, hts, hlocks, hKK, hA1, hA2⟩ := id C
  unfold fbL_law_809 at h
  refine lv_aload_n hx hb dL_law_809 rfl (lv_at hl 1 rfl) ?_
  refine lv_aload_n hx hb dL_law_810 rfl (lv_at hl 0 rfl) ?_
  refine lv_iload hx hb dL_law_811 (lv_at hl 4 rfl) ?_
  refine lv_iconst (v := (1 : Int32)) hx hb dL_law_813 (by decide) ?_
  refine lv_iadd hx hb dL_law_814 ?_
  obtain ⟨ki1, h⟩ := chk_of h
  refine x_scr C w hX hbl hbA ki1 rfl dL_law_815 ?_
  refine lv_aload_n hx hb dL_law_816 rfl (lv_at hl 3 rfl) ?_
  obtain ⟨vv2, G3, K4, hv5, h⟩ := bd3_of h
  refine x_cWi (As := [.ref (ad E 6 0), .int (xs (a4 + (1 : Int32)).toNatClampNeg), .ref (ad E 9 0)]) (rest := []) C w (mtL_booked hst hv5) q22_11 q22_12 q4_4 q22_13 ynL_booked ⟨rfl, rfl⟩ ⟨by decide, by decide⟩ (rb_c hRB) hl.1 (Nat.le_of_ble_eq_true rfl) rfl dL_law_817 (fun H locs w => ?_)
  replace hRB := rb_go hRB
  refine lv_istore (lv' := [(5, .int vv2), (0, .ref b), (1, .ref (ad E 6 0)), (2, .ref (ad E 8 0)), (3, .ref (ad E 9 0)), (4, .int a4)]) hx hb dL_law_820 hl (by decide) rfl (fun ls hl => ?_)
  refine lv_aload_n hx hb dL_law_822 rfl (lv_at hl 3 rfl) ?_
  refine lv_aload_n hx hb dL_law_823 rfl (lv_at hl 1 rfl) ?_
  refine lv_iload hx hb dL_law_824 (lv_at hl 5 rfl) ?_
  refine lv_iconst (v := (1 : Int32)) hx hb dL_law_826 (by decide) ?_
  refine lv_iadd hx hb dL_law_827 ?_
  obtain ⟨ki6, h⟩ := chk_of h
  refine x_scr C w hX hbl hbA ki6 rfl dL_law_828 ?_
  obtain ⟨vv14, M8, J9, hv7, h⟩ := bd3_of h
  refine x_cVl (As := [.int (xs (a4 + (1 : Int32)).toNatClampNeg)]) (rest := []) C (Wd.ofS 8 w) (v8 (by decide)) cel_8 rfl (mtX5_booked  hv7) q22_19 q22_20 q22_21 q1_5 q22_22 ydX5_booked ⟨rfl, rfl⟩ ⟨by decide, by decide⟩ (rb_z hRB) hl.1 (Nat.le_of_ble_eq_true rfl) rfl dL_law_829 (fun H locs w => ?_)
  obtain ⟨G10, e12⟩ : ∃ z, z = sg G3 8 M8 := ⟨_, rfl⟩
  obtain ⟨K11, e13⟩ : ∃ z, z = sg K4 8 J9 := ⟨_, rfl⟩
  rw [← e12, ← e13] at w
  replace h := bnd_of h e12
  replace h := bnd_of h e13
  refine lv_lstore (lv' := [(6, .long vv14), (5, .int vv2), (0, .ref b), (1, .ref (ad E 6 0)), (2, .ref (ad E 8 0)), (3, .ref (ad E 9 0)), (4, .int a4)]) hx hb dL_law_832 hl (by decide) rfl (fun ls hl => ?_)
  refine lv_aload_n hx hb dL_law_834 rfl (lv_at hl 4 rfl) ?_
  refine x_cVi (As := []) (rest := []) C (Wd.ofS 8 w) (v8 (by decide)) cel_8 rfl (mtX5_thrown ) q8_1 q8_2 q8_3 q1_5 q8_4 ydX5_thrown ⟨rfl, rfl⟩ ⟨by decide, by decide⟩ (rb_z hRB) hl.1 (Nat.le_of_ble_eq_true rfl) rfl dL_law_835 (fun H locs w => ?_)
  have w := Wd.back w
  refine lv_iload hx hb dL_law_838 (lv_at hl 1 rfl) ?_
  refine lv_icmp_eq (tgt := 845) hx hb dL_law_840 (by decide) (fun c15 => ?_) (fun c15 => ?_)
  · replace h := ite_t h c15
    refine lv_iload hx hb dL_law_845 (lv_at hl 1 rfl) ?_
    refine lv_if_ne (tgt := 861) hx hb dL_law_847 (by decide) (fun c16 => ?_) (fun c16 => ?_)
    · replace h := ite_t h c16
      exact TL_law_861 C hst hX hbl hbA hk23 _ _ _ hRB h w (lv_sub hl [2, 3, 4, 5, 6] rfl)
    · replace h := ite_f h (fun z => z c16)
      refine lv_aload_n hx hb dL_law_850 rfl (lv_at hl 5 rfl) ?_
      refine lv_iconst (v := (0 : Int32)) hx hb dL_law_851 (by decide) ?_
      refine x_aldJ C w v9 c9_0 (inb_k (k := 0) (by decide) (by decide)) cl_0 dL_law_852 ?_
      refine lv_lload hx hb dL_law_853 (lv_at hl 0 rfl) ?_
      refine W.lcmp hx hb dL_law_855 ?_
      refine lv_if_eq (tgt := 861) hx hb dL_law_856 (by decide) (fun c17 => ?_) (fun c17 => ?_)
      · replace h := ite_t h c17
        exact TL_law_861 C hst hX hbl hbA hk23 _ _ _ hRB h w (lv_sub hl [2, 3, 4, 5, 6] rfl)
      · replace h := ite_f h c17
        refine lv_iconst (v := (0 : Int32)) hx hb dL_law_859 (by decide) ?_
        exact absurd (Option.some.inj h) (by decide)
  · replace h := ite_f h c15
    refine lv_iconst (v := (0 : Int32)) hx hb dL_law_843 (by decide) ?_
    exact absurd (Option.some.inj h) (by decide)
noncomputable def fbL_law_917 (F : Nat) (k23 : Int32 → M3 → J3 → Option Int32) (xs : Nat → Int32) (L : Nat) (a4 : Int32) (G : M3) (K : J3) : Option Int32 := fbL_law_1418 F k23 xs L a4 G K
set_option maxRecDepth 20000 in
set_option maxHeartbeats 1000000 in
theorem TL_law_917 {n : Nat} {k23 : Int32 → M3 → J3 → Option Int32} (C : Cx E (fun q : Nat => s.heap.size ≤ q) p s m #[Value.ref b] meth c (Cond.initialized RX4) code 9 ret RL) (hst : l.stackTraces = false) (hX : va_X b L xs s s.heap) (hbl : b < s.heap.size) (hbA : ¬ (fun q : Nat => s.heap.size ≤ q) b) (hk23 : ∀ (a4 : Int32) (G : M3) (K : J3) (ls : Array Slot) (H : Heap) (locs : List Loc) (cells slots : Nat), RB n cells slots → k23 a4 G K = some 1 → Wd E (fun q : Nat => s.heap.size ≤ q) s G K H locs → lv_has ls 9 [(0, .ref b), (1, .ref (ad E 6 0)), (2, .ref (ad E 8 0)), (3, .ref (ad E 9 0)), (4, .int a4)] → W p l e room_1 s m #[Value.ref b] below meth c H locs cells slots (lw_Z below #[Value.ref b] s) (F0 m 23 ls [])) (a4 : Int32) (G : M3) (K : J3) (hRB : RB n cells slots) (h : fbL_law_917 F k23 xs L a4 G K = some 1) (w : Wd E (fun q : Nat => s.heap.size ≤ q) s G K H locs) (hl : lv_has ls 9 [(0, .ref b), (1, .ref (ad E 6 0)), (2, .ref (ad E 8 0)), (3, .ref (ad E 9 0)), (4, .int a4)]) : W p l e room_1 s m #[Value.ref b] below meth c H locs cells slots (lw_Z below #[Value.ref b] s) (F0 m 917 ls []) := by
  obtain ⟨hx, hb, hr, hml, hown, hts, hlocks, hKK, hA1, hA2⟩ := id C
  unfold fbL_law_917 at h
  refine lv_goto (tgt := 1418) hx hb dL_law_917 (by decide) ?_
  exact TL_law_1418 C hst hX hbl hbA hk23 _ _ _ hRB h w (lv_sub hl [0, 1, 2, 3, 4] rfl)
noncomputable def fbL_law_864 (F : Nat) (k23 : Int32 → M3 → J3 → Option Int32) (xs : Nat → Int32) (L : Nat) (a4 : Int32) (G : M3) (K : J3) : Option Int32 := chk (inb (a4 + (1 : Int32)) L) (bd3 (fL_result (xs (a4 + (1 : Int32)).toNatClampNeg) G K) (fun vv2 G3 K4 => chk (inb (a4 + (1 : Int32)) L) (bd3 (fX5_result (xs (a4 + (1 : Int32)).toNatClampNeg) (G3 8) (K4 8)) (fun vv14 M8 J9 => bnd (sg G3 8 M8) (fun G10 => bnd (sg K4 8 J9) (fun K11 => (if (fX5_thrown (G10 8) (K11 8)) = vv2 then ((if ¬ vv2 = 0 then (fbL_law_917 F k23 xs L a4 G10 K11) else ((if (lg_cmp (K11 9 0 0) (vv14.toInt64)) = 0 then (fbL_law_917 F k23 xs L a4 G10 K11) else (some 0))))) else (some 0))))))))
set_option maxRecDepth 20000 in
set_option maxHeartbeats 1000000 in
theorem TL_law_864 {n : Nat} {k23 : Int32 → M3 → J3 → Option Int32} (C : Cx E (fun q : Nat => s.heap.size ≤ q) p s m #[Value.ref b] meth c (Cond.initialized RX4) code 9 ret RL) (hst : l.stackTraces = false) (hX : va_X b L xs s s.heap) (hbl : b < s.heap.size) (hbA : ¬ (fun q : Nat => s.heap.size ≤ q) b) (hk23 : ∀ (a4 : Int32) (G : M3) (K : J3) (ls : Array Slot) (H : Heap) (locs : List Loc) (cells slots : Nat), RB n cells slots → k23 a4 G K = some 1 → Wd E (fun q : Nat => s.heap.size ≤ q) s G K H locs → lv_has ls 9 [(0, .ref b), (1, .ref (ad E 6 0)), (2, .ref (ad E 8 0)), (3, .ref (ad E 9 0)), (4, .int a4)] → W p l e room_1 s m #[Value.ref b] below meth c H locs cells slots (lw_Z below #[Value.ref b] s) (F0 m 23 ls [])) (a4 : Int32) (G : M3) (K : J3) (hRB : RB (n + 1) cells slots) (h : fbL_law_864 F k23 xs L a4 G K = some 1) (w : Wd E (fun q : Nat => s.heap.size ≤ q) s G K H locs) (hl : lv_has ls 9 [(0, .ref b), (1, .ref (ad E 6 0)), (2, .ref (ad E 8 0)), (3, .ref (ad E 9 0)), (4, .int a4)]) : W p l e room_1 s m #[Value.ref b] below meth c H locs cells slots (lw_Z below #[Value.ref b] s) (F0 m 864 ls []) := by
  obtain ⟨hx, hb, hr, hml, hown, hts, hlocks, hKK, hA1, hA2⟩ := id C
  unfold fbL_law_864 at h
  refine lv_aload_n hx hb dL_law_864 rfl (lv_at hl 1 rfl) ?_
  refine lv_aload_n hx hb dL_law_865 rfl (lv_at hl 0 rfl) ?_
  refine lv_iload hx hb dL_law_866 (lv_at hl 4 rfl) ?_
  refine lv_iconst (v := (1 : Int32)) hx hb dL_law_868 (by decide) ?_
  refine lv_iadd hx hb dL_law_869 ?_
  obtain ⟨ki1, h⟩ := chk_of h
  refine x_scr C w hX hbl hbA ki1 rfl dL_law_870 ?_
  refine lv_aload_n hx hb dL_law_871 rfl (lv_at hl 3 rfl) ?_
  obtain ⟨vv2, G3, K4, hv5, h⟩ := bd3_of h
  refine x_cWi (As := [.ref (ad E 6 0), .int (xs (a4 + (1 : Int32)).toNatClampNeg), .ref (ad E 9 0)]) (rest := []) C w (mtL_result hst hv5) q22_23 q23_0 q4_4 q23_1 ynL_result ⟨rfl, rfl⟩ ⟨by decide, by decide⟩ (rb_c hRB) hl.1 (Nat.le_of_ble_eq_true rfl) rfl dL_law_872 (fun H locs w => ?_)
  replace hRB := rb_go hRB
  refine lv_istore (lv' := [(5, .int vv2), (0, .ref b), (1, .ref (ad E 6 0)), (2, .ref (ad E 8 0)), (3, .ref (ad E 9 0)), (4, .int a4)]) hx hb dL_law_875 hl (by decide) rfl (fun ls hl => ?_)
  refine lv_aload_n hx hb dL_law_877 rfl (lv_at hl 3 rfl) ?_
  refine lv_aload_n hx hb dL_law_878 rfl (lv_at hl 1 rfl) ?_
  refine lv_iload hx hb dL_law_879 (lv_at hl 5 rfl) ?_
  refine lv_iconst (v := (1 : Int32)) hx hb dL_law_881 (by decide) ?_
  refine lv_iadd hx hb dL_law_882 ?_
  obtain ⟨ki6, h⟩ := chk_of h
  refine x_scr C w hX hbl hbA ki6 rfl dL_law_883 ?_
  obtain ⟨vv14, M8, J9, hv7, h⟩ := bd3_of h
  refine x_cVi (As := [.int (xs (a4 + (1 : Int32)).toNatClampNeg)]) (rest := []) C (Wd.ofS 8 w) (v8 (by decide)) cel_8 rfl (mtX5_result  hv7) q23_8 q23_9 q23_10 q1_5 q23_11 ydX5_result ⟨rfl, rfl⟩ ⟨by decide, by decide⟩ (rb_z hRB) hl.1 (Nat.le_of_ble_eq_true rfl) rfl dL_law_884 (fun H locs w => ?_)
  obtain ⟨G10, e12⟩ : ∃ z, z = sg G3 8 M8 := ⟨_, rfl⟩
  obtain ⟨K11, e13⟩ : ∃ z, z = sg K4 8 J9 := ⟨_, rfl⟩
  rw [← e12, ← e13] at w
  replace h := bnd_of h e12
  replace h := bnd_of h e13
  refine lv_istore (lv' := [(6, .int vv14), (5, .int vv2), (0, .ref b), (1, .ref (ad E 6 0)), (2, .ref (ad E 8 0)), (3, .ref (ad E 9 0)), (4, .int a4)]) hx hb dL_law_887 hl (by decide) rfl (fun ls hl => ?_)
  refine lv_aload_n hx hb dL_law_889 rfl (lv_at hl 4 rfl) ?_
  refine x_cVi (As := []) (rest := []) C (Wd.ofS 8 w) (v8 (by decide)) cel_8 rfl (mtX5_thrown ) q8_1 q8_2 q8_3 q1_5 q8_4 ydX5_thrown ⟨rfl, rfl⟩ ⟨by decide, by decide⟩ (rb_z hRB) hl.1 (Nat.le_of_ble_eq_true rfl) rfl dL_law_890 (fun H locs w => ?_)
  have w := Wd.back w
  refine lv_iload hx hb dL_law_893 (lv_at hl 1 rfl) ?_
  refine lv_icmp_eq (tgt := 900) hx hb dL_law_895 (by decide) (fun c15 => ?_) (fun c15 => ?_)
  · replace h := ite_t h c15
    refine lv_iload hx hb dL_law_900 (lv_at hl 1 rfl) ?_
    refine lv_if_ne (tgt := 917) hx hb dL_law_902 (by decide) (fun c16 => ?_) (fun c16 => ?_)
    · replace h := ite_t h c16
      exact TL_law_917 C hst hX hbl hbA hk23 _ _ _ hRB h w (lv_sub hl [2, 3, 4, 5, 6] rfl)
    · replace h := ite_f h (fun z => z c16)
      refine lv_aload_n hx hb dL_law_905 rfl (lv_at hl 5 rfl) ?_
      refine lv_iconst (v := (0 : Int32)) hx hb dL_law_906 (by decide) ?_
      refine x_aldJ C w v9 c9_0 (inb_k (k := 0) (by decide) (by decide)) cl_0 dL_law_907 ?_
      refine lv_iload hx hb dL_law_908 (lv_at hl 0 rfl) ?_
      refine lv_i2l hx hb dL_law_910 rfl ?_
      refine W.lcmp hx hb dL_law_911 ?_
      refine lv_if_eq (tgt := 917) hx hb dL_law_912 (by decide) (fun c17 => ?_) (fun c17 => ?_)
      · replace h := ite_t h c17
        exact TL_law_917 C hst hX hbl hbA hk23 _ _ _ hRB h w (lv_sub hl [2, 3, 4, 5, 6] rfl)
      · replace h := ite_f h c17
        refine lv_iconst (v := (0 : Int32)) hx hb dL_law_915 (by decide) ?_
        exact absurd (Option.some.inj h) (by decide)
  · replace h := ite_f h c15
    refine lv_iconst (v := (0 : Int32)) hx hb dL_law_898 (by decide) ?_
    exact absurd (Option.some.inj h) (by decide)
noncomputable def fbL_law_973 (F : Nat) (k23 : Int32 → M3 → J3 → Option Int32) (xs : Nat → Int32) (L : Nat) (a4 : Int32) (G : M3) (K : J3) : Option Int32 := fbL_law_1418 F k23 xs L a4 G K
set_option maxRecDepth 20000 in
set_option maxHeartbeats 1000000 in
theorem TL_law_973 {n : Nat} {k23 : Int32 → M3 → J3 → Option Int32} (C : Cx E (fun q : Nat => s.heap.size ≤ q) p s m #[Value.ref b] meth c (Cond.initialized RX4) code 9 ret RL) (hst : l.stackTraces = false) (hX : va_X b L xs s s.heap) (hbl : b < s.heap.size) (hbA : ¬ (fun q : Nat => s.heap.size ≤ q) b) (hk23 : ∀ (a4 : Int32) (G : M3) (K : J3) (ls : Array Slot) (H : Heap) (locs : List Loc) (cells slots : Nat), RB n cells slots → k23 a4 G K = some 1 → Wd E (fun q : Nat => s.heap.size ≤ q) s G K H locs → lv_has ls 9 [(0, .ref b), (1, .ref (ad E 6 0)), (2, .ref (ad E 8 0)), (3, .ref (ad E 9 0)), (4, .int a4)] → W p l e room_1 s m #[Value.ref b] below meth c H locs cells slots (lw_Z below #[Value.ref b] s) (F0 m 23 ls [])) (a4 : Int32) (G : M3) (K : J3) (hRB : RB n cells slots) (h : fbL_law_973 F k23 xs L a4 G K = some 1) (w : Wd E (fun q : Nat => s.heap.size ≤ q) s G K H locs) (hl : lv_has ls 9 [(0, .ref b), (1, .ref (ad E 6 0)), (2, .ref (ad E 8 0)), (3, .ref (ad E 9 0)), (4, .int a4)]) : W p l e room_1 s m #[Value.ref b] below meth c H locs cells slots (lw_Z below #[Value.ref b] s) (F0 m 973 ls []) := by
  obtain ⟨hx, hb, hr, hml, hown, hts, hlocks, hKK, hA1, hA2⟩ := id C
  unfold fbL_law_973 at h
  refine lv_goto (tgt := 1418) hx hb dL_law_973 (by decide) ?_
  exact TL_law_1418 C hst hX hbl hbA hk23 _ _ _ hRB h w (lv_sub hl [0, 1, 2, 3, 4] rfl)
noncomputable def fbL_law_920 (F : Nat) (k23 : Int32 → M3 → J3 → Option Int32) (xs : Nat → Int32) (L : Nat) (a4 : Int32) (G : M3) (K : J3) : Option Int32 := chk (inb (a4 + (1 : Int32)) L) (bd3 (fL_next (xs (a4 + (1 : Int32)).toNatClampNeg) G K) (fun vv2 G3 K4 => chk (inb (a4 + (1 : Int32)) L) (bd3 (fX5_next F (xs (a4 + (1 : Int32)).toNatClampNeg) (G3 8) (K4 8)) (fun vv14 M8 J9 => bnd (sg G3 8 M8) (fun G10 => bnd (sg K4 8 J9) (fun K11 => (if (fX5_thrown (G10 8) (K11 8)) = vv2 then ((if ¬ vv2 = 0 then (fbL_law_973 F k23 xs L a4 G10 K11) else ((if (lg_cmp (K11 9 0 0) (vv14.toInt64)) = 0 then (fbL_law_973 F k23 xs L a4 G10 K11) else (some 0))))) else (some 0))))))))
set_option maxRecDepth 20000 in
set_option maxHeartbeats 1000000 in
theorem TL_law_920 {n : Nat} {k23 : Int32 → M3 → J3 → Option Int32} (C : Cx E (fun q : Nat => s.heap.size ≤ q) p s m #[Value.ref b] meth c (Cond.initialized RX4) code 9 ret RL) (hst : l.stackTraces = false) (hX : va_X b L xs s s.heap) (hbl : b < s.heap.size) (hbA : ¬ (fun q : Nat => s.heap.size ≤ q) b) (hk23 : ∀ (a4 : Int32) (G : M3) (K : J3) (ls : Array Slot) (H : Heap) (locs : List Loc) (cells slots : Nat), RB n cells slots → k23 a4 G K = some 1 → Wd E (fun q : Nat => s.heap.size ≤ q) s G K H locs → lv_has ls 9 [(0, .ref b), (1, .ref (ad E 6 0)), (2, .ref (ad E 8 0)), (3, .ref (ad E 9 0)), (4, .int a4)] → W p l e room_1 s m #[Value.ref b] below meth c H locs cells slots (lw_Z below #[Value.ref b] s) (F0 m 23 ls [])) (a4 : Int32) (G : M3) (K : J3) (hRB : RB (n + 1) cells slots) (h : fbL_law_920 F k23 xs L a4 G K = some 1) (w : Wd E (fun q : Nat => s.heap.size ≤ q) s G K H locs) (hl : lv_has ls 9 [(0, .ref b), (1, .ref (ad E 6 0)), (2, .ref (ad E 8 0)), (3, .ref (ad E 9 0)), (4, .int a4)]) : W p l e room_1 s m #[Value.ref b] below meth c H locs cells slots (lw_Z below #[Value.ref b] s) (F0 m 920 ls []) := by
  obtain ⟨hx, hb, hr, hml, hown, hts, hlocks, hKK, hA1, hA2⟩ := id C
  unfold fbL_law_920 at h
  refine lv_aload_n hx hb dL_law_920 rfl (lv_at hl 1 rfl) ?_
  refine lv_aload_n hx hb dL_law_921 rfl (lv_at hl 0 rfl) ?_
  refine lv_iload hx hb dL_law_922 (lv_at hl 4 rfl) ?_
  refine lv_iconst (v := (1 : Int32)) hx hb dL_law_924 (by decide) ?_
  refine lv_iadd hx hb dL_law_925 ?_
  obtain ⟨ki1, h⟩ := chk_of h
  refine x_scr C w hX hbl hbA ki1 rfl dL_law_926 ?_
  refine lv_aload_n hx hb dL_law_927 rfl (lv_at hl 3 rfl) ?_
  obtain ⟨vv2, G3, K4, hv5, h⟩ := bd3_of h
  refine x_cWi (As := [.ref (ad E 6 0), .int (xs (a4 + (1 : Int32)).toNatClampNeg), .ref (ad E 9 0)]) (rest := []) C w (mtL_next hst hv5) q23_12 q23_13 q4_4 q23_14 ynL_next ⟨rfl, rfl⟩ ⟨by decide, by decide⟩ (rb_c hRB) hl.1 (Nat.le_of_ble_eq_true rfl) rfl dL_law_928 (fun H locs w => ?_)
  replace hRB := rb_go hRB
  refine lv_istore (lv' := [(5, .int vv2), (0, .ref b), (1, .ref (ad E 6 0)), (2, .ref (ad E 8 0)), (3, .ref (ad E 9 0)), (4, .int a4)]) hx hb dL_law_931 hl (by decide) rfl (fun ls hl => ?_)
  refine lv_aload_n hx hb dL_law_933 rfl (lv_at hl 3 rfl) ?_
  refine lv_aload_n hx hb dL_law_934 rfl (lv_at hl 1 rfl) ?_
  refine lv_iload hx hb dL_law_935 (lv_at hl 5 rfl) ?_
  refine lv_iconst (v := (1 : Int32)) hx hb dL_law_937 (by decide) ?_
  refine lv_iadd hx hb dL_law_938 ?_
  obtain ⟨ki6, h⟩ := chk_of h
  refine x_scr C w hX hbl hbA ki6 rfl dL_law_939 ?_
  obtain ⟨vv14, M8, J9, hv7, h⟩ := bd3_of h
  refine x_cVi (As := [.int (xs (a4 + (1 : Int32)).toNatClampNeg)]) (rest := []) C (Wd.ofS 8 w) (v8 (by decide)) cel_8 rfl (mtX5_next  hv7) q23_20 q23_21 q23_22 q1_5 q23_23 ydX5_next ⟨rfl, rfl⟩ ⟨by decide, by decide⟩ (rb_z hRB) hl.1 (Nat.le_of_ble_eq_true rfl) rfl dL_law_940 (fun H locs w => ?_)
  obtain ⟨G10, e12⟩ : ∃ z, z = sg G3 8 M8 := ⟨_, rfl⟩
  obtain ⟨K11, e13⟩ : ∃ z, z = sg K4 8 J9 := ⟨_, rfl⟩
  rw [← e12, ← e13] at w
  replace h := bnd_of h e12
  replace h := bnd_of h e13
  refine lv_istore (lv' := [(6, .int vv14), (5, .int vv2), (0, .ref b), (1, .ref (ad E 6 0)), (2, .ref (ad E 8 0)), (3, .ref (ad E 9 0)), (4, .int a4)]) hx hb dL_law_943 hl (by decide) rfl (fun ls hl => ?_)
  refine lv_aload_n hx hb dL_law_945 rfl (lv_at hl 4 rfl) ?_
  refine x_cVi (As := []) (rest := []) C (Wd.ofS 8 w) (v8 (by decide)) cel_8 rfl (mtX5_thrown ) q8_1 q8_2 q8_3 q1_5 q8_4 ydX5_thrown ⟨rfl, rfl⟩ ⟨by decide, by decide⟩ (rb_z hRB) hl.1 (Nat.le_of_ble_eq_true rfl) rfl dL_law_946 (fun H locs w => ?_)
  have w := Wd.back w
  refine lv_iload hx hb dL_law_949 (lv_at hl 1 rfl) ?_
  refine lv_icmp_eq (tgt := 956) hx hb dL_law_951 (by decide) (fun c15 => ?_) (fun c15 => ?_)
  · replace h := ite_t h c15
    refine lv_iload hx hb dL_law_956 (lv_at hl 1 rfl) ?_
    refine lv_if_ne (tgt := 973) hx hb dL_law_958 (by decide) (fun c16 => ?_) (fun c16 => ?_)
    · replace h := ite_t h c16
      exact TL_law_973 C hst hX hbl hbA hk23 _ _ _ hRB h w (lv_sub hl [2, 3, 4, 5, 6] rfl)
    · replace h := ite_f h (fun z => z c16)
      refine lv_aload_n hx hb dL_law_961 rfl (lv_at hl 5 rfl) ?_
      refine lv_iconst (v := (0 : Int32)) hx hb dL_law_962 (by decide) ?_
      refine x_aldJ C w v9 c9_0 (inb_k (k := 0) (by decide) (by decide)) cl_0 dL_law_963 ?_
      refine lv_iload hx hb dL_law_964 (lv_at hl 0 rfl) ?_
      refine lv_i2l hx hb dL_law_966 rfl ?_
      refine W.lcmp hx hb dL_law_967 ?_
      refine lv_if_eq (tgt := 973) hx hb dL_law_968 (by decide) (fun c17 => ?_) (fun c17 => ?_)
      · replace h := ite_t h c17
        exact TL_law_973 C hst hX hbl hbA hk23 _ _ _ hRB h w (lv_sub hl [2, 3, 4, 5, 6] rfl)
      · replace h := ite_f h c17
        refine lv_iconst (v := (0 : Int32)) hx hb dL_law_971 (by decide) ?_
        exact absurd (Option.some.inj h) (by decide)
  · replace h := ite_f h c15
    refine lv_iconst (v := (0 : Int32)) hx hb dL_law_954 (by decide) ?_
    exact absurd (Option.some.inj h) (by decide)
noncomputable def fbL_law_1029 (F : Nat) (k23 : Int32 → M3 → J3 → Option Int32) (xs : Nat → Int32) (L : Nat) (a4 : Int32) (G : M3) (K : J3) : Option Int32 := fbL_law_1418 F k23 xs L a4 G K
set_option maxRecDepth 20000 in
set_option maxHeartbeats 1000000 in
theorem TL_law_1029 {n : Nat} {k23 : Int32 → M3 → J3 → Option Int32} (C : Cx E (fun q : Nat => s.heap.size ≤ q) p s m #[Value.ref b] meth c (Cond.initialized RX4) code 9 ret RL) (hst : l.stackTraces = false) (hX : va_X b L xs s s.heap) (hbl : b < s.heap.size) (hbA : ¬ (fun q : Nat => s.heap.size ≤ q) b) (hk23 : ∀ (a4 : Int32) (G : M3) (K : J3) (ls : Array Slot) (H : Heap) (locs : List Loc) (cells slots : Nat), RB n cells slots → k23 a4 G K = some 1 → Wd E (fun q : Nat => s.heap.size ≤ q) s G K H locs → lv_has ls 9 [(0, .ref b), (1, .ref (ad E 6 0)), (2, .ref (ad E 8 0)), (3, .ref (ad E 9 0)), (4, .int a4)] → W p l e room_1 s m #[Value.ref b] below meth c H locs cells slots (lw_Z below #[Value.ref b] s) (F0 m 23 ls [])) (a4 : Int32) (G : M3) (K : J3) (hRB : RB n cells slots) (h : fbL_law_1029 F k23 xs L a4 G K = some 1) (w : Wd E (fun q : Nat => s.heap.size ≤ q) s G K H locs) (hl : lv_has ls 9 [(0, .ref b), (1, .ref (ad E 6 0)), (2, .ref (ad E 8 0)), (3, .ref (ad E 9 0)), (4, .int a4)]) : W p l e room_1 s m #[Value.ref b] below meth c H locs cells slots (lw_Z below #[Value.ref b] s) (F0 m 1029 ls []) := by
  obtain ⟨hx, hb, hr, hml, hown, hts, hlocks, hKK, hA1, hA2⟩ := id C
  unfold fbL_law_1029 at h
  refine lv_goto (tgt := 1418) hx hb dL_law_1029 (by decide) ?_
  exact TL_law_1418 C hst hX hbl hbA hk23 _ _ _ hRB h w (lv_sub hl [0, 1, 2, 3, 4] rfl)
noncomputable def fbL_law_976 (F : Nat) (k23 : Int32 → M3 → J3 → Option Int32) (xs : Nat → Int32) (L : Nat) (a4 : Int32) (G : M3) (K : J3) : Option Int32 := chk (inb (a4 + (1 : Int32)) L) (bd3 (fL_pressureIn F (xs (a4 + (1 : Int32)).toNatClampNeg) G K) (fun vv2 G3 K4 => chk (inb (a4 + (1 : Int32)) L) (bd3 (fX5_pressureIn F (xs (a4 + (1 : Int32)).toNatClampNeg) (G3 8) (K4 8)) (fun vv14 M8 J9 => bnd (sg G3 8 M8) (fun G10 => bnd (sg K4 8 J9) (fun K11 => (if (fX5_thrown (G10 8) (K11 8)) = vv2 then ((if ¬ vv2 = 0 then (fbL_law_1029 F k23 xs L a4 G10 K11) else ((if (lg_cmp (K11 9 0 0) (vv14.toInt64)) = 0 then (fbL_law_1029 F k23 xs L a4 G10 K11) else (some 0))))) else (some 0))))))))
set_option maxRecDepth 20000 in
set_option maxHeartbeats 1000000 in
theorem TL_law_976 {n : Nat} {k23 : Int32 → M3 → J3 → Option Int32} (C : Cx E (fun q : Nat => s.heap.size ≤ q) p s m #[Value.ref b] meth c (Cond.initialized RX4) code 9 ret RL) (hst : l.stackTraces = false) (hX : va_X b L xs s s.heap) (hbl : b < s.heap.size) (hbA : ¬ (fun q : Nat => s.heap.size ≤ q) b) (hk23 : ∀ (a4 : Int32) (G : M3) (K : J3) (ls : Array Slot) (H : Heap) (locs : List Loc) (cells slots : Nat), RB n cells slots → k23 a4 G K = some 1 → Wd E (fun q : Nat => s.heap.size ≤ q) s G K H locs → lv_has ls 9 [(0, .ref b), (1, .ref (ad E 6 0)), (2, .ref (ad E 8 0)), (3, .ref (ad E 9 0)), (4, .int a4)] → W p l e room_1 s m #[Value.ref b] below meth c H locs cells slots (lw_Z below #[Value.ref b] s) (F0 m 23 ls [])) (a4 : Int32) (G : M3) (K : J3) (hRB : RB (n + 1) cells slots) (h : fbL_law_976 F k23 xs L a4 G K = some 1) (w : Wd E (fun q : Nat => s.heap.size ≤ q) s G K H locs) (hl : lv_has ls 9 [(0, .ref b), (1, .ref (ad E 6 0)), (2, .ref (ad E 8 0)), (3, .ref (ad E 9 0)), (4, .int a4)]) : W p l e room_1 s m #[Value.ref b] below meth c H locs cells slots (lw_Z below #[Value.ref b] s) (F0 m 976 ls []) := by
  obtain ⟨hx, hb, hr, hml, hown, hts, hlocks, hKK, hA1, hA2⟩ := id C
  unfold fbL_law_976 at h
  refine lv_aload_n hx hb dL_law_976 rfl (lv_at hl 1 rfl) ?_
  refine lv_aload_n hx hb dL_law_977 rfl (lv_at hl 0 rfl) ?_
  refine lv_iload hx hb dL_law_978 (lv_at hl 4 rfl) ?_
  refine lv_iconst (v := (1 : Int32)) hx hb dL_law_980 (by decide) ?_
  refine lv_iadd hx hb dL_law_981 ?_
  obtain ⟨ki1, h⟩ := chk_of h
  refine x_scr C w hX hbl hbA ki1 rfl dL_law_982 ?_
  refine lv_aload_n hx hb dL_law_983 rfl (lv_at hl 3 rfl) ?_
  obtain ⟨vv2, G3, K4, hv5, h⟩ := bd3_of h
  refine x_cWi (As := [.ref (ad E 6 0), .int (xs (a4 + (1 : Int32)).toNatClampNeg), .ref (ad E 9 0)]) (rest := []) C w (mtL_pressureIn hst hv5) q24_0 q24_1 q4_4 q24_2 ynL_pressureIn ⟨rfl, rfl⟩ ⟨by decide, by decide⟩ (rb_c hRB) hl.1 (Nat.le_of_ble_eq_true rfl) rfl dL_law_984 (fun H locs w => ?_)
  replace hRB := rb_go hRB
  refine lv_istore (lv' := [(5, .int vv2), (0, .ref b), (1, .ref (ad E 6 0)), (2, .ref (ad E 8 0)), (3, .ref (ad E 9 0)), (4, .int a4)]) hx hb dL_law_987 hl (by decide) rfl (fun ls hl => ?_)
  refine lv_aload_n hx hb dL_law_989 rfl (lv_at hl 3 rfl) ?_
  refine lv_aload_n hx hb dL_law_990 rfl (lv_at hl 1 rfl) ?_
  refine lv_iload hx hb dL_law_991 (lv_at hl 5 rfl) ?_
  refine lv_iconst (v := (1 : Int32)) hx hb dL_law_993 (by decide) ?_
  refine lv_iadd hx hb dL_law_994 ?_
  obtain ⟨ki6, h⟩ := chk_of h
  refine x_scr C w hX hbl hbA ki6 rfl dL_law_995 ?_
  obtain ⟨vv14, M8, J9, hv7, h⟩ := bd3_of h
  refine x_cVi (As := [.int (xs (a4 + (1 : Int32)).toNatClampNeg)]) (rest := []) C (Wd.ofS 8 w) (v8 (by decide)) cel_8 rfl (mtX5_pressureIn  hv7) q24_8 q24_9 q24_10 q1_5 q24_11 ydX5_pressureIn ⟨rfl, rfl⟩ ⟨by decide, by decide⟩ (rb_z hRB) hl.1 (Nat.le_of_ble_eq_true rfl) rfl dL_law_996 (fun H locs w => ?_)
  obtain ⟨G10, e12⟩ : ∃ z, z = sg G3 8 M8 := ⟨_, rfl⟩
  obtain ⟨K11, e13⟩ : ∃ z, z = sg K4 8 J9 := ⟨_, rfl⟩
  rw [← e12, ← e13] at w
  replace h := bnd_of h e12
  replace h := bnd_of h e13
  refine lv_istore (lv' := [(6, .int vv14), (5, .int vv2), (0, .ref b), (1, .ref (ad E 6 0)), (2, .ref (ad E 8 0)), (3, .ref (ad E 9 0)), (4, .int a4)]) hx hb dL_law_999 hl (by decide) rfl (fun ls hl => ?_)
  refine lv_aload_n hx hb dL_law_1001 rfl (lv_at hl 4 rfl) ?_
  refine x_cVi (As := []) (rest := []) C (Wd.ofS 8 w) (v8 (by decide)) cel_8 rfl (mtX5_thrown ) q8_1 q8_2 q8_3 q1_5 q8_4 ydX5_thrown ⟨rfl, rfl⟩ ⟨by decide, by decide⟩ (rb_z hRB) hl.1 (Nat.le_of_ble_eq_true rfl) rfl dL_law_1002 (fun H locs w => ?_)
  have w := Wd.back w
  refine lv_iload hx hb dL_law_1005 (lv_at hl 1 rfl) ?_
  refine lv_icmp_eq (tgt := 1012) hx hb dL_law_1007 (by decide) (fun c15 => ?_) (fun c15 => ?_)
  · replace h := ite_t h c15
    refine lv_iload hx hb dL_law_1012 (lv_at hl 1 rfl) ?_
    refine lv_if_ne (tgt := 1029) hx hb dL_law_1014 (by decide) (fun c16 => ?_) (fun c16 => ?_)
    · replace h := ite_t h c16
      exact TL_law_1029 C hst hX hbl hbA hk23 _ _ _ hRB h w (lv_sub hl [2, 3, 4, 5, 6] rfl)
    · replace h := ite_f h (fun z => z c16)
      refine lv_aload_n hx hb dL_law_1017 rfl (lv_at hl 5 rfl) ?_
      refine lv_iconst (v := (0 : Int32)) hx hb dL_law_1018 (by decide) ?_
      refine x_aldJ C w v9 c9_0 (inb_k (k := 0) (by decide) (by decide)) cl_0 dL_law_1019 ?_
      refine lv_iload hx hb dL_law_1020 (lv_at hl 0 rfl) ?_
      refine lv_i2l hx hb dL_law_1022 rfl ?_
      refine W.lcmp hx hb dL_law_1023 ?_
      refine lv_if_eq (tgt := 1029) hx hb dL_law_1024 (by decide) (fun c17 => ?_) (fun c17 => ?_)
      · replace h := ite_t h c17
        exact TL_law_1029 C hst hX hbl hbA hk23 _ _ _ hRB h w (lv_sub hl [2, 3, 4, 5, 6] rfl)
      · replace h := ite_f h c17
        refine lv_iconst (v := (0 : Int32)) hx hb dL_law_1027 (by decide) ?_
        exact absurd (Option.some.inj h) (by decide)
  · replace h := ite_f h c15
    refine lv_iconst (v := (0 : Int32)) hx hb dL_law_1010 (by decide) ?_
    exact absurd (Option.some.inj h) (by decide)
noncomputable def fbL_law_1032 (F : Nat) (k23 : Int32 → M3 → J3 → Option Int32) (xs : Nat → Int32) (L : Nat) (a4 : Int32) (G : M3) (K : J3) : Option Int32 := bd3 (fX4_minutesToLoad F G K) (fun vv4 G2 K3 => bd3 (fX5_minutesToLoad F (G2 8) (K3 8)) (fun vv12 M6 J7 => bnd (sg G2 8 M6) (fun G8 => bnd (sg K3 8 J7) (fun K9 => (if vv4 = vv12 then (fbL_law_1418 F k23 xs L a4 G8 K9) else (some 0))))))
set_option maxRecDepth 20000 in
set_option maxHeartbeats 1000000 in
theorem TL_law_1032 {n : Nat} {k23 : Int32 → M3 → J3 → Option Int32} (C : Cx E (fun q : Nat => s.heap.size ≤ q) p s m #[Value.ref b] meth c (Cond.initialized RX4) code 9 ret RL) (hst : l.stackTraces = false) (hX : va_X b L xs s s.heap) (hbl : b < s.heap.size) (hbA : ¬ (fun q : Nat => s.heap.size ≤ q) b) (hk23 : ∀ (a4 : Int32) (G : M3) (K : J3) (ls : Array Slot) (H : Heap) (locs : List Loc) (cells slots : Nat), RB n cells slots → k23 a4 G K = some 1 → Wd E (fun q : Nat => s.heap.size ≤ q) s G K H locs → lv_has ls 9 [(0, .ref b), (1, .ref (ad E 6 0)), (2, .ref (ad E 8 0)), (3, .ref (ad E 9 0)), (4, .int a4)] → W p l e room_1 s m #[Value.ref b] below meth c H locs cells slots (lw_Z below #[Value.ref b] s) (F0 m 23 ls [])) (a4 : Int32) (G : M3) (K : J3) (hRB : RB (n + 1) cells slots) (h : fbL_law_1032 F k23 xs L a4 G K = some 1) (w : Wd E (fun q : Nat => s.heap.size ≤ q) s G K H locs) (hl : lv_has ls 9 [(0, .ref b), (1, .ref (ad E 6 0)), (2, .ref (ad E 8 0)), (3, .ref (ad E 9 0)), (4, .int a4)]) : W p l e room_1 s m #[Value.ref b] below meth c H locs cells slots (lw_Z below #[Value.ref b] s) (F0 m 1032 ls []) := by
  obtain ⟨hx, hb, hr, hml, hown, hts, hlocks, hKK, hA1, hA2⟩ := id C
  unfold fbL_law_1032 at h
  refine lv_aload_n hx hb dL_law_1032 rfl (lv_at hl 1 rfl) ?_
  obtain ⟨vv4, G2, K3, hv1, h⟩ := bd3_of h
  refine x_cVi (As := []) (rest := []) C w (v6 (by decide)) cel_6 rfl (mtX4_minutesToLoad  hv1) q24_20 q24_21 q24_22 q1_2 q24_23 ydX4_minutesToLoad ⟨rfl, rfl⟩ ⟨by decide, by decide⟩ (rb_z hRB) hl.1 (Nat.le_of_ble_eq_true rfl) rfl dL_law_1033 (fun H locs w => ?_)
  refine lv_aload_n hx hb dL_law_1036 rfl (lv_at hl 2 rfl) ?_
  obtain ⟨vv12, M6, J7, hv5, h⟩ := bd3_of h
  refine x_cVi (As := []) (rest := [.int vv4]) C (Wd.ofS 8 w) (v8 (by decide)) cel_8 rfl (mtX5_minutesToLoad  hv5) q25_1 q25_2 q25_3 q1_5 q25_4 ydX5_minutesToLoad ⟨rfl, rfl⟩ ⟨by decide, by decide⟩ (rb_z hRB) hl.1 (Nat.le_of_ble_eq_true rfl) rfl dL_law_1037 (fun H locs w => ?_)
  obtain ⟨G8, e10⟩ : ∃ z, z = sg G2 8 M6 := ⟨_, rfl⟩
  obtain ⟨K9, e11⟩ : ∃ z, z = sg K3 8 J7 := ⟨_, rfl⟩
  rw [← e10, ← e11] at w
  replace h := bnd_of h e10
  replace h := bnd_of h e11
  refine lv_icmp_eq (tgt := 1418) hx hb dL_law_1040 (by decide) (fun c13 => ?_) (fun c13 => ?_)
  · replace h := ite_t h c13
    exact TL_law_1418 C hst hX hbl hbA hk23 _ _ _ (rb_wk hRB) h w (lv_sub hl [0, 1, 2, 3, 4] rfl)
  · replace h := ite_f h c13
    refine lv_iconst (v := (0 : Int32)) hx hb dL_law_1043 (by decide) ?_
    exact absurd (Option.some.inj h) (by decide)
noncomputable def fbL_law_1098 (F : Nat) (k23 : Int32 → M3 → J3 → Option Int32) (xs : Nat → Int32) (L : Nat) (a4 : Int32) (G : M3) (K : J3) : Option Int32 := fbL_law_1418 F k23 xs L a4 G K
set_option maxRecDepth 20000 in
set_option maxHeartbeats 1000000 in
theorem TL_law_1098 {n : Nat} {k23 : Int32 → M3 → J3 → Option Int32} (C : Cx E (fun q : Nat => s.heap.size ≤ q) p s m #[Value.ref b] meth c (Cond.initialized RX4) code 9 ret RL) (hst : l.stackTraces = false) (hX : va_X b L xs s s.heap) (hbl : b < s.heap.size) (hbA : ¬ (fun q : Nat => s.heap.size ≤ q) b) (hk23 : ∀ (a4 : Int32) (G : M3) (K : J3) (ls : Array Slot) (H : Heap) (locs : List Loc) (cells slots : Nat), RB n cells slots → k23 a4 G K = some 1 → Wd E (fun q : Nat => s.heap.size ≤ q) s G K H locs → lv_has ls 9 [(0, .ref b), (1, .ref (ad E 6 0)), (2, .ref (ad E 8 0)), (3, .ref (ad E 9 0)), (4, .int a4)] → W p l e room_1 s m #[Value.ref b] below meth c H locs cells slots (lw_Z below #[Value.ref b] s) (F0 m 23 ls [])) (a4 : Int32) (G : M3) (K : J3) (hRB : RB n cells slots) (h : fbL_law_1098 F k23 xs L a4 G K = some 1) (w : Wd E (fun q : Nat => s.heap.size ≤ q) s G K H locs) (hl : lv_has ls 9 [(0, .ref b), (1, .ref (ad E 6 0)), (2, .ref (ad E 8 0)), (3, .ref (ad E 9 0)), (4, .int a4)]) : W p l e room_1 s m #[Value.ref b] below meth c H locs cells slots (lw_Z below #[Value.ref b] s) (F0 m 1098 ls []) := by
  obtain ⟨hx, hb, hr, hml, hown, hts, hlocks, hKK, hA1, hA2⟩ := id C
  unfold fbL_law_1098 at h
  refine lv_goto (tgt := 1418) hx hb dL_law_1098 (by decide) ?_
  exact TL_law_1418 C hst hX hbl hbA hk23 _ _ _ hRB h w (lv_sub hl [0, 1, 2, 3, 4] rfl)
noncomputable def fbL_law_1045 (F : Nat) (k23 : Int32 → M3 → J3 → Option Int32) (xs : Nat → Int32) (L : Nat) (a4 : Int32) (G : M3) (K : J3) : Option Int32 := chk (inb (a4 + (1 : Int32)) L) (bd3 (fL_canServe F (xs (a4 + (1 : Int32)).toNatClampNeg) G K) (fun vv2 G3 K4 => chk (inb (a4 + (1 : Int32)) L) (bd3 (fX5_canServe F (xs (a4 + (1 : Int32)).toNatClampNeg) (G3 8) (K4 8)) (fun vv14 M8 J9 => bnd (sg G3 8 M8) (fun G10 => bnd (sg K4 8 J9) (fun K11 => (if (fX5_thrown (G10 8) (K11 8)) = vv2 then ((if ¬ vv2 = 0 then (fbL_law_1098 F k23 xs L a4 G10 K11) else ((if (lg_cmp (K11 9 0 0) (vv14.toInt64)) = 0 then (fbL_law_1098 F k23 xs L a4 G10 K11) else (some 0))))) else (some 0))))))))
set_option maxRecDepth 20000 in
set_option maxHeartbeats 1000000 in
theorem TL_law_1045 {n : Nat} {k23 : Int32 → M3 → J3 → Option Int32} (C : Cx E (fun q : Nat => s.heap.size ≤ q) p s m #[Value.ref b] meth c (Cond.initialized RX4) code 9 ret RL) (hst : l.stackTraces = false) (hX : va_X b L xs s s.heap) (hbl : b < s.heap.size) (hbA : ¬ (fun q : Nat => s.heap.size ≤ q) b) (hk23 : ∀ (a4 : Int32) (G : M3) (K : J3) (ls : Array Slot) (H : Heap) (locs : List Loc) (cells slots : Nat), RB n cells slots → k23 a4 G K = some 1 → Wd E (fun q : Nat => s.heap.size ≤ q) s G K H locs → lv_has ls 9 [(0, .ref b), (1, .ref (ad E 6 0)), (2, .ref (ad E 8 0)), (3, .ref (ad E 9 0)), (4, .int a4)] → W p l e room_1 s m #[Value.ref b] below meth c H locs cells slots (lw_Z below #[Value.ref b] s) (F0 m 23 ls [])) (a4 : Int32) (G : M3) (K : J3) (hRB : RB (n + 1) cells slots) (h : fbL_law_1045 F k23 xs L a4 G K = some 1) (w : Wd E (fun q : Nat => s.heap.size ≤ q) s G K H locs) (hl : lv_has ls 9 [(0, .ref b), (1, .ref (ad E 6 0)), (2, .ref (ad E 8 0)), (3, .ref (ad E 9 0)), (4, .int a4)]) : W p l e room_1 s m #[Value.ref b] below meth c H locs cells slots (lw_Z below #[Value.ref b] s) (F0 m 1045 ls []) := by
  obtain ⟨hx, hb, hr, hml, hown, hts, hlocks, hKK, hA1, hA2⟩ := id C
  unfold fbL_law_1045 at h
  refine lv_aload_n hx hb dL_law_1045 rfl (lv_at hl 1 rfl) ?_
  refine lv_aload_n hx hb dL_law_1046 rfl (lv_at hl 0 rfl) ?_
  refine lv_iload hx hb dL_law_1047 (lv_at hl 4 rfl) ?_
  refine lv_iconst (v := (1 : Int32)) hx hb dL_law_1049 (by decide) ?_
  refine lv_iadd hx hb dL_law_1050 ?_
  obtain ⟨ki1, h⟩ := chk_of h
  refine x_scr C w hX hbl hbA ki1 rfl dL_law_1051 ?_
  refine lv_aload_n hx hb dL_law_1052 rfl (lv_at hl 3 rfl) ?_
  obtain ⟨vv2, G3, K4, hv5, h⟩ := bd3_of h
  refine x_cWi (As := [.ref (ad E 6 0), .int (xs (a4 + (1 : Int32)).toNatClampNeg), .ref (ad E 9 0)]) (rest := []) C w (mtL_canServe hst hv5) q25_5 q25_6 q4_4 q25_7 ynL_canServe ⟨rfl, rfl⟩ ⟨by decide, by decide⟩ (rb_c hRB) hl.1 (Nat.le_of_ble_eq_true rfl) rfl dL_law_1053 (fun H locs w => ?_)
  replace hRB := rb_go hRB
  refine lv_istore (lv' := [(5, .int vv2), (0, .ref b), (1, .ref (ad E 6 0)), (2, .ref (ad E 8 0)), (3, .ref (ad E 9 0)), (4, .int a4)]) hx hb dL_law_1056 hl (by decide) rfl (fun ls hl => ?_)
  refine lv_aload_n hx hb dL_law_1058 rfl (lv_at hl 3 rfl) ?_
  refine lv_aload_n hx hb dL_law_1059 rfl (lv_at hl 1 rfl) ?_
  refine lv_iload hx hb dL_law_1060 (lv_at hl 5 rfl) ?_
  refine lv_iconst (v := (1 : Int32)) hx hb dL_law_1062 (by decide) ?_
  refine lv_iadd hx hb dL_law_1063 ?_
  obtain ⟨ki6, h⟩ := chk_of h
  refine x_scr C w hX hbl hbA ki6 rfl dL_law_1064 ?_
  obtain ⟨vv14, M8, J9, hv7, h⟩ := bd3_of h
  refine x_cVi (As := [.int (xs (a4 + (1 : Int32)).toNatClampNeg)]) (rest := []) C (Wd.ofS 8 w) (v8 (by decide)) cel_8 rfl (mtX5_canServe  hv7) q25_20 q25_21 q25_22 q1_5 q25_23 ydX5_canServe ⟨rfl, rfl⟩ ⟨by decide, by decide⟩ (rb_z hRB) hl.1 (Nat.le_of_ble_eq_true rfl) rfl dL_law_1065 (fun H locs w => ?_)
  obtain ⟨G10, e12⟩ : ∃ z, z = sg G3 8 M8 := ⟨_, rfl⟩
  obtain ⟨K11, e13⟩ : ∃ z, z = sg K4 8 J9 := ⟨_, rfl⟩
  rw [← e12, ← e13] at w
  replace h := bnd_of h e12
  replace h := bnd_of h e13
  refine lv_istore (lv' := [(6, .int vv14), (5, .int vv2), (0, .ref b), (1, .ref (ad E 6 0)), (2, .ref (ad E 8 0)), (3, .ref (ad E 9 0)), (4, .int a4)]) hx hb dL_law_1068 hl (by decide) rfl (fun ls hl => ?_)
  refine lv_aload_n hx hb dL_law_1070 rfl (lv_at hl 4 rfl) ?_
  refine x_cVi (As := []) (rest := []) C (Wd.ofS 8 w) (v8 (by decide)) cel_8 rfl (mtX5_thrown ) q8_1 q8_2 q8_3 q1_5 q8_4 ydX5_thrown ⟨rfl, rfl⟩ ⟨by decide, by decide⟩ (rb_z hRB) hl.1 (Nat.le_of_ble_eq_true rfl) rfl dL_law_1071 (fun H locs w => ?_)
  have w := Wd.back w
  refine lv_iload hx hb dL_law_1074 (lv_at hl 1 rfl) ?_
  refine lv_icmp_eq (tgt := 1081) hx hb dL_law_1076 (by decide) (fun c15 => ?_) (fun c15 => ?_)
  · replace h := ite_t h c15
    refine lv_iload hx hb dL_law_1081 (lv_at hl 1 rfl) ?_
    refine lv_if_ne (tgt := 1098) hx hb dL_law_1083 (by decide) (fun c16 => ?_) (fun c16 => ?_)
    · replace h := ite_t h c16
      exact TL_law_1098 C hst hX hbl hbA hk23 _ _ _ hRB h w (lv_sub hl [2, 3, 4, 5, 6] rfl)
    · replace h := ite_f h (fun z => z c16)
      refine lv_aload_n hx hb dL_law_1086 rfl (lv_at hl 5 rfl) ?_
      refine lv_iconst (v := (0 : Int32)) hx hb dL_law_1087 (by decide) ?_
      refine x_aldJ C w v9 c9_0 (inb_k (k := 0) (by decide) (by decide)) cl_0 dL_law_1088 ?_
      refine lv_iload hx hb dL_law_1089 (lv_at hl 0 rfl) ?_
      refine lv_i2l hx hb dL_law_1091 rfl ?_
      refine W.lcmp hx hb dL_law_1092 ?_
      refine lv_if_eq (tgt := 1098) hx hb dL_law_1093 (by decide) (fun c17 => ?_) (fun c17 => ?_)
      · replace h := ite_t h c17
        exact TL_law_1098 C hst hX hbl hbA hk23 _ _ _ hRB h w (lv_sub hl [2, 3, 4, 5, 6] rfl)
      · replace h := ite_f h c17
        refine lv_iconst (v := (0 : Int32)) hx hb dL_law_1096 (by decide) ?_
        exact absurd (Option.some.inj h) (by decide)
  · replace h := ite_f h c15
    refine lv_iconst (v := (0 : Int32)) hx hb dL_law_1079 (by decide) ?_
    exact absurd (Option.some.inj h) (by decide)
noncomputable def fbL_law_1166 (F : Nat) (k23 : Int32 → M3 → J3 → Option Int32) (xs : Nat → Int32) (L : Nat) (a4 : Int32) (G : M3) (K : J3) : Option Int32 := fbL_law_1418 F k23 xs L a4 G K
set_option maxRecDepth 20000 in
set_option maxHeartbeats 1000000 in
theorem TL_law_1166 {n : Nat} {k23 : Int32 → M3 → J3 → Option Int32} (C : Cx E (fun q : Nat => s.heap.size ≤ q) p s m #[Value.ref b] meth c (Cond.initialized RX4) code 9 ret RL) (hst : l.stackTraces = false) (hX : va_X b L xs s s.heap) (hbl : b < s.heap.size) (hbA : ¬ (fun q : Nat => s.heap.size ≤ q) b) (hk23 : ∀ (a4 : Int32) (G : M3) (K : J3) (ls : Array Slot) (H : Heap) (locs : List Loc) (cells slots : Nat), RB n cells slots → k23 a4 G K = some 1 → Wd E (fun q : Nat => s.heap.size ≤ q) s G K H locs → lv_has ls 9 [(0, .ref b), (1, .ref (ad E 6 0)), (2, .ref (ad E 8 0)), (3, .ref (ad E 9 0)), (4, .int a4)] → W p l e room_1 s m #[Value.ref b] below meth c H locs cells slots (lw_Z below #[Value.ref b] s) (F0 m 23 ls [])) (a4 : Int32) (G : M3) (K : J3) (hRB : RB n cells slots) (h : fbL_law_1166 F k23 xs L a4 G K = some 1) (w : Wd E (fun q : Nat => s.heap.size ≤ q) s G K H locs) (hl : lv_has ls 9 [(0, .ref b), (1, .ref (ad E 6 0)), (2, .ref (ad E 8 0)), (3, .ref (ad E 9 0)), (4, .int a4)]) : W p l e room_1 s m #[Value.ref b] below meth c H locs cells slots (lw_Z below #[Value.ref b] s) (F0 m 1166 ls []) := by
  obtain ⟨hx, hb, hr, hml, hown, hts, hlocks, hKK, hA1, hA2⟩ := id C
  unfold fbL_law_1166 at h
  refine lv_goto (tgt := 1418) hx hb dL_law_1166 (by decide) ?_
  exact TL_law_1418 C hst hX hbl hbA hk23 _ _ _ hRB h w (lv_sub hl [0, 1, 2, 3, 4] rfl)
noncomputable def fbL_law_1101 (F : Nat) (k23 : Int32 → M3 → J3 → Option Int32) (xs : Nat → Int32) (L : Nat) (a4 : Int32) (G : M3) (K : J3) : Option Int32 := chk (inb (a4 + (1 : Int32)) L) (chk (inb (a4 + (2 : Int32)) L) (bd3 (fL_energyWith F (xs (a4 + (1 : Int32)).toNatClampNeg) (xs (a4 + (2 : Int32)).toNatClampNeg) G K) (fun vv3 G4 K5 => chk (inb (a4 + (1 : Int32)) L) (chk (inb (a4 + (2 : Int32)) L) (bd3 (fX5_energyWith F (xs (a4 + (1 : Int32)).toNatClampNeg) (xs (a4 + (2 : Int32)).toNatClampNeg) (G4 8) (K5 8)) (fun vv16 M10 J11 => bnd (sg G4 8 M10) (fun G12 => bnd (sg K5 8 J11) (fun K13 => (if (fX5_thrown (G12 8) (K13 8)) = vv3 then ((if ¬ vv3 = 0 then (fbL_law_1166 F k23 xs L a4 G12 K13) else ((if (lg_cmp (K13 9 0 0) (vv16.toInt64)) = 0 then (fbL_law_1166 F k23 xs L a4 G12 K13) else (some 0))))) else (some 0))))))))))
set_option maxRecDepth 20000 in
set_option maxHeartbeats 1000000 in
theorem TL_law_1101 {n : Nat} {k23 : Int32 → M3 → J3 → Option Int32} (C : Cx E (fun q : Nat => s.heap.size ≤ q) p s m #[Value.ref b] meth c (Cond.initialized RX4) code 9 ret RL) (hst : l.stackTraces = false) (hX : va_X b L xs s s.heap) (hbl : b < s.heap.size) (hbA : ¬ (fun q : Nat => s.heap.size ≤ q) b) (hk23 : ∀ (a4 : Int32) (G : M3) (K : J3) (ls : Array Slot) (H : Heap) (locs : List Loc) (cells slots : Nat), RB n cells slots → k23 a4 G K = some 1 → Wd E (fun q : Nat => s.heap.size ≤ q) s G K H locs → lv_has ls 9 [(0, .ref b), (1, .ref (ad E 6 0)), (2, .ref (ad E 8 0)), (3, .ref (ad E 9 0)), (4, .int a4)] → W p l e room_1 s m #[Value.ref b] below meth c H locs cells slots (lw_Z below #[Value.ref b] s) (F0 m 23 ls [])) (a4 : Int32) (G : M3) (K : J3) (hRB : RB (n + 1) cells slots) (h : fbL_law_1101 F k23 xs L a4 G K = some 1) (w : Wd E (fun q : Nat => s.heap.size ≤ q) s G K H locs) (hl : lv_has ls 9 [(0, .ref b), (1, .ref (ad E 6 0)), (2, .ref (ad E 8 0)), (3, .ref (ad E 9 0)), (4, .int a4)]) : W p l e room_1 s m #[Value.ref b] below meth c H locs cells slots (lw_Z below #[Value.ref b] s) (F0 m 1101 ls []) := by
  obtain ⟨hx, hb, hr, hml, hown, hts, hlocks, hKK, hA1, hA2⟩ := id C
  unfold fbL_law_1101 at h
  refine lv_aload_n hx hb dL_law_1101 rfl (lv_at hl 1 rfl) ?_
  refine lv_aload_n hx hb dL_law_1102 rfl (lv_at hl 0 rfl) ?_
  refine lv_iload hx hb dL_law_1103 (lv_at hl 4 rfl) ?_
  refine lv_iconst (v := (1 : Int32)) hx hb dL_law_1105 (by decide) ?_
  refine lv_iadd hx hb dL_law_1106 ?_
  obtain ⟨ki1, h⟩ := chk_of h
  refine x_scr C w hX hbl hbA ki1 rfl dL_law_1107 ?_
  refine lv_aload_n hx hb dL_law_1108 rfl (lv_at hl 0 rfl) ?_
  refine lv_iload hx hb dL_law_1109 (lv_at hl 4 rfl) ?_
  refine lv_iconst (v := (2 : Int32)) hx hb dL_law_1111 (by decide) ?_
  refine lv_iadd hx hb dL_law_1112 ?_
  obtain ⟨ki2, h⟩ := chk_of h
  refine x_scr C w hX hbl hbA ki2 rfl dL_law_1113 ?_
  refine lv_aload_n hx hb dL_law_1114 rfl (lv_at hl 3 rfl) ?_
  obtain ⟨vv3, G4, K5, hv6, h⟩ := bd3_of h
  refine x_cWi (As := [.ref (ad E 6 0), .int (xs (a4 + (1 : Int32)).toNatClampNeg), .int (xs (a4 + (2 : Int32)).toNatClampNeg), .ref (ad E 9 0)]) (rest := []) C w (mtL_energyWith hst hv6) q26_0 q26_1 q4_4 q26_2 ynL_energyWith ⟨rfl, rfl⟩ ⟨by decide, by decide⟩ (rb_c hRB) hl.1 (Nat.le_of_ble_eq_true rfl) rfl dL_law_1115 (fun H locs w => ?_)
  replace hRB := rb_go hRB
  refine lv_istore (lv' := [(5, .int vv3), (0, .ref b), (1, .ref (ad E 6 0)), (2, .ref (ad E 8 0)), (3, .ref (ad E 9 0)), (4, .int a4)]) hx hb dL_law_1118 hl (by decide) rfl (fun ls hl => ?_)
  refine lv_aload_n hx hb dL_law_1120 rfl (lv_at hl 3 rfl) ?_
  refine lv_aload_n hx hb dL_law_1121 rfl (lv_at hl 1 rfl) ?_
  refine lv_iload hx hb dL_law_1122 (lv_at hl 5 rfl) ?_
  refine lv_iconst (v := (1 : Int32)) hx hb dL_law_1124 (by decide) ?_
  refine lv_iadd hx hb dL_law_1125 ?_
  obtain ⟨ki7, h⟩ := chk_of h
  refine x_scr C w hX hbl hbA ki7 rfl dL_law_1126 ?_
  refine lv_aload_n hx hb dL_law_1127 rfl (lv_at hl 1 rfl) ?_
  refine lv_iload hx hb dL_law_1128 (lv_at hl 5 rfl) ?_
  refine lv_iconst (v := (2 : Int32)) hx hb dL_law_1130 (by decide) ?_
  refine lv_iadd hx hb dL_law_1131 ?_
  obtain ⟨ki8, h⟩ := chk_of h
  refine x_scr C w hX hbl hbA ki8 rfl dL_law_1132 ?_
  obtain ⟨vv16, M10, J11, hv9, h⟩ := bd3_of h
  refine x_cVi (As := [.int (xs (a4 + (1 : Int32)).toNatClampNeg), .int (xs (a4 + (2 : Int32)).toNatClampNeg)]) (rest := []) C (Wd.ofS 8 w) (v8 (by decide)) cel_8 rfl (mtX5_energyWith  hv9) q26_7 q26_8 q26_9 q1_5 q26_10 ydX5_energyWith ⟨rfl, rfl⟩ ⟨by decide, by decide⟩ (rb_z hRB) hl.1 (Nat.le_of_ble_eq_true rfl) rfl dL_law_1133 (fun H locs w => ?_)
  obtain ⟨G12, e14⟩ : ∃ z, z = sg G4 8 M10 := ⟨_, rfl⟩
  obtain ⟨K13, e15⟩ : ∃ z, z = sg K5 8 J11 := ⟨_, rfl⟩
  rw [← e14, ← e15] at w
  replace h := bnd_of h e14
  replace h := bnd_of h e15
  refine lv_istore (lv' := [(6, .int vv16), (5, .int vv3), (0, .ref b), (1, .ref (ad E 6 0)), (2, .ref (ad E 8 0)), (3, .ref (ad E 9 0)), (4, .int a4)]) hx hb dL_law_1136 hl (by decide) rfl (fun ls hl => ?_)
  refine lv_aload_n hx hb dL_law_1138 rfl (lv_at hl 4 rfl) ?_
  refine x_cVi (As := []) (rest := []) C (Wd.ofS 8 w) (v8 (by decide)) cel_8 rfl (mtX5_thrown ) q8_1 q8_2 q8_3 q1_5 q8_4 ydX5_thrown ⟨rfl, rfl⟩ ⟨by decide, by decide⟩ (rb_z hRB) hl.1 (Nat.le_of_ble_eq_true rfl) rfl dL_law_1139 (fun H locs w => ?_)
  have w := Wd.back w
  refine lv_iload hx hb dL_law_1142 (lv_at hl 1 rfl) ?_
  refine lv_icmp_eq (tgt := 1149) hx hb dL_law_1144 (by decide) (fun c17 => ?_) (fun c17 => ?_)
  · replace h := ite_t h c17
    refine lv_iload hx hb dL_law_1149 (lv_at hl 1 rfl) ?_
    refine lv_if_ne (tgt := 1166) hx hb dL_law_1151 (by decide) (fun c18 => ?_) (fun c18 => ?_)
    · replace h := ite_t h c18
      exact TL_law_1166 C hst hX hbl hbA hk23 _ _ _ hRB h w (lv_sub hl [2, 3, 4, 5, 6] rfl)
    · replace h := ite_f h (fun z => z c18)
      refine lv_aload_n hx hb dL_law_1154 rfl (lv_at hl 5 rfl) ?_
      refine lv_iconst (v := (0 : Int32)) hx hb dL_law_1155 (by decide) ?_
      refine x_aldJ C w v9 c9_0 (inb_k (k := 0) (by decide) (by decide)) cl_0 dL_law_1156 ?_
      refine lv_iload hx hb dL_law_1157 (lv_at hl 0 rfl) ?_
      refine lv_i2l hx hb dL_law_1159 rfl ?_
      refine W.lcmp hx hb dL_law_1160 ?_
      refine lv_if_eq (tgt := 1166) hx hb dL_law_1161 (by decide) (fun c19 => ?_) (fun c19 => ?_)
      · replace h := ite_t h c19
        exact TL_law_1166 C hst hX hbl hbA hk23 _ _ _ hRB h w (lv_sub hl [2, 3, 4, 5, 6] rfl)
      · replace h := ite_f h c19
        refine lv_iconst (v := (0 : Int32)) hx hb dL_law_1164 (by decide) ?_
        exact absurd (Option.some.inj h) (by decide)
  · replace h := ite_f h c17
    refine lv_iconst (v := (0 : Int32)) hx hb dL_law_1147 (by decide) ?_
    exact absurd (Option.some.inj h) (by decide)
end XLW2
