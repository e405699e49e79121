section XLW0
variable {E : WE} {p : Program} {l : Launch} {e : Env} {s : State} {m : MethodId} {below : List Frame} {meth : Method} {c : Code} {H : Heap} {locs : List Loc} {ls : Array Slot} {F cells slots b L : Nat} {xs : Nat → Int32}
noncomputable def fbL_law_1418 (F : Nat) (k23 : Int32 → M3 → J3 → Option Int32) (xs : Nat → Int32) (L : Nat) (a4 : Int32) (G : M3) (K : J3) : Option Int32 := k23 (a4 + (3 : Int32)) G K
set_option maxRecDepth 20000 in
set_option maxHeartbeats 1000000 in
theorem TL_law_1418 {n : Nat} {k23 : Int32 → M3 → J3 → Option Int32} (C : Cx E (fun q : Nat => s.heap.size ≤ q) p s m #[Value.ref b] meth c (Cond.initialized RX4) code 9 ret RL) (hst : l.stackTraces = false) (hX : va_X b L xs s s.heap) (hbl : b < s.heap.size) (hbA : ¬ (fun q : Nat => s.heap.size ≤ q) b) (hk23 : ∀ (a4 : Int32) (G : M3) (K : J3) (ls : Array Slot) (H : Heap) (locs : List Loc) (cells slots : Nat), RB n cells slots → k23 a4 G K = some 1 → Wd E (fun q : Nat => s.heap.size ≤ q) s G K H locs → lv_has ls 9 [(0, .ref b), (1, .ref (ad E 6 0)), (2, .ref (ad E 8 0)), (3, .ref (ad E 9 0)), (4, .int a4)] → W p l e room_1 s m #[Value.ref b] below meth c H locs cells slots (lw_Z below #[Value.ref b] s) (F0 m 23 ls [])) (a4 : Int32) (G : M3) (K : J3) (hRB : RB n cells slots) (h : fbL_law_1418 F k23 xs L a4 G K = some 1) (w : Wd E (fun q : Nat => s.heap.size ≤ q) s G K H locs) (hl : lv_has ls 9 [(0, .ref b), (1, .ref (ad E 6 0)), (2, .ref (ad E 8 0)), (3, .ref (ad E 9 0)), (4, .int a4)]) : W p l e room_1 s m #[Value.ref b] below meth c H locs cells slots (lw_Z below #[Value.ref b] s) (F0 m 1418 ls []) := by
  obtain ⟨hx, hb, hr, hml, hown, hts, hlocks, hKK, hA1, hA2⟩ := id C
  unfold fbL_law_1418 at h
  refine lv_iinc (v := (a4 + (3 : Int32))) (lv' := [(4, .int (a4 + (3 : Int32))), (0, .ref b), (1, .ref (ad E 6 0)), (2, .ref (ad E 8 0)), (3, .ref (ad E 9 0))]) hx hb dL_law_1418 hl (k := 4) rfl (congrArg (HAdd.hAdd _) (by decide)) (by decide) rfl (fun ls hl => ?_)
  refine lv_goto (tgt := 23) hx hb dL_law_1421 (by decide) ?_
  exact hk23 _ _ _ _ _ _ _ _ hRB h w (lv_sub hl [1, 2, 3, 4, 0] rfl)
noncomputable def fbL_law_209 (F : Nat) (k23 : Int32 → M3 → J3 → Option Int32) (xs : Nat → Int32) (L : Nat) (a4 : Int32) (G : M3) (K : J3) : Option Int32 := fbL_law_1418 F k23 xs L a4 G K
set_option maxRecDepth 20000 in
set_option maxHeartbeats 1000000 in
theorem TL_law_209 {n : Nat} {k23 : Int32 → M3 → J3 → Option Int32} (C : Cx E (fun q : Nat => s.heap.size ≤ q) p s m #[Value.ref b] meth c (Cond.initialized RX4) code 9 ret RL) (hst : l.stackTraces = false) (hX : va_X b L xs s s.heap) (hbl : b < s.heap.size) (hbA : ¬ (fun q : Nat => s.heap.size ≤ q) b) (hk23 : ∀ (a4 : Int32) (G : M3) (K : J3) (ls : Array Slot) (H : Heap) (locs : List Loc) (cells slots : Nat), RB n cells slots → k23 a4 G K = some 1 → Wd E (fun q : Nat => s.heap.size ≤ q) s G K H locs → lv_has ls 9 [(0, .ref b), (1, .ref (ad E 6 0)), (2, .ref (ad E 8 0)), (3, .ref (ad E 9 0)), (4, .int a4)] → W p l e room_1 s m #[Value.ref b] below meth c H locs cells slots (lw_Z below #[Value.ref b] s) (F0 m 23 ls [])) (a4 : Int32) (G : M3) (K : J3) (hRB : RB n cells slots) (h : fbL_law_209 F k23 xs L a4 G K = some 1) (w : Wd E (fun q : Nat => s.heap.size ≤ q) s G K H locs) (hl : lv_has ls 9 [(0, .ref b), (1, .ref (ad E 6 0)), (2, .ref (ad E 8 0)), (3, .ref (ad E 9 0)), (4, .int a4)]) : W p l e room_1 s m #[Value.ref b] below meth c H locs cells slots (lw_Z below #[Value.ref b] s) (F0 m 209 ls []) := by
  obtain ⟨hx, hb, hr, hml, hown, hts, hlocks, hKK, hA1, hA2⟩ := id C
  unfold fbL_law_209 at h
  refine lv_goto (tgt := 1418) hx hb dL_law_209 (by decide) ?_
  exact TL_law_1418 C hst hX hbl hbA hk23 _ _ _ hRB h w (lv_sub hl [0, 1, 2, 3, 4] rfl)
noncomputable def fbL_law_156 (F : Nat) (k23 : Int32 → M3 → J3 → Option Int32) (xs : Nat → Int32) (L : Nat) (a4 : Int32) (G : M3) (K : J3) : Option Int32 := chk (inb (a4 + (1 : Int32)) L) (bd3 (fL_setVolume F (xs (a4 + (1 : Int32)).toNatClampNeg) G K) (fun vv2 G3 K4 => chk (inb (a4 + (1 : Int32)) L) (bd3 (fX5_setVolume F (xs (a4 + (1 : Int32)).toNatClampNeg) (G3 8) (K4 8)) (fun vv14 M8 J9 => bnd (sg G3 8 M8) (fun G10 => bnd (sg K4 8 J9) (fun K11 => (if (fX5_thrown (G10 8) (K11 8)) = vv2 then ((if ¬ vv2 = 0 then (fbL_law_209 F k23 xs L a4 G10 K11) else ((if (lg_cmp (K11 9 0 0) (vv14.toInt64)) = 0 then (fbL_law_209 F k23 xs L a4 G10 K11) else (some 0))))) else (some 0))))))))
set_option maxRecDepth 20000 in
set_option maxHeartbeats 1000000 in
theorem TL_law_156 {n : Nat} {k23 : Int32 → M3 → J3 → Option Int32} (C : Cx E (fun q : Nat => s.heap.size ≤ q) p s m #[Value.ref b] meth c (Cond.initialized RX4) code 9 ret RL) (hst : l.stackTraces = false) (hX : va_X b L xs s s.heap) (hbl : b < s.heap.size) (hbA : ¬ (fun q : Nat => s.heap.size ≤ q) b) (hk23 : ∀ (a4 : Int32) (G : M3) (K : J3) (ls : Array Slot) (H : Heap) (locs : List Loc) (cells slots : Nat), RB n cells slots → k23 a4 G K = some 1 → Wd E (fun q : Nat => s.heap.size ≤ q) s G K H locs → lv_has ls 9 [(0, .ref b), (1, .ref (ad E 6 0)), (2, .ref (ad E 8 0)), (3, .ref (ad E 9 0)), (4, .int a4)] → W p l e room_1 s m #[Value.ref b] below meth c H locs cells slots (lw_Z below #[Value.ref b] s) (F0 m 23 ls [])) (a4 : Int32) (G : M3) (K : J3) (hRB : RB (n + 1) cells slots) (h : fbL_law_156 F k23 xs L a4 G K = some 1) (w : Wd E (fun q : Nat => s.heap.size ≤ q) s G K H locs) (hl : lv_has ls 9 [(0, .ref b), (1, .ref (ad E 6 0)), (2, .ref (ad E 8 0)), (3, .ref (ad E 9 0)), (4, .int a4)]) : W p l e room_1 s m #[Value.ref b] below meth c H locs cells slots (lw_Z below #[Value.ref b] s) (F0 m 156 ls []) := by
  obtain ⟨hx, hb, hr, hml, hown, hts, hlocks, hKK, hA1, hA2⟩ := id C
  unfold fbL_law_156 at h
  refine lv_aload_n hx hb dL_law_156 rfl (lv_at hl 1 rfl) ?_
  refine lv_aload_n hx hb dL_law_157 rfl (lv_at hl 0 rfl) ?_
  refine lv_iload hx hb dL_law_158 (lv_at hl 4 rfl) ?_
  refine lv_iconst (v := (1 : Int32)) hx hb dL_law_160 (by decide) ?_
  refine lv_iadd hx hb dL_law_161 ?_
  obtain ⟨ki1, h⟩ := chk_of h
  refine x_scr C w hX hbl hbA ki1 rfl dL_law_162 ?_
  refine lv_aload_n hx hb dL_law_163 rfl (lv_at hl 3 rfl) ?_
  obtain ⟨vv2, G3, K4, hv5, h⟩ := bd3_of h
  refine x_cWi (As := [.ref (ad E 6 0), .int (xs (a4 + (1 : Int32)).toNatClampNeg), .ref (ad E 9 0)]) (rest := []) C w (mtL_setVolume hst hv5) q4_2 q4_3 q4_4 q4_5 ynL_setVolume ⟨rfl, rfl⟩ ⟨by decide, by decide⟩ (rb_c hRB) hl.1 (Nat.le_of_ble_eq_true rfl) rfl dL_law_164 (fun H locs w => ?_)
  replace hRB := rb_go hRB
  refine lv_istore (lv' := [(5, .int vv2), (0, .ref b), (1, .ref (ad E 6 0)), (2, .ref (ad E 8 0)), (3, .ref (ad E 9 0)), (4, .int a4)]) hx hb dL_law_167 hl (by decide) rfl (fun ls hl => ?_)
  refine lv_aload_n hx hb dL_law_169 rfl (lv_at hl 3 rfl) ?_
  refine lv_aload_n hx hb dL_law_170 rfl (lv_at hl 1 rfl) ?_
  refine lv_iload hx hb dL_law_171 (lv_at hl 5 rfl) ?_
  refine lv_iconst (v := (1 : Int32)) hx hb dL_law_173 (by decide) ?_
  refine lv_iadd hx hb dL_law_174 ?_
  obtain ⟨ki6, h⟩ := chk_of h
  refine x_scr C w hX hbl hbA ki6 rfl dL_law_175 ?_
  obtain ⟨vv14, M8, J9, hv7, h⟩ := bd3_of h
  refine x_cVi (As := [.int (xs (a4 + (1 : Int32)).toNatClampNeg)]) (rest := []) C (Wd.ofS 8 w) (v8 (by decide)) cel_8 rfl (mtX5_setVolume  hv7) q6_20 q6_21 q6_22 q1_5 q6_23 ydX5_setVolume ⟨rfl, rfl⟩ ⟨by decide, by decide⟩ (rb_z hRB) hl.1 (Nat.le_of_ble_eq_true rfl) rfl dL_law_176 (fun H locs w => ?_)
  obtain ⟨G10, e12⟩ : ∃ z, z = sg G3 8 M8 := ⟨_, rfl⟩
  obtain ⟨K11, e13⟩ : ∃ z, z = sg K4 8 J9 := ⟨_, rfl⟩
  rw [← e12, ← e13] at w
  replace h := bnd_of h e12
  replace h := bnd_of h e13
  refine lv_istore (lv' := [(6, .int vv14), (5, .int vv2), (0, .ref b), (1, .ref (ad E 6 0)), (2, .ref (ad E 8 0)), (3, .ref (ad E 9 0)), (4, .int a4)]) hx hb dL_law_179 hl (by decide) rfl (fun ls hl => ?_)
  refine lv_aload_n hx hb dL_law_181 rfl (lv_at hl 4 rfl) ?_
  refine x_cVi (As := []) (rest := []) C (Wd.ofS 8 w) (v8 (by decide)) cel_8 rfl (mtX5_thrown ) q8_1 q8_2 q8_3 q1_5 q8_4 ydX5_thrown ⟨rfl, rfl⟩ ⟨by decide, by decide⟩ (rb_z hRB) hl.1 (Nat.le_of_ble_eq_true rfl) rfl dL_law_182 (fun H locs w => ?_)
  have w := Wd.back w
  refine lv_iload hx hb dL_law_185 (lv_at hl 1 rfl) ?_
  refine lv_icmp_eq (tgt := 192) hx hb dL_law_187 (by decide) (fun c15 => ?_) (fun c15 => ?_)
  · replace h := ite_t h c15
    refine lv_iload hx hb dL_law_192 (lv_at hl 1 rfl) ?_
    refine lv_if_ne (tgt := 209) hx hb dL_law_194 (by decide) (fun c16 => ?_) (fun c16 => ?_)
    · replace h := ite_t h c16
      exact TL_law_209 C hst hX hbl hbA hk23 _ _ _ hRB h w (lv_sub hl [2, 3, 4, 5, 6] rfl)
    · replace h := ite_f h (fun z => z c16)
      refine lv_aload_n hx hb dL_law_197 rfl (lv_at hl 5 rfl) ?_
      refine lv_iconst (v := (0 : Int32)) hx hb dL_law_198 (by decide) ?_
      refine x_aldJ C w v9 c9_0 (inb_k (k := 0) (by decide) (by decide)) cl_0 dL_law_199 ?_
      refine lv_iload hx hb dL_law_200 (lv_at hl 0 rfl) ?_
      refine lv_i2l hx hb dL_law_202 rfl ?_
      refine W.lcmp hx hb dL_law_203 ?_
      refine lv_if_eq (tgt := 209) hx hb dL_law_204 (by decide) (fun c17 => ?_) (fun c17 => ?_)
      · replace h := ite_t h c17
        exact TL_law_209 C hst hX hbl hbA hk23 _ _ _ hRB h w (lv_sub hl [2, 3, 4, 5, 6] rfl)
      · replace h := ite_f h c17
        refine lv_iconst (v := (0 : Int32)) hx hb dL_law_207 (by decide) ?_
        exact absurd (Option.some.inj h) (by decide)
  · replace h := ite_f h c15
    refine lv_iconst (v := (0 : Int32)) hx hb dL_law_190 (by decide) ?_
    exact absurd (Option.some.inj h) (by decide)
noncomputable def fbL_law_277 (F : Nat) (k23 : Int32 → M3 → J3 → Option Int32) (xs : Nat → Int32) (L : Nat) (a4 : Int32) (G : M3) (K : J3) : Option Int32 := fbL_law_1418 F k23 xs L a4 G K
set_option maxRecDepth 20000 in
set_option maxHeartbeats 1000000 in
theorem TL_law_277 {n : Nat} {k23 : Int32 → M3 → J3 → Option Int32} (C : Cx E (fun q : Nat => s.heap.size ≤ q) p s m #[Value.ref b] meth c (Cond.initialized RX4) code 9 ret RL) (hst : l.stackTraces = false) (hX : va_X b L xs s s.heap) (hbl : b < s.heap.size) (hbA : ¬ (fun q : Nat => s.heap.size ≤ q) b) (hk23 : ∀ (a4 : Int32) (G : M3) (K : J3) (ls : Array Slot) (H : Heap) (locs : List Loc) (cells slots : Nat), RB n cells slots → k23 a4 G K = some 1 → Wd E (fun q : Nat => s.heap.size ≤ q) s G K H locs → lv_has ls 9 [(0, .ref b), (1, .ref (ad E 6 0)), (2, .ref (ad E 8 0)), (3, .ref (ad E 9 0)), (4, .int a4)] → W p l e room_1 s m #[Value.ref b] below meth c H locs cells slots (lw_Z below #[Value.ref b] s) (F0 m 23 ls [])) (a4 : Int32) (G : M3) (K : J3) (hRB : RB n cells slots) (h : fbL_law_277 F k23 xs L a4 G K = some 1) (w : Wd E (fun q : Nat => s.heap.size ≤ q) s G K H locs) (hl : lv_has ls 9 [(0, .ref b), (1, .ref (ad E 6 0)), (2, .ref (ad E 8 0)), (3, .ref (ad E 9 0)), (4, .int a4)]) : W p l e room_1 s m #[Value.ref b] below meth c H locs cells slots (lw_Z below #[Value.ref b] s) (F0 m 277 ls []) := by
  obtain ⟨hx, hb, hr, hml, hown, hts, hlocks, hKK, hA1, hA2⟩ := id C
  unfold fbL_law_277 at h
  refine lv_goto (tgt := 1418) hx hb dL_law_277 (by decide) ?_
  exact TL_law_1418 C hst hX hbl hbA hk23 _ _ _ hRB h w (lv_sub hl [0, 1, 2, 3, 4] rfl)
noncomputable def fbL_law_212 (F : Nat) (k23 : Int32 → M3 → J3 → Option Int32) (xs : Nat → Int32) (L : Nat) (a4 : Int32) (G : M3) (K : J3) : Option Int32 := chk (inb (a4 + (1 : Int32)) L) (chk (inb (a4 + (2 : Int32)) L) (bd3 (fL_set F (xs (a4 + (1 : Int32)).toNatClampNeg) (xs (a4 + (2 : Int32)).toNatClampNeg) G K) (fun vv3 G4 K5 => chk (inb (a4 + (1 : Int32)) L) (chk (inb (a4 + (2 : Int32)) L) (bd3 (fX5_set F (xs (a4 + (1 : Int32)).toNatClampNeg) (xs (a4 + (2 : Int32)).toNatClampNeg) (G4 8) (K5 8)) (fun vv16 M10 J11 => bnd (sg G4 8 M10) (fun G12 => bnd (sg K5 8 J11) (fun K13 => (if (fX5_thrown (G12 8) (K13 8)) = vv3 then ((if ¬ vv3 = 0 then (fbL_law_277 F k23 xs L a4 G12 K13) else ((if (lg_cmp (K13 9 0 0) (vv16.toInt64)) = 0 then (fbL_law_277 F k23 xs L a4 G12 K13) else (some 0))))) else (some 0))))))))))
set_option maxRecDepth 20000 in
set_option maxHeartbeats 1000000 in
theorem TL_law_212 {n : Nat} {k23 : Int32 → M3 → J3 → Option Int32} (C : Cx E (fun q : Nat => s.heap.size ≤ q) p s m #[Value.ref b] meth c (Cond.initialized RX4) code 9 ret RL) (hst : l.stackTraces = false) (hX : va_X b L xs s s.heap) (hbl : b < s.heap.size) (hbA : ¬ (fun q : Nat => s.heap.size ≤ q) b) (hk23 : ∀ (a4 : Int32) (G : M3) (K : J3) (ls : Array Slot) (H : Heap) (locs : List Loc) (cells slots : Nat), RB n cells slots → k23 a4 G K = some 1 → Wd E (fun q : Nat => s.heap.size ≤ q) s G K H locs → lv_has ls 9 [(0, .ref b), (1, .ref (ad E 6 0)), (2, .ref (ad E 8 0)), (3, .ref (ad E 9 0)), (4, .int a4)] → W p l e room_1 s m #[Value.ref b] below meth c H locs cells slots (lw_Z below #[Value.ref b] s) (F0 m 23 ls [])) (a4 : Int32) (G : M3) (K : J3) (hRB : RB (n + 1) cells slots) (h : fbL_law_212 F k23 xs L a4 G K = some 1) (w : Wd E (fun q : Nat => s.heap.size ≤ q) s G K H locs) (hl : lv_has ls 9 [(0, .ref b), (1, .ref (ad E 6 0)), (2, .ref (ad E 8 0)), (3, .ref (ad E 9 0)), (4, .int a4)]) : W p l e room_1 s m #[Value.ref b] below meth c H locs cells slots (lw_Z below #[Value.ref b] s) (F0 m 212 ls []) := by
  obtain ⟨hx, hb, hr, hml, hown, hts, hlocks, hKK, hA1, hA2⟩ := id C
  unfold fbL_law_212 at h
  refine lv_aload_n hx hb dL_law_212 rfl (lv_at hl 1 rfl) ?_
  refine lv_aload_n hx hb dL_law_213 rfl (lv_at hl 0 rfl) ?_
  refine lv_iload hx hb dL_law_214 (lv_at hl 4 rfl) ?_
  refine lv_iconst (v := (1 : Int32)) hx hb dL_law_216 (by decide) ?_
  refine lv_iadd hx hb dL_law_217 ?_
  obtain ⟨ki1, h⟩ := chk_of h
  refine x_scr C w hX hbl hbA ki1 rfl dL_law_218 ?_
  refine lv_aload_n hx hb dL_law_219 rfl (lv_at hl 0 rfl) ?_
  refine lv_iload hx hb dL_law_220 (lv_at hl 4 rfl) ?_
  refine lv_iconst (v := (2 : Int32)) hx hb dL_law_222 (by decide) ?_
  refine lv_iadd hx hb dL_law_223 ?_
  obtain ⟨ki2, h⟩ := chk_of h
  refine x_scr C w hX hbl hbA ki2 rfl dL_law_224 ?_
  refine lv_aload_n hx hb dL_law_225 rfl (lv_at hl 3 rfl) ?_
  obtain ⟨vv3, G4, K5, hv6, h⟩ := bd3_of h
  refine x_cWi (As := [.ref (ad E 6 0), .int (xs (a4 + (1 : Int32)).toNatClampNeg), .int (xs (a4 + (2 : Int32)).toNatClampNeg), .ref (ad E 9 0)]) (rest := []) C w (mtL_set hst hv6) q8_5 q8_6 q4_4 q8_7 ynL_set ⟨rfl, rfl⟩ ⟨by decide, by decide⟩ (rb_c hRB) hl.1 (Nat.le_of_ble_eq_true rfl) rfl dL_law_226 (fun H locs w => ?_)
  replace hRB := rb_go hRB
  refine lv_istore (lv' := [(5, .int vv3), (0, .ref b), (1, .ref (ad E 6 0)), (2, .ref (ad E 8 0)), (3, .ref (ad E 9 0)), (4, .int a4)]) hx hb dL_law_229 hl (by decide) rfl (fun ls hl => ?_)
  refine lv_aload_n hx hb dL_law_231 rfl (lv_at hl 3 rfl) ?_
  refine lv_aload_n hx hb dL_law_232 rfl (lv_at hl 1 rfl) ?_
  refine lv_iload hx hb dL_law_233 (lv_at hl 5 rfl) ?_
  refine lv_iconst (v := (1 : Int32)) hx hb dL_law_235 (by decide) ?_
  refine lv_iadd hx hb dL_law_236 ?_
  obtain ⟨ki7, h⟩ := chk_of h
  refine x_scr C w hX hbl hbA ki7 rfl dL_law_237 ?_
  refine lv_aload_n hx hb dL_law_238 rfl (lv_at hl 1 rfl) ?_
  refine lv_iload hx hb dL_law_239 (lv_at hl 5 rfl) ?_
  refine lv_iconst (v := (2 : Int32)) hx hb dL_law_241 (by decide) ?_
  refine lv_iadd hx hb dL_law_242 ?_
  obtain ⟨ki8, h⟩ := chk_of h
  refine x_scr C w hX hbl hbA ki8 rfl dL_law_243 ?_
  obtain ⟨vv16, M10, J11, hv9, h⟩ := bd3_of h
  refine x_cVi (As := [.int (xs (a4 + (1 : Int32)).toNatClampNeg), .int (xs (a4 + (2 : Int32)).toNatClampNeg)]) (rest := []) C (Wd.ofS 8 w) (v8 (by decide)) cel_8 rfl (mtX5_set  hv9) q8_14 q8_15 q8_16 q1_5 q8_17 ydX5_set ⟨rfl, rfl⟩ ⟨by decide, by decide⟩ (rb_z hRB) hl.1 (Nat.le_of_ble_eq_true rfl) rfl dL_law_244 (fun H locs w => ?_)
  obtain ⟨G12, e14⟩ : ∃ z, z = sg G4 8 M10 := ⟨_, rfl⟩
  obtain ⟨K13, e15⟩ : ∃ z, z = sg K5 8 J11 := ⟨_, rfl⟩
  rw [← e14, ← e15] at w
  replace h := bnd_of h e14
  replace h := bnd_of h e15
  refine lv_istore (lv' := [(6, .int vv16), (5, .int vv3), (0, .ref b), (1, .ref (ad E 6 0)), (2, .ref (ad E 8 0)), (3, .ref (ad E 9 0)), (4, .int a4)]) hx hb dL_law_247 hl (by decide) rfl (fun ls hl => ?_)
  refine lv_aload_n hx hb dL_law_249 rfl (lv_at hl 4 rfl) ?_
  refine x_cVi (As := []) (rest := []) C (Wd.ofS 8 w) (v8 (by decide)) cel_8 rfl (mtX5_thrown ) q8_1 q8_2 q8_3 q1_5 q8_4 ydX5_thrown ⟨rfl, rfl⟩ ⟨by decide, by decide⟩ (rb_z hRB) hl.1 (Nat.le_of_ble_eq_true rfl) rfl dL_law_250 (fun H locs w => ?_)
  have w := Wd.back w
  refine lv_iload hx hb dL_law_253 (lv_at hl 1 rfl) ?_
  refine lv_icmp_eq (tgt := 260) hx hb dL_law_255 (by decide) (fun c17 => ?_) (fun c17 => ?_)
  · replace h := ite_t h c17
    refine lv_iload hx hb dL_law_260 (lv_at hl 1 rfl) ?_
    refine lv_if_ne (tgt := 277) hx hb dL_law_262 (by decide) (fun c18 => ?_) (fun c18 => ?_)
    · replace h := ite_t h c18
      exact TL_law_277 C hst hX hbl hbA hk23 _ _ _ hRB h w (lv_sub hl [2, 3, 4, 5, 6] rfl)
    · replace h := ite_f h (fun z => z c18)
      refine lv_aload_n hx hb dL_law_265 rfl (lv_at hl 5 rfl) ?_
      refine lv_iconst (v := (0 : Int32)) hx hb dL_law_266 (by decide) ?_
      refine x_aldJ C w v9 c9_0 (inb_k (k := 0) (by decide) (by decide)) cl_0 dL_law_267 ?_
      refine lv_iload hx hb dL_law_268 (lv_at hl 0 rfl) ?_
      refine lv_i2l hx hb dL_law_270 rfl ?_
      refine W.lcmp hx hb dL_law_271 ?_
      refine lv_if_eq (tgt := 277) hx hb dL_law_272 (by decide) (fun c19 => ?_) (fun c19 => ?_)
      · replace h := ite_t h c19
        exact TL_law_277 C hst hX hbl hbA hk23 _ _ _ hRB h w (lv_sub hl [2, 3, 4, 5, 6] rfl)
      · replace h := ite_f h c19
        refine lv_iconst (v := (0 : Int32)) hx hb dL_law_275 (by decide) ?_
        exact absurd (Option.some.inj h) (by decide)
  · replace h := ite_f h c17
    refine lv_iconst (v := (0 : Int32)) hx hb dL_law_258 (by decide) ?_
    exact absurd (Option.some.inj h) (by decide)
noncomputable def fbL_law_333 (F : Nat) (k23 : Int32 → M3 → J3 → Option Int32) (xs : Nat → Int32) (L : Nat) (a4 : Int32) (G : M3) (K : J3) : Option Int32 := fbL_law_1418 F k23 xs L a4 G K
set_option maxRecDepth 20000 in
set_option maxHeartbeats 1000000 in
theorem TL_law_333 {n : Nat} {k23 : Int32 → M3 → J3 → Option Int32} (C : Cx E (fun q : Nat => s.heap.size ≤ q) p s m #[Value.ref b] meth c (Cond.initialized RX4) code 9 ret RL) (hst : l.stackTraces = false) (hX : va_X b L xs s s.heap) (hbl : b < s.heap.size) (hbA : ¬ (fun q : Nat => s.heap.size ≤ q) b) (hk23 : ∀ (a4 : Int32) (G : M3) (K : J3) (ls : Array Slot) (H : Heap) (locs : List Loc) (cells slots : Nat), RB n cells slots → k23 a4 G K = some 1 → Wd E (fun q : Nat => s.heap.size ≤ q) s G K H locs → lv_has ls 9 [(0, .ref b), (1, .ref (ad E 6 0)), (2, .ref (ad E 8 0)), (3, .ref (ad E 9 0)), (4, .int a4)] → W p l e room_1 s m #[Value.ref b] below meth c H locs cells slots (lw_Z below #[Value.ref b] s) (F0 m 23 ls [])) (a4 : Int32) (G : M3) (K : J3) (hRB : RB n cells slots) (h : fbL_law_333 F k23 xs L a4 G K = some 1) (w : Wd E (fun q : Nat => s.heap.size ≤ q) s G K H locs) (hl : lv_has ls 9 [(0, .ref b), (1, .ref (ad E 6 0)), (2, .ref (ad E 8 0)), (3, .ref (ad E 9 0)), (4, .int a4)]) : W p l e room_1 s m #[Value.ref b] below meth c H locs cells slots (lw_Z below #[Value.ref b] s) (F0 m 333 ls []) := by
  obtain ⟨hx, hb, hr, hml, hown, hts, hlocks, hKK, hA1, hA2⟩ := id C
  unfold fbL_law_333 at h
  refine lv_goto (tgt := 1418) hx hb dL_law_333 (by decide) ?_
  exact TL_law_1418 C hst hX hbl hbA hk23 _ _ _ hRB h w (lv_sub hl [0, 1, 2, 3, 4] rfl)
noncomputable def fbL_law_280 (F : Nat) (k23 : Int32 → M3 → J3 → Option Int32) (xs : Nat → Int32) (L : Nat) (a4 : Int32) (G : M3) (K : J3) : Option Int32 := chk (inb (a4 + (1 : Int32)) L) (bd3 (fL_addCompressor F (xs (a4 + (1 : Int32)).toNatClampNeg) G K) (fun vv2 G3 K4 => chk (inb (a4 + (1 : Int32)) L) (bd3 (fX5_addCompressor F (xs (a4 + (1 : Int32)).toNatClampNeg) (G3 8) (K4 8)) (fun vv14 M8 J9 => bnd (sg G3 8 M8) (fun G10 => bnd (sg K4 8 J9) (fun K11 => (if (fX5_thrown (G10 8) (K11 8)) = vv2 then ((if ¬ vv2 = 0 then (fbL_law_333 F k23 xs L a4 G10 K11) else ((if (lg_cmp (K11 9 0 0) (vv14.toInt64)) = 0 then (fbL_law_333 F k23 xs L a4 G10 K11) else (some 0))))) else (some 0))))))))
set_option maxRecDepth 20000 in
set_option maxHeartbeats 1000000 in
theorem TL_law_280 {n : Nat} {k23 : Int32 → M3 → J3 → Option Int32} (C : Cx E (fun q : Nat => s.heap.size ≤ q) p s m #[Value.ref b] meth c (Cond.initialized RX4) code 9 ret RL) (hst : l.stackTraces = false) (hX : va_X b L xs s s.heap) (hbl : b < s.heap.size) (hbA : ¬ (fun q : Nat => s.heap.size ≤ q) b) (hk23 : ∀ (a4 : Int32) (G : M3) (K : J3) (ls : Array Slot) (H : Heap) (locs : List Loc) (cells slots : Nat), RB n cells slots → k23 a4 G K = some 1 → Wd E (fun q : Nat => s.heap.size ≤ q) s G K H locs → lv_has ls 9 [(0, .ref b), (1, .ref (ad E 6 0)), (2, .ref (ad E 8 0)), (3, .ref (ad E 9 0)), (4, .int a4)] → W p l e room_1 s m #[Value.ref b] below meth c H locs cells slots (lw_Z below #[Value.ref b] s) (F0 m 23 ls [])) (a4 : Int32) (G : M3) (K : J3) (hRB : RB (n + 1) cells slots) (h : fbL_law_280 F k23 xs L a4 G K = some 1) (w : Wd E (fun q : Nat => s.heap.size ≤ q) s G K H locs) (hl : lv_has ls 9 [(0, .ref b), (1, .ref (ad E 6 0)), (2, .ref (ad E 8 0)), (3, .ref (ad E 9 0)), (4, .int a4)]) : W p l e room_1 s m #[Value.ref b] below meth c H locs cells slots (lw_Z below #[Value.ref b] s) (F0 m 280 ls []) := by
  obtain ⟨hx, hb, hr, hml, hown, hts, hlocks, hKK, hA1, hA2⟩ := id C
  unfold fbL_law_280 at h
  refine lv_aload_n hx hb dL_law_280 rfl (lv_at hl 1 rfl) ?_
  refine lv_aload_n hx hb dL_law_281 rfl (lv_at hl 0 rfl) ?_
  refine lv_iload hx hb dL_law_282 (lv_at hl 4 rfl) ?_
  refine lv_iconst (v := (1 : Int32)) hx hb dL_law_284 (by decide) ?_
  refine lv_iadd hx hb dL_law_285 ?_
  obtain ⟨ki1, h⟩ := chk_of h
  refine x_scr C w hX hbl hbA ki1 rfl dL_law_286 ?_
  refine lv_aload_n hx hb dL_law_287 rfl (lv_at hl 3 rfl) ?_
  obtain ⟨vv2, G3, K4, hv5, h⟩ := bd3_of h
  refine x_cWi (As := [.ref (ad E 6 0), .int (xs (a4 + (1 : Int32)).toNatClampNeg), .ref (ad E 9 0)]) (rest := []) C w (mtL_addCompressor hst hv5) q9_0 q9_1 q4_4 q9_2 ynL_addCompressor ⟨rfl, rfl⟩ ⟨by decide, by decide⟩ (rb_c hRB) hl.1 (Nat.le_of_ble_eq_true rfl) rfl dL_law_288 (fun H locs w => ?_)
  replace hRB := rb_go hRB
  refine lv_istore (lv' := [(5, .int vv2), (0, .ref b), (1, .ref (ad E 6 0)), (2, .ref (ad E 8 0)), (3, .ref (ad E 9 0)), (4, .int a4)]) hx hb dL_law_291 hl (by decide) rfl (fun ls hl => ?_)
  refine lv_aload_n hx hb dL_law_293 rfl (lv_at hl 3 rfl) ?_
  refine lv_aload_n hx hb dL_law_294 rfl (lv_at hl 1 rfl) ?_
  refine lv_iload hx hb dL_law_295 (lv_at hl 5 rfl) ?_
  refine lv_iconst (v := (1 : Int32)) hx hb dL_law_297 (by decide) ?_
  refine lv_iadd hx hb dL_law_298 ?_
  obtain ⟨ki6, h⟩ := chk_of h
  refine x_scr C w hX hbl hbA ki6 rfl dL_law_299 ?_
  obtain ⟨vv14, M8, J9, hv7, h⟩ := bd3_of h
  refine x_cVi (As := [.int (xs (a4 + (1 : Int32)).toNatClampNeg)]) (rest := []) C (Wd.ofS 8 w) (v8 (by decide)) cel_8 rfl (mtX5_addCompressor  hv7) q9_16 q9_17 q9_18 q1_5 q9_19 ydX5_addCompressor ⟨rfl, rfl⟩ ⟨by decide, by decide⟩ (rb_z hRB) hl.1 (Nat.le_of_ble_eq_true rfl) rfl dL_law_300 (fun H locs w => ?_)
  obtain ⟨G10, e12⟩ : ∃ z, z = sg G3 8 M8 := ⟨_, rfl⟩
  obtain ⟨K11, e13⟩ : ∃ z, z = sg K4 8 J9 := ⟨_, rfl⟩
  rw [← e12, ← e13] at w
  replace h := bnd_of h e12
  replace h := bnd_of h e13
  refine lv_istore (lv' := [(6, .int vv14), (5, .int vv2), (0, .ref b), (1, .ref (ad E 6 0)), (2, .ref (ad E 8 0)), (3, .ref (ad E 9 0)), (4, .int a4)]) hx hb dL_law_303 hl (by decide) rfl (fun ls hl => ?_)
  refine lv_aload_n hx hb dL_law_305 rfl (lv_at hl 4 rfl) ?_
  refine x_cVi (As := []) (rest := []) C (Wd.ofS 8 w) (v8 (by decide)) cel_8 rfl (mtX5_thrown ) q8_1 q8_2 q8_3 q1_5 q8_4 ydX5_thrown ⟨rfl, rfl⟩ ⟨by decide, by decide⟩ (rb_z hRB) hl.1 (Nat.le_of_ble_eq_true rfl) rfl dL_law_306 (fun H locs w => ?_)
  have w := Wd.back w
  refine lv_iload hx hb dL_law_309 (lv_at hl 1 rfl) ?_
  refine lv_icmp_eq (tgt := 316) hx hb dL_law_311 (by decide) (fun c15 => ?_) (fun c15 => ?_)
  · replace h := ite_t h c15
    refine lv_iload hx hb dL_law_316 (lv_at hl 1 rfl) ?_
    refine lv_if_ne (tgt := 333) hx hb dL_law_318 (by decide) (fun c16 => ?_) (fun c16 => ?_)
    · replace h := ite_t h c16
      exact TL_law_333 C hst hX hbl hbA hk23 _ _ _ hRB h w (lv_sub hl [2, 3, 4, 5, 6] rfl)
    · replace h := ite_f h (fun z => z c16)
      refine lv_aload_n hx hb dL_law_321 rfl (lv_at hl 5 rfl) ?_
      refine lv_iconst (v := (0 : Int32)) hx hb dL_law_322 (by decide) ?_
      refine x_aldJ C w v9 c9_0 (inb_k (k := 0) (by decide) (by decide)) cl_0 dL_law_323 ?_
      refine lv_iload hx hb dL_law_324 (lv_at hl 0 rfl) ?_
      refine lv_i2l hx hb dL_law_326 rfl ?_
      refine W.lcmp hx hb dL_law_327 ?_
      refine lv_if_eq (tgt := 333) hx hb dL_law_328 (by decide) (fun c17 => ?_) (fun c17 => ?_)
      · replace h := ite_t h c17
        exact TL_law_333 C hst hX hbl hbA hk23 _ _ _ hRB h w (lv_sub hl [2, 3, 4, 5, 6] rfl)
      · replace h := ite_f h c17
        refine lv_iconst (v := (0 : Int32)) hx hb dL_law_331 (by decide) ?_
        exact absurd (Option.some.inj h) (by decide)
  · replace h := ite_f h c15
    refine lv_iconst (v := (0 : Int32)) hx hb dL_law_314 (by decide) ?_
    exact absurd (Option.some.inj h) (by decide)
noncomputable def fbL_law_389 (F : Nat) (k23 : Int32 → M3 → J3 → Option Int32) (xs : Nat → Int32) (L : Nat) (a4 : Int32) (G : M3) (K : J3) : Option Int32 := fbL_law_1418 F k23 xs L a4 G K
set_option maxRecDepth 20000 in
set_option maxHeartbeats 1000000 in
theorem TL_law_389 {n : Nat} {k23 : Int32 → M3 → J3 → Option Int32} (C : Cx E (fun q : Nat => s.heap.size ≤ q) p s m #[Value.ref b] meth c (Cond.initialized RX4) code 9 ret RL) (hst : l.stackTraces = false) (hX : va_X b L xs s s.heap) (hbl : b < s.heap.size) (hbA : ¬ (fun q : Nat => s.heap.size ≤ q) b) (hk23 : ∀ (a4 : Int32) (G : M3) (K : J3) (ls : Array Slot) (H : Heap) (locs : List Loc) (cells slots : Nat), RB n cells slots → k23 a4 G K = some 1 → Wd E (fun q : Nat => s.heap.size ≤ q) s G K H locs → lv_has ls 9 [(0, .ref b), (1, .ref (ad E 6 0)), (2, .ref (ad E 8 0)), (3, .ref (ad E 9 0)), (4, .int a4)] → W p l e room_1 s m #[Value.ref b] below meth c H locs cells slots (lw_Z below #[Value.ref b] s) (F0 m 23 ls [])) (a4 : Int32) (G : M3) (K : J3) (hRB : RB n cells slots) (h : fbL_law_389 F k23 xs L a4 G K = some 1) (w : Wd E (fun q : Nat => s.heap.size ≤ q) s G K H locs) (hl : lv_has ls 9 [(0, .ref b), (1, .ref (ad E 6 0)), (2, .ref (ad E 8 0)), (3, .ref (ad E 9 0)), (4, .int a4)]) : W p l e room_1 s m #[Value.ref b] below meth c H locs cells slots (lw_Z below #[Value.ref b] s) (F0 m 389 ls []) := by
  obtain ⟨hx, hb, hr, hml, hown, hts, hlocks, hKK, hA1, hA2⟩ := id C
  unfold fbL_law_389 at h
  refine lv_goto (tgt := 1418) hx hb dL_law_389 (by decide) ?_
  exact TL_law_1418 C hst hX hbl hbA hk23 _ _ _ hRB h w (lv_sub hl [0, 1, 2, 3, 4] rfl)
noncomputable def fbL_law_336 (F : Nat) (k23 : Int32 → M3 → J3 → Option Int32) (xs : Nat → Int32) (L : Nat) (a4 : Int32) (G : M3) (K : J3) : Option Int32 := chk (inb (a4 + (1 : Int32)) L) (bd3 (fL_trip F (xs (a4 + (1 : Int32)).toNatClampNeg) G K) (fun vv2 G3 K4 => chk (inb (a4 + (1 : Int32)) L) (bd3 (fX5_trip F (xs (a4 + (1 : Int32)).toNatClampNeg) (G3 8) (K4 8)) (fun vv14 M8 J9 => bnd (sg G3 8 M8) (fun G10 => bnd (sg K4 8 J9) (fun K11 => (if (fX5_thrown (G10 8) (K11 8)) = vv2 then ((if ¬ vv2 = 0 then (fbL_law_389 F k23 xs L a4 G10 K11) else ((if (lg_cmp (K11 9 0 0) (vv14.toInt64)) = 0 then (fbL_law_389 F k23 xs L a4 G10 K11) else (some 0))))) else (some 0))))))))
set_option maxRecDepth 20000 in
set_option maxHeartbeats 1000000 in
theorem TL_law_336 {n : Nat} {k23 : Int32 → M3 → J3 → Option Int32} (C : Cx E (fun q : Nat => s.heap.size ≤ q) p s m #[Value.ref b] meth c (Cond.initialized RX4) code 9 ret RL) (hst : l.stackTraces = false) (hX : va_X b L xs s s.heap) (hbl : b < s.heap.size) (hbA : ¬ (fun q : Nat => s.heap.size ≤ q) b) (hk23 : ∀ (a4 : Int32) (G : M3) (K : J3) (ls : Array Slot) (H : Heap) (locs : List Loc) (cells slots : Nat), RB n cells slots → k23 a4 G K = some 1 → Wd E (fun q : Nat => s.heap.size ≤ q) s G K H locs → lv_has ls 9 [(0, .ref b), (1, .ref (ad E 6 0)), (2, .ref (ad E 8 0)), (3, .ref (ad E 9 0)), (4, .int a4)] → W p l e room_1 s m #[Value.ref b] below meth c H locs cells slots (lw_Z below #[Value.ref b] s) (F0 m 23 ls [])) (a4 : Int32) (G : M3) (K : J3) (hRB : RB (n + 1) cells slots) (h : fbL_law_336 F k23 xs L a4 G K = some 1) (w : Wd E (fun q : Nat => s.heap.size ≤ q) s G K H locs) (hl : lv_has ls 9 [(0, .ref b), (1, .ref (ad E 6 0)), (2, .ref (ad E 8 0)), (3, .ref (ad E 9 0)), (4, .int a4)]) : W p l e room_1 s m #[Value.ref b] below meth c H locs cells slots (lw_Z below #[Value.ref b] s) (F0 m 336 ls []) := by
  obtain ⟨hx, hb, hr, hml, hown, hts, hlocks, hKK, hA1, hA2⟩ := id C
  unfold fbL_law_336 at h
  refine lv_aload_n hx hb dL_law_336 rfl (lv_at hl 1 rfl) ?_
  refine lv_aload_n hx hb dL_law_337 rfl (lv_at hl 0 rfl) ?_
  refine lv_iload hx hb dL_law_338 (lv_at hl 4 rfl) ?_
  refine lv_iconst (v := (1 : Int32)) hx hb dL_law_340 (by decide) ?_
  refine lv_iadd hx hb dL_law_341 ?_
  obtain ⟨ki1, h⟩ := chk_of h
  refine x_scr C w hX hbl hbA ki1 rfl dL_law_342 ?_
  refine lv_aload_n hx hb dL_law_343 rfl (lv_at hl 3 rfl) ?_
  obtain ⟨vv2, G3, K4, hv5, h⟩ := bd3_of h
  refine x_cWi (As := [.ref (ad E 6 0), .int (xs (a4 + (1 : Int32)).toNatClampNeg), .ref (ad E 9 0)]) (rest := []) C w (mtL_trip hst hv5) q10_0 q10_1 q4_4 q10_2 ynL_trip ⟨rfl, rfl⟩ ⟨by decide, by decide⟩ (rb_c hRB) hl.1 (Nat.le_of_ble_eq_true rfl) rfl dL_law_344 (fun H locs w => ?_)
  replace hRB := rb_go hRB
  refine lv_istore (lv' := [(5, .int vv2), (0, .ref b), (1, .ref (ad E 6 0)), (2, .ref (ad E 8 0)), (3, .ref (ad E 9 0)), (4, .int a4)]) hx hb dL_law_347 hl (by decide) rfl (fun ls hl => ?_)
  refine lv_aload_n hx hb dL_law_349 rfl (lv_at hl 3 rfl) ?_
  refine lv_aload_n hx hb dL_law_350 rfl (lv_at hl 1 rfl) ?_
  refine lv_iload hx hb dL_law_351 (lv_at hl 5 rfl) ?_
  refine lv_iconst (v := (1 : Int32)) hx hb dL_law_353 (by decide) ?_
  refine lv_iadd hx hb dL_law_354 ?_
  obtain ⟨ki6, h⟩ := chk_of h
  refine x_scr C w hX hbl hbA ki6 rfl dL_law_355 ?_
  obtain ⟨vv14, M8, J9, hv7, h⟩ := bd3_of h
  refine x_cVi (As := [.int (xs (a4 + (1 : Int32)).toNatClampNeg)]) (rest := []) C (Wd.ofS 8 w) (v8 (by decide)) cel_8 rfl (mtX5_trip  hv7) q10_16 q10_17 q10_18 q1_5 q10_19 ydX5_trip ⟨rfl, rfl⟩ ⟨by decide, by decide⟩ (rb_z hRB) hl.1 (Nat.le_of_ble_eq_true rfl) rfl dL_law_356 (fun H locs w => ?_)
  obtain ⟨G10, e12⟩ : ∃ z, z = sg G3 8 M8 := ⟨_, rfl⟩
  obtain ⟨K11, e13⟩ : ∃ z, z = sg K4 8 J9 := ⟨_, rfl⟩
  rw [← e12, ← e13] at w
  replace h := bnd_of h e12
  replace h := bnd_of h e13
  refine lv_istore (lv' := [(6, .int vv14), (5, .int vv2), (0, .ref b), (1, .ref (ad E 6 0)), (2, .ref (ad E 8 0)), (3, .ref (ad E 9 0)), (4, .int a4)]) hx hb dL_law_359 hl (by decide) rfl (fun ls hl => ?_)
  refine lv_aload_n hx hb dL_law_361 rfl (lv_at hl 4 rfl) ?_
  refine x_cVi (As := []) (rest := []) C (Wd.ofS 8 w) (v8 (by decide)) cel_8 rfl (mtX5_thrown ) q8_1 q8_2 q8_3 q1_5 q8_4 ydX5_thrown ⟨rfl, rfl⟩ ⟨by decide, by decide⟩ (rb_z hRB) hl.1 (Nat.le_of_ble_eq_true rfl) rfl dL_law_362 (fun H locs w => ?_)
  have w := Wd.back w
  refine lv_iload hx hb dL_law_365 (lv_at hl 1 rfl) ?_
  refine lv_icmp_eq (tgt := 372) hx hb dL_law_367 (by decide) (fun c15 => ?_) (fun c15 => ?_)
  · replace h := ite_t h c15
    refine lv_iload hx hb dL_law_372 (lv_at hl 1 rfl) ?_
    refine lv_if_ne (tgt := 389) hx hb dL_law_374 (by decide) (fun c16 => ?_) (fun c16 => ?_)
    · replace h := ite_t h c16
      exact TL_law_389 C hst hX hbl hbA hk23 _ _ _ hRB h w (lv_sub hl [2, 3, 4, 5, 6] rfl)
    · replace h := ite_f h (fun z => z c16)
      refine lv_aload_n hx hb dL_law_377 rfl (lv_at hl 5 rfl) ?_
      refine lv_iconst (v := (0 : Int32)) hx hb dL_law_378 (by decide) ?_
      refine x_aldJ C w v9 c9_0 (inb_k (k := 0) (by decide) (by decide)) cl_0 dL_law_379 ?_
      refine lv_iload hx hb dL_law_380 (lv_at hl 0 rfl) ?_
      refine lv_i2l hx hb dL_law_382 rfl ?_
      refine W.lcmp hx hb dL_law_383 ?_
      refine lv_if_eq (tgt := 389) hx hb dL_law_384 (by decide) (fun c17 => ?_) (fun c17 => ?_)
      · replace h := ite_t h c17
        exact TL_law_389 C hst hX hbl hbA hk23 _ _ _ hRB h w (lv_sub hl [2, 3, 4, 5, 6] rfl)
      · replace h := ite_f h c17
        refine lv_iconst (v := (0 : Int32)) hx hb dL_law_387 (by decide) ?_
        exact absurd (Option.some.inj h) (by decide)
  · replace h := ite_f h c15
    refine lv_iconst (v := (0 : Int32)) hx hb dL_law_370 (by decide) ?_
    exact absurd (Option.some.inj h) (by decide)
noncomputable def fbL_law_445 (F : Nat) (k23 : Int32 → M3 → J3 → Option Int32) (xs : Nat → Int32) (L : Nat) (a4 : Int32) (G : M3) (K : J3) : Option Int32 := fbL_law_1418 F k23 xs L a4 G K
set_option maxRecDepth 20000 in
set_option maxHeartbeats 1000000 in
theorem TL_law_445 {n : Nat} {k23 : Int32 → M3 → J3 → Option Int32} (C : Cx E (fun q : Nat => s.heap.size ≤ q) p s m #[Value.ref b] meth c (Cond.initialized RX4) code 9 ret RL) (hst : l.stackTraces = false) (hX : va_X b L xs s s.heap) (hbl : b < s.heap.size) (hbA : ¬ (fun q : Nat => s.heap.size ≤ q) b) (hk23 : ∀ (a4 : Int32) (G : M3) (K : J3) (ls : Array Slot) (H : Heap) (locs : List Loc) (cells slots : Nat), RB n cells slots → k23 a4 G K = some 1 → Wd E (fun q : Nat => s.heap.size ≤ q) s G K H locs → lv_has ls 9 [(0, .ref b), (1, .ref (ad E 6 0)), (2, .ref (ad E 8 0)), (3, .ref (ad E 9 0)), (4, .int a4)] → W p l e room_1 s m #[Value.ref b] below meth c H locs cells slots (lw_Z below #[Value.ref b] s) (F0 m 23 ls [])) (a4 : Int32) (G : M3) (K : J3) (hRB : RB n cells slots) (h : fbL_law_445 F k23 xs L a4 G K = some 1) (w : Wd E (fun q : Nat => s.heap.size ≤ q) s G K H locs) (hl : lv_has ls 9 [(0, .ref b), (1, .ref (ad E 6 0)), (2, .ref (ad E 8 0)), (3, .ref (ad E 9 0)), (4, .int a4)]) : W p l e room_1 s m #[Value.ref b] below meth c H locs cells slots (lw_Z below #[Value.ref b] s) (F0 m 445 ls []) := by
  obtain ⟨hx, hb, hr, hml, hown, hts, hlocks, hKK, hA1, hA2⟩ := id C
  unfold fbL_law_445 at h
  refine lv_goto (tgt := 1418) hx hb dL_law_445 (by decide) ?_
  exact TL_law_1418 C hst hX hbl hbA hk23 _ _ _ hRB h w (lv_sub hl [0, 1, 2, 3, 4] rfl)
noncomputable def fbL_law_392 (F : Nat) (k23 : Int32 → M3 → J3 → Option Int32) (xs : Nat → Int32) (L : Nat) (a4 : Int32) (G : M3) (K : J3) : Option Int32 := chk (inb (a4 + (1 : Int32)) L) (bd3 (fL_clear F (xs (a4 + (1 : Int32)).toNatClampNeg) G K) (fun vv2 G3 K4 => chk (inb (a4 + (1 : Int32)) L) (bd3 (fX5_clear F (xs (a4 + (1 : Int32)).toNatClampNeg) (G3 8) (K4 8)) (fun vv14 M8 J9 => bnd (sg G3 8 M8) (fun G10 => bnd (sg K4 8 J9) (fun K11 => (if (fX5_thrown (G10 8) (K11 8)) = vv2 then ((if ¬ vv2 = 0 then (fbL_law_445 F k23 xs L a4 G10 K11) else ((if (lg_cmp (K11 9 0 0) (vv14.toInt64)) = 0 then (fbL_law_445 F k23 xs L a4 G10 K11) else (some 0))))) else (some 0))))))))
set_option maxRecDepth 20000 in
set_option maxHeartbeats 1000000 in
theorem TL_law_392 {n : Nat} {k23 : Int32 → M3 → J3 → Option Int32} (C : Cx E (fun q : Nat => s.heap.size ≤ q) p s m #[Value.ref b] meth c (Cond.initialized RX4) code 9 ret RL) (hst : l.stackTraces = false) (hX : va_X b L xs s s.heap) (hbl : b < s.heap.size) (hbA : ¬ (fun q : Nat => s.heap.size ≤ q) b) (hk23 : ∀ (a4 : Int32) (G : M3) (K : J3) (ls : Array Slot) (H : Heap) (locs : List Loc) (cells slots : Nat), RB n cells slots → k23 a4 G K = some 1 → Wd E (fun q : Nat => s.heap.size ≤ q) s G K H locs → lv_has ls 9 [(0, .ref b), (1, .ref (ad E 6 0)), (2, .ref (ad E 8 0)), (3, .ref (ad E 9 0)), (4, .int a4)] → W p l e room_1 s m #[Value.ref b] below meth c H locs cells slots (lw_Z below #[Value.ref b] s) (F0 m 23 ls [])) (a4 : Int32) (G : M3) (K : J3) (hRB : RB (n + 1) cells slots) (h : fbL_law_392 F k23 xs L a4 G K = some 1) (w : Wd E (fun q : Nat => s.heap.size ≤ q) s G K H locs) (hl : lv_has ls 9 [(0, .ref b), (1, .ref (ad E 6 0)), (2, .ref (ad E 8 0)), (3, .ref (ad E 9 0)), (4, .int a4)]) : W p l e room_1 s m #[Value.ref b] below meth c H locs cells slots (lw_Z below #[Value.ref b] s) (F0 m 392 ls []) := by
  obtain ⟨hx, hb, hr, hml, hown, hts, hlocks, hKK, hA1, hA2⟩ := id C
  unfold fbL_law_392 at h
  refine lv_aload_n hx hb dL_law_392 rfl (lv_at hl 1 rfl) ?_
  refine lv_aload_n hx hb dL_law_393 rfl (lv_at hl 0 rfl) ?_
  refine lv_iload hx hb dL_law_394 (lv_at hl 4 rfl) ?_
  refine lv_iconst (v := (1 : Int32)) hx hb dL_law_396 (by decide) ?_
  refine lv_iadd hx hb dL_law_397 ?_
  obtain ⟨ki1, h⟩ := chk_of h
  refine x_scr C w hX hbl hbA ki1 rfl dL_law_398 ?_
  refine lv_aload_n hx hb dL_law_399 rfl (lv_at hl 3 rfl) ?_
  obtain ⟨vv2, G3, K4, hv5, h⟩ := bd3_of h
  refine x_cWi (As := [.ref (ad E 6 0), .int (xs (a4 + (1 : Int32)).toNatClampNeg), .ref (ad E 9 0)]) (rest := []) C w (mtL_clear hst hv5) q11_13 q11_14 q4_4 q11_15 ynL_clear ⟨rfl, rfl⟩ ⟨by decide, by decide⟩ (rb_c hRB) hl.1 (Nat.le_of_ble_eq_true rfl) rfl dL_law_400 (fun H locs w => ?_)
  replace hRB := rb_go hRB
  refine lv_istore (lv' := [(5, .int vv2), (0, .ref b), (1, .ref (ad E 6 0)), (2, .ref (ad E 8 0)), (3, .ref (ad E 9 0)), (4, .int a4)]) hx hb dL_law_403 hl (by decide) rfl (fun ls hl => ?_)
  refine lv_aload_n hx hb dL_law_405 rfl (lv_at hl 3 rfl) ?_
  refine lv_aload_n hx hb dL_law_406 rfl (lv_at hl 1 rfl) ?_
  refine lv_iload hx hb dL_law_407 (lv_at hl 5 rfl) ?_
  refine lv_iconst (v := (1 : Int32)) hx hb dL_law_409 (by decide) ?_
  refine lv_iadd hx hb dL_law_410 ?_
  obtain ⟨ki6, h⟩ := chk_of h
  refine x_scr C w hX hbl hbA ki6 rfl dL_law_411 ?_
  obtain ⟨vv14, M8, J9, hv7, h⟩ := bd3_of h
  refine x_cVi (As := [.int (xs (a4 + (1 : Int32)).toNatClampNeg)]) (rest := []) C (Wd.ofS 8 w) (v8 (by decide)) cel_8 rfl (mtX5_clear  hv7) q12_1 q12_2 q12_3 q1_5 q12_4 ydX5_clear ⟨rfl, rfl⟩ ⟨by decide, by decide⟩ (rb_z hRB) hl.1 (Nat.le_of_ble_eq_true rfl) rfl dL_law_412 (fun H locs w => ?_)
  obtain ⟨G10, e12⟩ : ∃ z, z = sg G3 8 M8 := ⟨_, rfl⟩
  obtain ⟨K11, e13⟩ : ∃ z, z = sg K4 8 J9 := ⟨_, rfl⟩
  rw [← e12, ← e13] at w
  replace h := bnd_of h e12
  replace h := bnd_of h e13
  refine lv_istore (lv' := [(6, .int vv14), (5, .int vv2), (0, .ref b), (1, .ref (ad E 6 0)), (2, .ref (ad E 8 0)), (3, .ref (ad E 9 0)), (4, .int a4)]) hx hb dL_law_415 hl (by decide) rfl (fun ls hl => ?_)
  refine lv_aload_n hx hb dL_law_417 rfl (lv_at hl 4 rfl) ?_
  refine x_cVi (As := []) (rest := []) C (Wd.ofS 8 w) (v8 (by decide)) cel_8 rfl (mtX5_thrown ) q8_1 q8_2 q8_3 q1_5 q8_4 ydX5_thrown ⟨rfl, rfl⟩ ⟨by decide, by decide⟩ (rb_z hRB) hl.1 (Nat.le_of_ble_eq_true rfl) rfl dL_law_418 (fun H locs w => ?_)
  have w := Wd.back w
  refine lv_iload hx hb dL_law_421 (lv_at hl 1 rfl) ?_
  refine lv_icmp_eq (tgt := 428) hx hb dL_law_423 (by decide) (fun c15 => ?_) (fun c15 => ?_)
  · replace h := ite_t h c15
    refine lv_iload hx hb dL_law_428 (lv_at hl 1 rfl) ?_
    refine lv_if_ne (tgt := 445) hx hb dL_law_430 (by decide) (fun c16 => ?_) (fun c16 => ?_)
    · replace h := ite_t h c16
      exact TL_law_445 C hst hX hbl hbA hk23 _ _ _ hRB h w (lv_sub hl [2, 3, 4, 5, 6] rfl)
    · replace h := ite_f h (fun z => z c16)
      refine lv_aload_n hx hb dL_law_433 rfl (lv_at hl 5 rfl) ?_
      refine lv_iconst (v := (0 : Int32)) hx hb dL_law_434 (by decide) ?_
      refine x_aldJ C w v9 c9_0 (inb_k (k := 0) (by decide) (by decide)) cl_0 dL_law_435 ?_
      refine lv_iload hx hb dL_law_436 (lv_at hl 0 rfl) ?_
      refine lv_i2l hx hb dL_law_438 rfl ?_
      refine W.lcmp hx hb dL_law_439 ?_
      refine lv_if_eq (tgt := 445) hx hb dL_law_440 (by decide) (fun c17 => ?_) (fun c17 => ?_)
      · replace h := ite_t h c17
        exact TL_law_445 C hst hX hbl hbA hk23 _ _ _ hRB h w (lv_sub hl [2, 3, 4, 5, 6] rfl)
      · replace h := ite_f h c17
        refine lv_iconst (v := (0 : Int32)) hx hb dL_law_443 (by decide) ?_
        exact absurd (Option.some.inj h) (by decide)
  · replace h := ite_f h c15
    refine lv_iconst (v := (0 : Int32)) hx hb dL_law_426 (by decide) ?_
    exact absurd (Option.some.inj h) (by decide)
noncomputable def fbL_law_448 (F : Nat) (k23 : Int32 → M3 → J3 → Option Int32) (xs : Nat → Int32) (L : Nat) (a4 : Int32) (G : M3) (K : J3) : Option Int32 := bd3 (fX4_rotate F G K) (fun vv4 G2 K3 => bd3 (fX5_rotate F (G2 8) (K3 8)) (fun vv12 M6 J7 => bnd (sg G2 8 M6) (fun G8 => bnd (sg K3 8 J7) (fun K9 => (if vv4 = vv12 then (fbL_law_1418 F k23 xs L a4 G8 K9) else (some 0))))))
set_option maxRecDepth 20000 in
set_option maxHeartbeats 1000000 in
theorem TL_law_448 {n : Nat} {k23 : Int32 → M3 → J3 → Option Int32} (C : Cx E (fun q : Nat => s.heap.size ≤ q) p s m #[Value.ref b] meth c (Cond.initialized RX4) code 9 ret RL) (hst : l.stackTraces = false) (hX : va_X b L xs s s.heap) (hbl : b < s.heap.size) (hbA : ¬ (fun q : Nat => s.heap.size ≤ q) b) (hk23 : ∀ (a4 : Int32) (G : M3) (K : J3) (ls : Array Slot) (H : Heap) (locs : List Loc) (cells slots : Nat), RB n cells slots → k23 a4 G K = some 1 → Wd E (fun q : Nat => s.heap.size ≤ q) s G K H locs → lv_has ls 9 [(0, .ref b), (1, .ref (ad E 6 0)), (2, .ref (ad E 8 0)), (3, .ref (ad E 9 0)), (4, .int a4)] → W p l e room_1 s m #[Value.ref b] below meth c H locs cells slots (lw_Z below #[Value.ref b] s) (F0 m 23 ls [])) (a4 : Int32) (G : M3) (K : J3) (hRB : RB (n + 1) cells slots) (h : fbL_law_448 F k23 xs L a4 G K = some 1) (w : Wd E (fun q : Nat => s.heap.size ≤ q) s G K H locs) (hl : lv_has ls 9 [(0, .ref b), (1, .ref (ad E 6 0)), (2, .ref (ad E 8 0)), (3, .ref (ad E 9 0)), (4, .int a4)]) : W p l e room_1 s m #[Value.ref b] below meth c H locs cells slots (lw_Z below #[Value.ref b] s) (F0 m 448 ls []) := by
  obtain ⟨hx, hb, hr, hml, hown, hts, hlocks, hKK, hA1, hA2⟩ := id C
  unfold fbL_law_448 at h
  refine lv_aload_n hx hb dL_law_448 rfl (lv_at hl 1 rfl) ?_
  obtain ⟨vv4, G2, K3, hv1, h⟩ := bd3_of h
  refine x_cVi (As := []) (rest := []) C w (v6 (by decide)) cel_6 rfl (mtX4_rotate  hv1) q12_13 q12_14 q12_15 q1_2 q12_16 ydX4_rotate ⟨rfl, rfl⟩ ⟨by decide, by decide⟩ (rb_z hRB) hl.1 (Nat.le_of_ble_eq_true rfl) rfl dL_law_449 (fun H locs w => ?_)
  refine lv_aload_n hx hb dL_law_452 rfl (lv_at hl 2 rfl) ?_
  obtain ⟨vv12, M6, J7, hv5, h⟩ := bd3_of h
  refine x_cVi (As := []) (rest := [.int vv4]) C (Wd.ofS 8 w) (v8 (by decide)) cel_8 rfl (mtX5_rotate  hv5) q13_3 q13_4 q13_5 q1_5 q13_6 ydX5_rotate ⟨rfl, rfl⟩ ⟨by decide, by decide⟩ (rb_z hRB) hl.1 (Nat.le_of_ble_eq_true rfl) rfl dL_law_453 (fun H locs w => ?_)
  obtain ⟨G8, e10⟩ : ∃ z, z = sg G2 8 M6 := ⟨_, rfl⟩
  obtain ⟨K9, e11⟩ : ∃ z, z = sg K3 8 J7 := ⟨_, rfl⟩
  rw [← e10, ← e11] at w
  replace h := bnd_of h e10
  replace h := bnd_of h e11
  refine lv_icmp_eq (tgt := 1418) hx hb dL_law_456 (by decide) (fun c13 => ?_) (fun c13 => ?_)
  · replace h := ite_t h c13
    exact TL_law_1418 C hst hX hbl hbA hk23 _ _ _ (rb_wk hRB) h w (lv_sub hl [0, 1, 2, 3, 4] rfl)
  · replace h := ite_f h c13
    refine lv_iconst (v := (0 : Int32)) hx hb dL_law_459 (by decide) ?_
    exact absurd (Option.some.inj h) (by decide)
end XLW0
