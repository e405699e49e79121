section XLW3
variable {E : WE} {p : Program} {l : Launch} {e : Env} {s : State} {m : MethodId} {below : List Frame} {meth : Method} {c : Code} {H : Heap} {locs : List Loc} {ls : Array Slot} {F cells slots b L : Nat} {xs : Nat → Int32}
noncomputable def fbL_law_1234 (F : Nat) (k23 : Int32 → M3 → J3 → Option Int32) (xs : Nat → Int32) (L : Nat) (a4 : Int32) (G : M3) (K : J3) : Option Int32 := fbL_law_1418 F k23 xs L a4 G K
set_option maxRecDepth 20000 in
set_option maxHeartbeats 1000000 in
theorem TL_law_1234 {n : Nat} {k23 : Int32 → M3 → J3 → Option Int32} (C : Cx E (fun q : Nat => s.heap.size ≤ q) p s m #[Value.ref b] meth c (Cond.initialized RX4) code 9 ret RL) (hst : l.stackTraces = false) (hX : va_X b L xs s s.heap) (hbl : b < s.heap.size) (hbA : ¬ (fun q : Nat => s.heap.size ≤ q) b) (hk23 : ∀ (a4 : Int32) (G : M3) (K : J3) (ls : Array Slot) (H : Heap) (locs : List Loc) (cells slots : Nat), RB n cells slots → k23 a4 G K = some 1 → Wd E (fun q : Nat => s.heap.size ≤ q) s G K H locs → lv_has ls 9 [(0, .ref b), (1, .ref (ad E 6 0)), (2, .ref (ad E 8 0)), (3, .ref (ad E 9 0)), (4, .int a4)] → W p l e room_1 s m #[Value.ref b] below meth c H locs cells slots (lw_Z below #[Value.ref b] s) (F0 m 23 ls [])) (a4 : Int32) (G : M3) (K : J3) (hRB : RB n cells slots) (h : fbL_law_1234 F k23 xs L a4 G K = some 1) (w : Wd E (fun q : Nat => s.heap.size ≤ q) s G K H locs) (hl : lv_has ls 9 [(0, .ref b), (1, .ref (ad E 6 0)), (2, .ref (ad E 8 0)), (3, .ref (ad E 9 0)), (4, .int a4)]) : W p l e room_1 s m #[Value.ref b] below meth c H locs cells slots (lw_Z below #[Value.ref b] s) (F0 m 1234 ls []) := by
  obtain ⟨hx, hb, hr, hml, hown, hts, hlocks, hKK, hA1, hA2⟩ := id C
  unfold fbL_law_1234 at h
  refine lv_goto (tgt := 1418) hx hb dL_law_1234 (by decide) ?_
  exact TL_law_1418 C hst hX hbl hbA hk23 _ _ _ hRB h w (lv_sub hl [0, 1, 2, 3, 4] rfl)
noncomputable def fbL_law_1169 (F : Nat) (k23 : Int32 → M3 → J3 → Option Int32) (xs : Nat → Int32) (L : Nat) (a4 : Int32) (G : M3) (K : J3) : Option Int32 := chk (inb (a4 + (1 : Int32)) L) (chk (inb (a4 + (2 : Int32)) L) (bd3 (fL_bestOrder F (xs (a4 + (1 : Int32)).toNatClampNeg) (xs (a4 + (2 : Int32)).toNatClampNeg) G K) (fun vv3 G4 K5 => chk (inb (a4 + (1 : Int32)) L) (chk (inb (a4 + (2 : Int32)) L) (bd3 (fX5_bestOrder F (xs (a4 + (1 : Int32)).toNatClampNeg) (xs (a4 + (2 : Int32)).toNatClampNeg) (G4 8) (K5 8)) (fun vv16 M10 J11 => bnd (sg G4 8 M10) (fun G12 => bnd (sg K5 8 J11) (fun K13 => (if (fX5_thrown (G12 8) (K13 8)) = vv3 then ((if ¬ vv3 = 0 then (fbL_law_1234 F k23 xs L a4 G12 K13) else ((if (lg_cmp (K13 9 0 0) (vv16.toInt64)) = 0 then (fbL_law_1234 F k23 xs L a4 G12 K13) else (some 0))))) else (some 0))))))))))
set_option maxRecDepth 20000 in
set_option maxHeartbeats 1000000 in
theorem TL_law_1169 {n : Nat} {k23 : Int32 → M3 → J3 → Option Int32} (C : Cx E (fun q : Nat => s.heap.size ≤ q) p s m #[Value.ref b] meth c (Cond.initialized RX4) code 9 ret RL) (hst : l.stackTraces = false) (hX : va_X b L xs s s.heap) (hbl : b < s.heap.size) (hbA : ¬ (fun q : Nat => s.heap.size ≤ q) b) (hk23 : ∀ (a4 : Int32) (G : M3) (K : J3) (ls : Array Slot) (H : Heap) (locs : List Loc) (cells slots : Nat), RB n cells slots → k23 a4 G K = some 1 → Wd E (fun q : Nat => s.heap.size ≤ q) s G K H locs → lv_has ls 9 [(0, .ref b), (1, .ref (ad E 6 0)), (2, .ref (ad E 8 0)), (3, .ref (ad E 9 0)), (4, .int a4)] → W p l e room_1 s m #[Value.ref b] below meth c H locs cells slots (lw_Z below #[Value.ref b] s) (F0 m 23 ls [])) (a4 : Int32) (G : M3) (K : J3) (hRB : RB (n + 1) cells slots) (h : fbL_law_1169 F k23 xs L a4 G K = some 1) (w : Wd E (fun q : Nat => s.heap.size ≤ q) s G K H locs) (hl : lv_has ls 9 [(0, .ref b), (1, .ref (ad E 6 0)), (2, .ref (ad E 8 0)), (3, .ref (ad E 9 0)), (4, .int a4)]) : W p l e room_1 s m #[Value.ref b] below meth c H locs cells slots (lw_Z below #[Value.ref b] s) (F0 m 1169 ls []) := by
  obtain ⟨hx, hb, hr, hml, hown, hts, hlocks, hKK, hA1, hA2⟩ := id C
  unfold fbL_law_1169 at h
  refine lv_aload_n hx hb dL_law_1169 rfl (lv_at hl 1 rfl) ?_
  refine lv_aload_n hx hb dL_law_1170 rfl (lv_at hl 0 rfl) ?_
  refine lv_iload hx hb dL_law_1171 (lv_at hl 4 rfl) ?_
  refine lv_iconst (v := (1 : Int32)) hx hb dL_law_1173 (by decide) ?_
  refine lv_iadd hx hb dL_law_1174 ?_
  obtain ⟨ki1, h⟩ := chk_of h
  refine x_scr C w hX hbl hbA ki1 rfl dL_law_1175 ?_
  refine lv_aload_n hx hb dL_law_1176 rfl (lv_at hl 0 rfl) ?_
  refine lv_iload hx hb dL_law_1177 (lv_at hl 4 rfl) ?_
  refine lv_iconst (v := (2 : Int32)) hx hb dL_law_1179 (by decide) ?_
  refine lv_iadd hx hb dL_law_1180 ?_
  obtain ⟨ki2, h⟩ := chk_of h
  refine x_scr C w hX hbl hbA ki2 rfl dL_law_1181 ?_
  refine lv_aload_n hx hb dL_law_1182 rfl (lv_at hl 3 rfl) ?_
  obtain ⟨vv3, G4, K5, hv6, h⟩ := bd3_of h
  refine x_cWi (As := [.ref (ad E 6 0), .int (xs (a4 + (1 : Int32)).toNatClampNeg), .int (xs (a4 + (2 : Int32)).toNatClampNeg), .ref (ad E 9 0)]) (rest := []) C w (mtL_bestOrder hst hv6) q26_11 q26_12 q4_4 q26_13 ynL_bestOrder ⟨rfl, rfl⟩ ⟨by decide, by decide⟩ (rb_c hRB) hl.1 (Nat.le_of_ble_eq_true rfl) rfl dL_law_1183 (fun H locs w => ?_)
  replace hRB := rb_go hRB
  refine lv_istore (lv' := [(5, .int vv3), (0, .ref b), (1, .ref (ad E 6 0)), (2, .ref (ad E 8 0)), (3, .ref (ad E 9 0)), (4, .int a4)]) hx hb dL_law_1186 hl (by decide) rfl (fun ls hl => ?_)
  refine lv_aload_n hx hb dL_law_1188 rfl (lv_at hl 3 rfl) ?_
  refine lv_aload_n hx hb dL_law_1189 rfl (lv_at hl 1 rfl) ?_
  refine lv_iload hx hb dL_law_1190 (lv_at hl 5 rfl) ?_
  refine lv_iconst (v := (1 : Int32)) hx hb dL_law_1192 (by decide) ?_
  refine lv_iadd hx hb dL_law_1193 ?_
  obtain ⟨ki7, h⟩ := chk_of h
  refine x_scr C w hX hbl hbA ki7 rfl dL_law_1194 ?_
  refine lv_aload_n hx hb dL_law_1195 rfl (lv_at hl 1 rfl) ?_
  refine lv_iload hx hb dL_law_1196 (lv_at hl 5 rfl) ?_
  refine lv_iconst (v := (2 : Int32)) hx hb dL_law_1198 (by decide) ?_
  refine lv_iadd hx hb dL_law_1199 ?_
  obtain ⟨ki8, h⟩ := chk_of h
  refine x_scr C w hX hbl hbA ki8 rfl dL_law_1200 ?_
  obtain ⟨vv16, M10, J11, hv9, h⟩ := bd3_of h
  refine x_cVi (As := [.int (xs (a4 + (1 : Int32)).toNatClampNeg), .int (xs (a4 + (2 : Int32)).toNatClampNeg)]) (rest := []) C (Wd.ofS 8 w) (v8 (by decide)) cel_8 rfl (mtX5_bestOrder  hv9) q27_9 q27_10 q27_11 q1_5 q27_12 ydX5_bestOrder ⟨rfl, rfl⟩ ⟨by decide, by decide⟩ (rb_z hRB) hl.1 (Nat.le_of_ble_eq_true rfl) rfl dL_law_1201 (fun H locs w => ?_)
  obtain ⟨G12, e14⟩ : ∃ z, z = sg G4 8 M10 := ⟨_, rfl⟩
  obtain ⟨K13, e15⟩ : ∃ z, z = sg K5 8 J11 := ⟨_, rfl⟩
  rw [← e14, ← e15] at w
  replace h := bnd_of h e14
  replace h := bnd_of h e15
  refine lv_istore (lv' := [(6, .int vv16), (5, .int vv3), (0, .ref b), (1, .ref (ad E 6 0)), (2, .ref (ad E 8 0)), (3, .ref (ad E 9 0)), (4, .int a4)]) hx hb dL_law_1204 hl (by decide) rfl (fun ls hl => ?_)
  refine lv_aload_n hx hb dL_law_1206 rfl (lv_at hl 4 rfl) ?_
  refine x_cVi (As := []) (rest := []) C (Wd.ofS 8 w) (v8 (by decide)) cel_8 rfl (mtX5_thrown ) q8_1 q8_2 q8_3 q1_5 q8_4 ydX5_thrown ⟨rfl, rfl⟩ ⟨by decide, by decide⟩ (rb_z hRB) hl.1 (Nat.le_of_ble_eq_true rfl) rfl dL_law_1207 (fun H locs w => ?_)
  have w := Wd.back w
  refine lv_iload hx hb dL_law_1210 (lv_at hl 1 rfl) ?_
  refine lv_icmp_eq (tgt := 1217) hx hb dL_law_1212 (by decide) (fun c17 => ?_) (fun c17 => ?_)
  · replace h := ite_t h c17
    refine lv_iload hx hb dL_law_1217 (lv_at hl 1 rfl) ?_
    refine lv_if_ne (tgt := 1234) hx hb dL_law_1219 (by decide) (fun c18 => ?_) (fun c18 => ?_)
    · replace h := ite_t h c18
      exact TL_law_1234 C hst hX hbl hbA hk23 _ _ _ hRB h w (lv_sub hl [2, 3, 4, 5, 6] rfl)
    · replace h := ite_f h (fun z => z c18)
      refine lv_aload_n hx hb dL_law_1222 rfl (lv_at hl 5 rfl) ?_
      refine lv_iconst (v := (0 : Int32)) hx hb dL_law_1223 (by decide) ?_
      refine x_aldJ C w v9 c9_0 (inb_k (k := 0) (by decide) (by decide)) cl_0 dL_law_1224 ?_
      refine lv_iload hx hb dL_law_1225 (lv_at hl 0 rfl) ?_
      refine lv_i2l hx hb dL_law_1227 rfl ?_
      refine W.lcmp hx hb dL_law_1228 ?_
      refine lv_if_eq (tgt := 1234) hx hb dL_law_1229 (by decide) (fun c19 => ?_) (fun c19 => ?_)
      · replace h := ite_t h c19
        exact TL_law_1234 C hst hX hbl hbA hk23 _ _ _ hRB h w (lv_sub hl [2, 3, 4, 5, 6] rfl)
      · replace h := ite_f h c19
        refine lv_iconst (v := (0 : Int32)) hx hb dL_law_1232 (by decide) ?_
        exact absurd (Option.some.inj h) (by decide)
  · replace h := ite_f h c17
    refine lv_iconst (v := (0 : Int32)) hx hb dL_law_1215 (by decide) ?_
    exact absurd (Option.some.inj h) (by decide)
noncomputable def fbL_law_1275 (F : Nat) (k23 : Int32 → M3 → J3 → Option Int32) (xs : Nat → Int32) (L : Nat) (a4 : Int32) (G : M3) (K : J3) : Option Int32 := fbL_law_1418 F k23 xs L a4 G K
set_option maxRecDepth 20000 in
set_option maxHeartbeats 1000000 in
theorem TL_law_1275 {n : Nat} {k23 : Int32 → M3 → J3 → Option Int32} (C : Cx E (fun q : Nat => s.heap.size ≤ q) p s m #[Value.ref b] meth c (Cond.initialized RX4) code 9 ret RL) (hst : l.stackTraces = false) (hX : va_X b L xs s s.heap) (hbl : b < s.heap.size) (hbA : ¬ (fun q : Nat => s.heap.size ≤ q) b) (hk23 : ∀ (a4 : Int32) (G : M3) (K : J3) (ls : Array Slot) (H : Heap) (locs : List Loc) (cells slots : Nat), RB n cells slots → k23 a4 G K = some 1 → Wd E (fun q : Nat => s.heap.size ≤ q) s G K H locs → lv_has ls 9 [(0, .ref b), (1, .ref (ad E 6 0)), (2, .ref (ad E 8 0)), (3, .ref (ad E 9 0)), (4, .int a4)] → W p l e room_1 s m #[Value.ref b] below meth c H locs cells slots (lw_Z below #[Value.ref b] s) (F0 m 23 ls [])) (a4 : Int32) (G : M3) (K : J3) (hRB : RB n cells slots) (h : fbL_law_1275 F k23 xs L a4 G K = some 1) (w : Wd E (fun q : Nat => s.heap.size ≤ q) s G K H locs) (hl : lv_has ls 9 [(0, .ref b), (1, .ref (ad E 6 0)), (2, .ref (ad E 8 0)), (3, .ref (ad E 9 0)), (4, .int a4)]) : W p l e room_1 s m #[Value.ref b] below meth c H locs cells slots (lw_Z below #[Value.ref b] s) (F0 m 1275 ls []) := by
  obtain ⟨hx, hb, hr, hml, hown, hts, hlocks, hKK, hA1, hA2⟩ := id C
  unfold fbL_law_1275 at h
  refine lv_goto (tgt := 1418) hx hb dL_law_1275 (by decide) ?_
  exact TL_law_1418 C hst hX hbl hbA hk23 _ _ _ hRB h w (lv_sub hl [0, 1, 2, 3, 4] rfl)
noncomputable def fbL_law_1237 (F : Nat) (k23 : Int32 → M3 → J3 → Option Int32) (xs : Nat → Int32) (L : Nat) (a4 : Int32) (G : M3) (K : J3) : Option Int32 := (fX4_loadedShare F G K).bind (fun vv2 => bd3 (fX5_loadedShare F (G 8) (K 8)) (fun vv10 M4 J5 => bnd (sg G 8 M4) (fun G6 => bnd (sg K 8 J5) (fun K7 => (if (Op.cmpValue (FP.dcmp vv2 vv10) .l) = 0 then (fbL_law_1275 F k23 xs L a4 G6 K7) else ((if (Op.cmpValue (FP.dcmp vv2 vv2) .l) = 0 then (some 0) else ((if ¬ (Op.cmpValue (FP.dcmp vv10 vv10) .l) = 0 then (fbL_law_1275 F k23 xs L a4 G6 K7) else (some 0))))))))))
set_option maxRecDepth 20000 in
set_option maxHeartbeats 1000000 in
theorem TL_law_1237 {n : Nat} {k23 : Int32 → M3 → J3 → Option Int32} (C : Cx E (fun q : Nat => s.heap.size ≤ q) p s m #[Value.ref b] meth c (Cond.initialized RX4) code 9 ret RL) (hst : l.stackTraces = false) (hX : va_X b L xs s s.heap) (hbl : b < s.heap.size) (hbA : ¬ (fun q : Nat => s.heap.size ≤ q) b) (hk23 : ∀ (a4 : Int32) (G : M3) (K : J3) (ls : Array Slot) (H : Heap) (locs : List Loc) (cells slots : Nat), RB n cells slots → k23 a4 G K = some 1 → Wd E (fun q : Nat => s.heap.size ≤ q) s G K H locs → lv_has ls 9 [(0, .ref b), (1, .ref (ad E 6 0)), (2, .ref (ad E 8 0)), (3, .ref (ad E 9 0)), (4, .int a4)] → W p l e room_1 s m #[Value.ref b] below meth c H locs cells slots (lw_Z below #[Value.ref b] s) (F0 m 23 ls [])) (a4 : Int32) (G : M3) (K : J3) (hRB : RB (n + 1) cells slots) (h : fbL_law_1237 F k23 xs L a4 G K = some 1) (w : Wd E (fun q : Nat => s.heap.size ≤ q) s G K H locs) (hl : lv_has ls 9 [(0, .ref b), (1, .ref (ad E 6 0)), (2, .ref (ad E 8 0)), (3, .ref (ad E 9 0)), (4, .int a4)]) : W p l e room_1 s m #[Value.ref b] below meth c H locs cells slots (lw_Z below #[Value.ref b] s) (F0 m 1237 ls []) := by
  obtain ⟨hx, hb, hr, hml, hown, hts, hlocks, hKK, hA1, hA2⟩ := id C
  unfold fbL_law_1237 at h
  refine lv_aload_n hx hb dL_law_1237 rfl (lv_at hl 1 rfl) ?_
  obtain ⟨vv2, hv1, h⟩ := bind_of h
  refine x_cVd (As := []) (rest := []) C w (v6 (by decide)) cel_6 rfl (mtX4_loadedShare  hv1) q27_18 q27_19 q27_20 q1_2 q27_21 ydX4_loadedShare ⟨rfl, rfl⟩ ⟨by decide, by decide⟩ (rb_z hRB) hl.1 (Nat.le_of_ble_eq_true rfl) rfl dL_law_1238 (fun H locs w => ?_)
  refine lv_dstore (lv' := [(5, .double vv2), (0, .ref b), (1, .ref (ad E 6 0)), (2, .ref (ad E 8 0)), (3, .ref (ad E 9 0)), (4, .int a4)]) hx hb dL_law_1241 hl (by decide) rfl (fun ls hl => ?_)
  refine lv_aload_n hx hb dL_law_1243 rfl (lv_at hl 3 rfl) ?_
  obtain ⟨vv10, M4, J5, hv3, h⟩ := bd3_of h
  refine x_cVd (As := []) (rest := []) C (Wd.ofS 8 w) (v8 (by decide)) cel_8 rfl (mtX5_loadedShare  hv3) q28_3 q28_4 q28_5 q1_5 q28_6 ydX5_loadedShare ⟨rfl, rfl⟩ ⟨by decide, by decide⟩ (rb_z hRB) hl.1 (Nat.le_of_ble_eq_true rfl) rfl dL_law_1244 (fun H locs w => ?_)
  obtain ⟨G6, e8⟩ : ∃ z, z = sg G 8 M4 := ⟨_, rfl⟩
  obtain ⟨K7, e9⟩ : ∃ z, z = sg K 8 J5 := ⟨_, rfl⟩
  rw [← e8, ← e9] at w
  replace h := bnd_of h e8
  replace h := bnd_of h e9
  refine lv_dstore (lv' := [(7, .double vv10), (5, .double vv2), (0, .ref b), (1, .ref (ad E 6 0)), (2, .ref (ad E 8 0)), (3, .ref (ad E 9 0)), (4, .int a4)]) hx hb dL_law_1247 hl (by decide) rfl (fun ls hl => ?_)
  refine lv_dload hx hb dL_law_1249 (lv_at hl 1 rfl) ?_
  refine lv_dload hx hb dL_law_1251 (lv_at hl 0 rfl) ?_
  refine lv_dcmp hx hb dL_law_1253 ?_
  refine lv_if_eq (tgt := 1275) hx hb dL_law_1254 (by decide) (fun c11 => ?_) (fun c11 => ?_)
  · replace h := ite_t h c11
    exact TL_law_1275 C hst hX hbl hbA hk23 _ _ _ (rb_wk hRB) h w (lv_sub hl [2, 3, 4, 5, 6] rfl)
  · replace h := ite_f h c11
    refine lv_dload hx hb dL_law_1257 (lv_at hl 1 rfl) ?_
    refine lv_dload hx hb dL_law_1259 (lv_at hl 1 rfl) ?_
    refine lv_dcmp hx hb dL_law_1261 ?_
    refine lv_if_eq (tgt := 1273) hx hb dL_law_1262 (by decide) (fun c12 => ?_) (fun c12 => ?_)
    · replace h := ite_t h c12
      refine lv_iconst (v := (0 : Int32)) hx hb dL_law_1273 (by decide) ?_
      exact absurd (Option.some.inj h) (by decide)
    · replace h := ite_f h c12
      refine lv_dload hx hb dL_law_1265 (lv_at hl 0 rfl) ?_
      refine lv_dload hx hb dL_law_1267 (lv_at hl 0 rfl) ?_
      refine lv_dcmp hx hb dL_law_1269 ?_
      refine lv_if_ne (tgt := 1275) hx hb dL_law_1270 (by decide) (fun c13 => ?_) (fun c13 => ?_)
      · replace h := ite_t h c13
        exact TL_law_1275 C hst hX hbl hbA hk23 _ _ _ (rb_wk hRB) h w (lv_sub hl [2, 3, 4, 5, 6] rfl)
      · replace h := ite_f h (fun z => z c13)
        refine lv_iconst (v := (0 : Int32)) hx hb dL_law_1273 (by decide) ?_
        exact absurd (Option.some.inj h) (by decide)
noncomputable def fbL_law_1331 (F : Nat) (k23 : Int32 → M3 → J3 → Option Int32) (xs : Nat → Int32) (L : Nat) (a4 : Int32) (G : M3) (K : J3) : Option Int32 := fbL_law_1418 F k23 xs L a4 G K
set_option maxRecDepth 20000 in
set_option maxHeartbeats 1000000 in
theorem TL_law_1331 {n : Nat} {k23 : Int32 → M3 → J3 → Option Int32} (C : Cx E (fun q : Nat => s.heap.size ≤ q) p s m #[Value.ref b] meth c (Cond.initialized RX4) code 9 ret RL) (hst : l.stackTraces = false) (hX : va_X b L xs s s.heap) (hbl : b < s.heap.size) (hbA : ¬ (fun q : Nat => s.heap.size ≤ q) b) (hk23 : ∀ (a4 : Int32) (G : M3) (K : J3) (ls : Array Slot) (H : Heap) (locs : List Loc) (cells slots : Nat), RB n cells slots → k23 a4 G K = some 1 → Wd E (fun q : Nat => s.heap.size ≤ q) s G K H locs → lv_has ls 9 [(0, .ref b), (1, .ref (ad E 6 0)), (2, .ref (ad E 8 0)), (3, .ref (ad E 9 0)), (4, .int a4)] → W p l e room_1 s m #[Value.ref b] below meth c H locs cells slots (lw_Z below #[Value.ref b] s) (F0 m 23 ls [])) (a4 : Int32) (G : M3) (K : J3) (hRB : RB n cells slots) (h : fbL_law_1331 F k23 xs L a4 G K = some 1) (w : Wd E (fun q : Nat => s.heap.size ≤ q) s G K H locs) (hl : lv_has ls 9 [(0, .ref b), (1, .ref (ad E 6 0)), (2, .ref (ad E 8 0)), (3, .ref (ad E 9 0)), (4, .int a4)]) : W p l e room_1 s m #[Value.ref b] below meth c H locs cells slots (lw_Z below #[Value.ref b] s) (F0 m 1331 ls []) := by
  obtain ⟨hx, hb, hr, hml, hown, hts, hlocks, hKK, hA1, hA2⟩ := id C
  unfold fbL_law_1331 at h
  refine lv_goto (tgt := 1418) hx hb dL_law_1331 (by decide) ?_
  exact TL_law_1418 C hst hX hbl hbA hk23 _ _ _ hRB h w (lv_sub hl [0, 1, 2, 3, 4] rfl)
noncomputable def fbL_law_1278 (F : Nat) (k23 : Int32 → M3 → J3 → Option Int32) (xs : Nat → Int32) (L : Nat) (a4 : Int32) (G : M3) (K : J3) : Option Int32 := chk (inb (a4 + (1 : Int32)) L) (bd3 (fL_append (xs (a4 + (1 : Int32)).toNatClampNeg) G K) (fun vv2 G3 K4 => chk (inb (a4 + (1 : Int32)) L) (bd3 (fX5_append (xs (a4 + (1 : Int32)).toNatClampNeg) (G3 8) (K4 8)) (fun vv14 M8 J9 => bnd (sg G3 8 M8) (fun G10 => bnd (sg K4 8 J9) (fun K11 => (if (fX5_thrown (G10 8) (K11 8)) = vv2 then ((if ¬ vv2 = 0 then (fbL_law_1331 F k23 xs L a4 G10 K11) else ((if (lg_cmp (K11 9 0 0) (vv14.toInt64)) = 0 then (fbL_law_1331 F k23 xs L a4 G10 K11) else (some 0))))) else (some 0))))))))
set_option maxRecDepth 20000 in
set_option maxHeartbeats 1000000 in
theorem TL_law_1278 {n : Nat} {k23 : Int32 → M3 → J3 → Option Int32} (C : Cx E (fun q : Nat => s.heap.size ≤ q) p s m #[Value.ref b] meth c (Cond.initialized RX4) code 9 ret RL) (hst : l.stackTraces = false) (hX : va_X b L xs s s.heap) (hbl : b < s.heap.size) (hbA : ¬ (fun q : Nat => s.heap.size ≤ q) b) (hk23 : ∀ (a4 : Int32) (G : M3) (K : J3) (ls : Array Slot) (H : Heap) (locs : List Loc) (cells slots : Nat), RB n cells slots → k23 a4 G K = some 1 → Wd E (fun q : Nat => s.heap.size ≤ q) s G K H locs → lv_has ls 9 [(0, .ref b), (1, .ref (ad E 6 0)), (2, .ref (ad E 8 0)), (3, .ref (ad E 9 0)), (4, .int a4)] → W p l e room_1 s m #[Value.ref b] below meth c H locs cells slots (lw_Z below #[Value.ref b] s) (F0 m 23 ls [])) (a4 : Int32) (G : M3) (K : J3) (hRB : RB (n + 1) cells slots) (h : fbL_law_1278 F k23 xs L a4 G K = some 1) (w : Wd E (fun q : Nat => s.heap.size ≤ q) s G K H locs) (hl : lv_has ls 9 [(0, .ref b), (1, .ref (ad E 6 0)), (2, .ref (ad E 8 0)), (3, .ref (ad E 9 0)), (4, .int a4)]) : W p l e room_1 s m #[Value.ref b] below meth c H locs cells slots (lw_Z below #[Value.ref b] s) (F0 m 1278 ls []) := by
  obtain ⟨hx, hb, hr, hml, hown, hts, hlocks, hKK, hA1, hA2⟩ := id C
  unfold fbL_law_1278 at h
  refine lv_aload_n hx hb dL_law_1278 rfl (lv_at hl 1 rfl) ?_
  refine lv_aload_n hx hb dL_law_1279 rfl (lv_at hl 0 rfl) ?_
  refine lv_iload hx hb dL_law_1280 (lv_at hl 4 rfl) ?_
  refine lv_iconst (v := (1 : Int32)) hx hb dL_law_1282 (by decide) ?_
  refine lv_iadd hx hb dL_law_1283 ?_
  obtain ⟨ki1, h⟩ := chk_of h
  refine x_scr C w hX hbl hbA ki1 rfl dL_law_1284 ?_
  refine lv_aload_n hx hb dL_law_1285 rfl (lv_at hl 3 rfl) ?_
  obtain ⟨vv2, G3, K4, hv5, h⟩ := bd3_of h
  refine x_cWi (As := [.ref (ad E 6 0), .int (xs (a4 + (1 : Int32)).toNatClampNeg), .ref (ad E 9 0)]) (rest := []) C w (mtL_append hst hv5) q28_8 q28_9 q4_4 q28_10 ynL_append ⟨rfl, rfl⟩ ⟨by decide, by decide⟩ (rb_c hRB) hl.1 (Nat.le_of_ble_eq_true rfl) rfl dL_law_1286 (fun H locs w => ?_)
  replace hRB := rb_go hRB
  refine lv_istore (lv' := [(5, .int vv2), (0, .ref b), (1, .ref (ad E 6 0)), (2, .ref (ad E 8 0)), (3, .ref (ad E 9 0)), (4, .int a4)]) hx hb dL_law_1289 hl (by decide) rfl (fun ls hl => ?_)
  refine lv_aload_n hx hb dL_law_1291 rfl (lv_at hl 3 rfl) ?_
  refine lv_aload_n hx hb dL_law_1292 rfl (lv_at hl 1 rfl) ?_
  refine lv_iload hx hb dL_law_1293 (lv_at hl 5 rfl) ?_
  refine lv_iconst (v := (1 : Int32)) hx hb dL_law_1295 (by decide) ?_
  refine lv_iadd hx hb dL_law_1296 ?_
  obtain ⟨ki6, h⟩ := chk_of h
  refine x_scr C w hX hbl hbA ki6 rfl dL_law_1297 ?_
  obtain ⟨vv14, M8, J9, hv7, h⟩ := bd3_of h
  refine x_cVi (As := [.int (xs (a4 + (1 : Int32)).toNatClampNeg)]) (rest := []) C (Wd.ofS 8 w) (v8 (by decide)) cel_8 rfl (mtX5_append  hv7) q28_21 q28_22 q28_23 q1_5 q29_0 ydX5_append ⟨rfl, rfl⟩ ⟨by decide, by decide⟩ (rb_z hRB) hl.1 (Nat.le_of_ble_eq_true rfl) rfl dL_law_1298 (fun H locs w => ?_)
  obtain ⟨G10, e12⟩ : ∃ z, z = sg G3 8 M8 := ⟨_, rfl⟩
  obtain ⟨K11, e13⟩ : ∃ z, z = sg K4 8 J9 := ⟨_, rfl⟩
  rw [← e12, ← e13] at w
  replace h := bnd_of h e12
  replace h := bnd_of h e13
  refine lv_istore (lv' := [(6, .int vv14), (5, .int vv2), (0, .ref b), (1, .ref (ad E 6 0)), (2, .ref (ad E 8 0)), (3, .ref (ad E 9 0)), (4, .int a4)]) hx hb dL_law_1301 hl (by decide) rfl (fun ls hl => ?_)
  refine lv_aload_n hx hb dL_law_1303 rfl (lv_at hl 4 rfl) ?_
  refine x_cVi (As := []) (rest := []) C (Wd.ofS 8 w) (v8 (by decide)) cel_8 rfl (mtX5_thrown ) q8_1 q8_2 q8_3 q1_5 q8_4 ydX5_thrown ⟨rfl, rfl⟩ ⟨by decide, by decide⟩ (rb_z hRB) hl.1 (Nat.le_of_ble_eq_true rfl) rfl dL_law_1304 (fun H locs w => ?_)
  have w := Wd.back w
  refine lv_iload hx hb dL_law_1307 (lv_at hl 1 rfl) ?_
  refine lv_icmp_eq (tgt := 1314) hx hb dL_law_1309 (by decide) (fun c15 => ?_) (fun c15 => ?_)
  · replace h := ite_t h c15
    refine lv_iload hx hb dL_law_1314 (lv_at hl 1 rfl) ?_
    refine lv_if_ne (tgt := 1331) hx hb dL_law_1316 (by decide) (fun c16 => ?_) (fun c16 => ?_)
    · replace h := ite_t h c16
      exact TL_law_1331 C hst hX hbl hbA hk23 _ _ _ hRB h w (lv_sub hl [2, 3, 4, 5, 6] rfl)
    · replace h := ite_f h (fun z => z c16)
      refine lv_aload_n hx hb dL_law_1319 rfl (lv_at hl 5 rfl) ?_
      refine lv_iconst (v := (0 : Int32)) hx hb dL_law_1320 (by decide) ?_
      refine x_aldJ C w v9 c9_0 (inb_k (k := 0) (by decide) (by decide)) cl_0 dL_law_1321 ?_
      refine lv_iload hx hb dL_law_1322 (lv_at hl 0 rfl) ?_
      refine lv_i2l hx hb dL_law_1324 rfl ?_
      refine W.lcmp hx hb dL_law_1325 ?_
      refine lv_if_eq (tgt := 1331) hx hb dL_law_1326 (by decide) (fun c17 => ?_) (fun c17 => ?_)
      · replace h := ite_t h c17
        exact TL_law_1331 C hst hX hbl hbA hk23 _ _ _ hRB h w (lv_sub hl [2, 3, 4, 5, 6] rfl)
      · replace h := ite_f h c17
        refine lv_iconst (v := (0 : Int32)) hx hb dL_law_1329 (by decide) ?_
        exact absurd (Option.some.inj h) (by decide)
  · replace h := ite_f h c15
    refine lv_iconst (v := (0 : Int32)) hx hb dL_law_1312 (by decide) ?_
    exact absurd (Option.some.inj h) (by decide)
noncomputable def fbL_law_1334 (F : Nat) (k23 : Int32 → M3 → J3 → Option Int32) (xs : Nat → Int32) (L : Nat) (a4 : Int32) (G : M3) (K : J3) : Option Int32 := bd3 (fX4_clearText G K) (fun vv4 G2 K3 => bd3 (fX5_clearText (G2 8) (K3 8)) (fun vv12 M6 J7 => bnd (sg G2 8 M6) (fun G8 => bnd (sg K3 8 J7) (fun K9 => (if vv4 = vv12 then (fbL_law_1418 F k23 xs L a4 G8 K9) else (some 0))))))
set_option maxRecDepth 20000 in
set_option maxHeartbeats 1000000 in
theorem TL_law_1334 {n : Nat} {k23 : Int32 → M3 → J3 → Option Int32} (C : Cx E (fun q : Nat => s.heap.size ≤ q) p s m #[Value.ref b] meth c (Cond.initialized RX4) code 9 ret RL) (hst : l.stackTraces = false) (hX : va_X b L xs s s.heap) (hbl : b < s.heap.size) (hbA : ¬ (fun q : Nat => s.heap.size ≤ q) b) (hk23 : ∀ (a4 : Int32) (G : M3) (K : J3) (ls : Array Slot) (H : Heap) (locs : List Loc) (cells slots : Nat), RB n cells slots → k23 a4 G K = some 1 → Wd E (fun q : Nat => s.heap.size ≤ q) s G K H locs → lv_has ls 9 [(0, .ref b), (1, .ref (ad E 6 0)), (2, .ref (ad E 8 0)), (3, .ref (ad E 9 0)), (4, .int a4)] → W p l e room_1 s m #[Value.ref b] below meth c H locs cells slots (lw_Z below #[Value.ref b] s) (F0 m 23 ls [])) (a4 : Int32) (G : M3) (K : J3) (hRB : RB (n + 1) cells slots) (h : fbL_law_1334 F k23 xs L a4 G K = some 1) (w : Wd E (fun q : Nat => s.heap.size ≤ q) s G K H locs) (hl : lv_has ls 9 [(0, .ref b), (1, .ref (ad E 6 0)), (2, .ref (ad E 8 0)), (3, .ref (ad E 9 0)), (4, .int a4)]) : W p l e room_1 s m #[Value.ref b] below meth c H locs cells slots (lw_Z below #[Value.ref b] s) (F0 m 1334 ls []) := by
  obtain ⟨hx, hb, hr, hml, hown, hts, hlocks, hKK, hA1, hA2⟩ := id C
  unfold fbL_law_1334 at h
  refine lv_aload_n hx hb dL_law_1334 rfl (lv_at hl 1 rfl) ?_
  obtain ⟨vv4, G2, K3, hv1, h⟩ := bd3_of h
  refine x_cVi (As := []) (rest := []) C w (v6 (by decide)) cel_6 rfl (mtX4_clearText  hv1) q29_2 q29_3 q29_4 q1_2 q29_5 ydX4_clearText ⟨rfl, rfl⟩ ⟨by decide, by decide⟩ (rb_z hRB) hl.1 (Nat.le_of_ble_eq_true rfl) rfl dL_law_1335 (fun H locs w => ?_)
  refine lv_aload_n hx hb dL_law_1338 rfl (lv_at hl 2 rfl) ?_
  obtain ⟨vv12, M6, J7, hv5, h⟩ := bd3_of h
  refine x_cVi (As := []) (rest := [.int vv4]) C (Wd.ofS 8 w) (v8 (by decide)) cel_8 rfl (mtX5_clearText  hv5) q29_6 q29_7 q29_8 q1_5 q29_9 ydX5_clearText ⟨rfl, rfl⟩ ⟨by decide, by decide⟩ (rb_z hRB) hl.1 (Nat.le_of_ble_eq_true rfl) rfl dL_law_1339 (fun H locs w => ?_)
  obtain ⟨G8, e10⟩ : ∃ z, z = sg G2 8 M6 := ⟨_, rfl⟩
  obtain ⟨K9, e11⟩ : ∃ z, z = sg K3 8 J7 := ⟨_, rfl⟩
  rw [← e10, ← e11] at w
  replace h := bnd_of h e10
  replace h := bnd_of h e11
  refine lv_icmp_eq (tgt := 1418) hx hb dL_law_1342 (by decide) (fun c13 => ?_) (fun c13 => ?_)
  · replace h := ite_t h c13
    exact TL_law_1418 C hst hX hbl hbA hk23 _ _ _ (rb_wk hRB) h w (lv_sub hl [0, 1, 2, 3, 4] rfl)
  · replace h := ite_f h c13
    refine lv_iconst (v := (0 : Int32)) hx hb dL_law_1345 (by decide) ?_
    exact absurd (Option.some.inj h) (by decide)
noncomputable def fbL_law_1347 (F : Nat) (k23 : Int32 → M3 → J3 → Option Int32) (xs : Nat → Int32) (L : Nat) (a4 : Int32) (G : M3) (K : J3) : Option Int32 := bd3 (fX4_carryOut F G K) (fun vv4 G2 K3 => bd3 (fX5_carryOut F (G2 8) (K3 8)) (fun vv12 M6 J7 => bnd (sg G2 8 M6) (fun G8 => bnd (sg K3 8 J7) (fun K9 => (if vv4 = vv12 then (fbL_law_1418 F k23 xs L a4 G8 K9) else (some 0))))))
set_option maxRecDepth 20000 in
set_option maxHeartbeats 1000000 in
theorem TL_law_1347 {n : Nat} {k23 : Int32 → M3 → J3 → Option Int32} (C : Cx E (fun q : Nat => s.heap.size ≤ q) p s m #[Value.ref b] meth c (Cond.initialized RX4) code 9 ret RL) (hst : l.stackTraces = false) (hX : va_X b L xs s s.heap) (hbl : b < s.heap.size) (hbA : ¬ (fun q : Nat => s.heap.size ≤ q) b) (hk23 : ∀ (a4 : Int32) (G : M3) (K : J3) (ls : Array Slot) (H : Heap) (locs : List Loc) (cells slots : Nat), RB n cells slots → k23 a4 G K = some 1 → Wd E (fun q : Nat => s.heap.size ≤ q) s G K H locs → lv_has ls 9 [(0, .ref b), (1, .ref (ad E 6 0)), (2, .ref (ad E 8 0)), (3, .ref (ad E 9 0)), (4, .int a4)] → W p l e room_1 s m #[Value.ref b] below meth c H locs cells slots (lw_Z below #[Value.ref b] s) (F0 m 23 ls [])) (a4 : Int32) (G : M3) (K : J3) (hRB : RB (n + 1) cells slots) (h : fbL_law_1347 F k23 xs L a4 G K = some 1) (w : Wd E (fun q : Nat => s.heap.size ≤ q) s G K H locs) (hl : lv_has ls 9 [(0, .ref b), (1, .ref (ad E 6 0)), (2, .ref (ad E 8 0)), (3, .ref (ad E 9 0)), (4, .int a4)]) : W p l e room_1 s m #[Value.ref b] below meth c H locs cells slots (lw_Z below #[Value.ref b] s) (F0 m 1347 ls []) := by
  obtain ⟨hx, hb, hr, hml, hown, hts, hlocks, hKK, hA1, hA2⟩ := id C
  unfold fbL_law_1347 at h
  refine lv_aload_n hx hb dL_law_1347 rfl (lv_at hl 1 rfl) ?_
  obtain ⟨vv4, G2, K3, hv1, h⟩ := bd3_of h
  refine x_cVi (As := []) (rest := []) C w (v6 (by decide)) cel_6 rfl (mtX4_carryOut  hv1) q29_10 q29_11 q29_12 q1_2 q29_13 ydX4_carryOut ⟨rfl, rfl⟩ ⟨by decide, by decide⟩ (rb_z hRB) hl.1 (Nat.le_of_ble_eq_true rfl) rfl dL_law_1348 (fun H locs w => ?_)
  refine lv_aload_n hx hb dL_law_1351 rfl (lv_at hl 2 rfl) ?_
  obtain ⟨vv12, M6, J7, hv5, h⟩ := bd3_of h
  refine x_cVi (As := []) (rest := [.int vv4]) C (Wd.ofS 8 w) (v8 (by decide)) cel_8 rfl (mtX5_carryOut  hv5) q31_21 q31_22 q31_23 q1_5 q32_0 ydX5_carryOut ⟨rfl, rfl⟩ ⟨by decide, by decide⟩ (rb_z hRB) hl.1 (Nat.le_of_ble_eq_true rfl) rfl dL_law_1352 (fun H locs w => ?_)
  obtain ⟨G8, e10⟩ : ∃ z, z = sg G2 8 M6 := ⟨_, rfl⟩
  obtain ⟨K9, e11⟩ : ∃ z, z = sg K3 8 J7 := ⟨_, rfl⟩
  rw [← e10, ← e11] at w
  replace h := bnd_of h e10
  replace h := bnd_of h e11
  refine lv_icmp_eq (tgt := 1418) hx hb dL_law_1355 (by decide) (fun c13 => ?_) (fun c13 => ?_)
  · replace h := ite_t h c13
    exact TL_law_1418 C hst hX hbl hbA hk23 _ _ _ (rb_wk hRB) h w (lv_sub hl [0, 1, 2, 3, 4] rfl)
  · replace h := ite_f h c13
    refine lv_iconst (v := (0 : Int32)) hx hb dL_law_1358 (by decide) ?_
    exact absurd (Option.some.inj h) (by decide)
noncomputable def fbL_law_1401 (F : Nat) (k23 : Int32 → M3 → J3 → Option Int32) (xs : Nat → Int32) (L : Nat) (a4 : Int32) (G : M3) (K : J3) : Option Int32 := fbL_law_1418 F k23 xs L a4 G K
set_option maxRecDepth 20000 in
set_option maxHeartbeats 1000000 in
theorem TL_law_1401 {n : Nat} {k23 : Int32 → M3 → J3 → Option Int32} (C : Cx E (fun q : Nat => s.heap.size ≤ q) p s m #[Value.ref b] meth c (Cond.initialized RX4) code 9 ret RL) (hst : l.stackTraces = false) (hX : va_X b L xs s s.heap) (hbl : b < s.heap.size) (hbA : ¬ (fun q : Nat => s.heap.size ≤ q) b) (hk23 : ∀ (a4 : Int32) (G : M3) (K : J3) (ls : Array Slot) (H : Heap) (locs : List Loc) (cells slots : Nat), RB n cells slots → k23 a4 G K = some 1 → Wd E (fun q : Nat => s.heap.size ≤ q) s G K H locs → lv_has ls 9 [(0, .ref b), (1, .ref (ad E 6 0)), (2, .ref (ad E 8 0)), (3, .ref (ad E 9 0)), (4, .int a4)] → W p l e room_1 s m #[Value.ref b] below meth c H locs cells slots (lw_Z below #[Value.ref b] s) (F0 m 23 ls [])) (a4 : Int32) (G : M3) (K : J3) (hRB : RB n cells slots) (h : fbL_law_1401 F k23 xs L a4 G K = some 1) (w : Wd E (fun q : Nat => s.heap.size ≤ q) s G K H locs) (hl : lv_has ls 9 [(0, .ref b), (1, .ref (ad E 6 0)), (2, .ref (ad E 8 0)), (3, .ref (ad E 9 0)), (4, .int a4)]) : W p l e room_1 s m #[Value.ref b] below meth c H locs cells slots (lw_Z below #[Value.ref b] s) (F0 m 1401 ls []) := by
  obtain ⟨hx, hb, hr, hml, hown, hts, hlocks, hKK, hA1, hA2⟩ := id C
  unfold fbL_law_1401 at h
  refine lv_goto (tgt := 1418) hx hb dL_law_1401 (by decide) ?_
  exact TL_law_1418 C hst hX hbl hbA hk23 _ _ _ hRB h w (lv_sub hl [0, 1, 2, 3, 4] rfl)
noncomputable def fbL_law_1360 (F : Nat) (k23 : Int32 → M3 → J3 → Option Int32) (xs : Nat → Int32) (L : Nat) (a4 : Int32) (G : M3) (K : J3) : Option Int32 := bd3 (fL_undo F G K) (fun vv1 G2 K3 => bd3 (fX5_undo F (G2 8) (K3 8)) (fun vv12 M6 J7 => bnd (sg G2 8 M6) (fun G8 => bnd (sg K3 8 J7) (fun K9 => (if (fX5_thrown (G8 8) (K9 8)) = vv1 then ((if ¬ vv1 = 0 then (fbL_law_1401 F k23 xs L a4 G8 K9) else ((if (lg_cmp (K9 9 0 0) (vv12.toInt64)) = 0 then (fbL_law_1401 F k23 xs L a4 G8 K9) else (some 0))))) else (some 0))))))
set_option maxRecDepth 20000 in
set_option maxHeartbeats 1000000 in
theorem TL_law_1360 {n : Nat} {k23 : Int32 → M3 → J3 → Option Int32} (C : Cx E (fun q : Nat => s.heap.size ≤ q) p s m #[Value.ref b] meth c (Cond.initialized RX4) code 9 ret RL) (hst : l.stackTraces = false) (hX : va_X b L xs s s.heap) (hbl : b < s.heap.size) (hbA : ¬ (fun q : Nat => s.heap.size ≤ q) b) (hk23 : ∀ (a4 : Int32) (G : M3) (K : J3) (ls : Array Slot) (H : Heap) (locs : List Loc) (cells slots : Nat), RB n cells slots → k23 a4 G K = some 1 → Wd E (fun q : Nat => s.heap.size ≤ q) s G K H locs → lv_has ls 9 [(0, .ref b), (1, .ref (ad E 6 0)), (2, .ref (ad E 8 0)), (3, .ref (ad E 9 0)), (4, .int a4)] → W p l e room_1 s m #[Value.ref b] below meth c H locs cells slots (lw_Z below #[Value.ref b] s) (F0 m 23 ls [])) (a4 : Int32) (G : M3) (K : J3) (hRB : RB (n + 1) cells slots) (h : fbL_law_1360 F k23 xs L a4 G K = some 1) (w : Wd E (fun q : Nat => s.heap.size ≤ q) s G K H locs) (hl : lv_has ls 9 [(0, .ref b), (1, .ref (ad E 6 0)), (2, .ref (ad E 8 0)), (3, .ref (ad E 9 0)), (4, .int a4)]) : W p l e room_1 s m #[Value.ref b] below meth c H locs cells slots (lw_Z below #[Value.ref b] s) (F0 m 1360 ls []) := by
  obtain ⟨hx, hb, hr, hml, hown, hts, hlocks, hKK, hA1, hA2⟩ := id C
  unfold fbL_law_1360 at h
  refine lv_aload_n hx hb dL_law_1360 rfl (lv_at hl 1 rfl) ?_
  refine lv_aload_n hx hb dL_law_1361 rfl (lv_at hl 3 rfl) ?_
  obtain ⟨vv1, G2, K3, hv4, h⟩ := bd3_of h
  refine x_cWi (As := [.ref (ad E 6 0), .ref (ad E 9 0)]) (rest := []) C w (mtL_undo hst hv4) q32_19 q32_20 q4_4 q32_21 ynL_undo ⟨rfl, rfl⟩ ⟨by decide, by decide⟩ (rb_c hRB) hl.1 (Nat.le_of_ble_eq_true rfl) rfl dL_law_1362 (fun H locs w => ?_)
  replace hRB := rb_go hRB
  refine lv_istore (lv' := [(5, .int vv1), (0, .ref b), (1, .ref (ad E 6 0)), (2, .ref (ad E 8 0)), (3, .ref (ad E 9 0)), (4, .int a4)]) hx hb dL_law_1365 hl (by decide) rfl (fun ls hl => ?_)
  refine lv_aload_n hx hb dL_law_1367 rfl (lv_at hl 3 rfl) ?_
  obtain ⟨vv12, M6, J7, hv5, h⟩ := bd3_of h
  refine x_cVi (As := []) (rest := []) C (Wd.ofS 8 w) (v8 (by decide)) cel_8 rfl (mtX5_undo  hv5) q33_8 q33_9 q33_10 q1_5 q33_11 ydX5_undo ⟨rfl, rfl⟩ ⟨by decide, by decide⟩ (rb_z hRB) hl.1 (Nat.le_of_ble_eq_true rfl) rfl dL_law_1368 (fun H locs w => ?_)
  obtain ⟨G8, e10⟩ : ∃ z, z = sg G2 8 M6 := ⟨_, rfl⟩
  obtain ⟨K9, e11⟩ : ∃ z, z = sg K3 8 J7 := ⟨_, rfl⟩
  rw [← e10, ← e11] at w
  replace h := bnd_of h e10
  replace h := bnd_of h e11
  refine lv_istore (lv' := [(6, .int vv12), (5, .int vv1), (0, .ref b), (1, .ref (ad E 6 0)), (2, .ref (ad E 8 0)), (3, .ref (ad E 9 0)), (4, .int a4)]) hx hb dL_law_1371 hl (by decide) rfl (fun ls hl => ?_)
  refine lv_aload_n hx hb dL_law_1373 rfl (lv_at hl 4 rfl) ?_
  refine x_cVi (As := []) (rest := []) C (Wd.ofS 8 w) (v8 (by decide)) cel_8 rfl (mtX5_thrown ) q8_1 q8_2 q8_3 q1_5 q8_4 ydX5_thrown ⟨rfl, rfl⟩ ⟨by decide, by decide⟩ (rb_z hRB) hl.1 (Nat.le_of_ble_eq_true rfl) rfl dL_law_1374 (fun H locs w => ?_)
  have w := Wd.back w
  refine lv_iload hx hb dL_law_1377 (lv_at hl 1 rfl) ?_
  refine lv_icmp_eq (tgt := 1384) hx hb dL_law_1379 (by decide) (fun c13 => ?_) (fun c13 => ?_)
  · replace h := ite_t h c13
    refine lv_iload hx hb dL_law_1384 (lv_at hl 1 rfl) ?_
    refine lv_if_ne (tgt := 1401) hx hb dL_law_1386 (by decide) (fun c14 => ?_) (fun c14 => ?_)
    · replace h := ite_t h c14
      exact TL_law_1401 C hst hX hbl hbA hk23 _ _ _ hRB h w (lv_sub hl [2, 3, 4, 5, 6] rfl)
    · replace h := ite_f h (fun z => z c14)
      refine lv_aload_n hx hb dL_law_1389 rfl (lv_at hl 5 rfl) ?_
      refine lv_iconst (v := (0 : Int32)) hx hb dL_law_1390 (by decide) ?_
      refine x_aldJ C w v9 c9_0 (inb_k (k := 0) (by decide) (by decide)) cl_0 dL_law_1391 ?_
      refine lv_iload hx hb dL_law_1392 (lv_at hl 0 rfl) ?_
      refine lv_i2l hx hb dL_law_1394 rfl ?_
      refine W.lcmp hx hb dL_law_1395 ?_
      refine lv_if_eq (tgt := 1401) hx hb dL_law_1396 (by decide) (fun c15 => ?_) (fun c15 => ?_)
      · replace h := ite_t h c15
        exact TL_law_1401 C hst hX hbl hbA hk23 _ _ _ hRB h w (lv_sub hl [2, 3, 4, 5, 6] rfl)
      · replace h := ite_f h c15
        refine lv_iconst (v := (0 : Int32)) hx hb dL_law_1399 (by decide) ?_
        exact absurd (Option.some.inj h) (by decide)
  · replace h := ite_f h c13
    refine lv_iconst (v := (0 : Int32)) hx hb dL_law_1382 (by decide) ?_
    exact absurd (Option.some.inj h) (by decide)
noncomputable def fbL_law_1404 (F : Nat) (k23 : Int32 → M3 → J3 → Option Int32) (xs : Nat → Int32) (L : Nat) (a4 : Int32) (G : M3) (K : J3) : Option Int32 := (fX4_digest F G K).bind (fun vv2 => bd3 (fX5_digest F (G 8) (K 8)) (fun vv10 M4 J5 => bnd (sg G 8 M4) (fun G6 => bnd (sg K 8 J5) (fun K7 => (if (lg_cmp vv2 vv10) = 0 then (fbL_law_1418 F k23 xs L a4 G6 K7) else (some 0))))))
set_option maxRecDepth 20000 in
set_option maxHeartbeats 1000000 in
theorem TL_law_1404 {n : Nat} {k23 : Int32 → M3 → J3 → Option Int32} (C : Cx E (fun q : Nat => s.heap.size ≤ q) p s m #[Value.ref b] meth c (Cond.initialized RX4) code 9 ret RL) (hst : l.stackTraces = false) (hX : va_X b L xs s s.heap) (hbl : b < s.heap.size) (hbA : ¬ (fun q : Nat => s.heap.size ≤ q) b) (hk23 : ∀ (a4 : Int32) (G : M3) (K : J3) (ls : Array Slot) (H : Heap) (locs : List Loc) (cells slots : Nat), RB n cells slots → k23 a4 G K = some 1 → Wd E (fun q : Nat => s.heap.size ≤ q) s G K H locs → lv_has ls 9 [(0, .ref b), (1, .ref (ad E 6 0)), (2, .ref (ad E 8 0)), (3, .ref (ad E 9 0)), (4, .int a4)] → W p l e room_1 s m #[Value.ref b] below meth c H locs cells slots (lw_Z below #[Value.ref b] s) (F0 m 23 ls [])) (a4 : Int32) (G : M3) (K : J3) (hRB : RB (n + 1) cells slots) (h : fbL_law_1404 F k23 xs L a4 G K = some 1) (w : Wd E (fun q : Nat => s.heap.size ≤ q) s G K H locs) (hl : lv_has ls 9 [(0, .ref b), (1, .ref (ad E 6 0)), (2, .ref (ad E 8 0)), (3, .ref (ad E 9 0)), (4, .int a4)]) : W p l e room_1 s m #[Value.ref b] below meth c H locs cells slots (lw_Z below #[Value.ref b] s) (F0 m 1404 ls []) := by
  obtain ⟨hx, hb, hr, hml, hown, hts, hlocks, hKK, hA1, hA2⟩ := id C
  unfold fbL_law_1404 at h
  refine lv_aload_n hx hb dL_law_1404 rfl (lv_at hl 1 rfl) ?_
  obtain ⟨vv2, hv1, h⟩ := bind_of h
  refine x_cVl (As := []) (rest := []) C w (v6 (by decide)) cel_6 rfl (mtX4_digest  hv1) q33_12 q33_13 q33_14 q1_2 q33_15 ydX4_digest ⟨rfl, rfl⟩ ⟨by decide, by decide⟩ (rb_z hRB) hl.1 (Nat.le_of_ble_eq_true rfl) rfl dL_law_1405 (fun H locs w => ?_)
  refine lv_aload_n hx hb dL_law_1408 rfl (lv_at hl 2 rfl) ?_
  obtain ⟨vv10, M4, J5, hv3, h⟩ := bd3_of h
  refine x_cVl (As := []) (rest := [.long vv2]) C (Wd.ofS 8 w) (v8 (by decide)) cel_8 rfl (mtX5_digest  hv3) q33_22 q33_23 q34_0 q1_5 q34_1 ydX5_digest ⟨rfl, rfl⟩ ⟨by decide, by decide⟩ (rb_z hRB) hl.1 (Nat.le_of_ble_eq_true rfl) rfl dL_law_1409 (fun H locs w => ?_)
  obtain ⟨G6, e8⟩ : ∃ z, z = sg G 8 M4 := ⟨_, rfl⟩
  obtain ⟨K7, e9⟩ : ∃ z, z = sg K 8 J5 := ⟨_, rfl⟩
  rw [← e8, ← e9] at w
  replace h := bnd_of h e8
  replace h := bnd_of h e9
  refine W.lcmp hx hb dL_law_1412 ?_
  refine lv_if_eq (tgt := 1418) hx hb dL_law_1413 (by decide) (fun c11 => ?_) (fun c11 => ?_)
  · replace h := ite_t h c11
    exact TL_law_1418 C hst hX hbl hbA hk23 _ _ _ (rb_wk hRB) h w (lv_sub hl [0, 1, 2, 3, 4] rfl)
  · replace h := ite_f h c11
    refine lv_iconst (v := (0 : Int32)) hx hb dL_law_1416 (by decide) ?_
    exact absurd (Option.some.inj h) (by decide)
noncomputable def fsL_law_23 (F : Nat) (k23 : Int32 → M3 → J3 → Option Int32) (xs : Nat → Int32) (L : Nat) (a4 : Int32) (G : M3) (K : J3) : Option Int32 := (if ((Int32.ofNat L) - (3 : Int32)) < a4 then (some 1) else (chk (inb a4 L) ((if ((xs a4.toNatClampNeg) &&& (31 : Int32)) = (0 : Int32) then (fbL_law_156 F k23 xs L a4 G K) else if ((xs a4.toNatClampNeg) &&& (31 : Int32)) = (1 : Int32) then (fbL_law_212 F k23 xs L a4 G K) else if ((xs a4.toNatClampNeg) &&& (31 : Int32)) = (2 : Int32) then (fbL_law_280 F k23 xs L a4 G K) else if ((xs a4.toNatClampNeg) &&& (31 : Int32)) = (3 : Int32) then (fbL_law_336 F k23 xs L a4 G K) else if ((xs a4.toNatClampNeg) &&& (31 : Int32)) = (4 : Int32) then (fbL_law_392 F k23 xs L a4 G K) else if ((xs a4.toNatClampNeg) &&& (31 : Int32)) = (5 : Int32) then (fbL_law_448 F k23 xs L a4 G K) else if ((xs a4.toNatClampNeg) &&& (31 : Int32)) = (6 : Int32) then (fbL_law_461 F k23 xs L a4 G K) else if ((xs a4.toNatClampNeg) &&& (31 : Int32)) = (7 : Int32) then (fbL_law_517 F k23 xs L a4 G K) else if ((xs a4.toNatClampNeg) &&& (31 : Int32)) = (8 : Int32) then (fbL_law_573 F k23 xs L a4 G K) else if ((xs a4.toNatClampNeg) &&& (31 : Int32)) = (9 : Int32) then (fbL_law_641 F k23 xs L a4 G K) else if ((xs a4.toNatClampNeg) &&& (31 : Int32)) = (10 : Int32) then (fbL_law_697 F k23 xs L a4 G K) else if ((xs a4.toNatClampNeg) &&& (31 : Int32)) = (11 : Int32) then (fbL_law_753 F k23 xs L a4 G K) else if ((xs a4.toNatClampNeg) &&& (31 : Int32)) = (12 : Int32) then (fbL_law_809 F k23 xs L a4 G K) else if ((xs a4.toNatClampNeg) &&& (31 : Int32)) = (13 : Int32) then (fbL_law_864 F k23 xs L a4 G K) else if ((xs a4.toNatClampNeg) &&& (31 : Int32)) = (14 : Int32) then (fbL_law_920 F k23 xs L a4 G K) else if ((xs a4.toNatClampNeg) &&& (31 : Int32)) = (15 : Int32) then (fbL_law_976 F k23 xs L a4 G K) else if ((xs a4.toNatClampNeg) &&& (31 : Int32)) = (16 : Int32) then (fbL_law_1032 F k23 xs L a4 G K) else if ((xs a4.toNatClampNeg) &&& (31 : Int32)) = (17 : Int32) then (fbL_law_1045 F k23 xs L a4 G K) else if ((xs a4.toNatClampNeg) &&& (31 : Int32)) = (18 : Int32) then (fbL_law_1101 F k23 xs L a4 G K) else if ((xs a4.toNatClampNeg) &&& (31 : Int32)) = (19 : Int32) then (fbL_law_1169 F k23 xs L a4 G K) else if ((xs a4.toNatClampNeg) &&& (31 : Int32)) = (20 : Int32) then (fbL_law_1237 F k23 xs L a4 G K) else if ((xs a4.toNatClampNeg) &&& (31 : Int32)) = (21 : Int32) then (fbL_law_1278 F k23 xs L a4 G K) else if ((xs a4.toNatClampNeg) &&& (31 : Int32)) = (22 : Int32) then (fbL_law_1334 F k23 xs L a4 G K) else if ((xs a4.toNatClampNeg) &&& (31 : Int32)) = (23 : Int32) then (fbL_law_1347 F k23 xs L a4 G K) else if ((xs a4.toNatClampNeg) &&& (31 : Int32)) = (24 : Int32) then (fbL_law_1360 F k23 xs L a4 G K) else if ((xs a4.toNatClampNeg) &&& (31 : Int32)) = (25 : Int32) then (fbL_law_1404 F k23 xs L a4 G K) else (fbL_law_1418 F k23 xs L a4 G K)))))
set_option maxRecDepth 20000 in
set_option maxHeartbeats 1000000 in
theorem SL_law_23 {n : Nat} {k23 : Int32 → M3 → J3 → Option Int32} (C : Cx E (fun q : Nat => s.heap.size ≤ q) p s m #[Value.ref b] meth c (Cond.initialized RX4) code 9 ret RL) (hst : l.stackTraces = false) (hX : va_X b L xs s s.heap) (hbl : b < s.heap.size) (hbA : ¬ (fun q : Nat => s.heap.size ≤ q) b) (hk23 : ∀ (a4 : Int32) (G : M3) (K : J3) (ls : Array Slot) (H : Heap) (locs : List Loc) (cells slots : Nat), RB n cells slots → k23 a4 G K = some 1 → Wd E (fun q : Nat => s.heap.size ≤ q) s G K H locs → lv_has ls 9 [(0, .ref b), (1, .ref (ad E 6 0)), (2, .ref (ad E 8 0)), (3, .ref (ad E 9 0)), (4, .int a4)] → W p l e room_1 s m #[Value.ref b] below meth c H locs cells slots (lw_Z below #[Value.ref b] s) (F0 m 23 ls [])) (a4 : Int32) (G : M3) (K : J3) (hRB : RB (n + 1) cells slots) (h : fsL_law_23 F k23 xs L a4 G K = some 1) (w : Wd E (fun q : Nat => s.heap.size ≤ q) s G K H locs) (hl : lv_has ls 9 [(0, .ref b), (1, .ref (ad E 6 0)), (2, .ref (ad E 8 0)), (3, .ref (ad E 9 0)), (4, .int a4)]) : W p l e room_1 s m #[Value.ref b] below meth c H locs cells slots (lw_Z below #[Value.ref b] s) (F0 m 23 ls []) := by
  obtain ⟨hx, hb, hr, hml, hown, hts, hlocks, hKK, hA1, hA2⟩ := id C
  unfold fsL_law_23 at h
  refine lv_iload hx hb dL_law_23 (lv_at hl 4 rfl) ?_
  refine lv_aload_n hx hb dL_law_25 rfl (lv_at hl 0 rfl) ?_
  refine x_scl C w hX hbl hbA dL_law_26 ?_
  refine lv_iconst (v := (3 : Int32)) hx hb dL_law_27 (by decide) ?_
  refine lv_isub hx hb dL_law_28 ?_
  refine lv_icmp_gt (tgt := 1424) hx hb dL_law_29 (by decide) (fun c1 => ?_) (fun c1 => ?_)
  · replace h := ite_t h c1
    refine lv_iconst (v := (1 : Int32)) hx hb dL_law_1424 (by decide) ?_
    refine va_forget (fun q hq => w.2.2.2 q hq) (W.widen (k := 606009) (n := 7278078) (rb_z hRB).1 (rb_z hRB).2 ?_)
    exact lw_ret (Drawn.sameBut.refl s.drawn lw_cs) hx hb hr hlocks dL_law_1425
  · replace h := ite_f h c1
    refine lv_aload_n hx hb dL_law_32 rfl (lv_at hl 0 rfl) ?_
    refine lv_iload hx hb dL_law_33 (lv_at hl 4 rfl) ?_
    obtain ⟨ki2, h⟩ := chk_of h
    refine x_scr C w hX hbl hbA ki2 rfl dL_law_35 ?_
    refine lv_bipush (v := (31 : Int32)) hx hb dL_law_36 (by decide) ?_
    refine lv_iand hx hb dL_law_38 ?_
    by_cases c3 : ((xs a4.toNatClampNeg) &&& (31 : Int32)) = (0 : Int32)
    · replace h := ite_t h c3
      refine lv_tableIn (tgt := 156) hx hb dL_law_39 (by rw [c3]; decide) (by rw [c3]; decide) (by rw [c3]; rfl) (by decide) ?_
      exact TL_law_156 C hst hX hbl hbA hk23 _ _ _ hRB h w (lv_sub hl [0, 1, 2, 3, 4] rfl)
    replace h := ite_f h c3
    by_cases c4 : ((xs a4.toNatClampNeg) &&& (31 : Int32)) = (1 : Int32)
    · replace h := ite_t h c4
      refine lv_tableIn (tgt := 212) hx hb dL_law_39 (by rw [c4]; decide) (by rw [c4]; decide) (by rw [c4]; rfl) (by decide) ?_
      exact TL_law_212 C hst hX hbl hbA hk23 _ _ _ hRB h w (lv_sub hl [0, 1, 2, 3, 4] rfl)
    replace h := ite_f h c4
    by_cases c5 : ((xs a4.toNatClampNeg) &&& (31 : Int32)) = (2 : Int32)
    · replace h := ite_t h c5
      refine lv_tableIn (tgt := 280) hx hb dL_law_39 (by rw [c5]; decide) (by rw [c5]; decide) (by rw [c5]; rfl) (by decide) ?_
      exact TL_law_280 C hst hX hbl hbA hk23 _ _ _ hRB h w (lv_sub hl [0, 1, 2, 3, 4] rfl)
    replace h := ite_f h c5
    by_cases c6 : ((xs a4.toNatClampNeg) &&& (31 : Int32)) = (3 : Int32)
    · replace h := ite_t h c6
      refine lv_tableIn (tgt := 336) hx hb dL_law_39 (by rw [c6]; decide) (by rw [c6]; decide) (by rw [c6]; rfl) (by decide) ?_
      exact TL_law_336 C hst hX hbl hbA hk23 _ _ _ hRB h w (lv_sub hl [0, 1, 2, 3, 4] rfl)
    replace h := ite_f h c6
    by_cases c7 : ((xs a4.toNatClampNeg) &&& (31 : Int32)) = (4 : Int32)
    · replace h := ite_t h c7
      refine lv_tableIn (tgt := 392) hx hb dL_law_39 (by rw [c7]; decide) (by rw [c7]; decide) (by rw [c7]; rfl) (by decide) ?_
      exact TL_law_392 C hst hX hbl hbA hk23 _ _ _ hRB h w (lv_sub hl [0, 1, 2, 3, 4] rfl)
    replace h := ite_f h c7
    by_cases c8 : ((xs a4.toNatClampNeg) &&& (31 : Int32)) = (5 : Int32)
    · replace h := ite_t h c8
      refine lv_tableIn (tgt := 448) hx hb dL_law_39 (by rw [c8]; decide) (by rw [c8]; decide) (by rw [c8]; rfl) (by decide) ?_
      exact TL_law_448 C hst hX hbl hbA hk23 _ _ _ hRB h w (lv_sub hl [0, 1, 2, 3, 4] rfl)
    replace h := ite_f h c8
    by_cases c9 : ((xs a4.toNatClampNeg) &&& (31 : Int32)) = (6 : Int32)
    · replace h := ite_t h c9
      refine lv_tableIn (tgt := 461) hx hb dL_law_39 (by rw [c9]; decide) (by rw [c9]; decide) (by rw [c9]; rfl) (by decide) ?_
      exact TL_law_461 C hst hX hbl hbA hk23 _ _ _ hRB h w (lv_sub hl [0, 1, 2, 3, 4] rfl)
    replace h := ite_f h c9
    by_cases c10 : ((xs a4.toNatClampNeg) &&& (31 : Int32)) = (7 : Int32)
    · replace h := ite_t h c10
      refine lv_tableIn (tgt := 517) hx hb dL_law_39 (by rw [c10]; decide) (by rw [c10]; decide) (by rw [c10]; rfl) (by decide) ?_
      exact TL_law_517 C hst hX hbl hbA hk23 _ _ _ hRB h w (lv_sub hl [0, 1, 2, 3, 4] rfl)
    replace h := ite_f h c10
    by_cases c11 : ((xs a4.toNatClampNeg) &&& (31 : Int32)) = (8 : Int32)
    · replace h := ite_t h c11
      refine lv_tableIn (tgt := 573) hx hb dL_law_39 (by rw [c11]; decide) (by rw [c11]; decide) (by rw [c11]; rfl) (by decide) ?_
      exact TL_law_573 C hst hX hbl hbA hk23 _ _ _ hRB h w (lv_sub hl [0, 1, 2, 3, 4] rfl)
    replace h := ite_f h c11
    by_cases c12 : ((xs a4.toNatClampNeg) &&& (31 : Int32)) = (9 : Int32)
    · replace h := ite_t h c12
      refine lv_tableIn (tgt := 641) hx hb dL_law_39 (by rw [c12]; decide) (by rw [c12]; decide) (by rw [c12]; rfl) (by decide) ?_
      exact TL_law_641 C hst hX hbl hbA hk23 _ _ _ hRB h w (lv_sub hl [0, 1, 2, 3, 4] rfl)
    replace h := ite_f h c12
    by_cases c13 : ((xs a4.toNatClampNeg) &&& (31 : Int32)) = (10 : Int32)
    · replace h := ite_t h c13
      refine lv_tableIn (tgt := 697) hx hb dL_law_39 (by rw [c13]; decide) (by rw [c13]; decide) (by rw [c13]; rfl) (by decide) ?_
      exact TL_law_697 C hst hX hbl hbA hk23 _ _ _ hRB h w (lv_sub hl [0, 1, 2, 3, 4] rfl)
    replace h := ite_f h c13
    by_cases c14 : ((xs a4.toNatClampNeg) &&& (31 : Int32)) = (11 : Int32)
    · replace h := ite_t h c14
      refine lv_tableIn (tgt := 753) hx hb dL_law_39 (by rw [c14]; decide) (by rw [c14]; decide) (by rw [c14]; rfl) (by decide) ?_
      exact TL_law_753 C hst hX hbl hbA hk23 _ _ _ hRB h w (lv_sub hl [0, 1, 2, 3, 4] rfl)
    replace h := ite_f h c14
    by_cases c15 : ((xs a4.toNatClampNeg) &&& (31 : Int32)) = (12 : Int32)
    · replace h := ite_t h c15
      refine lv_tableIn (tgt := 809) hx hb dL_law_39 (by rw [c15]; decide) (by rw [c15]; decide) (by rw [c15]; rfl) (by decide) ?_
      exact TL_law_809 C hst hX hbl hbA hk23 _ _ _ hRB h w (lv_sub hl [0, 1, 2, 3, 4] rfl)
    replace h := ite_f h c15
    by_cases c16 : ((xs a4.toNatClampNeg) &&& (31 : Int32)) = (13 : Int32)
    · replace h := ite_t h c16
      refine lv_tableIn (tgt := 864) hx hb dL_law_39 (by rw [c16]; decide) (by rw [c16]; decide) (by rw [c16]; rfl) (by decide) ?_
      exact TL_law_864 C hst hX hbl hbA hk23 _ _ _ hRB h w (lv_sub hl [0, 1, 2, 3, 4] rfl)
    replace h := ite_f h c16
    by_cases c17 : ((xs a4.toNatClampNeg) &&& (31 : Int32)) = (14 : Int32)
    · replace h := ite_t h c17
      refine lv_tableIn (tgt := 920) hx hb dL_law_39 (by rw [c17]; decide) (by rw [c17]; decide) (by rw [c17]; rfl) (by decide) ?_
      exact TL_law_920 C hst hX hbl hbA hk23 _ _ _ hRB h w (lv_sub hl [0, 1, 2, 3, 4] rfl)
    replace h := ite_f h c17
    by_cases c18 : ((xs a4.toNatClampNeg) &&& (31 : Int32)) = (15 : Int32)
    · replace h := ite_t h c18
      refine lv_tableIn (tgt := 976) hx hb dL_law_39 (by rw [c18]; decide) (by rw [c18]; decide) (by rw [c18]; rfl) (by decide) ?_
      exact TL_law_976 C hst hX hbl hbA hk23 _ _ _ hRB h w (lv_sub hl [0, 1, 2, 3, 4] rfl)
    replace h := ite_f h c18
    by_cases c19 : ((xs a4.toNatClampNeg) &&& (31 : Int32)) = (16 : Int32)
    · replace h := ite_t h c19
      refine lv_tableIn (tgt := 1032) hx hb dL_law_39 (by rw [c19]; decide) (by rw [c19]; decide) (by rw [c19]; rfl) (by decide) ?_
      exact TL_law_1032 C hst hX hbl hbA hk23 _ _ _ hRB h w (lv_sub hl [0, 1, 2, 3, 4] rfl)
    replace h := ite_f h c19
    by_cases c20 : ((xs a4.toNatClampNeg) &&& (31 : Int32)) = (17 : Int32)
    · replace h := ite_t h c20
      refine lv_tableIn (tgt := 1045) hx hb dL_law_39 (by rw [c20]; decide) (by rw [c20]; decide) (by rw [c20]; rfl) (by decide) ?_
      exact TL_law_1045 C hst hX hbl hbA hk23 _ _ _ hRB h w (lv_sub hl [0, 1, 2, 3, 4] rfl)
    replace h := ite_f h c20
    by_cases c21 : ((xs a4.toNatClampNeg) &&& (31 : Int32)) = (18 : Int32)
    · replace h := ite_t h c21
      refine lv_tableIn (tgt := 1101) hx hb dL_law_39 (by rw [c21]; decide) (by rw [c21]; decide) (by rw [c21]; rfl) (by decide) ?_
      exact TL_law_1101 C hst hX hbl hbA hk23 _ _ _ hRB h w (lv_sub hl [0, 1, 2, 3, 4] rfl)
    replace h := ite_f h c21
    by_cases c22 : ((xs a4.toNatClampNeg) &&& (31 : Int32)) = (19 : Int32)
    · replace h := ite_t h c22
      refine lv_tableIn (tgt := 1169) hx hb dL_law_39 (by rw [c22]; decide) (by rw [c22]; decide) (by rw [c22]; rfl) (by decide) ?_
      exact TL_law_1169 C hst hX hbl hbA hk23 _ _ _ hRB h w (lv_sub hl [0, 1, 2, 3, 4] rfl)
    replace h := ite_f h c22
    by_cases c23 : ((xs a4.toNatClampNeg) &&& (31 : Int32)) = (20 : Int32)
    · replace h := ite_t h c23
      refine lv_tableIn (tgt := 1237) hx hb dL_law_39 (by rw [c23]; decide) (by rw [c23]; decide) (by rw [c23]; rfl) (by decide) ?_
      exact TL_law_1237 C hst hX hbl hbA hk23 _ _ _ hRB h w (lv_sub hl [0, 1, 2, 3, 4] rfl)
    replace h := ite_f h c23
    by_cases c24 : ((xs a4.toNatClampNeg) &&& (31 : Int32)) = (21 : Int32)
    · replace h := ite_t h c24
      refine lv_tableIn (tgt := 1278) hx hb dL_law_39 (by rw [c24]; decide) (by rw [c24]; decide) (by rw [c24]; rfl) (by decide) ?_
      exact TL_law_1278 C hst hX hbl hbA hk23 _ _ _ hRB h w (lv_sub hl [0, 1, 2, 3, 4] rfl)
    replace h := ite_f h c24
    by_cases c25 : ((xs a4.toNatClampNeg) &&& (31 : Int32)) = (22 : Int32)
    · replace h := ite_t h c25
      refine lv_tableIn (tgt := 1334) hx hb dL_law_39 (by rw [c25]; decide) (by rw [c25]; decide) (by rw [c25]; rfl) (by decide) ?_
      exact TL_law_1334 C hst hX hbl hbA hk23 _ _ _ hRB h w (lv_sub hl [0, 1, 2, 3, 4] rfl)
    replace h := ite_f h c25
    by_cases c26 : ((xs a4.toNatClampNeg) &&& (31 : Int32)) = (23 : Int32)
    · replace h := ite_t h c26
      refine lv_tableIn (tgt := 1347) hx hb dL_law_39 (by rw [c26]; decide) (by rw [c26]; decide) (by rw [c26]; rfl) (by decide) ?_
      exact TL_law_1347 C hst hX hbl hbA hk23 _ _ _ hRB h w (lv_sub hl [0, 1, 2, 3, 4] rfl)
    replace h := ite_f h c26
    by_cases c27 : ((xs a4.toNatClampNeg) &&& (31 : Int32)) = (24 : Int32)
    · replace h := ite_t h c27
      refine lv_tableIn (tgt := 1360) hx hb dL_law_39 (by rw [c27]; decide) (by rw [c27]; decide) (by rw [c27]; rfl) (by decide) ?_
      exact TL_law_1360 C hst hX hbl hbA hk23 _ _ _ hRB h w (lv_sub hl [0, 1, 2, 3, 4] rfl)
    replace h := ite_f h c27
    by_cases c28 : ((xs a4.toNatClampNeg) &&& (31 : Int32)) = (25 : Int32)
    · replace h := ite_t h c28
      refine lv_tableIn (tgt := 1404) hx hb dL_law_39 (by rw [c28]; decide) (by rw [c28]; decide) (by rw [c28]; rfl) (by decide) ?_
      exact TL_law_1404 C hst hX hbl hbA hk23 _ _ _ hRB h w (lv_sub hl [0, 1, 2, 3, 4] rfl)
    replace h := ite_f h c28
    have hsw : ((xs a4.toNatClampNeg) &&& (31 : Int32)).toInt < 0 ∨ 25 < ((xs a4.toNatClampNeg) &&& (31 : Int32)).toInt := by
      have n0 := ne_toInt c3
      have n1 := ne_toInt c4
      have n2 := ne_toInt c5
      have n3 := ne_toInt c6
      have n4 := ne_toInt c7
      have n5 := ne_toInt c8
      have n6 := ne_toInt c9
      have n7 := ne_toInt c10
      have n8 := ne_toInt c11
      have n9 := ne_toInt c12
      have n10 := ne_toInt c13
      have n11 := ne_toInt c14
      have n12 := ne_toInt c15
      have n13 := ne_toInt c16
      have n14 := ne_toInt c17
      have n15 := ne_toInt c18
      have n16 := ne_toInt c19
      have n17 := ne_toInt c20
      have n18 := ne_toInt c21
      have n19 := ne_toInt c22
      have n20 := ne_toInt c23
      have n21 := ne_toInt c24
      have n22 := ne_toInt c25
      have n23 := ne_toInt c26
      have n24 := ne_toInt c27
      have n25 := ne_toInt c28
      have e0 : (0 : Int32).toInt = 0 := by decide
      have e1 : (1 : Int32).toInt = 1 := by decide
      have e2 : (2 : Int32).toInt = 2 := by decide
      have e3 : (3 : Int32).toInt = 3 := by decide
      have e4 : (4 : Int32).toInt = 4 := by decide
      have e5 : (5 : Int32).toInt = 5 := by decide
      have e6 : (6 : Int32).toInt = 6 := by decide
      have e7 : (7 : Int32).toInt = 7 := by decide
      have e8 : (8 : Int32).toInt = 8 := by decide
      have e9 : (9 : Int32).toInt = 9 := by decide
      have e10 : (10 : Int32).toInt = 10 := by decide
      have e11 : (11 : Int32).toInt = 11 := by decide
      have e12 : (12 : Int32).toInt = 12 := by decide
      have e13 : (13 : Int32).toInt = 13 := by decide
      have e14 : (14 : Int32).toInt = 14 := by decide
      have e15 : (15 : Int32).toInt = 15 := by decide
      have e16 : (16 : Int32).toInt = 16 := by decide
      have e17 : (17 : Int32).toInt = 17 := by decide
      have e18 : (18 : Int32).toInt = 18 := by decide
      have e19 : (19 : Int32).toInt = 19 := by decide
      have e20 : (20 : Int32).toInt = 20 := by decide
      have e21 : (21 : Int32).toInt = 21 := by decide
      have e22 : (22 : Int32).toInt = 22 := by decide
      have e23 : (23 : Int32).toInt = 23 := by decide
      have e24 : (24 : Int32).toInt = 24 := by decide
      have e25 : (25 : Int32).toInt = 25 := by decide
      simp only [e0, e1, e2, e3, e4, e5, e6, e7, e8, e9, e10, e11, e12, e13, e14, e15, e16, e17, e18, e19, e20, e21, e22, e23, e24, e25] at n0 n1 n2 n3 n4 n5 n6 n7 n8 n9 n10 n11 n12 n13 n14 n15 n16 n17 n18 n19 n20 n21 n22 n23 n24 n25
      omega
    refine lv_tableOut (tgt := 1418) hx hb dL_law_39 hsw (by decide) ?_
    exact TL_law_1418 C hst hX hbl hbA hk23 _ _ _ (rb_wk hRB) h w (lv_sub hl [0, 1, 2, 3, 4] rfl)
noncomputable def fbL_law_23 (F : Nat) (xs : Nat → Int32) (L : Nat) (n : Nat) : Int32 → M3 → J3 → Option Int32 := itr (fun k a4 G K => fsL_law_23 F k xs L a4 G K) (fun _ _ _ => none) n
theorem TL_law_23 (C : Cx E (fun q : Nat => s.heap.size ≤ q) p s m #[Value.ref b] meth c (Cond.initialized RX4) code 9 ret RL) (hst : l.stackTraces = false) (hX : va_X b L xs s s.heap) (hbl : b < s.heap.size) (hbA : ¬ (fun q : Nat => s.heap.size ≤ q) b) : ∀ (n : Nat) (a4 : Int32) (G : M3) (K : J3) (ls : Array Slot) (H : Heap) (locs : List Loc) (cells slots : Nat), RB n cells slots → fbL_law_23 F xs L n a4 G K = some 1 → Wd E (fun q : Nat => s.heap.size ≤ q) s G K H locs → lv_has ls 9 [(0, .ref b), (1, .ref (ad E 6 0)), (2, .ref (ad E 8 0)), (3, .ref (ad E 9 0)), (4, .int a4)] → W p l e room_1 s m #[Value.ref b] below meth c H locs cells slots (lw_Z below #[Value.ref b] s) (F0 m 23 ls []) := by
  intro n
  induction n with
  | zero => intro a4 G K ls H locs cells slots _ h; exact absurd (show none = _ from h) (fun z => nomatch z)
  | succ n ih => intro a4 G K ls H locs cells slots hRB h w hl; exact SL_law_23 (F := F) C hst hX hbl hbA ih a4 G K hRB h w hl
end XLW3
