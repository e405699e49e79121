theorem Inv_T {U A T T' : Int} {n : Nat} {s : M1} {b : J1} (h : Inv U A T n s b) (ht : (s 11).toInt ≤ T') : Inv U A T' n s b :=
  ⟨h.n5, h.cnt, h.vol, h.air, h.rel, h.rst, h.lek, h.dem, ⟨h.tim.1, ht⟩, h.unm, h.cmp, h.prm, h.res⟩
theorem tm_add {U A T : Int} {n N : Nat} {s : M1} {b : J1} (h : Inv U A T n s b) (hT : T ≤ 1000000) (hN : N ≤ 600) : (s 11 + Int32.ofNat N).toInt = (s 11).toInt + N := by
  have ht := h.tim
  rw [pi_add (by rw [pn_ti (by omega)]; omega) (by rw [pn_ti (by omega)]; omega), pn_ti (by omega)]
theorem pc_time {n : Nat} {M : M2} {J : J2} {s : M1} {b : J1} {x : Int32} (h : Rep n M J s b) : fX3_hasTimeFor M J x = 0 ↔ ¬ (s 11 + x ≤ 100000) := by
  have o2 := h.o.2.2.1
  unfold fX3_hasTimeFor
  rw [o2]
  have h1 := Int32.le_iff_toInt_le (x := s 11 + x) (y := 100000)
  have h2 := Int32.lt_iff_toInt_lt (x := 100000) (y := s 11 + x)
  by_cases hc : (100000 : Int32) < s 11 + x
  · rw [if_pos hc]
    exact ⟨fun _ h => by rw [h1] at h; rw [h2] at hc; omega, fun _ => rfl⟩
  · rw [if_neg hc]
    exact ⟨fun h => absurd h (by decide), fun h => absurd (by rw [h1]; rw [h2] at hc; omega) h⟩
/-- minutes that keep within the time -/
theorem Iv_mikT {n N : Nat} {s : M1} {b : J1} (h : Iv 100000 n (s, b)) (hN : N ≤ 600) (ht : s 11 + Int32.ofNat N ≤ 100000) : Iv 100000 n (mik n (s, b) N) := by
  obtain ⟨h1, h2⟩ := Iv_mik (k := N) h (by omega)
  refine Inv_T h1 ?_
  rw [h2, ← tm_add h (by omega) hN]
  exact Int32.le_iff_toInt_le.mp ht
theorem Iv_tskT {n N : Nat} {q : M1 × J1} (h : Iv 100000 n q) (hN : N ≤ 600) (ht : q.1 11 + Int32.ofNat N ≤ 100000) : Iv 100000 n (tsk n q N) := by
  obtain ⟨h1, h2⟩ := Iv_tsk (k := N) h (by omega)
  refine Inv_T h1 ?_
  rw [h2, ← tm_add h (by omega) hN]
  exact Int32.le_iff_toInt_le.mp ht
theorem c_pass {F : Nat} {G : M3} {K : J3} {x : Int32} (hF : 1000 ≤ F) (h : RR G K) : Agr (fL_pass F x G K) (fX5_pass F x) := by
  obtain ⟨n, hI, hR⟩ := h.1
  have hn := hI.n5
  by_cases h1 : 1 ≤ x ∧ x ≤ 600
  · obtain ⟨N, -, hN, rfl⟩ := s_cases (a := 1) (b := 600) (by decide) h1 (by decide)
    have w1 : ¬ fX4_isWithin (Int32.ofNat N) 1 600 = 0 := fun e => (wi_iff.mp e) h1
    by_cases ht : G 8 1 11 + Int32.ofNat N ≤ 100000
    · have w2 : ¬ fX3_hasTimeFor (G 0) (K 0) (Int32.ofNat N) = 0 := fun e => (pc_time hR).mp e ht
      obtain ⟨G1, K1, d1, d2, d3, d4, d5, -, -, d6⟩ := mut_end hF h
      obtain ⟨M', J', g1, g2⟩ := pc_minutes (F := F) (N := N) hF hI hN (by omega) hR
      obtain ⟨y, k1⟩ := pv_minutes (F := F) (N := N) (M := hM (G 8)) (J := hJ (K 8)) (r0 := G 8 0) hF hI hN (by omega)
      have hI1 := Iv_mikT hI hN ht
      obtain ⟨R, B, r8, d7, d8⟩ := d6 n M' J' (hM (G 8)) (sg (sg (G 8 0) 12 y) 13 (prs (mik n (G 8 1, K 8 2) N).1)) (mik n (G 8 1, K 8 2) N).1 (mik n (G 8 1, K 8 2) N).2 hI1 g2 (by rw [sg_ne _ _ (by decide), sg_ne _ _ (by decide)]) (by rw [sg_ne _ _ (by decide), sg_ne _ _ (by decide)]) (fun r _ _ => rfl)
      refine Agr.mut (M' := M') (J' := J') (v := prs (mik n (G 8 1, K 8 2) N).1) (M8 := RM (sg (hM (G 8)) 3 R) (sg (sg (sg (sg (G 8 0) 12 y) 13 (prs (mik n (G 8 1, K 8 2) N).1)) 8 r8) 11 0) (mik n (G 8 1, K 8 2) N).1) (J8 := RJ (sg (hJ (K 8)) 4 B) (mik n (G 8 1, K 8 2) N).2) d4 d5 ?_ ?_ ?_ ?_
      · unfold fL_pass fX4_pass
        rw [if_pos w1, if_pos w2, d1, bd2_s, d2, d3, g1, bd2_s]
        simp only [bnd_s, sg_eq]
        rw [pc_press (Inv_v0 hI1).1 g2, Option.bind_some, bd4_s, if_pos rfl]
      · unfold fX5_pass
        rw [pv_hold hF, bd2_s, if_neg (show ¬ fX5_in (Int32.ofNat N) 1 600 = 0 from w1)]
        unfold fX5_passes fbX5_pass_25
        rw [RM_1, if_pos ht, k1, bd2_s, pv_press (Inv_v0 hI1).2, Option.bind_some, bnd_s, RM_u0, bd3_s]
        have d7 := d7
        unfold prs at d7
        rw [pv_ends0 d7, bd3_s, RM_0, RM_u0, sg_ne _ _ (by decide), sg_eq]
        rfl
      · rw [RM_0, sg_eq]
      · refine d8 _ _ (sg (sg (sg (sg (G 8 0) 12 y) 13 (prs (mik n (G 8 1, K 8 2) N).1)) 8 r8) 11 0) (fun g hg => mut_g g hg) (fun g hg => mut_k g hg) ?_ ?_ (sg_eq _ _ _) (sg_eq _ _ _)
        · rw [sg_ne _ _ (by decide), sg_eq]
        · rw [sg_ne _ _ (by decide), sg_ne _ _ (by decide), sg_ne _ _ (by decide), sg_ne _ _ (by decide)]
    · have w2 : fX3_hasTimeFor (G 0) (K 0) (Int32.ofNat N) = 0 := (pc_time hR).mpr ht
      refine Agr.throwh (k := 2) (v := 0) h (by decide) ?_ ?_
      · unfold fL_pass fX4_pass
        rw [if_pos w1, if_neg (fun e => e w2), bd4_s]
        rfl
      · unfold fX5_pass
        rw [pv_hold hF, bd2_s, if_neg (show ¬ fX5_in (Int32.ofNat N) 1 600 = 0 from w1)]
        unfold fX5_passes fbX5_pass_25
        rw [RM_1, if_neg ht, bd3_s, pv_ends1 (by decide), bd3_s, ← hM_o (M := G 8) (r := 0) (by decide), ← hM_o (M := G 8) (r := 1) (by decide), RM_self, ← hJ_o (J := K 8) (r := 2) (by decide), RJ_self]
  · have w1 : fX4_isWithin x 1 600 = 0 := wi_iff.mpr h1
    refine Agr.throwh (k := 1) (v := 0) h (by decide) ?_ ?_
    · unfold fL_pass fX4_pass
      rw [if_neg (fun e => e w1), bd4_s]
      rfl
    · unfold fX5_pass
      rw [pv_hold hF, bd2_s, if_pos (show fX5_in x 1 600 = 0 from w1)]
      unfold fbX5_pass_25
      rw [pv_ends1 (by decide), bd3_s, ← hM_o (M := G 8) (r := 0) (by decide), ← hM_o (M := G 8) (r := 1) (by decide), RM_self, ← hJ_o (J := K 8) (r := 2) (by decide), RJ_self]
/-- the reference's leak test -/
theorem pv_lt170 {F : Nat} {M M3' : M2} {J J3' : J2} {r0 s : M1} {b : J1} {a2 : Int64} {r : Nat} {x : Int32} (hx : (b 1 - a2).toInt32 = x) (hr : r < 6) (h14 : s 14 = Int32.ofNat r) (hs : fX5_saves F (RM M (sg r0 13 x) (sg (sg s (15 + r) x) 14 (Int32.ofNat (r + 1)))) (RJ J b) = some (M3', J3')) : fbX5_leakTest_170 F a2 (RM M r0 s) (RJ J b) = some (M3' 0 13, up2 M3' 0 11 0, J3') := by
  unfold fbX5_leakTest_170
  rw [RJ_2, hx, bnd_s, RM_u0, RM_1, h14]
  simp (disch := omega) only [pn_add1, chk_b, pn_in, bnd_s, RM_u1, RM_1, RM_0, sg_eq]
  rw [sg_ne _ _ (by omega), h14, pn_s, pv_ends0 hs, bd3_s]
def shk (s : M1) (k : Nat) : M1 := fun i => if 15 ≤ i ∧ i < 15 + k then s (i + 1) else s i
theorem pv_lt125 {F : Nat} {M : M2} {J : J2} {r0 s : M1} {a2 : Int64} : ∀ d k m, k + d = 5 → d < m → fbX5_leakTest_125 F m a2 (Int32.ofNat k) (RM M r0 (shk s k)) J = fbX5_leakTest_170 F a2 (RM M r0 (sg (shk s 5) 14 (s 14 - 1))) J := by
  intro d
  induction d with
  | zero =>
    intro k m hk hm
    obtain ⟨m, rfl⟩ := fu hm
    obtain rfl : k = 5 := by omega
    rw [show fbX5_leakTest_125 F (m + 1) = fsX5_leakTest_125 F (fbX5_leakTest_125 F m) from rfl]
    unfold fsX5_leakTest_125
    rw [if_pos (by decide), bnd_s, RM_u1, RM_1]
    rfl
  | succ d ih =>
    intro k m hk hm
    obtain ⟨m, rfl⟩ := fu hm
    rw [← ih (k + 1) m (by omega) (by omega)]
    rw [show fbX5_leakTest_125 F (m + 1) = fsX5_leakTest_125 F (fbX5_leakTest_125 F m) from rfl]
    unfold fsX5_leakTest_125
    rw [if_neg (pc_lt5 (by omega))]
    simp (disch := omega) only [pn_add1, pn_s, chk_b, pn_in, bnd_s, RM_u1, RM_1]
    congr 2
    funext i
    rw [sg_ap]
    unfold shk
    by_cases e : i = 15 + k
    · subst e
      rw [if_pos rfl, if_neg (by omega), if_pos (by omega)]
    · rw [if_neg e]
      by_cases e2 : 15 ≤ i ∧ i < 15 + k
      · rw [if_pos e2, if_pos (by omega)]
      · rw [if_neg e2, if_neg (by omega)]
theorem kpr_6 {s : M1} {x : Int32} (h14 : s 14 = Int32.ofNat 6) : sg (sg (sg (shk s 5) 14 (s 14 - 1)) (15 + 5) x) 14 (Int32.ofNat (5 + 1)) = kpr s 6 x := by
  funext i
  unfold kpr
  rw [if_pos rfl]
  simp only [sg_ap]
  unfold shk
  by_cases h1 : i = 14
  · subst h1; rw [if_pos rfl]; simp [h14]
  · rw [if_neg h1]
    by_cases h2 : i = 20
    · subst h2; simp
    · rw [if_neg h2, if_neg h1]
      simp [h2]
theorem pv_ltL {F : Nat} {M M3' : M2} {J J3' : J2} {r0 : M1} {n N r : Nat} {q : M1 × J1} {y : Int32} (hF : 1000 ≤ F) (hI : Iv 100000 n q) (hN : N ≤ 600) (hr : r ≤ 6) (h14 : (tsk n q N).1 14 = Int32.ofNat r) (hy : y = if N = 0 then r0 12 else 0)
    (hs : fX5_saves F (RM M (sg (sg r0 12 y) 13 (lks n q N)) (kpr (tsk n q N).1 r (lks n q N))) (RJ J (tsk n q N).2) = some (M3', J3')) : ∀ d k m, k + d = N → d < m → fbX5_leakTest_93 F m (Int32.ofNat N) (q.2 1) (Int32.ofNat k) (RM M (sg r0 12 (if k = 0 then r0 12 else 0)) (tsk n q k).1) (RJ J (tsk n q k).2) = some (M3' 0 13, up2 M3' 0 11 0, J3') := by
  intro d
  induction d with
  | zero =>
    intro k m hk hm
    obtain ⟨m, rfl⟩ := fu hm
    obtain rfl : k = N := by omega
    rw [show fbX5_leakTest_93 F (m + 1) = fsX5_leakTest_93 F (fbX5_leakTest_93 F m) from rfl]
    unfold fsX5_leakTest_93
    rw [if_pos ((pn_le (by omega) (by omega)).mpr (by omega)), RM_1, h14, ← hy]
    by_cases h6 : r = 6
    · subst h6
      rw [if_neg (fun e => e (by decide))]
      have e := pv_lt125 (F := F) (M := M) (J := RJ J (tsk n q k).2) (r0 := sg r0 12 y) (s := (tsk n q k).1) (a2 := q.2 1) 5 0 F (by omega) (by omega)
      have e0 : shk (tsk n q k).1 0 = (tsk n q k).1 := by funext i; unfold shk; rw [if_neg (by omega)]
      rw [e0] at e
      refine Eq.trans e ?_
      refine pv_lt170 (r := 5) (x := lks n q k) lks_eq (by omega) (by rw [sg_eq, h14]; decide) ?_
      rw [kpr_6 h14]; exact hs
    · rw [if_pos (fun e => by have := (pn_eq2 (b := 6) (by omega) (by decide)).mp e; have : r = 6 := this; omega)]
      refine pv_lt170 (r := r) (x := lks n q k) lks_eq (by omega) h14 ?_
      have e : kpr (tsk n q k).1 r (lks n q k) = sg (sg (tsk n q k).1 (15 + r) (lks n q k)) 14 (Int32.ofNat (r + 1)) := by unfold kpr; rw [if_neg h6]
      rw [← e]; exact hs
  | succ d ih =>
    intro k m hk hm
    obtain ⟨m, rfl⟩ := fu hm
    have ih := ih (k + 1) m (by omega) (by omega)
    have hI2 := (Iv_tsk (k := k) hI (by omega)).1
    rw [show fbX5_leakTest_93 F (m + 1) = fsX5_leakTest_93 F (fbX5_leakTest_93 F m) from rfl]
    unfold fsX5_leakTest_93
    rw [if_neg (fun h => by have := (pn_le (by omega) (by omega)).mp h; omega), pv_test hF hI2.n5 hI2.cnt hI2.prm (Inv_mrot hI2).prm (Inv_v0 hI2).2, bd2_s, pn_s, sg_sg]
    rw [if_neg (by omega)] at ih
    exact ih
theorem pv_lt42 {F : Nat} {M M3' : M2} {J J3' : J2} {r0 s : M1} {b : J1} {n N r : Nat} {y : Int32} (hF : 1000 ≤ F) (hI : Iv 100000 n (s, b)) (hN : N ≤ 600) (hr : r ≤ 6) (h14 : (tsk n (ulk s n, b) N).1 14 = Int32.ofNat r) (hy : y = if N = 0 then r0 12 else 0)
    (hs : fX5_saves F (RM M (sg (sg r0 12 y) 13 (lks n (ulk s n, b) N)) (kpr (tsk n (ulk s n, b) N).1 r (lks n (ulk s n, b) N))) (RJ J (tsk n (ulk s n, b) N).2) = some (M3', J3')) : ∀ d k m, k + d = n → d < m → fbX5_leakTest_42 F m (Int32.ofNat N) (Int32.ofNat k) (RM M r0 (ulk s k)) (RJ J b) = some (M3' 0 13, up2 M3' 0 11 0, J3') := by
  have hn := hI.n5
  have hcn : s 10 = Int32.ofNat n := hI.cnt
  intro d
  induction d with
  | zero =>
    intro k m hk hm
    obtain ⟨m, rfl⟩ := fu hm
    obtain rfl : k = n := by omega
    rw [show fbX5_leakTest_42 F (m + 1) = fsX5_leakTest_42 F (fbX5_leakTest_42 F m) from rfl]
    unfold fsX5_leakTest_42
    rw [RM_1, ulk_at hn (by omega), hcn, if_pos ((pn_le (by omega) (by omega)).mpr (by omega)), RJ_2]
    have e := pv_ltL (F := F) (M := M) (J := J) (r0 := r0) (q := (ulk s k, b)) hF (Inv_ulk hI (Nat.le_refl k)) hN hr h14 hy hs N 0 F (by omega) (by omega)
    rw [if_pos rfl, sg_self] at e
    exact e
  | succ d ih =>
    intro k m hk hm
    obtain ⟨m, rfl⟩ := fu hm
    rw [← ih (k + 1) m (by omega) (by omega)]
    rw [show fbX5_leakTest_42 F (m + 1) = fsX5_leakTest_42 F (fbX5_leakTest_42 F m) from rfl]
    unfold fsX5_leakTest_42
    rw [RM_1, ulk_at (by omega) (by omega), hcn, if_neg (fun h => by have := (pn_le (by omega) (by omega)).mp h; omega), pv_its (by show 21 + 7 * k + 1 < 61; omega), RM_1]
    simp only [Option.bind_some, fbX5_leakTest_77, pn_s]
    rw [show ulk s (k + 1) = ulb (ulk s k) k from rfl]
    unfold ulb
    by_cases h1 : ulk s k (21 + 7 * k + 1) = 1
    · rw [if_neg (fun e => e h1), pv_put (by show 21 + 7 * k + 1 < 61; omega), bd2_s, pv_put (by show 21 + 7 * k + 4 < 61; omega), bd2_s, if_pos h1]
    · rw [if_pos h1, if_neg h1]
theorem c_leak {F : Nat} {G : M3} {K : J3} {x : Int32} (hF : 1000 ≤ F) (h : RR G K) : Agr (fL_leakTest F x G K) (fX5_leakTest F x) := by
  obtain ⟨n, hI, hR⟩ := h.1
  have hn := hI.n5
  by_cases h1 : 1 ≤ x ∧ x ≤ 60
  · obtain ⟨N, hN1, hN, rfl⟩ := s_cases (a := 1) (b := 60) (by decide) h1 (by decide)
    have w1 : ¬ fX4_isWithin (Int32.ofNat N) 1 60 = 0 := fun e => (wi_iff.mp e) h1
    by_cases ht : G 8 1 11 + Int32.ofNat N ≤ 100000
    · have w2 : ¬ fX3_hasTimeFor (G 0) (K 0) (Int32.ofNat N) = 0 := fun e => (pc_time hR).mp e ht
      obtain ⟨G1, K1, d1, d2, d3, d4, d5, -, -, d6⟩ := mut_end hF h
      obtain ⟨M', J', g1, r, hr, h14, g2⟩ := pc_ltest (F := F) (N := N) hF hI (by omega) (by omega) hR
      have hI2 : Iv 100000 n (ulk (G 8 1) n, K 8 2) := Inv_ulk hI (Nat.le_refl n)
      have hI3 : Iv 100000 n (lts n (G 8 1, K 8 2) N) := Iv_tskT hI2 (by omega) (by dsimp only; rw [ulk_at hn (by omega)]; exact ht)
      have hI1 : Iv 100000 n (kpr (lts n (G 8 1, K 8 2) N).1 r (lks n (ulk (G 8 1) n, K 8 2) N), (lts n (G 8 1, K 8 2) N).2) := Inv_kpr hI3 hr h14
      obtain ⟨R, B, r8, d7, d8⟩ := d6 n M' J' (hM (G 8)) (sg (sg (G 8 0) 12 0) 13 (lks n (ulk (G 8 1) n, K 8 2) N)) _ _ hI1 g2 (by rw [sg_ne _ _ (by decide), sg_ne _ _ (by decide)]) (by rw [sg_ne _ _ (by decide), sg_ne _ _ (by decide)]) (fun r _ _ => rfl)
      refine Agr.mut (M' := M') (J' := J') (v := lks n (ulk (G 8 1) n, K 8 2) N) (M8 := RM (sg (hM (G 8)) 3 R) (sg (sg (sg (sg (G 8 0) 12 0) 13 (lks n (ulk (G 8 1) n, K 8 2) N)) 8 r8) 11 0) (kpr (lts n (G 8 1, K 8 2) N).1 r (lks n (ulk (G 8 1) n, K 8 2) N))) (J8 := RJ (sg (hJ (K 8)) 4 B) (lts n (G 8 1, K 8 2) N).2) d4 d5 ?_ ?_ ?_ ?_
      · unfold fL_leakTest fX4_leakTest
        rw [if_pos w1, if_pos w2, d1, bd2_s, d2, d3, g1, bd3_s]
        simp only [bnd_s, bd4_s, if_true]
      · unfold fX5_leakTest
        rw [if_pos (show ¬ fX5_in (Int32.ofNat N) 1 60 = 0 from w1), if_pos ht, pv_hold hF, bd2_s]
        refine (pv_lt42 (F := F) (M := hM (G 8)) (J := hJ (K 8)) (r0 := G 8 0) (s := G 8 1) (b := K 8 2) hF hI (by omega) hr h14 (show (0 : Int32) = _ by rw [if_neg (by omega)]) d7 n 0 F (by omega) (by omega)).trans ?_
        rw [RM_0, RM_u0, sg_ne _ _ (by decide), sg_eq]
      · rw [RM_0, sg_eq]
      · refine d8 _ _ (sg (sg (sg (sg (G 8 0) 12 0) 13 (lks n (ulk (G 8 1) n, K 8 2) N)) 8 r8) 11 0) (fun g hg => mut_g g hg) (fun g hg => mut_k g hg) ?_ ?_ (sg_eq _ _ _) (sg_eq _ _ _)
        · rw [sg_ne _ _ (by decide), sg_eq]
        · rw [sg_ne _ _ (by decide), sg_ne _ _ (by decide), sg_ne _ _ (by decide), sg_ne _ _ (by decide)]
    · have w2 : fX3_hasTimeFor (G 0) (K 0) (Int32.ofNat N) = 0 := (pc_time hR).mpr ht
      refine Agr.throw (k := 2) (v := 0) h (by decide) ?_ ?_
      · unfold fL_leakTest fX4_leakTest
        rw [if_pos w1, if_neg (fun e => e w2), bd4_s]
        rfl
      · unfold fX5_leakTest
        rw [if_pos (show ¬ fX5_in (Int32.ofNat N) 1 60 = 0 from w1), if_neg ht, pv_fails, bd3_s]
  · have w1 : fX4_isWithin x 1 60 = 0 := wi_iff.mpr h1
    refine Agr.throw (k := 1) (v := 0) h (by decide) ?_ ?_
    · unfold fL_leakTest fX4_leakTest
      rw [if_neg (fun e => e w1), bd4_s]
      rfl
    · unfold fX5_leakTest
      rw [if_neg (fun e => e w1), pv_fails, bd3_s]
