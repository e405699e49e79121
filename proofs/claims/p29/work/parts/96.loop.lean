/-! the law's rounds -/
section L
variable {F L : Nat} {xs : Nat → Int32}
/-- after the rounds -/
theorem lq_last {n : Nat} {G : M3} {K : J3} {s : M1} {b : J1} (hF : 1000 ≤ F) (p : LI 4 G K s b) (ht : (s 11).toInt ≤ 1500) : (bdz (fX4_value F (1 : Int32) G K) (fun vv2 G3 K4 => bdz (fX4_booked (5 : Int32) G3 K4) (fun vv6 G7 K8 => (fX4_digest F G7 K8).bind (fun vv11 => bdx 1 (fX4_pass F (0 : Int32) G7 K8) (fun G13 K14 => bdx 3 (fX4_trip F (4 : Int32) G13 K14) (fun G17 K18 => bd3 (fX4_minutesToLoad F G17 K18) (fun vv23 G21 K22 => chk (¬ vv23 < (-1 : Int32)) ((fX4_digest F G21 K22).bind (fun vv26 => chk ((lg_cmp vv26 vv11) = 0) (bdz (fX4_pass F (30 : Int32) G21 K22) (fun vv28 G29 K30 => chk (¬ vv28 < 0) (bdh (fL_holds F G29 K30) (fun G33 K34 => bdz (fX4_undo F G33 K34) (fun vv36 G37 K38 => chk (¬ vv36 < 0) (bdz (fX4_value F (1 : Int32) G37 K38) (fun vv41 G42 K43 => chk (vv41 = vv2) (bdz (fX4_booked (5 : Int32) G42 K43) (fun vv46 G47 K48 => chk ((lg_cmp vv46 vv6) = 0) (some 1))))))))))))))))))) = some (1 : Int32) := by
  have q := p.q0 hF
  obtain ⟨⟨h, sv, bv, p1⟩, p2⟩ := p
  obtain ⟨D, hD⟩ := w_dig hF p1
  obtain ⟨v, M', J', m1, m2⟩ := w_mtl hF p1
  have p3 := p1.trial (M' := M') (J' := J')
  have hI := p1.1
  obtain ⟨G2, K2, s2, b2, e1, e2, hP⟩ := lq_passU (N := 30) hF p3 p2 (by decide) (by decide) (by omega)
  have hh := w_holds (e2.q0 hF) hP
  have hpr := prs_air e2.1 hP
  obtain ⟨t, ht2⟩ := hup_pos (h := h)
  have hle := hup_le (h := h)
  rw [ht2] at e2 hle
  obtain ⟨G4, K4, n', u1, u2, u3⟩ := w_undo hF e2
  have q4 : Q0 F n' G4 K4 s b := ⟨hF, u2, u3⟩
  have e1 : fX4_pass F (30 : Int32) (sg G 1 M') (sg K 1 J') = _ := e1
  have hnn : ¬ Int32.ofNat t < 0 := nn_ge (by rw [pn_ti (by omega)]; omega)
  rw [q_v1 q, bdz_p, q_b5 q, bdz_p, hD G K rfl rfl rfl rfl, Option.bind_some, w_pass0, bdx_s, w_trip4 hF p1, bdx_s, m1, bd3_s, chk_t m2, hD _ _ (sg_ne _ _ (by decide)) (sg_ne _ _ (by decide)) (sg_ne _ _ (by decide)) (sg_ne _ _ (by decide)), Option.bind_some, chk_t (lg_same _), e1, bdz_p, chk_t (nn_ge hpr.1), hh, bdh_s, u1, bdz_p, chk_t hnn, q_v1 q4, bdz_p, chk_t rfl, q_b5 q4, bdz_p, chk_t (lg_same _)]
theorem lq_98 (hF : 1000 ≤ F) (hL : L ≤ 260) : ∀ (d k m : Nat), k + d = 30 → d < m → ∀ (G : M3) (K : J3) (s : M1) (b : J1), LI 4 G K s b → (s 11).toInt ≤ 50 * (k : Int) → fbL_law_98 F xs L m (Int32.ofNat k) G K = some 1 := by
  intro d
  induction d with
  | zero =>
    intro k m hk hm G K s b p ht
    obtain ⟨m, rfl⟩ := fu hm
    obtain rfl : k = 30 := by omega
    rw [show fbL_law_98 F xs L (m + 1) = fsL_law_98 F xs L (fbL_law_98 F xs L m) from rfl]
    unfold fsL_law_98
    rw [if_pos (by decide)]
    exact lq_last (n := 4) hF p (by omega)
  | succ d ih =>
    intro k m hk hm G K s b p ht
    obtain ⟨m, rfl⟩ := fu hm
    have q := p.q0 hF
    have hI := q.2.1
    have tm0 : 0 ≤ (s 11).toInt := hI.tim.1
    have fin : ∀ (G' : M3) (K' : J3) (s' : M1) (b' : J1), LI 4 G' K' s' b' → (s' 11).toInt ≤ (s 11).toInt + 50 → fbL_law_592 F (fbL_law_98 F xs L m) xs L (Int32.ofNat k) G' K' = some 1 := by
      intro G' K' s' b' p' ht'
      unfold fbL_law_592
      rw [lq_holds hF p', bdh_s, pn_s]
      exact ih (k + 1) m (by omega) (by omega) G' K' s' b' p' (by omega)
    rw [show fbL_law_98 F xs L (m + 1) = fsL_law_98 F xs L (fbL_law_98 F xs L m) from rfl]
    unfold fsL_law_98
    rw [if_neg (fun e => by have := (pn_le1 (a := 30) (by decide) (by omega)).mp e; have : 30 ≤ k := this; omega)]
    obtain ⟨v, hv, hc⟩ := cell_of (L := L) (k := 5 + k) (xs := xs) hL (by omega)
    have e5 : (5 : Int32) + Int32.ofNat k = Int32.ofNat (5 + k) := pn_add1 5 k
    rw [e5, hc, Option.bind_some, q_v7 q, bdz_p]
    have m8 : Int32.ofNat v - Int32.ofNat v / (8 : Int32) * (8 : Int32) = Int32.ofNat (v % 8) := pn_mod (b := 8) hv (by decide) (by decide)
    have d8 : Int32.ofNat v / (8 : Int32) = Int32.ofNat (v / 8) := pn_div (b := 8) hv (by decide) (by decide)
    have hz : v / 8 < 2147483648 := Nat.lt_of_le_of_lt (Nat.div_le_self v 8) hv
    generalize v / 8 = z at d8 hz
    have z1 : Int32.ofNat z - Int32.ofNat z / (1200 : Int32) * (1200 : Int32) = Int32.ofNat (z % 1200) := pn_mod (b := 1200) hz (by decide) (by decide)
    have z2 : Int32.ofNat z - Int32.ofNat z / (491 : Int32) * (491 : Int32) = Int32.ofNat (z % 491) := pn_mod (b := 491) hz (by decide) (by decide)
    have z3 : Int32.ofNat z - Int32.ofNat z / (4 : Int32) * (4 : Int32) = Int32.ofNat (z % 4) := pn_mod (b := 4) hz (by decide) (by decide)
    have z4 : Int32.ofNat z - Int32.ofNat z / (20 : Int32) * (20 : Int32) = Int32.ofNat (z % 20) := pn_mod (b := 20) hz (by decide) (by decide)
    have z5 : Int32.ofNat z - Int32.ofNat z / (50 : Int32) * (50 : Int32) = Int32.ofNat (z % 50) := pn_mod (b := 50) hz (by decide) (by decide)
    rw [m8, d8, z1, z2, z3, z4, z5]
    have w2 : (10 : Int32) + Int32.ofNat (z % 491) = Int32.ofNat (10 + z % 491) := pn_add1 10 _
    have w4 : (1 : Int32) + Int32.ofNat (z % 20) = Int32.ofNat (1 + z % 20) := pn_add1 1 _
    have w5 : (1 : Int32) + Int32.ofNat (z % 50) = Int32.ofNat (1 + z % 50) := pn_add1 1 _
    rw [w2, w4, w5]
    have h8 : v % 8 < 8 := Nat.mod_lt _ (by decide)
    generalize v % 8 = y at h8
    have l1 := Nat.mod_lt z (show 0 < 1200 by decide)
    have l2 := Nat.mod_lt z (show 0 < 491 by decide)
    have l3 := Nat.mod_lt z (show 0 < 4 by decide)
    have l4 := Nat.mod_lt z (show 0 < 20 by decide)
    have l5 := Nat.mod_lt z (show 0 < 50 by decide)
    have n0 : ∀ (j : Nat), j < 10 → y ≠ j → ¬ Int32.ofNat y = Int32.ofNat j := fun j hj hne e => hne ((pn_eq (by omega) (by omega)).mp e)
    have e0 : (0 : Int32) = Int32.ofNat 0 := rfl
    by_cases y0 : y = 0
    · subst y0
      obtain ⟨G1, K1, e1, p1, q1⟩ := lq_set (k := 6) (y := Int32.ofNat (z % 1200)) hF p (by omega) ⟨show (0 : Int32) ≤ _ from (pn_le1 (a := 0) (by decide) (by omega)).mpr (Nat.zero_le _), show _ ≤ (3000 : Int32) from (pn_le2 (b := 3000) (by omega) (by decide)).mpr (by show _ ≤ 3000; omega)⟩
      have e1 : fX4_set F (6 : Int32) (Int32.ofNat (z % 1200)) G K = some (0, s 8, G1, K1) := e1
      have e3 : sg s (2 + 6) (Int32.ofNat (z % 1200)) 8 = Int32.ofNat (z % 1200) := sg_eq _ _ _
      rw [if_pos (show Int32.ofNat 0 = (0 : Int32) from rfl), e1, bdz_p, chk_t (nn_ge hI.dem.1), q_s6 q1, bdz_p, chk_t e3]
      exact fin G1 K1 _ _ p1 (by rw [sg_ne _ _ (by decide)]; omega)
    rw [if_neg (show ¬ Int32.ofNat y = (0 : Int32) from n0 0 (by decide) y0)]
    by_cases y1 : y = 1
    · subst y1
      obtain ⟨G1, K1, e1, p1, q1⟩ := lq_set (k := 1) (y := Int32.ofNat (10 + z % 491)) hF p (by omega) ⟨show (10 : Int32) ≤ _ from (pn_le1 (a := 10) (by decide) (by omega)).mpr (by show 10 ≤ _; omega), show _ ≤ (500 : Int32) from (pn_le2 (b := 500) (by omega) (by decide)).mpr (by show _ ≤ 500; omega)⟩
      have e1 : fX4_set F (1 : Int32) (Int32.ofNat (10 + z % 491)) G K = some (0, s 3, G1, K1) := e1
      have h3 : 10 ≤ (s 3).toInt := p.2.1.2.2
      have e3 : ¬ s 3 < 10 := fun e => by rw [Int32.lt_iff_toInt_lt, show (10 : Int32).toInt = 10 by decide] at e; omega
      rw [if_pos (show Int32.ofNat 1 = (1 : Int32) from rfl), e1, bdz_p, chk_t e3]
      exact fin G1 K1 _ _ p1 (by rw [sg_ne _ _ (by decide)]; omega)
    rw [if_neg (show ¬ Int32.ofNat y = (1 : Int32) from n0 1 (by decide) y1)]
    by_cases y2 : y = 2
    · subst y2
      generalize z % 4 = c at l3
      rw [if_pos (show Int32.ofNat 2 = (2 : Int32) from rfl), q_c1 q l3, bdz_p]
      by_cases hm : s (21 + 7 * c + 1) = 3
      · obtain ⟨G1, K1, e1, p1, q1⟩ := lq_clear hF p l3 hm
        have f1 : clr s c (21 + 7 * c + 1) = 0 := by unfold clr; rw [sg_ne _ _ (by omega), sg_eq]
        have f5 : clr s c (21 + 7 * c + 5) = s 6 := by unfold clr; rw [sg_eq]
        have f6 : clr s c 6 = s 6 := clr_out (by omega)
        have f2 : Int32.ofNat (stg s c) = Int32.ofNat (stg (clr s c) c) := by rw [stg_congr (s := s) (t := clr s c) (fun i hi => clr_out (by omega))]
        rw [if_neg (fun e => e hm), e1, bdz_p, q_c2 q1 l3, bdz_p, chk_t f2, q_c1 q1 l3, bdz_p, chk_t f1, q_c6 q1 l3, bdz_p, q_s4 q1, bdz_p, if_pos f1, chk_t (f5.trans f6.symm)]
        unfold fbL_law_337
        exact fin G1 K1 _ _ p1 (by rw [clr_out (by omega)]; omega)
      · obtain ⟨G1, K1, e1, p1, q1⟩ := lq_trip hF p l3 hm
        have f1 : trp s c (21 + 7 * c + 1) = 3 := by unfold trp; rw [sg_ne _ _ (by omega), sg_ne _ _ (by omega), sg_eq]
        rw [if_pos hm, e1, bdz_p, chk_t rfl, q_c1 q1 l3, bdz_p, chk_t f1]
        unfold fbL_law_337
        exact fin G1 K1 _ _ p1 (by rw [trp_out (by omega)]; omega)
    rw [if_neg (show ¬ Int32.ofNat y = (2 : Int32) from n0 2 (by decide) y2)]
    by_cases y3 : y = 3
    · subst y3
      obtain ⟨G1, K1, s1, b1, e1, p1, q1, t1, t2, t3⟩ := lq_test (N := 1 + z % 20) hF p (by omega) (by omega) (by omega)
      rw [if_pos (show Int32.ofNat 3 = (3 : Int32) from rfl), q_b1 q, bdz_p, e1, bdz_p, q_b1 q1, bdz_p, chk_t rfl, q_v7 q1, bdz_p, chk_t t1, q_v4 q1, bdz_p, chk_t t3]
      exact fin G1 K1 _ _ p1 (by rw [t2]; omega)
    rw [if_neg (show ¬ Int32.ofNat y = (3 : Int32) from n0 3 (by decide) y3)]
    by_cases y4 : y = 4
    · subst y4
      obtain ⟨G1, K1, e1, p1, q1⟩ := lq_rotate hF p
      have hm := mvk_le (s := s) (n := 4) (k := 4)
      have f13 : rots s 4 13 = s 13 + 1 := sg_eq _ _ _
      have f12 : rots s 4 12 = 0 := by unfold rots; rw [sg_ne _ _ (by decide), sg_eq]
      rw [if_pos (show Int32.ofNat 4 = (4 : Int32) from rfl), q_v9 q, bdz_p, e1, bd3_s, chk_t (nn_ge (by rw [pn_ti (by omega)]; omega)), q_v9 q1, bdz_p, chk_t f13, q_v8 q1, bdz_p, chk_t f12]
      exact lq_457 q1 (fin G1 K1 _ _ p1 (by rw [rots_at (by omega) (by omega) (by omega)]; omega)) 3 1 F (by decide) (by decide) (by omega)
    rw [if_neg (show ¬ Int32.ofNat y = (4 : Int32) from n0 4 (by decide) y4)]
    obtain ⟨G1, K1, s1, b1, e1, p1, q1, t1, t2⟩ := lq_pass (N := 1 + z % 50) hF p (by omega) (by omega) (by omega)
    have hpr := prs_air q1.2.1 p1.2
    have f4 : s1 4 = 10000 := p1.2.1.2.1
    have f5 : ¬ s1 4 < prs s1 := fun e => by rw [f4, Int32.lt_iff_toInt_lt, show (10000 : Int32).toInt = 10000 by decide] at e; omega
    rw [e1, bdz_p, chk_t (nn_ge hpr.1), q_v7 q1, bdz_p, chk_t t1, q_v2 q1, bdz_p, q_s2 q1, bdz_p, chk_t f5]
    exact fin G1 K1 _ _ p1 (by rw [t2]; omega)
/-- the compressors are added -/
theorem lq_15 (hF : 1000 ≤ F) (hL : L ≤ 260) : ∀ (d k m : Nat), k + d = 4 → d < m → ∀ (G : M3) (K : J3) (s : M1) (b : J1), LI k G K s b → s 9 = 480 → s 11 = 0 → fbL_law_15 F xs L m (Int32.ofNat k) G K = some 1 := by
  intro d
  induction d with
  | zero =>
    intro k m hk hm G K s b p h9 h11
    obtain ⟨m, rfl⟩ := fu hm
    obtain rfl : k = 4 := by omega
    rw [show fbL_law_15 F xs L (m + 1) = fsL_law_15 F xs L (fbL_law_15 F xs L m) from rfl]
    unfold fsL_law_15
    obtain ⟨v, hv, hc⟩ := cell_of (L := L) (k := 4) (xs := xs) hL (by omega)
    have hc : fL_cell L xs (4 : Int32) = some (Int32.ofNat v) := hc
    have m6 : Int32.ofNat v - Int32.ofNat v / (60 : Int32) * (60 : Int32) = Int32.ofNat (v % 60) := pn_mod (b := 60) hv (by decide) (by decide)
    have w6 : (10 : Int32) + Int32.ofNat (v % 60) = Int32.ofNat (10 + v % 60) := pn_add1 10 _
    have l6 := Nat.mod_lt v (show 0 < 60 by decide)
    obtain ⟨G1, K1, e1, p1, q1⟩ := lq_set (k := 7) (y := Int32.ofNat (10 + v % 60)) hF p (by omega) ⟨show (10 : Int32) ≤ _ from (pn_le1 (a := 10) (by decide) (by omega)).mpr (by show 10 ≤ _; omega), show _ ≤ (5000 : Int32) from (pn_le2 (b := 5000) (by omega) (by decide)).mpr (by show _ ≤ 5000; omega)⟩
    have e1 : fX4_set F (7 : Int32) (Int32.ofNat (10 + v % 60)) G K = some (0, s 9, G1, K1) := e1
    rw [if_pos (by decide), hc, Option.bind_some, m6, w6, e1, bdz_p, chk_t h9]
    exact lq_98 hF hL 30 0 F (by decide) (by omega) G1 K1 _ _ p1 (by rw [sg_ne _ _ (by decide), h11]; decide)
  | succ d ih =>
    intro k m hk hm G K s b p h9 h11
    obtain ⟨m, rfl⟩ := fu hm
    rw [show fbL_law_15 F xs L (m + 1) = fsL_law_15 F xs L (fbL_law_15 F xs L m) from rfl]
    unfold fsL_law_15
    obtain ⟨v, hv, hc⟩ := cell_of (L := L) (k := k) (xs := xs) hL (by omega)
    have m3 : Int32.ofNat v - Int32.ofNat v / (300 : Int32) * (300 : Int32) = Int32.ofNat (v % 300) := pn_mod (b := 300) hv (by decide) (by decide)
    have w3 : (10 : Int32) + Int32.ofNat (v % 300) = Int32.ofNat (10 + v % 300) := pn_add1 10 _
    have l3 := Nat.mod_lt v (show 0 < 300 by decide)
    obtain ⟨⟨h, sv, bv, p1⟩, p2⟩ := p
    obtain ⟨G1, K1, e1, e2⟩ := w_add (x := Int32.ofNat (10 + v % 300)) hF p1 (by omega) ⟨(pn_le1 (a := 10) (by decide) (by omega)).mpr (by show 10 ≤ _; omega), (pn_le2 (b := 500) (by omega) (by decide)).mpr (by show _ ≤ 500; omega)⟩
    have p3 : LI (k + 1) G1 K1 (adc s k (Int32.ofNat (10 + v % 300))) b := ⟨⟨_, _, _, e2⟩, Pq_adc p2 (by omega) (by rw [h11]; decide)⟩
    rw [if_neg (fun e => by have := (pn_le1 (a := 4) (by decide) (by omega)).mp e; have : 4 ≤ k := this; omega), hc, Option.bind_some, m3, w3, e1, bdz_p, chk_t rfl, lq_holds hF p3, bdh_s, pn_s]
    exact ih (k + 1) m (by omega) (by omega) G1 K1 _ _ p3 ((adc_o (by omega) (by omega) (by omega)).trans h9) ((adc_o (by omega) (by omega) (by omega)).trans h11)
end L
def rowS0 : Nat → Int32 := lsF [1000, 6000, 6500, 200, 10000, 5, 3, 2, 100, 480]
theorem LI_0 : LI 0 G0 K0 rowS0 (fun _ => 0) := by
  refine ⟨⟨0, fun _ => rowS0, fun _ _ => 0, ?_, ?_, by decide, ⟨0, by decide, rfl, rfl, fun i hi => absurd hi (Nat.not_lt_zero _)⟩, 0, by decide, rfl⟩, ?_⟩
  · show Inv 0 80010 100000 0 rowS0 (fun _ => 0)
    refine ⟨by decide, by decide, by decide, by decide, by decide, by decide, by decide, by decide, by decide, by decide, fun c hc => absurd hc (Nat.not_lt_zero _), ⟨fun c hc => absurd hc (Nat.not_lt_zero _), fun c hc => absurd hc (Nat.not_lt_zero _)⟩, ⟨0, by decide, by decide⟩⟩
  · refine ⟨⟨rfl, rfl, rfl, rfl, rfl, rfl, rfl⟩, fun k hk => ?_, fun k _ => rfl, fun c hc => absurd hc (Nat.not_lt_zero _), fun r hr h14 k hk => ?_⟩
    · show rowFirst k = rowS0 (2 + k)
      match k, hk with
      | 0, _ => rfl
      | 1, _ => rfl
      | 2, _ => rfl
      | 3, _ => rfl
      | 4, _ => rfl
      | 5, _ => rfl
      | 6, _ => rfl
      | 7, _ => rfl
      | k + 8, h => omega
    · rw [show rowS0 14 = Int32.ofNat 0 from rfl, pn_eq (by omega) (by omega)] at h14
      omega
  · refine ⟨⟨by decide, by decide, by decide⟩, ⟨by decide, by decide⟩, fun c hc => absurd hc (Nat.not_lt_zero _), ?_, rfl⟩
    unfold Aeq
    decide
theorem law_all {xs : Nat → Int32} {L : Nat} (hL : L ≤ 260) : fbL_law_8 1000 xs L G0 K0 = some 1 := by
  unfold fbL_law_8
  rw [lq_holds (Nat.le_refl _) LI_0, bdh_s]
  exact lq_15 (Nat.le_refl _) hL 4 0 1000 (by decide) (by decide) G0 K0 _ _ LI_0 (by decide) (by decide)
theorem whole_start {p : Program} {e : Env} {s : State} {m : MethodId} {below : List Frame} {meth : Method} {c : Code} (l : Launch) (hflags : l.flags = flags0) {b L : Nat} {xs : Nat → Int32} (hL : L ≤ 260) (C0 : lw_At p s m meth c b L xs) : W p l e room_1 s m #[Value.ref b] below meth c s.heap [] 0 0 (lw_Z below #[Value.ref b] s) (entryFrame m ([Value.ref b] : List Value).toArray 16) :=
  st_walk l hflags (law_all hL) C0
