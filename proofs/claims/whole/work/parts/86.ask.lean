/-- questions: the reference lays its rows aside and restores them -/
def lM (M : M2) : M2 := cpr 5 1 (fun i => i) (fun i => i) M 61
def lJ (J : J2) : J2 := cpr 6 2 (fun i => i) (fun i => i) J 6
theorem lM_o {M : M2} {r : Nat} (h : r ≠ 5) : lM M r = M r := cpr_o h
theorem lJ_o {J : J2} {r : Nat} (h : r ≠ 6) : lJ J r = J r := cpr_o h
theorem lM_5 {M : M2} {x : Nat} (h : x < 61) : lM M 5 x = M 1 x := cpr_in (d := 5) (r := 1) (f := fun i => i) (g := fun i => i) (M := M) (k := 61) h (fun i _ h1 => h1) (fun h => by omega)
theorem lJ_6 {J : J2} {x : Nat} (h : x < 6) : lJ J 6 x = J 2 x := cpr_in (d := 6) (r := 2) (f := fun i => i) (g := fun i => i) (M := J) (k := 6) h (fun i _ h1 => h1) (fun h => by omega)
theorem pv_lay {F : Nat} {M : M2} {J : J2} (hF : 1000 ≤ F) : fX5_lays F M J = some (RM (lM M) (M 0) (M 1), RJ (lJ J) (J 2)) := by
  rw [pv_lays hF]
  congr 2
  · show lM M = _
    rw [← lM_o (M := M) (r := 0) (by decide), ← lM_o (M := M) (r := 1) (by decide), RM_self]
  · show lJ J = _
    rw [← lJ_o (J := J) (r := 2) (by decide), RJ_self]
theorem RM_s1 {M : M2} {r0 s z : M1} : sg (RM M r0 s) 1 z = RM M r0 z := by unfold RM; rw [sg_sg]
theorem RJ_s2 {J : J2} {b z : J1} : sg (RJ J b) 2 z = RJ J z := by unfold RJ; rw [sg_sg]
theorem pv_back {F : Nat} {M : M2} {J : J2} {r0 s' s : M1} {b' b : J1} (hF : 1000 ≤ F) (h5 : ∀ x, x < 61 → M 5 x = s x) (h6 : ∀ x, x < 6 → J 6 x = b x) : ∃ s'' b'', fX5_restores F (RM M r0 s') (RJ J b') = some (RM M r0 s'', RJ J b'') ∧ (∀ x, x < 61 → s'' x = s x) ∧ ∀ x, x < 6 → b'' x = b x := by
  rw [pv_restores hF, cpr_sg (d := 1), RM_s1, cpr_sg (d := 2), RJ_s2]
  refine ⟨_, _, rfl, fun x hx => ?_, fun x hx => ?_⟩
  · have e := cpr_in (d := 1) (r := 5) (f := fun i => i) (g := fun i => i) (M := RM M r0 s') (k := 61) hx (fun i _ h1 => h1) (fun h => by omega)
    refine Eq.trans e ?_
    rw [RM_o _ _ _ (by decide) (by decide)]; exact h5 x hx
  · have e := cpr_in (d := 2) (r := 6) (f := fun i => i) (g := fun i => i) (M := RJ J b') (k := 6) hx (fun i _ h1 => h1) (fun h => by omega)
    refine Eq.trans e ?_
    rw [RJ_o _ _ (by decide)]; exact h6 x hx
theorem RR_ask {G G' : M3} {K K' : J3} {M : M2} {J : J2} {r0 s'' : M1} {b'' : J1} (h : RR G K) (hg : ∀ g, g = 0 ∨ (2 ≤ g ∧ g < 8) → G' g = G g ∧ K' g = K g) (e8 : G' 8 = RM M r0 s'') (f8 : K' 8 = RJ J b'') (h1 : ∀ i, i < 61 → s'' i = G 8 1 i) (h2 : ∀ i, i < 6 → b'' i = K 8 2 i) (h3 : M 3 = G 8 3) (h4 : J 4 = K 8 4) (h9 : M 9 = G 8 9) (r8 : r0 8 = G 8 0 8) (r10 : r0 10 = G 8 0 10) : RR G' K' := by
  refine RR_keep h hg (fun i hi => ?_) (fun i hi => ?_) ?_ ?_ ?_ ?_ ?_
  · rw [e8, RM_1]; exact h1 i hi
  · rw [f8, RJ_2]; exact h2 i hi
  · rw [e8, RM_o _ _ _ (by decide) (by decide)]; exact h3
  · rw [f8, RJ_o _ _ (by decide)]; exact h4
  · rw [e8, RM_0]; exact r8
  · rw [e8, RM_0]; exact r10
  · rw [e8, RM_o _ _ _ (by decide) (by decide)]; exact h9
theorem Agr.ask {o : Option (Int32 × M3 × J3)} {r : M2 → J2 → Option (Int32 × M2 × J2)} {G : M3} {K : J3} {v : Int32} {M' M : M2} {J' J : J2} {r0 s'' : M1} {b'' : J1} (h : RR G K) (ho : o = some (0, sg G 1 M', up3 (sg K 1 J') 9 0 0 v.toInt64)) (hr : r (G 8) (K 8) = some (v, RM M (sg r0 11 0) s'', RJ J b'')) (h1 : ∀ i, i < 61 → s'' i = G 8 1 i) (h2 : ∀ i, i < 6 → b'' i = K 8 2 i) (h3 : M 3 = G 8 3) (h4 : J 4 = K 8 4) (h9 : M 9 = G 8 9) (r8 : r0 8 = G 8 0 8) (r10 : r0 10 = G 8 0 10) : Agr o r := by
  refine ⟨0, _, _, v, _, _, ho, by rw [sg_ne _ _ (by decide), up3_o (by decide), sg_ne _ _ (by decide)]; exact hr, by rw [RM_0, sg_eq], fun _ => by rw [up3_e]; simp [up2_ap], ?_⟩
  refine RR_ask (M := M) (J := J) (r0 := sg r0 11 0) h (fun g hg => ⟨?_, ?_⟩) (sg_eq _ _ _) (sg_eq _ _ _) h1 h2 h3 h4 h9 ?_ ?_
  · rw [sg_ne _ _ (by omega), sg_ne _ _ (by omega)]
  · rw [sg_ne _ _ (by omega), up3_o (by omega), sg_ne _ _ (by omega)]
  · rw [sg_ne _ _ (by decide)]; exact r8
  · rw [sg_ne _ _ (by decide)]; exact r10
theorem c_press {F : Nat} {G : M3} {K : J3} {x : Int32} (hF : 1000 ≤ F) (h : RR G K) : Agr (fL_pressureIn F x G K) (fX5_pressureIn F x) := by
  obtain ⟨n, hI, hR⟩ := h.1
  have hn := hI.n5
  have hcn : G 8 1 10 = Int32.ofNat n := hI.cnt
  by_cases h1 : 0 ≤ x ∧ x ≤ 600
  · obtain ⟨N, -, hN, rfl⟩ := s_cases (a := 0) (b := 600) (by decide) h1 (by decide)
    have w1 : ¬ fX4_isWithin (Int32.ofNat N) 0 600 = 0 := fun e => (wi_iff.mp e) h1
    obtain ⟨M1', J1', a1, a2⟩ := pc_tk (F := F) (G := G) (K := K) (g := 1) (g' := 0) hF (by decide) hn hcn hR
    obtain ⟨M', J', g1, g2⟩ := pc_minutes (F := F) (N := N) (q := (G 8 1, K 8 2)) hF hI hN (by omega) a2
    obtain ⟨y, k1⟩ := pv_minutes (F := F) (N := N) (M := lM (G 8)) (J := lJ (K 8)) (r0 := G 8 0) (q := (G 8 1, K 8 2)) hF hI hN (by omega)
    have hI1 := (Iv_mik (k := N) hI (by omega)).1
    obtain ⟨s'', b'', q1, q2, q3⟩ := pv_back (F := F) (M := lM (G 8)) (J := lJ (K 8)) (r0 := sg (G 8 0) 12 y) (s' := (mik n (G 8 1, K 8 2) N).1) (b' := (mik n (G 8 1, K 8 2) N).2) (s := G 8 1) (b := K 8 2) hF (fun x hx => lM_5 hx) (fun x hx => lJ_6 hx)
    refine Agr.ask (v := prs (mik n (G 8 1, K 8 2) N).1) (M' := M') (J' := J') (M := lM (G 8)) (J := lJ (K 8)) (r0 := sg (G 8 0) 12 y) (s'' := s'') (b'' := b'') h ?_ ?_ q2 q3 (lM_o (by decide)) (lJ_o (by decide)) (lM_o (by decide)) (sg_ne _ _ (by decide)) (sg_ne _ _ (by decide))
    · unfold fL_pressureIn fX4_pressureIn
      rw [if_pos w1, a1, bd2_s, sg_eq, sg_eq, g1, bd2_s]
      simp only [bnd_s, sg_eq, sg_sg]
      rw [pc_press (Inv_v0 hI1).1 g2, Option.bind_some, bd4_s, if_pos rfl]
    · unfold fX5_pressureIn
      rw [if_pos (show ¬ fX5_in (Int32.ofNat N) 0 600 = 0 from w1), pv_lay hF, bd2_s, k1, bd2_s, pv_press (Inv_v0 hI1).2, Option.bind_some, q1, bd2_s, pv_tells, bd3_s, RM_u0]
      rfl
  · have w1 : fX4_isWithin x 0 600 = 0 := wi_iff.mpr h1
    refine Agr.throw (k := 1) (v := 0) h (by decide) ?_ ?_
    · unfold fL_pressureIn fX4_pressureIn
      rw [if_neg (fun e => e w1), bd4_s]
      rfl
    · unfold fX5_pressureIn
      rw [if_neg (fun e => e w1), pv_fails, bd3_s]
theorem c_energy {F : Nat} {G : M3} {K : J3} {x y : Int32} (hF : 1000 ≤ F) (h : RR G K) : Agr (fL_energyWith F x y G K) (fX5_energyWith F x y) := by
  obtain ⟨n, hI, hR⟩ := h.1
  have hn := hI.n5
  have hcn : G 8 1 10 = Int32.ofNat n := hI.cnt
  have l1 : rowLeast 1 = 10 := by decide
  have l2 : rowMost 1 = 500 := by decide
  by_cases h0 : 10 ≤ x ∧ x ≤ 500
  · have w0 : ¬ fX4_isWithin x 10 500 = 0 := fun e => (wi_iff.mp e) h0
    by_cases h1 : 1 ≤ y ∧ y ≤ 600
    · obtain ⟨N, -, hN, rfl⟩ := s_cases (a := 1) (b := 600) (by decide) h1 (by decide)
      have w1 : ¬ fX4_isWithin (Int32.ofNat N) 1 600 = 0 := fun e => (wi_iff.mp e) h1
      obtain ⟨M1', J1', a1, a2⟩ := pc_tk (F := F) (G := G) (K := K) (g := 1) (g' := 0) hF (by decide) hn hcn hR
      have hI0 : Iv 100000 n (sg (G 8 1) 3 x, K 8 2) := Inv_sc hI (by omega) (by omega) (fun e => by omega) (fun e => by omega) (fun e => by omega) (fun e => by omega) (fun e => by omega)
      have a3 := Rep_set (k0 := 1) x a2 hn (by omega)
      obtain ⟨M', J', g1, g2⟩ := pc_minutes (F := F) (N := N) (q := (sg (G 8 1) 3 x, K 8 2)) hF hI0 hN (by omega) a3
      obtain ⟨y, k1⟩ := pv_minutes (F := F) (N := N) (M := lM (G 8)) (J := lJ (K 8)) (r0 := G 8 0) (q := (sg (G 8 1) 3 x, K 8 2)) hF hI0 hN (by omega)
      obtain ⟨s'', b'', q1, q2, q3⟩ := pv_back (F := F) (M := lM (G 8)) (J := lJ (K 8)) (r0 := sg (G 8 0) 12 y) (s' := (mik n (sg (G 8 1) 3 x, K 8 2) N).1) (b' := (mik n (sg (G 8 1) 3 x, K 8 2) N).2) (s := G 8 1) (b := K 8 2) hF (fun x hx => lM_5 hx) (fun x hx => lJ_6 hx)
      refine Agr.ask (v := ((mik n (sg (G 8 1) 3 x, K 8 2) N).2 5 - K 8 2 5).toInt32) (M' := M') (J' := J') (M := lM (G 8)) (J := lJ (K 8)) (r0 := sg (G 8 0) 12 y) (s'' := s'') (b'' := b'') h ?_ ?_ q2 q3 (lM_o (by decide)) (lJ_o (by decide)) (lM_o (by decide)) (sg_ne _ _ (by decide)) (sg_ne _ _ (by decide))
      · unfold fL_energyWith fX4_energyWith
        rw [l1, l2, if_pos w0, if_pos w1, a1, bd2_s]
        simp only [bnd_s, up3_sg, sg_eq]
        rw [g1, bd2_s]
        simp only [bnd_s, sg_eq, sg_sg, bd4_s, if_true]
        rw [sg_ne _ _ (by decide), g2.am 5 (by omega), hR.am 5 (by omega)]
      · unfold fX5_energyWith
        rw [if_neg (show ¬ fX5_in x 10 500 = 0 from w0), if_pos (show ¬ fX5_in (Int32.ofNat N) 1 600 = 0 from w1), pv_lay hF, bd2_s, bnd_s, RM_u1, k1, bd2_s, q1, bd2_s, pv_tells, bd3_s, RM_u0, RJ_2, RJ_2]
    · have w1 : fX4_isWithin y 1 600 = 0 := wi_iff.mpr h1
      refine Agr.throw (k := 1) (v := 0) h (by decide) ?_ ?_
      · unfold fL_energyWith fX4_energyWith
        rw [l1, l2, if_pos w0, if_neg (fun e => e w1), bd4_s]
        rfl
      · unfold fX5_energyWith fbX5_energyWith_23
        rw [if_neg (show ¬ fX5_in x 10 500 = 0 from w0), if_neg (fun e => e w1), pv_fails, bd3_s]
  · have w0 : fX4_isWithin x 10 500 = 0 := wi_iff.mpr h0
    refine Agr.throw (k := 1) (v := 0) h (by decide) ?_ ?_
    · unfold fL_energyWith fX4_energyWith
      rw [l1, l2, if_neg (fun e => e w0), bd4_s]
      rfl
    · unfold fX5_energyWith fbX5_energyWith_23
      rw [if_pos (show fX5_in x 10 500 = 0 from w0), pv_fails, bd3_s]
theorem pm_L {F n : Nat} {q : M1 × J1} {M : M2} {J : J2} {s : M1} {b : J1} (hF : 1000 ≤ F) (hI : Iv 100000 n q) (h5 : ∀ x, x < 61 → M 5 x = s x) (h6 : ∀ x, x < 6 → J 6 x = b x) : ∀ d k mc mr (G : M3) (K : J3) (r0 : M1), k + d = 600 → d < mc → d + 1 < mr → Rep n (G 1) (K 1) (mik n q k).1 (mik n q k).2 → ∃ v M' J' r0' s'' b'', fbX4_minutesToLoad_13 F mc (Int32.ofNat (k + 1)) G K = some (v, sg G 1 M', sg K 1 J') ∧ fbX5_minutesToLoad_8 F mr (Int32.ofNat k) 0 (RM M r0 (mik n q k).1) (RJ J (mik n q k).2) = some (v, RM M (sg r0' 11 0) s'', RJ J b'') ∧ r0' 8 = r0 8 ∧ r0' 10 = r0 10 ∧ (∀ x, x < 61 → s'' x = s x) ∧ ∀ x, x < 6 → b'' x = b x := by
  intro d
  induction d with
  | zero =>
    intro k mc mr G K r0 hk h1 h2 hR
    obtain ⟨mc, rfl⟩ := fu h1
    obtain ⟨mr, rfl⟩ := fu h2
    obtain rfl : k = 600 := by omega
    obtain ⟨s'', b'', q1, q2, q3⟩ := pv_back (F := F) (M := M) (J := J) (r0 := r0) (s' := (mik n q 600).1) (b' := (mik n q 600).2) hF h5 h6
    refine ⟨-1, G 1, K 1, r0, s'', b'', ?_, ?_, rfl, rfl, q2, q3⟩
    · rw [show fbX4_minutesToLoad_13 F (mc + 1) = fsX4_minutesToLoad_13 F (fbX4_minutesToLoad_13 F mc) from rfl]
      unfold fsX4_minutesToLoad_13
      rw [if_pos (by decide), sg_self, sg_self]
    · rw [show fbX5_minutesToLoad_8 F (mr + 1) = fsX5_minutesToLoad_8 F (fbX5_minutesToLoad_8 F mr) from rfl]
      unfold fsX5_minutesToLoad_8 fbX5_minutesToLoad_35 fbX5_minutesToLoad_49
      rw [if_pos (by decide), q1, bd2_s, if_pos rfl, pv_tells, bd3_s, RM_u0]
  | succ d ih =>
    intro k mc mr G K r0 hk h1 h2 hR
    obtain ⟨mc, rfl⟩ := fu h1
    obtain ⟨mr, rfl⟩ := fu h2
    have hI2 := (Iv_mik (k := k) hI (by omega)).1
    obtain ⟨M', J', g1, g2⟩ := pc_minute hF hI2 hR
    have k1 := pv_mnt (F := F) (M := M) (J := J) (r0 := r0) hF hI2
    rw [show fbX4_minutesToLoad_13 F (mc + 1) = fsX4_minutesToLoad_13 F (fbX4_minutesToLoad_13 F mc) from rfl]
    rw [show fbX5_minutesToLoad_8 F (mr + 1) = fsX5_minutesToLoad_8 F (fbX5_minutesToLoad_8 F mr) from rfl]
    unfold fsX4_minutesToLoad_13 fsX5_minutesToLoad_8
    rw [if_neg (fun h => by have h2 := (pn_lt1 (a := 600) (by decide) (by omega)).mp h; have : 600 < k + 1 := h2; omega), if_neg (fun h => by have h2 := (pn_le1 (a := 600) (by decide) (by omega)).mp h; have : 600 ≤ k := h2; omega), if_neg (fun h => h rfl)]
    rw [g1, bd3_s, k1, bd2_s, RM_0, sg_eq]
    simp only [bnd_s, pn_s]
    cases hb : bzk (mrot (mik n q k).1 n) (prs (mrot (mik n q k).1 n)) n with
    | true =>
      rw [if_pos rfl, if_neg (by decide)]
      obtain ⟨s'', b'', q1, q2, q3⟩ := pv_back (F := F) (M := M) (J := J) (r0 := sg r0 12 1) (s' := (mnt n (mik n q k)).1) (b' := (mnt n (mik n q k)).2) hF h5 h6
      refine ⟨Int32.ofNat (k + 1), M', J', sg r0 12 1, s'', b'', rfl, ?_, sg_ne _ _ (by decide), sg_ne _ _ (by decide), q2, q3⟩
      obtain ⟨mr, rfl⟩ : ∃ mr', mr = mr' + 1 := ⟨mr - 1, by omega⟩
      rw [show fbX5_minutesToLoad_8 F (mr + 1) = fsX5_minutesToLoad_8 F (fbX5_minutesToLoad_8 F mr) from rfl]
      unfold fsX5_minutesToLoad_8 fbX5_minutesToLoad_35 fbX5_minutesToLoad_49
      have e : ∀ t : Option (Int32 × M2 × J2), (if ¬ (1 : Int32) = 0 then t else bd2 (fX5_minute F 0 (RM M (sg r0 12 1) (mnt n (mik n q k)).1) (RJ J (mnt n (mik n q k)).2)) fun M4 J5 => fbX5_minutesToLoad_8 F mr (Int32.ofNat (k + 1) + 1) (M4 0 12) M4 J5) = t := fun t => if_pos (by decide)
      rw [e, ite_self, q1, bd2_s, if_neg (by decide), pv_tells, bd3_s, RM_u0]
    | false =>
      rw [if_neg Bool.false_ne_true, if_pos rfl]
      obtain ⟨v, M2', J2', r0', s'', b'', q1, q2, q3, q4, q5, q6⟩ := ih (k + 1) mc mr (sg G 1 M') (sg K 1 J') (sg r0 12 0) (by omega) (by omega) (by omega) (by rw [sg_eq, sg_eq]; exact g2)
      rw [sg_sg, sg_sg] at q1
      rw [sg_ne _ _ (by decide)] at q3 q4
      exact ⟨v, M2', J2', r0', s'', b'', q1, q2, q3, q4, q5, q6⟩
theorem c_mload {F : Nat} {G : M3} {K : J3} (hF : 1000 ≤ F) (h : RR G K) : Agd (fX4_minutesToLoad F G K) (fX5_minutesToLoad F) := by
  obtain ⟨n, hI, hR⟩ := h.1
  have hn := hI.n5
  have hcn : G 8 1 10 = Int32.ofNat n := hI.cnt
  obtain ⟨M1', J1', a1, a2⟩ := pc_tk (F := F) (G := G) (K := K) (g := 1) (g' := 0) hF (by decide) hn hcn hR
  obtain ⟨v, M', J', r0', s'', b'', q1, q2, q3, q4, q5, q6⟩ := pm_L (F := F) (q := (G 8 1, K 8 2)) (M := lM (G 8)) (J := lJ (K 8)) (s := G 8 1) (b := K 8 2) hF hI (fun x hx => lM_5 hx) (fun x hx => lJ_6 hx) 600 0 F F (sg G 1 M1') (sg K 1 J1') (G 8 0) (by omega) (by omega) (by omega) (by rw [sg_eq, sg_eq]; exact a2)
  rw [sg_sg, sg_sg] at q1
  refine ⟨v, sg G 1 M', sg K 1 J', RM (lM (G 8)) (sg r0' 11 0) s'', RJ (lJ (K 8)) b'', ?_, ?_, ?_⟩
  · unfold fX4_minutesToLoad
    rw [a1, bd2_s]
    exact q1
  · rw [sg_ne _ _ (by decide), sg_ne _ _ (by decide)]
    unfold fX5_minutesToLoad
    rw [pv_lay hF, bd2_s]
    exact q2
  · refine RR_ask (M := lM (G 8)) (J := lJ (K 8)) (r0 := sg r0' 11 0) h (fun g hg => ⟨?_, ?_⟩) (sg_eq _ _ _) (sg_eq _ _ _) q5 q6 (lM_o (by decide)) (lJ_o (by decide)) (lM_o (by decide)) ?_ ?_
    · rw [sg_ne _ _ (by omega), sg_ne _ _ (by omega)]
    · rw [sg_ne _ _ (by omega), sg_ne _ _ (by omega)]
    · rw [sg_ne _ _ (by decide)]; exact q3
    · rw [sg_ne _ _ (by decide)]; exact q4
