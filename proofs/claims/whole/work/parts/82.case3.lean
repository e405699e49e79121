/-- a number of a compressor that there is -/
theorem rng_iff {x : Int32} {n : Nat} (hn : n ≤ 100) : fX5_in x 0 (Int32.ofNat n - 1) = 0 ↔ ¬ (0 ≤ x.toInt ∧ x.toInt < n) := by
  rw [in_iff, Int32.le_iff_toInt_le, Int32.le_iff_toInt_le]
  have o : (1 : Int32).toInt = 1 := by decide
  have z : (0 : Int32).toInt = 0 := by decide
  have e : (Int32.ofNat n - 1).toInt = (n : Int) - 1 := by
    rw [pi_sub (by rw [pn_ti (by omega), o]; omega) (by rw [pn_ti (by omega), o]; omega), pn_ti (by omega), o]
  rw [e, z]
  omega
theorem one_of {x : Int32} {n : Nat} (h : 0 ≤ x.toInt ∧ x.toInt < n) : ∃ c : Nat, c < n ∧ x = Int32.ofNat c := ⟨x.toInt.toNat, by omega, pn_of h.1⟩
theorem c_lt {c n : Nat} (h : c < n) (hn : n ≤ 5) : 0 ≤ (Int32.ofNat c).toInt ∧ (Int32.ofNat c).toInt < n := by rw [pn_ti (by omega)]; omega
/-- one compressor changed: the bounds stand -/
theorem Inv_cmp {U A T : Int} {n c : Nat} {s s' : M1} {b : J1} (h : Inv U A T n s b) (hc : c < n) (e : ∀ i, i < 21 + 7 * c ∨ 28 + 7 * c ≤ i → s' i = s i) (hk : Cok s' c) : Inv U A T n s' b := by
  have hn := h.n5
  refine ⟨hn, ?_, ?_, ?_, ?_, ?_, ?_, ?_, ?_, ?_, fun d hd => ?_, h.prm.congr (fun i hi => e i (by omega)), ?_⟩
  · rw [e 10 (by omega)]; exact h.cnt
  · rw [e 0 (by omega)]; exact h.vol
  · rw [e 1 (by omega)]; exact h.air
  · rw [e 4 (by omega)]; exact h.rel
  · rw [e 6 (by omega)]; exact h.rst
  · rw [e 7 (by omega)]; exact h.lek
  · rw [e 8 (by omega)]; exact h.dem
  · rw [e 11 (by omega)]; exact h.tim
  · rw [e 11 (by omega)]; exact h.unm
  · by_cases hd2 : d = c
    · subst hd2; exact hk
    · exact (h.cmp d hd).congr (fun f hf _ _ _ => e (21 + 7 * d + f) (by omega))
  · rw [e 14 (by omega)]; exact h.res
/-- the reference's call that throws behind its holds() -/
theorem Agr.throwh {o : Option (Int32 × M3 × J3)} {r : M2 → J2 → Option (Int32 × M2 × J2)} {G : M3} {K : J3} {k v : Int32} (h : RR G K) (hk : ¬ k = 0) (ho : o = some (k, G, K)) (hr : r (G 8) (K 8) = some (v, up2 (hM (G 8)) 0 11 k, hJ (K 8))) : Agr o r := by
  refine ⟨k, G, K, v, _, _, ho, hr, by simp [up2_ap], fun h => absurd h hk, ?_⟩
  refine RR_keep h (fun g hg => ⟨sg_ne _ _ (by omega), sg_ne _ _ (by omega)⟩) (fun i _ => ?_) (fun i _ => ?_) ?_ ?_ ?_ ?_ ?_
  · rw [sg_eq, up2_ap, if_neg (by decide), hM_o (by decide)]
  · rw [sg_eq, hJ_o (by decide)]
  · rw [sg_eq]; unfold up2; rw [sg_ne _ _ (by decide), hM_o (by decide)]
  · rw [sg_eq, hJ_o (by decide)]
  · rw [sg_eq, up2_ap, if_pos rfl, if_neg (by decide), hM_o (by decide)]
  · rw [sg_eq, up2_ap, if_pos rfl, if_neg (by decide), hM_o (by decide)]
  · rw [sg_eq]; unfold up2; rw [sg_ne _ _ (by decide), hM_o (by decide)]
/-- ends() where nothing was thrown -/
theorem pv_ends0 {F : Nat} {M M3' : M2} {J J3' : J2} (h : fX5_saves F M J = some (M3', J3')) : fX5_ends F 0 M J = some (M3' 0 13, up2 M3' 0 11 0, J3') := by
  unfold fX5_ends
  rw [if_pos (by decide), h, bd2_s, pv_tells, bd3_s]
theorem pv_ends1 {F : Nat} {M : M2} {J : J2} {x : Int32} (h : ¬ x ≤ 0) : fX5_ends F x M J = some (0, up2 M 0 11 x, J) := by
  unfold fX5_ends
  rw [if_neg h, pv_fails, bd3_s]
/-- a tripped compressor -/
def trp (s : M1) (c : Nat) : M1 := sg (sg (sg s (21 + 7 * c + 1) 3) (21 + 7 * c + 4) 0) (21 + 7 * c + 5) 0
theorem trp_out {s : M1} {c i : Nat} (h : i < 21 + 7 * c ∨ 28 + 7 * c ≤ i) : trp s c i = s i := by
  unfold trp; rw [sg_ne _ _ (by omega), sg_ne _ _ (by omega), sg_ne _ _ (by omega)]
theorem trp_cok {s : M1} {c : Nat} (h : Cok s c) : Cok (trp s c) c := by
  obtain ⟨h1, h2, h3, h4, h5⟩ := h
  unfold Cok trp
  simp only [sg_ap]
  simp
  exact h1
theorem pv_trips {M : M2} {J : J2} {r0 s : M1} {n c : Nat} (hn : n ≤ 5) (h10 : s 10 = Int32.ofNat n) (hc : c < n) (hm : ¬ s (21 + 7 * c + 1) = 3) : fX5_trips (Int32.ofNat c) (RM M r0 s) J = some (0, RM M (sg r0 13 (s (21 + 7 * c + 1))) (trp s c), J) := by
  unfold fX5_trips fX5_isOne
  rw [RM_1, h10, if_pos (fun e => (rng_iff (by omega)).mp e (c_lt hc hn)), pv_its (by show 21 + 7 * c + 1 < 61; omega), RM_1]
  simp only [Option.bind_some]
  rw [if_pos hm, bnd_s, RM_u0, pv_put (by show 21 + 7 * c + 1 < 61; omega), bd2_s, pv_put (by show 21 + 7 * c + 4 < 61; omega), bd2_s, pv_put (by show 21 + 7 * c + 5 < 61; omega), bd2_s]
  rfl
theorem pc_fail {M : M2} {J : J2} {n c : Nat} {s : M1} {b : J1} (h : Rep n M J s b) (hc : c < n) (hn : n ≤ 5) : ∃ M', fX0_fail (5 + c) M J = some (M', J) ∧ Rep n M' J (trp s c) b := by
  obtain ⟨e0, e1, e2, e3, e4, e5, e6, e7⟩ := h.c c hc
  unfold fX0_fail
  simp only [bnd_s]
  refine ⟨_, rfl, Rep_cmp h hc hn (fun r hr => ?_) (fun i hi => trp_out hi) ?_⟩
  · funext j; simp only [up2_ap]; rw [if_neg hr, if_neg hr, if_neg hr]
  · unfold RC
    rw [stg_congr (s := s) (fun i hi => trp_out (by omega))]
    unfold trp
    simp [up2_ap, sg_ap, e0, e1, e2, e3, e4, e5, e6, e7]
/-- a cleared one -/
def clr (s : M1) (c : Nat) : M1 := sg (sg s (21 + 7 * c + 1) 0) (21 + 7 * c + 5) (s 6)
theorem clr_out {s : M1} {c i : Nat} (h : i < 21 + 7 * c ∨ 28 + 7 * c ≤ i) : clr s c i = s i := by
  unfold clr; rw [sg_ne _ _ (by omega), sg_ne _ _ (by omega)]
theorem clr_cok {s : M1} {c : Nat} (h : Cok s c) (hm : s (21 + 7 * c + 1) = 3) (h6 : 0 ≤ (s 6).toInt) : Cok (clr s c) c := by
  obtain ⟨h1, h2, h3, h4, h5⟩ := h
  have h7 := h5 (by rw [hm]; decide)
  unfold Cok clr
  simp only [sg_ap]
  simp
  exact ⟨h1, h6, h7⟩
theorem pv_clears {F : Nat} {M : M2} {J : J2} {r0 s : M1} {n c : Nat} (hF : 1000 ≤ F) (hn : n ≤ 5) (h10 : s 10 = Int32.ofNat n) (hp : Prm n s) (hc : c < n) (hm : s (21 + 7 * c + 1) = 3) : fX5_clears F (Int32.ofNat c) (RM M r0 s) J = some (0, RM M (sg r0 13 (Int32.ofNat (stg s c))) (clr s c), J) := by
  unfold fX5_clears fX5_isOne
  rw [RM_1, h10, if_pos (fun e => (rng_iff (by omega)).mp e (c_lt hc hn)), pv_its (by show 21 + 7 * c + 1 < 61; omega), RM_1]
  simp only [Option.bind_some]
  rw [if_pos hm, pv_stage hF hn (by rw [RM_1]; exact hp) hc, Option.bind_some, bnd_s, RM_u0, RM_1, pv_put (by show 21 + 7 * c + 1 < 61; omega), bd2_s, RM_1, sg_ne _ _ (by omega), pv_put (by show 21 + 7 * c + 5 < 61; omega), bd2_s]
  rfl
theorem pc_stop {M : M2} {J : J2} {n c : Nat} {s : M1} {b : J1} (h : Rep n M J s b) (hc : c < n) (hn : n ≤ 5) (hk : Cok s c) (hm : s (21 + 7 * c + 1) = 3) : ∃ M', fX0_stop (5 + c) (M 1 4) M J = some (M', J) ∧ Rep n M' J (clr s c) b ∧ M' (5 + c) 2 = Int32.ofNat (stg s c) := by
  obtain ⟨e0, e1, e2, e3, e4, e5, e6, e7⟩ := h.c c hc
  have h7 := hk.2.2.2.2 (by rw [hm]; decide)
  have s4 := h.st 4 (by omega)
  unfold fX0_stop
  simp only [bnd_s]
  refine ⟨_, rfl, Rep_cmp h hc hn (fun r hr => ?_) (fun i hi => clr_out hi) ?_, ?_⟩
  · funext j; simp only [up2_ap]; rw [if_neg hr, if_neg hr, if_neg hr]
  · unfold RC
    rw [stg_congr (s := s) (fun i hi => clr_out (by omega))]
    unfold clr
    simp [up2_ap, sg_ap, e0, e1, e2, e3, e4, e5, e6, e7, h7, s4]
  · simp [up2_ap, e2]
theorem c_trip {F : Nat} {G : M3} {K : J3} {x : Int32} (hF : 1000 ≤ F) (h : RR G K) : Agr (fL_trip F x G K) (fX5_trip F x) := by
  obtain ⟨n, hI, hR⟩ := h.1
  have hn := hI.n5
  have hcn : G 8 1 10 = Int32.ofNat n := hI.cnt
  have h10 : G 0 0 5 = Int32.ofNat n := by rw [hR.o.2.2.2.2.2.1, hcn]
  by_cases h1 : 0 ≤ x.toInt ∧ x.toInt < n
  · obtain ⟨c, hc, rfl⟩ := one_of h1
    have e1 := (hR.c c hc).2.1
    by_cases hm : G 8 1 (21 + 7 * c + 1) = 3
    · refine Agr.throwh (k := 2) (v := 0) h (by decide) ?_ ?_
      · unfold fL_trip fX4_trip
        rw [pc_num hn h10 (by omega), if_pos hc]
        simp only [Option.bind_some, oc_ss]
        rw [chk_t (pc_isC (by omega)), e1, if_neg (fun e => e hm), bd4_s]
        rfl
      · unfold fX5_trip fX5_trips fX5_isOne
        rw [pv_hold hF, bd2_s, RM_1, hcn, if_pos (fun e => (rng_iff (by omega)).mp e (c_lt hc hn)), pv_its (by show 21 + 7 * c + 1 < 61; omega), RM_1]
        simp only [Option.bind_some]
        rw [if_neg (fun e => e hm), bd3_s, pv_ends1 (by decide), bd3_s, ← hM_o (M := G 8) (r := 0) (by decide), ← hM_o (M := G 8) (r := 1) (by decide), RM_self, ← hJ_o (J := K 8) (r := 2) (by decide), RJ_self]
    · obtain ⟨G1, K1, d1, d2, d3, d4, d5, -, -, d6⟩ := mut_end hF h
      obtain ⟨M', g1, g2⟩ := pc_fail hR hc hn
      have hI1 : Iv 100000 n (trp (G 8 1) c, K 8 2) := Inv_cmp hI hc (fun i hi => trp_out hi) (trp_cok (hI.cmp c hc))
      obtain ⟨R, B, r8, d7, d8⟩ := d6 n _ _ (hM (G 8)) (sg (G 8 0) 13 (G 8 1 (21 + 7 * c + 1))) _ _ hI1 g2 (sg_ne _ _ (by decide)) (sg_ne _ _ (by decide)) (fun r _ _ => rfl)
      refine Agr.mut (M' := M') (J' := K1 0) (v := G 8 1 (21 + 7 * c + 1)) (M8 := RM (sg (hM (G 8)) 3 R) (sg (sg (sg (G 8 0) 13 (G 8 1 (21 + 7 * c + 1))) 8 r8) 11 0) (trp (G 8 1) c)) (J8 := RJ (sg (hJ (K 8)) 4 B) (K 8 2)) d4 d5 ?_ ?_ ?_ ?_
      · unfold fL_trip fX4_trip
        rw [pc_num hn h10 (by omega), if_pos hc]
        simp only [Option.bind_some, oc_ss]
        rw [chk_t (pc_isC (by omega)), e1, if_pos hm, d1, bd2_s, d2, d3, g1, bd2_s]
        simp only [bnd_s, bd4_s, if_true]
        rw [e1]
      · unfold fX5_trip
        rw [pv_hold hF, bd2_s, pv_trips hn hI.cnt hc hm, bd3_s, pv_ends0 d7, bd3_s, RM_0, RM_u0, sg_ne _ _ (by decide), sg_eq]
      · rw [RM_0, sg_eq]
      · refine d8 _ _ (sg (sg (sg (G 8 0) 13 (G 8 1 (21 + 7 * c + 1))) 8 r8) 11 0) (fun g hg => mut_g g hg) (fun g hg => ?_) ?_ ?_ (sg_eq _ _ _) (sg_eq _ _ _)
        · rw [mut_k g hg, d3]
        · rw [sg_ne _ _ (by decide), sg_eq]
        · rw [sg_ne _ _ (by decide), sg_ne _ _ (by decide), sg_ne _ _ (by decide)]
  · refine Agr.throwh (k := 1) (v := 0) h (by decide) ?_ ?_
    · unfold fL_trip fX4_trip
      rw [pc_numx hn h10, if_neg h1]
      simp only [Option.bind_some, oc_ns, bd4_s]
      rfl
    · unfold fX5_trip fX5_trips fX5_isOne
      rw [pv_hold hF, bd2_s, RM_1, hcn, if_neg (fun e => e ((rng_iff (by omega)).mpr h1)), bd3_s, pv_ends1 (by decide), bd3_s, ← hM_o (M := G 8) (r := 0) (by decide), ← hM_o (M := G 8) (r := 1) (by decide), RM_self, ← hJ_o (J := K 8) (r := 2) (by decide), RJ_self]
theorem c_clear {F : Nat} {G : M3} {K : J3} {x : Int32} (hF : 1000 ≤ F) (h : RR G K) : Agr (fL_clear F x G K) (fX5_clear F x) := by
  obtain ⟨n, hI, hR⟩ := h.1
  have hn := hI.n5
  have hcn : G 8 1 10 = Int32.ofNat n := hI.cnt
  have h10 : G 0 0 5 = Int32.ofNat n := by rw [hR.o.2.2.2.2.2.1, hcn]
  by_cases h1 : 0 ≤ x.toInt ∧ x.toInt < n
  · obtain ⟨c, hc, rfl⟩ := one_of h1
    have e1 := (hR.c c hc).2.1
    by_cases hm : G 8 1 (21 + 7 * c + 1) = 3
    · obtain ⟨G1, K1, d1, d2, d3, d4, d5, -, -, d6⟩ := mut_end hF h
      obtain ⟨M', g1, g2, g3⟩ := pc_stop hR hc hn (hI.cmp c hc) hm
      have hI1 : Iv 100000 n (clr (G 8 1) c, K 8 2) := Inv_cmp hI hc (fun i hi => clr_out hi) (clr_cok (hI.cmp c hc) hm hI.rst.1)
      obtain ⟨R, B, r8, d7, d8⟩ := d6 n _ _ (hM (G 8)) (sg (G 8 0) 13 (Int32.ofNat (stg (G 8 1) c))) _ _ hI1 g2 (sg_ne _ _ (by decide)) (sg_ne _ _ (by decide)) (fun r _ _ => rfl)
      refine Agr.mut (M' := M') (J' := K1 0) (v := Int32.ofNat (stg (G 8 1) c)) (M8 := RM (sg (hM (G 8)) 3 R) (sg (sg (sg (G 8 0) 13 (Int32.ofNat (stg (G 8 1) c))) 8 r8) 11 0) (clr (G 8 1) c)) (J8 := RJ (sg (hJ (K 8)) 4 B) (K 8 2)) d4 d5 ?_ ?_ ?_ ?_
      · unfold fL_clear fX4_clear
        rw [pc_num hn h10 (by omega), if_pos hc]
        simp only [Option.bind_some, oc_ss]
        rw [chk_t (pc_isC (by omega)), e1, if_pos hm, d1, bd2_s, d2, d3, g1, bd2_s]
        simp only [bnd_s, bd4_s, if_true]
        rw [sg_eq, g3]
      · unfold fX5_clear
        rw [pv_hold hF, bd2_s, pv_clears hF hn hI.cnt hI.prm hc hm, bd3_s, pv_ends0 d7, bd3_s, RM_0, RM_u0, sg_ne _ _ (by decide), sg_eq]
      · rw [RM_0, sg_eq]
      · refine d8 _ _ (sg (sg (sg (G 8 0) 13 (Int32.ofNat (stg (G 8 1) c))) 8 r8) 11 0) (fun g hg => mut_g g hg) (fun g hg => ?_) ?_ ?_ (sg_eq _ _ _) (sg_eq _ _ _)
        · rw [mut_k g hg, d3]
        · rw [sg_ne _ _ (by decide), sg_eq]
        · rw [sg_ne _ _ (by decide), sg_ne _ _ (by decide), sg_ne _ _ (by decide)]
    · refine Agr.throwh (k := 2) (v := 0) h (by decide) ?_ ?_
      · unfold fL_clear fX4_clear
        rw [pc_num hn h10 (by omega), if_pos hc]
        simp only [Option.bind_some, oc_ss]
        rw [chk_t (pc_isC (by omega)), e1, if_neg hm, bd4_s]
        rfl
      · unfold fX5_clear fX5_clears fX5_isOne
        rw [pv_hold hF, bd2_s, RM_1, hcn, if_pos (fun e => (rng_iff (by omega)).mp e (c_lt hc hn)), pv_its (by show 21 + 7 * c + 1 < 61; omega), RM_1]
        simp only [Option.bind_some]
        rw [if_neg hm, bd3_s, pv_ends1 (by decide), bd3_s, ← hM_o (M := G 8) (r := 0) (by decide), ← hM_o (M := G 8) (r := 1) (by decide), RM_self, ← hJ_o (J := K 8) (r := 2) (by decide), RJ_self]
  · refine Agr.throwh (k := 1) (v := 0) h (by decide) ?_ ?_
    · unfold fL_clear fX4_clear
      rw [pc_numx hn h10, if_neg h1]
      simp only [Option.bind_some, oc_ns, bd4_s]
      rfl
    · unfold fX5_clear fX5_clears fX5_isOne
      rw [pv_hold hF, bd2_s, RM_1, hcn, if_neg (fun e => e ((rng_iff (by omega)).mpr h1)), bd3_s, pv_ends1 (by decide), bd3_s, ← hM_o (M := G 8) (r := 0) (by decide), ← hM_o (M := G 8) (r := 1) (by decide), RM_self, ← hJ_o (J := K 8) (r := 2) (by decide), RJ_self]
