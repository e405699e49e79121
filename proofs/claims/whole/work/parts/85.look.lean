theorem rng4 {x : Int32} {n : Nat} (hn : n ≤ 100) : fX4_isWithin x 0 (Int32.ofNat n - 1) = 0 ↔ ¬ (0 ≤ x.toInt ∧ x.toInt < n) := rng_iff hn
/-- a call that only answers -/
theorem RR_look {G : M3} {K : J3} {x : Int32} {y : Int64} (h : RR G K) : RR (sg G 8 (up2 (G 8) 0 11 x)) (sg (up3 K 9 0 0 y) 8 (K 8)) := by
  refine RR_keep h (fun g hg => ⟨sg_ne _ _ (by omega), by rw [sg_ne _ _ (by omega), up3_o (by omega)]⟩) ?_ ?_ ?_ ?_ ?_ ?_ ?_ <;> intros <;> simp [sg_eq, up2_ap] <;> (try (unfold up2; rw [sg_ne _ _ (by decide)]))
theorem Agr.look {o : Option (Int32 × M3 × J3)} {r : M2 → J2 → Option (Int32 × M2 × J2)} {G : M3} {K : J3} {v : Int32} (h : RR G K) (ho : o = some (0, G, up3 K 9 0 0 v.toInt64)) (hr : r (G 8) (K 8) = some (v, up2 (G 8) 0 11 0, K 8)) : Agr o r :=
  ⟨0, _, _, v, _, _, ho, by rw [up3_o (by decide)]; exact hr, by simp [up2_ap], fun _ => by rw [up3_e]; simp [up2_ap], RR_look h⟩
/-- what is told of a compressor -/
def tld (s : M1) (c k : Nat) : Int32 := match k with
  | 0 => s (21 + 7 * c)
  | 1 => s (21 + 7 * c + 1)
  | 2 => Int32.ofNat (stg s c)
  | 3 => s (21 + 7 * c + 2)
  | 4 => s (21 + 7 * c + 3)
  | 5 => if s (21 + 7 * c + 1) = 2 then s (21 + 7 * c + 4) else 0
  | 6 => if s (21 + 7 * c + 1) = 0 then s (21 + 7 * c + 5) else 0
  | 7 => s (21 + 7 * c + 6)
  | 8 => lbel s c
  | _ => uabv s c
theorem pv_told {F : Nat} {M : M2} {J : J2} {n c k : Nat} (hF : 1000 ≤ F) (hn : n ≤ 5) (hp : Prm n (M 1)) (hc : c < n) (hk : k < 10) : fX5_told F M J (Int32.ofNat c) (Int32.ofNat k) = some (tld (M 1) c k) := by
  unfold fX5_told
  match k, hk with
  | 0, _ =>
    rw [if_pos (by decide)]
    rw [pv_its (by show 21 + 7 * c + 0 < 61; omega)]; rfl
  | 1, _ =>
    rw [if_neg (by decide), if_pos (by decide)]
    rw [pv_its (by show 21 + 7 * c + 1 < 61; omega)]; rfl
  | 2, _ =>
    rw [if_neg (by decide), if_neg (by decide), if_pos (by decide)]
    rw [pv_stage hF hn hp hc]; rfl
  | 3, _ =>
    rw [if_neg (by decide), if_neg (by decide), if_neg (by decide), if_pos (by decide)]
    rw [pv_its (by show 21 + 7 * c + 2 < 61; omega)]; rfl
  | 4, _ =>
    rw [if_neg (by decide), if_neg (by decide), if_neg (by decide), if_neg (by decide), if_pos (by decide)]
    rw [pv_its (by show 21 + 7 * c + 3 < 61; omega)]; rfl
  | 5, _ =>
    rw [if_neg (by decide), if_neg (by decide), if_neg (by decide), if_neg (by decide), if_neg (by decide), if_pos (by decide)]
    rw [pv_its (by show 21 + 7 * c + 1 < 61; omega), pv_its (by show 21 + 7 * c + 4 < 61; omega)]
    simp only [Option.bind_some, tld]
    grind
  | 6, _ =>
    rw [if_neg (by decide), if_neg (by decide), if_neg (by decide), if_neg (by decide), if_neg (by decide), if_neg (by decide), if_pos (by decide)]
    rw [pv_its (by show 21 + 7 * c + 1 < 61; omega), pv_its (by show 21 + 7 * c + 5 < 61; omega)]
    simp only [Option.bind_some, tld]
    grind
  | 7, _ =>
    rw [if_neg (by decide), if_neg (by decide), if_neg (by decide), if_neg (by decide), if_neg (by decide), if_neg (by decide), if_neg (by decide), if_pos (by decide)]
    rw [pv_its (by show 21 + 7 * c + 6 < 61; omega)]; rfl
  | 8, _ =>
    rw [if_neg (by decide), if_neg (by decide), if_neg (by decide), if_neg (by decide), if_neg (by decide), if_neg (by decide), if_neg (by decide), if_neg (by decide), if_pos (by decide)]
    rw [pv_lb hF hn hp hc]; rfl
  | 9, _ =>
    rw [if_neg (by decide), if_neg (by decide), if_neg (by decide), if_neg (by decide), if_neg (by decide), if_neg (by decide), if_neg (by decide), if_neg (by decide), if_neg (by decide)]
    rw [pv_ua hF hn hp hc]; rfl
  | k + 10, h => omega
theorem pc_about {n c k : Nat} {M : M2} {J : J2} {s : M1} {b : J1} (h : Rep n M J s b) (hc : c < n) (hk : Cok s c) (h10 : k < 10) : fX3_numberAbout M J (5 + c) (Int32.ofNat k) = tld s c k := by
  obtain ⟨e0, e1, e2, e3, e4, e5, e6, e7⟩ := h.c c hc
  obtain ⟨o0, o1, o2, o3, o4, o5, o6⟩ := h.o
  have s0 := h.st 0 (by omega)
  have s1 := h.st 1 (by omega)
  obtain ⟨-, -, -, k4, k5⟩ := hk
  unfold fX3_numberAbout
  match k, h10 with
  | 0, _ =>
    rw [if_pos (by decide)]; exact e0
  | 1, _ =>
    rw [if_neg (by decide), if_pos (by decide)]; exact e1
  | 2, _ =>
    rw [if_neg (by decide), if_neg (by decide), if_pos (by decide)]; exact e2
  | 3, _ =>
    rw [if_neg (by decide), if_neg (by decide), if_neg (by decide), if_pos (by decide)]; exact e3
  | 4, _ =>
    rw [if_neg (by decide), if_neg (by decide), if_neg (by decide), if_neg (by decide), if_pos (by decide)]; exact e4
  | 5, _ =>
    rw [if_neg (by decide), if_neg (by decide), if_neg (by decide), if_neg (by decide), if_neg (by decide), if_pos (by decide), e5]; show s (21 + 7 * c + 4) = if s (21 + 7 * c + 1) = 2 then s (21 + 7 * c + 4) else 0
    by_cases hm : s (21 + 7 * c + 1) = 2
    · rw [if_pos hm]
    · rw [if_neg hm, k5 hm]
  | 6, _ =>
    rw [if_neg (by decide), if_neg (by decide), if_neg (by decide), if_neg (by decide), if_neg (by decide), if_neg (by decide), if_pos (by decide), e6]; show s (21 + 7 * c + 5) = if s (21 + 7 * c + 1) = 0 then s (21 + 7 * c + 5) else 0
    by_cases hm : s (21 + 7 * c + 1) = 0
    · rw [if_pos hm]
    · rw [if_neg hm, k4 hm]
  | 7, _ =>
    rw [if_neg (by decide), if_neg (by decide), if_neg (by decide), if_neg (by decide), if_neg (by decide), if_neg (by decide), if_neg (by decide), if_pos (by decide)]; exact e7
  | 8, _ =>
    rw [if_neg (by decide), if_neg (by decide), if_neg (by decide), if_neg (by decide), if_neg (by decide), if_neg (by decide), if_neg (by decide), if_neg (by decide), if_pos (by decide)]; unfold fX3_limitForLoading; rw [e2, s0, s1]; rfl
  | 9, _ =>
    rw [if_neg (by decide), if_neg (by decide), if_neg (by decide), if_neg (by decide), if_neg (by decide), if_neg (by decide), if_neg (by decide), if_neg (by decide), if_neg (by decide)]; unfold fX3_limitForUnloading; rw [e2, s0, s1, o5]; rfl
  | k + 10, h => omega
/-- the station's numbers -/
def vlu (s : M1) (n k : Nat) : Int32 := match k with
  | 0 => s 0
  | 1 => s 1
  | 2 => prs s
  | 3 => s 10
  | 4 => cntk s 1 n
  | 5 => cntk s 2 n
  | 6 => cntk s 3 n
  | 7 => s 11
  | 8 => s 12
  | 9 => s 13
  | 10 => cpk s true n
  | _ => s 14
theorem pv_value {F : Nat} {M : M2} {J : J2} {n k : Nat} (hF : 1000 ≤ F) (hn : n ≤ 5) (h10 : M 1 10 = Int32.ofNat n) (h0 : ¬ M 1 0 = 0) (hk : k < 12) : fX5_valueOf F M J (Int32.ofNat k) = some (vlu (M 1) n k) := by
  unfold fX5_valueOf
  match k, hk with
  | 0, _ =>
    rw [if_pos (by decide)]
    rfl
  | 1, _ =>
    rw [if_neg (by decide), if_pos (by decide)]
    rfl
  | 2, _ =>
    rw [if_neg (by decide), if_neg (by decide), if_pos (by decide)]
    unfold fX5_pressure; rw [chk_t h0]; rfl
  | 3, _ =>
    rw [if_neg (by decide), if_neg (by decide), if_neg (by decide), if_pos (by decide)]
    rfl
  | 4, _ =>
    rw [if_neg (by decide), if_neg (by decide), if_neg (by decide), if_neg (by decide), if_pos (by decide)]
    rw [show Int32.ofNat 4 - 3 = 1 by decide, pv_count hF hn h10]; rfl
  | 5, _ =>
    rw [if_neg (by decide), if_neg (by decide), if_neg (by decide), if_neg (by decide), if_neg (by decide), if_pos (by decide)]
    rw [show Int32.ofNat 5 - 3 = 2 by decide, pv_count hF hn h10]; rfl
  | 6, _ =>
    rw [if_neg (by decide), if_neg (by decide), if_neg (by decide), if_neg (by decide), if_neg (by decide), if_neg (by decide), if_pos (by decide)]
    rw [show Int32.ofNat 6 - 3 = 3 by decide, pv_count hF hn h10]; rfl
  | 7, _ =>
    rw [if_neg (by decide), if_neg (by decide), if_neg (by decide), if_neg (by decide), if_neg (by decide), if_neg (by decide), if_neg (by decide), if_pos (by decide)]
    rfl
  | 8, _ =>
    rw [if_neg (by decide), if_neg (by decide), if_neg (by decide), if_neg (by decide), if_neg (by decide), if_neg (by decide), if_neg (by decide), if_neg (by decide), if_pos (by decide)]
    rfl
  | 9, _ =>
    rw [if_neg (by decide), if_neg (by decide), if_neg (by decide), if_neg (by decide), if_neg (by decide), if_neg (by decide), if_neg (by decide), if_neg (by decide), if_neg (by decide), if_pos (by decide)]
    rfl
  | 10, _ =>
    rw [if_neg (by decide), if_neg (by decide), if_neg (by decide), if_neg (by decide), if_neg (by decide), if_neg (by decide), if_neg (by decide), if_neg (by decide), if_neg (by decide), if_neg (by decide), if_pos (by decide)]
    have e := pv_cap (F := F) (J := J) true hF hn h10
    rw [if_pos rfl] at e
    rw [e]; rfl
  | 11, _ =>
    rw [if_neg (by decide), if_neg (by decide), if_neg (by decide), if_neg (by decide), if_neg (by decide), if_neg (by decide), if_neg (by decide), if_neg (by decide), if_neg (by decide), if_neg (by decide), if_neg (by decide)]
    rfl
  | k + 12, h => omega
theorem pc_value {F : Nat} {M : M2} {J : J2} {s : M1} {b : J1} {n k : Nat} (hF : 1000 ≤ F) (hn : n ≤ 5) (hcn : s 10 = Int32.ofNat n) (hv : 0 < s 0) (h : Rep n M J s b) (hk : k < 12) : fX3_numberOf F M J (Int32.ofNat k) = some (vlu s n k) := by
  obtain ⟨o0, o1, o2, o3, o4, o5, o6⟩ := h.o
  have h10 : M 0 5 = Int32.ofNat n := by rw [o5, hcn]
  have hm : ∀ c, c < n → M (5 + c) 1 = s (21 + 7 * c + 1) := fun c hc => (h.c c hc).2.1
  unfold fX3_numberOf
  match k, hk with
  | 0, _ =>
    rw [if_pos (by decide)]
    rw [o0]; rfl
  | 1, _ =>
    rw [if_neg (by decide), if_pos (by decide)]
    rw [o1]; rfl
  | 2, _ =>
    rw [if_neg (by decide), if_neg (by decide), if_pos (by decide)]
    rw [pc_press hv h]; rfl
  | 3, _ =>
    rw [if_neg (by decide), if_neg (by decide), if_neg (by decide), if_pos (by decide)]
    rw [o5]; rfl
  | 4, _ =>
    rw [if_neg (by decide), if_neg (by decide), if_neg (by decide), if_neg (by decide), if_pos (by decide)]
    rw [pc_count (s := s) hF hn h10 hm]; rfl
  | 5, _ =>
    rw [if_neg (by decide), if_neg (by decide), if_neg (by decide), if_neg (by decide), if_neg (by decide), if_pos (by decide)]
    rw [pc_count (s := s) hF hn h10 hm]; rfl
  | 6, _ =>
    rw [if_neg (by decide), if_neg (by decide), if_neg (by decide), if_neg (by decide), if_neg (by decide), if_neg (by decide), if_pos (by decide)]
    rw [pc_count (s := s) hF hn h10 hm]; rfl
  | 7, _ =>
    rw [if_neg (by decide), if_neg (by decide), if_neg (by decide), if_neg (by decide), if_neg (by decide), if_neg (by decide), if_neg (by decide), if_pos (by decide)]
    rw [o2]; rfl
  | 8, _ =>
    rw [if_neg (by decide), if_neg (by decide), if_neg (by decide), if_neg (by decide), if_neg (by decide), if_neg (by decide), if_neg (by decide), if_neg (by decide), if_pos (by decide)]
    rw [o3]; rfl
  | 9, _ =>
    rw [if_neg (by decide), if_neg (by decide), if_neg (by decide), if_neg (by decide), if_neg (by decide), if_neg (by decide), if_neg (by decide), if_neg (by decide), if_neg (by decide), if_pos (by decide)]
    rw [o4]; rfl
  | 10, _ =>
    rw [if_neg (by decide), if_neg (by decide), if_neg (by decide), if_neg (by decide), if_neg (by decide), if_neg (by decide), if_neg (by decide), if_neg (by decide), if_neg (by decide), if_neg (by decide), if_pos (by decide)]
    rw [pc_cap (s := s) hF hn h10 h.c, cmk_1]; rfl
  | 11, _ =>
    rw [if_neg (by decide), if_neg (by decide), if_neg (by decide), if_neg (by decide), if_neg (by decide), if_neg (by decide), if_neg (by decide), if_neg (by decide), if_neg (by decide), if_neg (by decide), if_neg (by decide)]
    rw [o6]; rfl
  | k + 12, h => omega
theorem c_comp {F : Nat} {G : M3} {K : J3} {x y : Int32} (hF : 1000 ≤ F) (h : RR G K) : Agr (fL_compressor x y G K) (fX5_compressor F x y) := by
  obtain ⟨n, hI, hR⟩ := h.1
  have hn := hI.n5
  have hcn : G 8 1 10 = Int32.ofNat n := hI.cnt
  have h10 : G 0 0 5 = Int32.ofNat n := by rw [hR.o.2.2.2.2.2.1, hcn]
  by_cases h1 : 0 ≤ x.toInt ∧ x.toInt < n
  · obtain ⟨c, hc, rfl⟩ := one_of h1
    by_cases h2 : 0 ≤ y ∧ y ≤ 9
    · obtain ⟨k, -, hk, rfl⟩ := s_cases (a := 0) (b := 9) (by decide) h2 (by decide)
      have w2 : ¬ fX4_isWithin (Int32.ofNat k) 0 9 = 0 := fun e => (wi_iff.mp e) h2
      refine Agr.look (v := tld (G 8 1) c k) h ?_ ?_
      · unfold fL_compressor fX4_compressor
        rw [pc_num hn h10 (by omega), if_pos hc]
        simp only [Option.bind_some, oc_ss]
        rw [chk_t (pc_isC (by omega)), if_pos w2, pc_about hR hc (hI.cmp c hc) (by omega), bd4_s, if_pos rfl]
        rfl
      · unfold fX5_compressor fX5_isOne
        rw [hcn, if_pos (fun e => (rng_iff (by omega)).mp e (c_lt hc hn)), if_neg (show ¬ fX5_in (Int32.ofNat k) 0 9 = 0 from w2), pv_told hF hn hI.prm hc (by omega), Option.bind_some, pv_tells, bd3_s]
    · have w2 : fX4_isWithin y 0 9 = 0 := wi_iff.mpr h2
      refine Agr.throw (k := 2) (v := 0) h (by decide) ?_ ?_
      · unfold fL_compressor fX4_compressor
        rw [pc_num hn h10 (by omega), if_pos hc]
        simp only [Option.bind_some, oc_ss]
        rw [chk_t (pc_isC (by omega)), if_neg (fun e => e w2), bd4_s]
        rfl
      · unfold fX5_compressor fX5_isOne
        rw [hcn, if_pos (fun e => (rng_iff (by omega)).mp e (c_lt hc hn)), if_pos (show fX5_in y 0 9 = 0 from w2), pv_fails, bd3_s]
  · refine Agr.throw (k := 1) (v := 0) h (by decide) ?_ ?_
    · unfold fL_compressor fX4_compressor
      rw [pc_numx hn h10, if_neg h1]
      simp only [Option.bind_some, oc_ns, bd4_s]
      rfl
    · unfold fX5_compressor fX5_isOne
      rw [hcn, if_neg (fun e => e ((rng_iff (by omega)).mpr h1)), pv_fails, bd3_s]
theorem c_ats {F : Nat} {G : M3} {K : J3} {x : Int32} (hF : 1000 ≤ F) (h : RR G K) : Agr (fL_atStage F x G K) (fX5_atStage x) := by
  obtain ⟨n, hI, hR⟩ := h.1
  have hn := hI.n5
  have hcn : G 8 1 10 = Int32.ofNat n := hI.cnt
  have h10 : G 0 0 5 = Int32.ofNat n := by rw [hR.o.2.2.2.2.2.1, hcn]
  by_cases h1 : 0 ≤ x.toInt ∧ x.toInt < n
  · obtain ⟨c, hc, rfl⟩ := one_of h1
    refine Agr.look (v := G 8 1 (56 + c)) h ?_ ?_
    · unfold fL_atStage fX4_atStage
      rw [h10, if_pos (fun e => (rng4 (by omega)).mp e (c_lt hc hn)), pc_ats hF hn h10 (fun c hc => (hR.c c hc).2.2.1) hI.prm hc, Option.bind_some, bd4_s, if_pos rfl]
      rfl
    · unfold fX5_atStage
      rw [hcn, if_neg (fun e => (rng_iff (by omega)).mp e (c_lt hc hn))]
      simp (disch := omega) only [pn_add1, chk_b, pn_in]
      rw [pv_tells, bd3_s]
  · refine Agr.throw (k := 1) (v := 0) h (by decide) ?_ ?_
    · unfold fL_atStage fX4_atStage
      rw [h10, if_neg (fun e => e ((rng4 (by omega)).mpr h1)), bd4_s]
      rfl
    · unfold fX5_atStage
      rw [hcn, if_pos ((rng_iff (by omega)).mpr h1), pv_fails, bd3_s]
theorem c_value {F : Nat} {G : M3} {K : J3} {x : Int32} (hF : 1000 ≤ F) (h : RR G K) : Agr (fL_value F x G K) (fX5_value F x) := by
  obtain ⟨n, hI, hR⟩ := h.1
  have hn := hI.n5
  have hcn : G 8 1 10 = Int32.ofNat n := hI.cnt
  by_cases h1 : 0 ≤ x ∧ x ≤ 11
  · obtain ⟨k, -, hk, rfl⟩ := s_cases (a := 0) (b := 11) (by decide) h1 (by decide)
    have w1 : ¬ fX4_isWithin (Int32.ofNat k) 0 11 = 0 := fun e => (wi_iff.mp e) h1
    refine Agr.look (v := vlu (G 8 1) n k) h ?_ ?_
    · unfold fL_value fX4_value
      rw [if_pos w1, pc_value hF hn hcn (Inv_v0 hI).1 hR (by omega), Option.bind_some, bd4_s, if_pos rfl]
      rfl
    · unfold fX5_value
      rw [if_neg (show ¬ fX5_in (Int32.ofNat k) 0 11 = 0 from w1), pv_value hF hn hcn (Inv_v0 hI).2 (by omega), Option.bind_some, pv_tells, bd3_s]
  · have w1 : fX4_isWithin x 0 11 = 0 := wi_iff.mpr h1
    refine Agr.throw (k := 1) (v := 0) h (by decide) ?_ ?_
    · unfold fL_value fX4_value
      rw [if_neg (fun e => e w1), bd4_s]
      rfl
    · unfold fX5_value
      rw [if_pos (show fX5_in x 0 11 = 0 from w1), pv_fails, bd3_s]
theorem c_setting {G : M3} {K : J3} {x : Int32} (h : RR G K) : Agr (fL_setting x G K) (fX5_setting x) := by
  obtain ⟨n, hI, hR⟩ := h.1
  by_cases h1 : 0 ≤ x ∧ x ≤ 7
  · obtain ⟨k, -, hk, rfl⟩ := s_cases (a := 0) (b := 7) (by decide) h1 (by decide)
    have w1 : ¬ fX4_isWithin (Int32.ofNat k) 0 7 = 0 := fun e => (wi_iff.mp e) h1
    refine Agr.look (v := G 8 1 (2 + k)) h ?_ ?_
    · unfold fL_setting fX4_setting
      rw [if_pos w1]
      simp (disch := omega) only [chk_b, pn_in, bd4_s, if_true]
      rw [hR.st k (by omega)]
      rfl
    · unfold fX5_setting
      rw [if_neg (show ¬ fX5_in (Int32.ofNat k) 0 7 = 0 from w1)]
      simp (disch := omega) only [pn_add1, chk_b, pn_in]
      rw [pv_tells, bd3_s]
  · have w1 : fX4_isWithin x 0 7 = 0 := wi_iff.mpr h1
    refine Agr.throw (k := 1) (v := 0) h (by decide) ?_ ?_
    · unfold fL_setting fX4_setting
      rw [if_neg (fun e => e w1), bd4_s]
      rfl
    · unfold fX5_setting
      rw [if_pos (show fX5_in x 0 7 = 0 from w1), pv_fails, bd3_s]
/-- the booked amounts: answers are longs -/
theorem c_booked {G : M3} {K : J3} {x : Int32} {nx : M3 → J3 → Option Int32} (h : RR G K) : CGo (bd3 (fL_booked x G K) (fun vv2 G3 K4 => bd3 (fX5_booked x (G3 8) (K4 8)) (fun vv14 M8 J9 => bnd (sg G3 8 M8) (fun G10 => bnd (sg K4 8 J9) (fun K11 => (if (fX5_thrown (G10 8) (K11 8)) = vv2 then ((if ¬ vv2 = 0 then nx G10 K11 else ((if (lg_cmp (K11 9 0 0) vv14) = 0 then nx G10 K11 else (some 0))))) else (some 0))))))) nx := by
  obtain ⟨n, hI, hR⟩ := h.1
  by_cases h1 : 0 ≤ x ∧ x ≤ 5
  · obtain ⟨k, -, hk, rfl⟩ := s_cases (a := 0) (b := 5) (by decide) h1 (by decide)
    have w1 : ¬ fX4_isWithin (Int32.ofNat k) 0 5 = 0 := fun e => (wi_iff.mp e) h1
    refine ⟨_, _, RR_look (x := 0) (y := K 8 2 k) h, ?_⟩
    have e1 : fL_booked (Int32.ofNat k) G K = some (0, G, up3 K 9 0 0 (K 8 2 k)) := by
      unfold fL_booked fX4_booked
      rw [if_pos w1]
      simp (disch := omega) only [chk_b, pn_in, bd4_s, if_true]
      rw [hR.am k (by omega)]
      rfl
    have e2 : fX5_booked (Int32.ofNat k) (G 8) (K 8) = some (K 8 2 k, up2 (G 8) 0 11 0, K 8) := by
      unfold fX5_booked
      rw [if_pos (show ¬ fX5_in (Int32.ofNat k) 0 5 = 0 from w1)]
      simp (disch := omega) only [chk_b, pn_in, bnd_s]
    rw [e1, bd3_s, up3_o (by decide), e2, bd3_s]
    simp only [bnd_s, fX5_thrown, sg_eq]
    rw [if_pos (by simp [up2_ap]), if_neg (fun e => e trivial), sg_ne _ _ (by decide), up3_e]
    rw [if_pos (by simp [up2_ap, lg_same])]
  · have w1 : fX4_isWithin x 0 5 = 0 := wi_iff.mpr h1
    refine ⟨_, _, RR_fail (x := 1) h, ?_⟩
    have e1 : fL_booked x G K = some (1, G, K) := by
      unfold fL_booked fX4_booked
      rw [if_neg (fun e => e w1), bd4_s]
      rfl
    have e2 : fX5_booked x (G 8) (K 8) = some ((0 : Int32).toInt64, up2 (G 8) 0 11 1, K 8) := by
      unfold fX5_booked
      rw [if_neg (fun e => e w1), pv_fails, bd3_s]
    rw [e1, bd3_s, e2, bd3_s]
    simp only [bnd_s, fX5_thrown, sg_eq]
    rw [if_pos (by simp [up2_ap]), if_pos (by decide)]
theorem c_result {G : M3} {K : J3} {x : Int32} (h : RR G K) : Agr (fL_result x G K) (fX5_result x) := by
  obtain ⟨n, hI, hR⟩ := h.1
  obtain ⟨r, hr, h14⟩ := hI.res
  have h14 : G 8 1 14 = Int32.ofNat r := h14
  have o6 : G 0 0 6 = Int32.ofNat r := by rw [hR.o.2.2.2.2.2.2, h14]
  by_cases h1 : 0 ≤ x.toInt ∧ x.toInt < r
  · obtain ⟨c, hc, rfl⟩ := one_of h1
    refine Agr.look (v := G 8 1 (15 + (r - 1 - c))) h ?_ ?_
    · unfold fL_result fX4_result
      rw [o6, if_neg (fun e => (rng4 (by omega)).mp e h1), if_pos ((pn_lt2 (b := 6) (by omega) (by decide)).mpr (by show c < 6; omega))]
      simp (disch := omega) only [chk_b, pn_in, bd4_s, if_true]
      rw [hR.r r hr h14 c hc]
      rfl
    · unfold fX5_result
      rw [h14, if_neg (fun e => (rng_iff (by omega)).mp e h1), pn_add1, pn_sub2 (by show 1 ≤ 15 + r; omega), pn_sub (by show c ≤ 15 + r - 1; omega)]
      rw [show OfNat.ofNat 15 + r - OfNat.ofNat 1 - c = 15 + (r - 1 - c) by show 15 + r - 1 - c = _; omega]
      rw [chk_b (by omega) (by omega), pn_in (by omega), pv_tells, bd3_s]
  · refine Agr.throw (k := 1) (v := 0) h (by decide) ?_ ?_
    · unfold fL_result fX4_result fbX4_result_23
      rw [o6, if_pos ((rng4 (by omega)).mpr h1), bd4_s]
      rfl
    · unfold fX5_result
      rw [h14, if_pos ((rng_iff (by omega)).mpr h1), pv_fails, bd3_s]
theorem c_next {F : Nat} {G : M3} {K : J3} {x : Int32} (hF : 1000 ≤ F) (h : RR G K) : Agr (fL_next x G K) (fX5_next F x) := by
  obtain ⟨n, hI, hR⟩ := h.1
  have hn := hI.n5
  have hcn : G 8 1 10 = Int32.ofNat n := hI.cnt
  have h10 : G 0 0 5 = Int32.ofNat n := by rw [hR.o.2.2.2.2.2.1, hcn]
  by_cases h1 : 0 ≤ x.toInt ∧ x.toInt < n
  · obtain ⟨c, hc, rfl⟩ := one_of h1
    refine Agr.look (v := nxt (G 8 1) c (prs (G 8 1))) h ?_ ?_
    · unfold fL_next fX4_next
      rw [pc_num hn h10 (by omega), if_pos hc]
      simp only [Option.bind_some, oc_ss]
      rw [chk_t (pc_isC (by omega)), pc_press (Inv_v0 hI).1 hR, Option.bind_some, pc_doing hR hc (hI.cmp c hc), bd4_s, if_pos rfl]
      rfl
    · unfold fX5_next fX5_isOne fX5_pressure
      rw [hcn, if_neg (fun e => (rng_iff (by omega)).mp e (c_lt hc hn)), chk_t (Inv_v0 hI).2, Option.bind_some, pv_next hF hn hI.prm hc, Option.bind_some, pv_tells, bd3_s]
      rfl
  · refine Agr.throw (k := 1) (v := 0) h (by decide) ?_ ?_
    · unfold fL_next fX4_next
      rw [pc_numx hn h10, if_neg h1]
      simp only [Option.bind_some, oc_ns, bd4_s]
      rfl
    · unfold fX5_next fX5_isOne
      rw [hcn, if_pos ((rng_iff (by omega)).mpr h1), pv_fails, bd3_s]
theorem c_can {F : Nat} {G : M3} {K : J3} {x : Int32} (hF : 1000 ≤ F) (h : RR G K) : Agr (fL_canServe F x G K) (fX5_canServe F x) := by
  obtain ⟨n, hI, hR⟩ := h.1
  have hn := hI.n5
  have hcn : G 8 1 10 = Int32.ofNat n := hI.cnt
  have h10 : G 0 0 5 = Int32.ofNat n := by rw [hR.o.2.2.2.2.2.1, hcn]
  have s5 := hR.st 5 (by omega)
  by_cases h1 : 0 ≤ x ∧ x ≤ 16000
  · have w1 : ¬ fX4_isWithin x 0 16000 = 0 := fun e => (wi_iff.mp e) h1
    have e1 : fX3_usableCapacity F (G 0) (K 0) = some (cpk (G 8 1) false n) := by
      unfold fX3_usableCapacity
      rw [pc_cap (s := G 8 1) hF hn h10 hR.c, pc_cap (s := G 8 1) hF hn h10 hR.c, pc_cap (s := G 8 1) hF hn h10 hR.c]
      simp only [Option.bind_some]
      rw [cmk_3 (fun c hc => (hI.cmp c hc).2.1)]
    have e2 := pv_cap (F := F) (J := K 8) false hF hn hcn
    rw [if_neg (by decide)] at e2
    refine Agr.look (v := if 0 < cpk (G 8 1) false n - x * G 8 1 7 / 1000 then cpk (G 8 1) false n - x * G 8 1 7 / 1000 else 0) h ?_ ?_
    · unfold fL_canServe fX4_canServe
      rw [if_pos w1, e1, Option.bind_some, bd4_s, if_pos rfl]
      unfold fX3_leakAt
      rw [s5]
      rfl
    · unfold fX5_canServe
      rw [if_pos (show ¬ fX5_in x 0 16000 = 0 from w1), e2, Option.bind_some]
      generalize cpk (G 8 1) false n - x * G 8 1 7 / 1000 = d
      have l1 := Int32.le_iff_toInt_le (x := 0) (y := d)
      have l2 := Int32.lt_iff_toInt_lt (x := 0) (y := d)
      have z : (0 : Int32).toInt = 0 := by decide
      unfold fbX5_canServe_47
      by_cases hd : 0 < d
      · rw [if_pos hd, if_pos (by rw [l1]; rw [l2] at hd; omega), pv_tells, bd3_s]
      · rw [if_neg hd]
        by_cases hd2 : 0 ≤ d
        · rw [if_pos hd2, pv_tells, bd3_s]
          have : d = 0 := by rw [← Int32.toInt_inj, z]; rw [l1] at hd2; rw [l2] at hd; omega
          rw [this]
        · rw [if_neg hd2, pv_tells, bd3_s]
  · have w1 : fX4_isWithin x 0 16000 = 0 := wi_iff.mpr h1
    refine Agr.throw (k := 1) (v := 0) h (by decide) ?_ ?_
    · unfold fL_canServe fX4_canServe
      rw [if_neg (fun e => e w1), bd4_s]
      rfl
    · unfold fX5_canServe
      rw [if_neg (fun e => e w1), pv_fails, bd3_s]
