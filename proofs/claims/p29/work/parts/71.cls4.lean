theorem Rep_o0 {n : Nat} {M : M2} {J : J2} {s : M1} {b : J1} (x : Int32) (h : Rep n M J s b) (hn : n ≤ 5) : Rep n (up2 M 0 0 x) J (sg s 0 x) b := by
  obtain ⟨o0, o1, o2, o3, o4, o5, o6⟩ := h.o
  have hM : ∀ r, r ≠ 0 → up2 M 0 0 x r = M r := fun r hr => by unfold up2; exact sg_ne _ _ hr
  have hs : ∀ i, i ≠ 0 → sg s 0 x i = s i := fun i hi => sg_ne _ _ hi
  refine ⟨?_, fun k hk => ?_, h.am, fun d hd => ?_, fun r hr h14 k hk => ?_⟩
  · unfold RO
    simp [up2_ap, sg_ap, o0, o1, o2, o3, o4, o5, o6]
  · rw [hM 1 (by omega), hs _ (by omega)]; exact h.st k hk
  · have h2 := h.c d hd
    unfold RC at *
    rw [hM _ (by omega), stg_congr (s := s) (fun i hi => hs i (by omega)), hs (21 + 7 * d) (by omega), hs (21 + 7 * d + 1) (by omega), hs (21 + 7 * d + 2) (by omega), hs (21 + 7 * d + 3) (by omega), hs (21 + 7 * d + 4) (by omega), hs (21 + 7 * d + 5) (by omega), hs (21 + 7 * d + 6) (by omega)]
    exact h2
  · rw [hs 14 (by omega)] at h14
    rw [hM 3 (by omega), hs _ (by omega)]; exact h.r r hr h14 k hk
theorem Rep_o1 {n : Nat} {M : M2} {J : J2} {s : M1} {b : J1} (x : Int32) (h : Rep n M J s b) (hn : n ≤ 5) : Rep n (up2 M 0 1 x) J (sg s 1 x) b := by
  obtain ⟨o0, o1, o2, o3, o4, o5, o6⟩ := h.o
  have hM : ∀ r, r ≠ 0 → up2 M 0 1 x r = M r := fun r hr => by unfold up2; exact sg_ne _ _ hr
  have hs : ∀ i, i ≠ 1 → sg s 1 x i = s i := fun i hi => sg_ne _ _ hi
  refine ⟨?_, fun k hk => ?_, h.am, fun d hd => ?_, fun r hr h14 k hk => ?_⟩
  · unfold RO
    simp [up2_ap, sg_ap, o0, o1, o2, o3, o4, o5, o6]
  · rw [hM 1 (by omega), hs _ (by omega)]; exact h.st k hk
  · have h2 := h.c d hd
    unfold RC at *
    rw [hM _ (by omega), stg_congr (s := s) (fun i hi => hs i (by omega)), hs (21 + 7 * d) (by omega), hs (21 + 7 * d + 1) (by omega), hs (21 + 7 * d + 2) (by omega), hs (21 + 7 * d + 3) (by omega), hs (21 + 7 * d + 4) (by omega), hs (21 + 7 * d + 5) (by omega), hs (21 + 7 * d + 6) (by omega)]
    exact h2
  · rw [hs 14 (by omega)] at h14
    rw [hM 3 (by omega), hs _ (by omega)]; exact h.r r hr h14 k hk
theorem Rep_o2 {n : Nat} {M : M2} {J : J2} {s : M1} {b : J1} (x : Int32) (h : Rep n M J s b) (hn : n ≤ 5) : Rep n (up2 M 0 2 x) J (sg s 11 x) b := by
  obtain ⟨o0, o1, o2, o3, o4, o5, o6⟩ := h.o
  have hM : ∀ r, r ≠ 0 → up2 M 0 2 x r = M r := fun r hr => by unfold up2; exact sg_ne _ _ hr
  have hs : ∀ i, i ≠ 11 → sg s 11 x i = s i := fun i hi => sg_ne _ _ hi
  refine ⟨?_, fun k hk => ?_, h.am, fun d hd => ?_, fun r hr h14 k hk => ?_⟩
  · unfold RO
    simp [up2_ap, sg_ap, o0, o1, o2, o3, o4, o5, o6]
  · rw [hM 1 (by omega), hs _ (by omega)]; exact h.st k hk
  · have h2 := h.c d hd
    unfold RC at *
    rw [hM _ (by omega), stg_congr (s := s) (fun i hi => hs i (by omega)), hs (21 + 7 * d) (by omega), hs (21 + 7 * d + 1) (by omega), hs (21 + 7 * d + 2) (by omega), hs (21 + 7 * d + 3) (by omega), hs (21 + 7 * d + 4) (by omega), hs (21 + 7 * d + 5) (by omega), hs (21 + 7 * d + 6) (by omega)]
    exact h2
  · rw [hs 14 (by omega)] at h14
    rw [hM 3 (by omega), hs _ (by omega)]; exact h.r r hr h14 k hk
theorem Rep_o3 {n : Nat} {M : M2} {J : J2} {s : M1} {b : J1} (x : Int32) (h : Rep n M J s b) (hn : n ≤ 5) : Rep n (up2 M 0 3 x) J (sg s 12 x) b := by
  obtain ⟨o0, o1, o2, o3, o4, o5, o6⟩ := h.o
  have hM : ∀ r, r ≠ 0 → up2 M 0 3 x r = M r := fun r hr => by unfold up2; exact sg_ne _ _ hr
  have hs : ∀ i, i ≠ 12 → sg s 12 x i = s i := fun i hi => sg_ne _ _ hi
  refine ⟨?_, fun k hk => ?_, h.am, fun d hd => ?_, fun r hr h14 k hk => ?_⟩
  · unfold RO
    simp [up2_ap, sg_ap, o0, o1, o2, o3, o4, o5, o6]
  · rw [hM 1 (by omega), hs _ (by omega)]; exact h.st k hk
  · have h2 := h.c d hd
    unfold RC at *
    rw [hM _ (by omega), stg_congr (s := s) (fun i hi => hs i (by omega)), hs (21 + 7 * d) (by omega), hs (21 + 7 * d + 1) (by omega), hs (21 + 7 * d + 2) (by omega), hs (21 + 7 * d + 3) (by omega), hs (21 + 7 * d + 4) (by omega), hs (21 + 7 * d + 5) (by omega), hs (21 + 7 * d + 6) (by omega)]
    exact h2
  · rw [hs 14 (by omega)] at h14
    rw [hM 3 (by omega), hs _ (by omega)]; exact h.r r hr h14 k hk
theorem Rep_o4 {n : Nat} {M : M2} {J : J2} {s : M1} {b : J1} (x : Int32) (h : Rep n M J s b) (hn : n ≤ 5) : Rep n (up2 M 0 4 x) J (sg s 13 x) b := by
  obtain ⟨o0, o1, o2, o3, o4, o5, o6⟩ := h.o
  have hM : ∀ r, r ≠ 0 → up2 M 0 4 x r = M r := fun r hr => by unfold up2; exact sg_ne _ _ hr
  have hs : ∀ i, i ≠ 13 → sg s 13 x i = s i := fun i hi => sg_ne _ _ hi
  refine ⟨?_, fun k hk => ?_, h.am, fun d hd => ?_, fun r hr h14 k hk => ?_⟩
  · unfold RO
    simp [up2_ap, sg_ap, o0, o1, o2, o3, o4, o5, o6]
  · rw [hM 1 (by omega), hs _ (by omega)]; exact h.st k hk
  · have h2 := h.c d hd
    unfold RC at *
    rw [hM _ (by omega), stg_congr (s := s) (fun i hi => hs i (by omega)), hs (21 + 7 * d) (by omega), hs (21 + 7 * d + 1) (by omega), hs (21 + 7 * d + 2) (by omega), hs (21 + 7 * d + 3) (by omega), hs (21 + 7 * d + 4) (by omega), hs (21 + 7 * d + 5) (by omega), hs (21 + 7 * d + 6) (by omega)]
    exact h2
  · rw [hs 14 (by omega)] at h14
    rw [hM 3 (by omega), hs _ (by omega)]; exact h.r r hr h14 k hk
theorem Rep_set {n k0 : Nat} {M : M2} {J : J2} {s : M1} {b : J1} (x : Int32) (h : Rep n M J s b) (hn : n ≤ 5) (hk0 : k0 < 8) : Rep n (up2 M 1 k0 x) J (sg s (2 + k0) x) b := by
  have hM : ∀ r, r ≠ 1 → up2 M 1 k0 x r = M r := fun r hr => by unfold up2; exact sg_ne _ _ hr
  have hs : ∀ i, i ≠ 2 + k0 → sg s (2 + k0) x i = s i := fun i hi => sg_ne _ _ hi
  refine ⟨?_, fun k hk => ?_, h.am, fun d hd => ?_, fun r hr h14 k hk => ?_⟩
  · have h2 := h.o
    unfold RO at *
    rw [hM 0 (by omega), hs 0 (by omega), hs 1 (by omega), hs 11 (by omega), hs 12 (by omega), hs 13 (by omega), hs 10 (by omega), hs 14 (by omega)]
    exact h2
  · rw [up2_ap, if_pos rfl]
    by_cases e : k = k0
    · subst e; rw [if_pos rfl, sg_eq]
    · rw [if_neg e, hs _ (by omega)]; exact h.st k hk
  · have h2 := h.c d hd
    unfold RC at *
    rw [hM _ (by omega), stg_congr (s := s) (fun i hi => hs i (by omega)), hs (21 + 7 * d) (by omega), hs (21 + 7 * d + 1) (by omega), hs (21 + 7 * d + 2) (by omega), hs (21 + 7 * d + 3) (by omega), hs (21 + 7 * d + 4) (by omega), hs (21 + 7 * d + 5) (by omega), hs (21 + 7 * d + 6) (by omega)]
    exact h2
  · rw [hs 14 (by omega)] at h14
    rw [hM 3 (by omega), hs _ (by omega)]; exact h.r r hr h14 k hk
theorem Rep_am {n k0 : Nat} {M : M2} {J : J2} {s : M1} {b : J1} (x : Int64) (h : Rep n M J s b) (hk0 : k0 < 6) : Rep n M (up2 J 2 k0 x) s (sg b k0 x) := by
  refine ⟨h.o, h.st, fun k hk => ?_, h.c, h.r⟩
  rw [up2_ap, if_pos rfl]
  by_cases e : k = k0
  · subst e; rw [if_pos rfl, sg_eq]
  · rw [if_neg e, sg_ne _ _ e]; exact h.am k hk
theorem Rep_c3 {n c : Nat} {M : M2} {J : J2} {s : M1} {b : J1} (x : Int32) (h : Rep n M J s b) (hn : n ≤ 5) (hc : c < n) : Rep n (up2 M (5 + c) 3 x) J (sg s (21 + 7 * c + 2) x) b := by
  obtain ⟨e0, e1, e2, e3, e4, e5, e6, e7⟩ := h.c c hc
  refine Rep_cmp h hc hn (fun r hr => by unfold up2; exact sg_ne _ _ hr) (fun i hi => sg_ne _ _ (by omega)) ?_
  unfold RC
  rw [stg_congr (s := s) (fun i hi => sg_ne _ _ (by omega))]
  simp [up2_ap, sg_ap, e0, e1, e2, e3, e4, e5, e6, e7]
theorem Rep_c4 {n c : Nat} {M : M2} {J : J2} {s : M1} {b : J1} (x : Int32) (h : Rep n M J s b) (hn : n ≤ 5) (hc : c < n) : Rep n (up2 M (5 + c) 4 x) J (sg s (21 + 7 * c + 3) x) b := by
  obtain ⟨e0, e1, e2, e3, e4, e5, e6, e7⟩ := h.c c hc
  refine Rep_cmp h hc hn (fun r hr => by unfold up2; exact sg_ne _ _ hr) (fun i hi => sg_ne _ _ (by omega)) ?_
  unfold RC
  rw [stg_congr (s := s) (fun i hi => sg_ne _ _ (by omega))]
  simp [up2_ap, sg_ap, e0, e1, e2, e3, e4, e5, e6, e7]
theorem pc_flowL {F : Nat} {n : Nat} {s : M1} {b : J1} (hn : n ≤ 5) (h10 : s 10 = Int32.ofNat n) : ∀ d k m M J, k + d = 5 → d < m → Rep n M J (flk s b (if k < n then k else n)).1 (flk s b (if k < n then k else n)).2 → ∃ M' J', fbX3_runCompressors_2 F m (Int32.ofNat k) M J = some (M', J') ∧ Rep n M' J' (flk s b n).1 (flk s b n).2 := by
  intro d
  induction d with
  | zero =>
    intro k m M J hk hmm h
    obtain ⟨m, rfl⟩ := fu hmm
    rw [if_neg (show ¬ k < n by omega)] at h
    refine ⟨M, J, ?_, h⟩
    show fsX3_runCompressors_2 F _ _ _ _ = _
    unfold fsX3_runCompressors_2
    rw [if_pos (pc_ge5 (k := k) (by omega))]
  | succ d ih =>
    intro k m M J hk hmm h
    obtain ⟨m, rfl⟩ := fu hmm
    have hc10 : M 0 5 = Int32.ofNat n := by rw [h.o.2.2.2.2.2.1, flk_10, h10]
    show ∃ M' J', fsX3_runCompressors_2 F (fbX3_runCompressors_2 F m) _ _ _ = _ ∧ _
    unfold fsX3_runCompressors_2
    rw [if_neg (pc_lt5 (k := k) (by omega)), pc_num hn hc10 (by omega)]
    by_cases hkn : k < n
    · rw [if_pos hkn] at h
      simp only [Option.bind_some, if_pos hkn, oc_ss]
      rw [chk_t (pc_isC (by omega))]
      have e : (if k + 1 < n then k + 1 else n) = k + 1 := by split <;> omega
      have ih := fun M J => ih (k + 1) m M J (by omega) (by omega)
      rw [e] at ih
      rw [show flk s b (k + 1) = flb (flk s b k) k from rfl] at ih
      unfold flb at ih
      generalize flk s b k = q at h ih
      obtain ⟨s', b'⟩ := q
      dsimp only at h ih
      obtain ⟨e0, e1, e2, e3, e4, e5, e6, e7⟩ := h.c k hkn
      have a0 := h.am 0 (by omega)
      have a5 := h.am 5 (by omega)
      have o1 := h.o.2.1
      simp only [fbX3_runCompressors_120, fbX3_runCompressors_82, oc_ss, bnd_s, pn_s]
      by_cases h1 : s' (21 + 7 * k + 1) = 1
      · rw [if_neg (by rw [e1]; exact fun h => h h1)]
        refine ih _ _ ?_
        rw [if_pos h1]
        have r1 := Rep_c3 (s' (21 + 7 * k + 2) + 1) (Rep_am (k0 := 5) (b' 5 + (10 * s' (21 + 7 * k)).toInt64) (Rep_am (k0 := 0) (b' 0 + (s' (21 + 7 * k)).toInt64) (Rep_o1 (s' 1 + s' (21 + 7 * k)) h hn) (by omega)) (by omega)) hn hkn
        simp [up2_ap, o1, e0, e3, a0, a5] at r1 ⊢
        exact r1
      · rw [if_pos (by rw [e1]; exact h1)]
        by_cases h2 : s' (21 + 7 * k + 1) = 2
        · rw [if_neg (by rw [e1]; exact fun h => h h2)]
          refine ih _ _ ?_
          rw [if_neg h1, if_pos h2]
          have r1 := Rep_c4 (s' (21 + 7 * k + 3) + 1) (Rep_am (k0 := 5) (b' 5 + (3 * s' (21 + 7 * k)).toInt64) h (by omega)) hn hkn
          rw [e4, e0, a5]
          exact r1
        · rw [if_pos (by rw [e1]; exact h2)]
          refine ih _ _ ?_
          rw [if_neg h1, if_neg h2]
          exact h
    · rw [if_neg hkn] at h
      simp only [Option.bind_some, if_neg hkn, oc_ns, fbX3_runCompressors_82, fbX3_runCompressors_120, pn_s]
      exact ih (k + 1) m M J (by omega) (by omega) (by rw [if_neg (by omega)]; exact h)
theorem pc_flow {F : Nat} {n : Nat} {M : M2} {J : J2} {s : M1} {b : J1} (hF : 1000 ≤ F) (hn : n ≤ 5) (h10 : s 10 = Int32.ofNat n) (h : Rep n M J s b) : ∃ M' J', fX3_runCompressors F M J = some (M', J') ∧ Rep n M' J' (flk s b n).1 (flk s b n).2 := by
  have e1 : (if 0 < n then 0 else n) = 0 := by split <;> omega
  have e := pc_flowL (F := F) (s := s) (b := b) hn h10 5 0 F M J (by omega) (by omega) (by rw [e1]; exact h)
  exact e
theorem pc_pof {x y : Int32} (h : 0 < y) : fX4_pressureOf x y = some (x * 1000 / y) := by
  unfold fX4_pressureOf
  have : ¬ y = 0 := fun h2 => by subst h2; exact absurd h (by decide)
  rw [if_pos h, chk_t this]
theorem Inv_v0 {U A T : Int} {n : Nat} {s : M1} {b : J1} (h : Inv U A T n s b) : 0 < s 0 ∧ ¬ s 0 = 0 := by
  have hv := h.vol
  have z : (0 : Int32).toInt = 0 := by decide
  constructor
  · rw [Int32.lt_iff_toInt_lt]; omega
  · intro h2; rw [h2] at hv; omega
theorem pc_press {n : Nat} {M : M2} {J : J2} {s : M1} {b : J1} (hv : 0 < s 0) (h : Rep n M J s b) : fX3_pressure M J = some (prs s) := by
  unfold fX3_pressure
  rw [h.o.1, h.o.2.1, pc_pof hv]; rfl
theorem pc_blow {n : Nat} {M : M2} {J : J2} {q : M1 × J1} (hn : n ≤ 5) (hv : 0 < q.1 0) (h : Rep n M J q.1 q.2) : ∃ M' J', fX3_blowOff M J = some (M', J') ∧ Rep n M' J' (blw q).1 (blw q).2 := by
  obtain ⟨s, b⟩ := q
  dsimp only at *
  obtain ⟨o0, o1, o2, o3, o4, o5, o6⟩ := h.o
  have s2 := h.st 2 (by omega)
  have a4 := h.am 4 (by omega)
  unfold fX3_blowOff blw
  rw [o0, o1, pc_pof hv]
  simp only [Option.bind_some, bnd_s, s2, a4]
  split
  · exact ⟨M, J, rfl, h⟩
  · exact ⟨_, _, rfl, Rep_o1 _ (Rep_am (k0 := 4) _ h (by omega)) hn⟩
