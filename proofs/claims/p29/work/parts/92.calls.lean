/-! the class's calls over the rows -/
theorem rng4 {x : Int32} {n : Nat} (hn : n ≤ 100) : fX4_isWithin x 0 (Int32.ofNat n - 1) = 0 ↔ ¬ (0 ≤ x.toInt ∧ x.toInt < n) := by
  rw [wi_iff, Int32.le_iff_toInt_le, Int32.le_iff_toInt_le]
  have o : (1 : Int32).toInt = 1 := by decide
  have z : (0 : Int32).toInt = 0 := by decide
  have e : (Int32.ofNat n - 1).toInt = (n : Int) - 1 := by
    rw [pi_sub (by rw [pn_ti (by omega), o]; omega) (by rw [pn_ti (by omega), o]; omega), pn_ti (by omega), o]
  rw [e, z]
  omega
theorem wi_k {k m : Nat} (hm : m < 2147483648) (h : k ≤ m) : ¬ fX4_isWithin (Int32.ofNat k) 0 (Int32.ofNat m) = 0 := fun e => (wi_iff.mp e) ⟨by rw [show (0 : Int32) = Int32.ofNat 0 from rfl, pn_le (by omega) (by omega)]; omega, (pn_le (by omega) hm).mpr h⟩
/-- what a question finds -/
abbrev Q0 (F n : Nat) (G : M3) (K : J3) (s : M1) (b : J1) : Prop := 1000 ≤ F ∧ Iv 100000 n (s, b) ∧ Rep n (G 0) (K 0) s b
section Q
variable {F n : Nat} {G : M3} {K : J3} {s : M1} {b : J1}
theorem Q0.n10 (h : Q0 F n G K s b) : G 0 0 5 = Int32.ofNat n := by rw [h.2.2.o.2.2.2.2.2.1]; exact h.2.1.cnt
theorem q_value {k : Nat} (h : Q0 F n G K s b) (hk : k < 12) : fX4_value F (Int32.ofNat k) G K = some (0, vlu s n k, G, K) := by
  obtain ⟨hF, hI, hR⟩ := h
  unfold fX4_value
  rw [if_pos (show ¬ fX4_isWithin (Int32.ofNat k) 0 11 = 0 from wi_k (m := 11) (by decide) (by omega)), pc_value hF hI.n5 hI.cnt (Inv_v0 hI).1 hR hk, Option.bind_some]
theorem q_comp {c k : Nat} (h : Q0 F n G K s b) (hc : c < n) (hk : k < 10) : fX4_compressor (Int32.ofNat c) (Int32.ofNat k) G K = some (0, tld s c k, G, K) := by
  have h10 := h.n10
  obtain ⟨hF, hI, hR⟩ := h
  have hn := hI.n5
  unfold fX4_compressor
  rw [pc_num hn h10 (by omega), if_pos hc]
  simp only [Option.bind_some, oc_ss]
  rw [chk_t (pc_isC (by omega)), if_pos (show ¬ fX4_isWithin (Int32.ofNat k) 0 9 = 0 from wi_k (m := 9) (by decide) (by omega)), pc_about hR hc (hI.cmp c hc) hk]
theorem q_ats {k : Nat} (h : Q0 F n G K s b) (hk : k < n) : fX4_atStage F (Int32.ofNat k) G K = some (0, s (56 + k), G, K) := by
  have h10 := h.n10
  obtain ⟨hF, hI, hR⟩ := h
  have hn := hI.n5
  unfold fX4_atStage
  rw [h10, if_pos (fun e => (rng4 (by omega)).mp e (c_lt hk hn)), pc_ats hF hn h10 (fun c hc => (hR.c c hc).2.2.1) hI.prm hk, Option.bind_some]
theorem q_setting {k : Nat} (h : Q0 F n G K s b) (hk : k < 8) : fX4_setting (Int32.ofNat k) G K = some (0, s (2 + k), G, K) := by
  obtain ⟨hF, hI, hR⟩ := h
  unfold fX4_setting
  rw [if_pos (show ¬ fX4_isWithin (Int32.ofNat k) 0 7 = 0 from wi_k (m := 7) (by decide) (by omega)), chk_b hk (by omega), pn_in (by omega), hR.st k hk]
theorem q_booked {k : Nat} (h : Q0 F n G K s b) (hk : k < 6) : fX4_booked (Int32.ofNat k) G K = some (0, b k, G, K) := by
  obtain ⟨hF, hI, hR⟩ := h
  unfold fX4_booked
  rw [if_pos (show ¬ fX4_isWithin (Int32.ofNat k) 0 5 = 0 from wi_k (m := 5) (by decide) (by omega)), chk_b hk (by omega), pn_in (by omega), hR.am k hk]
theorem q_next {c : Nat} (h : Q0 F n G K s b) (hc : c < n) : fX4_next (Int32.ofNat c) G K = some (0, nxt s c (prs s), G, K) := by
  have h10 := h.n10
  obtain ⟨hF, hI, hR⟩ := h
  have hn := hI.n5
  unfold fX4_next
  rw [pc_num hn h10 (by omega), if_pos hc]
  simp only [Option.bind_some, oc_ss]
  rw [chk_t (pc_isC (by omega)), pc_press (Inv_v0 hI).1 hR, Option.bind_some, pc_doing hR hc (hI.cmp c hc)]
theorem q_v0 (h : Q0 F n G K s b) : fX4_value F (0 : Int32) G K = some (0, s 0, G, K) := q_value (k := 0) h (by omega)
theorem q_v1 (h : Q0 F n G K s b) : fX4_value F (1 : Int32) G K = some (0, s 1, G, K) := q_value (k := 1) h (by omega)
theorem q_v2 (h : Q0 F n G K s b) : fX4_value F (2 : Int32) G K = some (0, prs s, G, K) := q_value (k := 2) h (by omega)
theorem q_v3 (h : Q0 F n G K s b) : fX4_value F (3 : Int32) G K = some (0, s 10, G, K) := q_value (k := 3) h (by omega)
theorem q_v4 (h : Q0 F n G K s b) : fX4_value F (4 : Int32) G K = some (0, cntk s 1 n, G, K) := q_value (k := 4) h (by omega)
theorem q_v5 (h : Q0 F n G K s b) : fX4_value F (5 : Int32) G K = some (0, cntk s 2 n, G, K) := q_value (k := 5) h (by omega)
theorem q_v6 (h : Q0 F n G K s b) : fX4_value F (6 : Int32) G K = some (0, cntk s 3 n, G, K) := q_value (k := 6) h (by omega)
theorem q_v7 (h : Q0 F n G K s b) : fX4_value F (7 : Int32) G K = some (0, s 11, G, K) := q_value (k := 7) h (by omega)
theorem q_v8 (h : Q0 F n G K s b) : fX4_value F (8 : Int32) G K = some (0, s 12, G, K) := q_value (k := 8) h (by omega)
theorem q_v9 (h : Q0 F n G K s b) : fX4_value F (9 : Int32) G K = some (0, s 13, G, K) := q_value (k := 9) h (by omega)
theorem q_v10 (h : Q0 F n G K s b) : fX4_value F (10 : Int32) G K = some (0, cpk s true n, G, K) := q_value (k := 10) h (by omega)
theorem q_v11 (h : Q0 F n G K s b) : fX4_value F (11 : Int32) G K = some (0, s 14, G, K) := q_value (k := 11) h (by omega)
theorem q_c0 {c : Nat} (h : Q0 F n G K s b) (hc : c < n) : fX4_compressor (Int32.ofNat c) (0 : Int32) G K = some (0, s (21 + 7 * c), G, K) := q_comp (k := 0) h hc (by omega)
theorem q_c1 {c : Nat} (h : Q0 F n G K s b) (hc : c < n) : fX4_compressor (Int32.ofNat c) (1 : Int32) G K = some (0, s (21 + 7 * c + 1), G, K) := q_comp (k := 1) h hc (by omega)
theorem q_c2 {c : Nat} (h : Q0 F n G K s b) (hc : c < n) : fX4_compressor (Int32.ofNat c) (2 : Int32) G K = some (0, Int32.ofNat (stg s c), G, K) := q_comp (k := 2) h hc (by omega)
theorem q_c3 {c : Nat} (h : Q0 F n G K s b) (hc : c < n) : fX4_compressor (Int32.ofNat c) (3 : Int32) G K = some (0, s (21 + 7 * c + 2), G, K) := q_comp (k := 3) h hc (by omega)
theorem q_c4 {c : Nat} (h : Q0 F n G K s b) (hc : c < n) : fX4_compressor (Int32.ofNat c) (4 : Int32) G K = some (0, s (21 + 7 * c + 3), G, K) := q_comp (k := 4) h hc (by omega)
theorem q_c5 {c : Nat} (h : Q0 F n G K s b) (hc : c < n) : fX4_compressor (Int32.ofNat c) (5 : Int32) G K = some (0, if s (21 + 7 * c + 1) = 2 then s (21 + 7 * c + 4) else 0, G, K) := q_comp (k := 5) h hc (by omega)
theorem q_c6 {c : Nat} (h : Q0 F n G K s b) (hc : c < n) : fX4_compressor (Int32.ofNat c) (6 : Int32) G K = some (0, if s (21 + 7 * c + 1) = 0 then s (21 + 7 * c + 5) else 0, G, K) := q_comp (k := 6) h hc (by omega)
theorem q_c8 {c : Nat} (h : Q0 F n G K s b) (hc : c < n) : fX4_compressor (Int32.ofNat c) (8 : Int32) G K = some (0, lbel s c, G, K) := q_comp (k := 8) h hc (by omega)
theorem q_c9 {c : Nat} (h : Q0 F n G K s b) (hc : c < n) : fX4_compressor (Int32.ofNat c) (9 : Int32) G K = some (0, uabv s c, G, K) := q_comp (k := 9) h hc (by omega)
theorem q_s0 (h : Q0 F n G K s b) : fX4_setting (0 : Int32) G K = some (0, s 2, G, K) := q_setting (k := 0) h (by omega)
theorem q_s1 (h : Q0 F n G K s b) : fX4_setting (1 : Int32) G K = some (0, s 3, G, K) := q_setting (k := 1) h (by omega)
theorem q_s2 (h : Q0 F n G K s b) : fX4_setting (2 : Int32) G K = some (0, s 4, G, K) := q_setting (k := 2) h (by omega)
theorem q_s3 (h : Q0 F n G K s b) : fX4_setting (3 : Int32) G K = some (0, s 5, G, K) := q_setting (k := 3) h (by omega)
theorem q_s4 (h : Q0 F n G K s b) : fX4_setting (4 : Int32) G K = some (0, s 6, G, K) := q_setting (k := 4) h (by omega)
theorem q_s5 (h : Q0 F n G K s b) : fX4_setting (5 : Int32) G K = some (0, s 7, G, K) := q_setting (k := 5) h (by omega)
theorem q_s6 (h : Q0 F n G K s b) : fX4_setting (6 : Int32) G K = some (0, s 8, G, K) := q_setting (k := 6) h (by omega)
theorem q_s7 (h : Q0 F n G K s b) : fX4_setting (7 : Int32) G K = some (0, s 9, G, K) := q_setting (k := 7) h (by omega)
theorem q_b0 (h : Q0 F n G K s b) : fX4_booked (0 : Int32) G K = some (0, b 0, G, K) := q_booked (k := 0) h (by omega)
theorem q_b1 (h : Q0 F n G K s b) : fX4_booked (1 : Int32) G K = some (0, b 1, G, K) := q_booked (k := 1) h (by omega)
theorem q_b2 (h : Q0 F n G K s b) : fX4_booked (2 : Int32) G K = some (0, b 2, G, K) := q_booked (k := 2) h (by omega)
theorem q_b3 (h : Q0 F n G K s b) : fX4_booked (3 : Int32) G K = some (0, b 3, G, K) := q_booked (k := 3) h (by omega)
theorem q_b4 (h : Q0 F n G K s b) : fX4_booked (4 : Int32) G K = some (0, b 4, G, K) := q_booked (k := 4) h (by omega)
theorem q_b5 (h : Q0 F n G K s b) : fX4_booked (5 : Int32) G K = some (0, b 5, G, K) := q_booked (k := 5) h (by omega)
end Q
/-- the class's whole memory over rows, and its saved states -/
def PI (n h : Nat) (G : M3) (K : J3) (s : M1) (b : J1) (sv : Nat → M1) (bv : Nat → J1) : Prop := Iv 100000 n (s, b) ∧ Rep n (G 0) (K 0) s b ∧ h ≤ 4 ∧ (∃ w, w < 4 ∧ G 6 1 0 = Int32.ofNat h ∧ G 6 1 1 = Int32.ofNat w ∧ HS G K h w sv bv) ∧ ∃ t : Nat, t ≤ 100 ∧ G 7 0 0 = Int32.ofNat t
theorem hup_le {h : Nat} : hup h ≤ 4 := by unfold hup; split <;> omega
theorem hup_pos {h : Nat} : ∃ p, hup h = p + 1 := by unfold hup; split <;> exact ⟨_, rfl⟩
section C
variable {F n h : Nat} {G : M3} {K : J3} {s : M1} {b : J1} {sv : Nat → M1} {bv : Nat → J1}
theorem PI.q0 (hF : 1000 ≤ F) (p : PI n h G K s b sv bv) : Q0 F n G K s b := ⟨hF, p.1, p.2.1⟩
theorem PI.save (hF : 1000 ≤ F) (p : PI n h G K s b sv bv) : ∃ G1 K1, fX1_save F 0 G K = some (G1, K1) ∧ G1 0 = G 0 ∧ K1 0 = K 0 ∧ ∀ (n' : Nat) (M' : M2) (J' : J2) (s' : M1) (b' : J1), Iv 100000 n' (s', b') → Rep n' M' J' s' b' → PI n' (hup h) (sg G1 0 M') (sg K1 0 J') s' b' (psh s sv) (psh b bv) := by
  obtain ⟨hI, hR, hh, ⟨w, hw, h0, h1, hS⟩, t, ht, h7⟩ := p
  obtain ⟨G1, K1, g1, g2, w', g3, g4, g5, g6⟩ := pc_save hF hI hR hh hw h0 h1 hS
  refine ⟨G1, K1, g1, (g2 0 (by omega)).1, (g2 0 (by omega)).2, fun n' M' J' s' b' hI' hR' => ⟨hI', ?_, hup_le, ⟨w', g3, ?_, ?_, fun i hi => ?_⟩, t, ht, ?_⟩⟩
  · rw [sg_eq, sg_eq]; exact hR'
  · rw [sg_ne _ _ (by decide)]; exact g4
  · rw [sg_ne _ _ (by decide)]; exact g5
  · obtain ⟨n2, d1, d2⟩ := g6 i hi
    exact ⟨n2, d1, by rw [sg_ne _ _ (by omega), sg_ne _ _ (by omega)]; exact d2⟩
  · rw [sg_ne _ _ (by decide), (g2 7 (by omega)).1]; exact h7
theorem w_set {k : Nat} {y : Int32} (hF : 1000 ≤ F) (p : PI n h G K s b sv bv) (hk : k < 8) (hy : rowLeast k ≤ y ∧ y ≤ rowMost k) : ∃ G' K', fX4_set F (Int32.ofNat k) y G K = some (0, s (2 + k), G', K') ∧ PI n (hup h) G' K' (sg s (2 + k) y) b (psh s sv) (psh b bv) := by
  obtain ⟨G1, K1, d1, d2, d3, d4⟩ := p.save hF
  have hI := p.1
  have hR := p.2.1
  have w2 : ¬ fX4_isWithin y (rowLeast k) (rowMost k) = 0 := fun e => (wi_iff.mp e) hy
  obtain ⟨c2, c4, c5, c6⟩ := lm_in (k := k) hk hy
  have hI1 : Iv 100000 n (sg s (2 + k) y, b) := Inv_sc hI (by omega) (by omega) (fun e => by omega) (fun e => c2 (by omega)) (fun e => c4 (by omega)) (fun e => c5 (by omega)) (fun e => c6 (by omega))
  have hR1 := Rep_set (k0 := k) y hR hI.n5 hk
  refine ⟨sg G1 0 (up2 (G1 0) 1 k y), sg K1 0 (K1 0), ?_, d4 n _ _ _ _ hI1 (by rw [d2, d3]; exact hR1)⟩
  unfold fX4_set
  rw [if_pos (show ¬ fX4_isWithin (Int32.ofNat k) 0 7 = 0 from wi_k (m := 7) (by decide) (by omega))]
  simp (disch := omega) only [chk_b, pn_in]
  rw [if_pos w2, d1, bd2_s]
  simp (disch := omega) only [chk_b, pn_in, bnd_s]
  rw [sg_self, d2, hR.st k hk]
  unfold up3
  rw [d2]
theorem w_add {x : Int32} (hF : 1000 ≤ F) (p : PI n h G K s b sv bv) (hn : n < 5) (hx : 10 ≤ x ∧ x ≤ 500) : ∃ G' K', fX4_addCompressor F x G K = some (0, Int32.ofNat n, G', K') ∧ PI (n + 1) (hup h) G' K' (adc s n x) b (psh s sv) (psh b bv) := by
  obtain ⟨G1, K1, d1, d2, d3, d4⟩ := p.save hF
  have hI := p.1
  have hR := p.2.1
  have h10 := (p.q0 hF).n10
  have w1 : ¬ fX4_isWithin x 10 500 = 0 := fun e => (wi_iff.mp e) hx
  have hx2 : 10 ≤ x.toInt ∧ x.toInt ≤ 500 := ⟨Int32.le_iff_toInt_le.mp hx.1, Int32.le_iff_toInt_le.mp hx.2⟩
  obtain ⟨M', g1, g2⟩ := pc_inst (x := x) hn hI.cnt hI.prm hR
  refine ⟨sg G1 0 M', sg K1 0 (K1 0), ?_, d4 (n + 1) _ _ _ _ (Inv_adc hI hn hx2) (by rw [d3]; exact g2)⟩
  unfold fX4_addCompressor
  rw [if_pos w1, h10, if_pos ((pn_lt2 (b := 5) (by omega) (by decide)).mpr hn), d1, bd2_s, d2, d3, g1, bd3_s]
  rfl
theorem w_trip {c : Nat} (hF : 1000 ≤ F) (p : PI n h G K s b sv bv) (hc : c < n) (hm : ¬ s (21 + 7 * c + 1) = 3) : ∃ G' K', fX4_trip F (Int32.ofNat c) G K = some (0, s (21 + 7 * c + 1), G', K') ∧ PI n (hup h) G' K' (trp s c) b (psh s sv) (psh b bv) := by
  obtain ⟨G1, K1, d1, d2, d3, d4⟩ := p.save hF
  have hI := p.1
  have hR := p.2.1
  have hn := hI.n5
  have h10 := (p.q0 hF).n10
  have e1 := (hR.c c hc).2.1
  obtain ⟨M', g1, g2⟩ := pc_fail hR hc hn
  refine ⟨sg G1 0 M', sg K1 0 (K1 0), ?_, d4 n _ _ _ _ (Inv_cmp hI hc (fun i hi => trp_out hi) (trp_cok (hI.cmp c hc))) (by rw [d3]; exact g2)⟩
  unfold fX4_trip
  rw [pc_num hn h10 (by omega), if_pos hc]
  simp only [Option.bind_some, oc_ss]
  rw [chk_t (pc_isC (by omega)), e1, if_pos hm, d1, bd2_s, d2, d3, g1, bd2_s]
  simp only [bnd_s]
  rw [e1]
theorem w_clear {c : Nat} (hF : 1000 ≤ F) (p : PI n h G K s b sv bv) (hc : c < n) (hm : s (21 + 7 * c + 1) = 3) : ∃ G' K', fX4_clear F (Int32.ofNat c) G K = some (0, Int32.ofNat (stg s c), G', K') ∧ PI n (hup h) G' K' (clr s c) b (psh s sv) (psh b bv) := by
  obtain ⟨G1, K1, d1, d2, d3, d4⟩ := p.save hF
  have hI := p.1
  have hR := p.2.1
  have hn := hI.n5
  have h10 := (p.q0 hF).n10
  have e1 := (hR.c c hc).2.1
  obtain ⟨M', g1, g2, g3⟩ := pc_stop hR hc hn (hI.cmp c hc) hm
  refine ⟨sg G1 0 M', sg K1 0 (K1 0), ?_, d4 n _ _ _ _ (Inv_cmp hI hc (fun i hi => clr_out hi) (clr_cok (hI.cmp c hc) hm hI.rst.1)) (by rw [d3]; exact g2)⟩
  unfold fX4_clear
  rw [pc_num hn h10 (by omega), if_pos hc]
  simp only [Option.bind_some, oc_ss]
  rw [chk_t (pc_isC (by omega)), e1, if_pos hm, d1, bd2_s, d2, d3, g1, bd2_s]
  simp only [bnd_s]
  rw [sg_eq, g3]
theorem w_rotate (hF : 1000 ≤ F) (p : PI n h G K s b sv bv) : ∃ G' K', fX4_rotate F G K = some (Int32.ofNat (mvk s n n), G', K') ∧ PI n (hup h) G' K' (rots s n) b (psh s sv) (psh b bv) := by
  obtain ⟨G1, K1, d1, d2, d3, d4⟩ := p.save hF
  have hI := p.1
  obtain ⟨M', g1, g2⟩ := pc_rot (F := F) hF hI.n5 hI.cnt hI.prm p.2.1
  refine ⟨sg G1 0 M', sg K1 0 (K1 0), ?_, d4 n _ _ _ _ (Inv_rots hI) (by rw [d3]; exact g2)⟩
  unfold fX4_rotate
  rw [d1, bd2_s, d2, d3, g1, bd3_s]
  rfl
theorem w_pass {N : Nat} (hF : 1000 ≤ F) (p : PI n h G K s b sv bv) (h1 : 1 ≤ N) (hN : N ≤ 600) (ht : s 11 + Int32.ofNat N ≤ 100000) : ∃ G' K', fX4_pass F (Int32.ofNat N) G K = some (0, prs (mik n (s, b) N).1, G', K') ∧ PI n (hup h) G' K' (mik n (s, b) N).1 (mik n (s, b) N).2 (psh s sv) (psh b bv) := by
  obtain ⟨G1, K1, d1, d2, d3, d4⟩ := p.save hF
  have hI := p.1
  have hR := p.2.1
  have w1 : ¬ fX4_isWithin (Int32.ofNat N) 1 600 = 0 := fun e => (wi_iff.mp e) ⟨(pn_le1 (a := 1) (by decide) (by omega)).mpr h1, (pn_le2 (b := 600) (by omega) (by decide)).mpr hN⟩
  have w2 : ¬ fX3_hasTimeFor (G 0) (K 0) (Int32.ofNat N) = 0 := fun e => (pc_time hR).mp e ht
  obtain ⟨M', J', g1, g2⟩ := pc_minutes (F := F) (N := N) hF hI hN (by omega) hR
  have hI1 := Iv_mikT hI hN ht
  refine ⟨sg G1 0 M', sg K1 0 J', ?_, d4 n _ _ _ _ hI1 g2⟩
  unfold fX4_pass
  rw [if_pos w1, if_pos w2, d1, bd2_s, d2, d3, g1, bd2_s]
  simp only [bnd_s, sg_eq]
  rw [pc_press (Inv_v0 hI1).1 g2, Option.bind_some]
theorem w_test {N : Nat} (hF : 1000 ≤ F) (p : PI n h G K s b sv bv) (h1 : 1 ≤ N) (hN : N ≤ 60) (ht : s 11 + Int32.ofNat N ≤ 100000) : ∃ G' K' r, r ≤ 6 ∧ fX4_leakTest F (Int32.ofNat N) G K = some (0, lks n (ulk s n, b) N, G', K') ∧ PI n (hup h) G' K' (kpr (lts n (s, b) N).1 r (lks n (ulk s n, b) N)) (lts n (s, b) N).2 (psh s sv) (psh b bv) := by
  obtain ⟨G1, K1, d1, d2, d3, d4⟩ := p.save hF
  have hI := p.1
  have hR := p.2.1
  have w1 : ¬ fX4_isWithin (Int32.ofNat N) 1 60 = 0 := fun e => (wi_iff.mp e) ⟨(pn_le1 (a := 1) (by decide) (by omega)).mpr h1, (pn_le2 (b := 60) (by omega) (by decide)).mpr hN⟩
  have w2 : ¬ fX3_hasTimeFor (G 0) (K 0) (Int32.ofNat N) = 0 := fun e => (pc_time hR).mp e ht
  obtain ⟨M', J', g1, r, hr, h14, g2⟩ := pc_ltest (F := F) (N := N) hF hI (by omega) (by omega) hR
  have hU : Iv 100000 n (ulk s n, b) := Inv_ulk hI (Nat.le_refl n)
  have e11 : ulk s n 11 = s 11 := ulk_at hI.n5 (by omega)
  have hI0 : Iv 100000 n (lts n (s, b) N) := Iv_tskT hU (by omega) (by dsimp only; rw [e11]; exact ht)
  have hI1 : Iv 100000 n (kpr (lts n (s, b) N).1 r (lks n (ulk s n, b) N), (lts n (s, b) N).2) := Inv_kpr hI0 hr h14
  refine ⟨sg G1 0 M', sg K1 0 J', r, hr, ?_, d4 n _ _ _ _ hI1 g2⟩
  unfold fX4_leakTest
  rw [if_pos w1, if_pos w2, d1, bd2_s, d2, d3, g1, bd3_s]
  rfl
theorem w_undo {q : Nat} (hF : 1000 ≤ F) (p : PI n (q + 1) G K s b sv bv) : ∃ G' K' n', fX4_undo F G K = some (0, Int32.ofNat q, G', K') ∧ Iv 100000 n' (sv 0, bv 0) ∧ Rep n' (G' 0) (K' 0) (sv 0) (bv 0) := by
  obtain ⟨hI, hR, hh, ⟨w, hw, h0, h1, hS⟩, -⟩ := p
  have hnz : ¬ Int32.ofNat (q + 1) = 0 := fun e => by have := (pn_eq2 (b := 0) (by omega) (by decide)).mp e; have : q + 1 = 0 := this; omega
  obtain ⟨G1, K1, g1, g2, ⟨n', g3, g4⟩, w', g5, g6, g7, g8⟩ := pc_rest hF hh hw h0 h1 hS
  refine ⟨G1, K1, n', ?_, g3, g4⟩
  unfold fX4_undo
  rw [h0, if_pos hnz, g1, bd2_s, g6]
theorem w_dig (hF : 1000 ≤ F) (p : PI n h G K s b sv bv) : ∃ D, ∀ G' K', G' 0 = G 0 → K' 0 = K 0 → G' 6 = G 6 → G' 7 = G 7 → fX4_digest F G' K' = some D := by
  obtain ⟨hI, hR, hh, ⟨w, hw, h0, h1, hS⟩, t, ht, h7⟩ := p
  obtain ⟨r, hr, h14⟩ := hI.res
  have h14 : s 14 = Int32.ofNat r := h14
  refine ⟨31 * dgE s b n t r + (Int32.ofNat h).toInt64, fun G' K' e0 f0 e6 e7 => ?_⟩
  unfold fX4_digest
  rw [e7, h7]
  exact pc_dg15 (F := F) hF hI (by rw [e0, f0]; exact hR) hr h14 (by rw [e6]; exact h0) 12 0 F (by omega) (by omega)
theorem w_mtlL {q : M1 × J1} (hF : 1000 ≤ F) (hI : Iv 100000 n q) : ∀ d k mc (G : M3) (K : J3), k + d = 600 → d < mc → Rep n (G 1) (K 1) (mik n q k).1 (mik n q k).2 → ∃ v M' J', fbX4_minutesToLoad_13 F mc (Int32.ofNat (k + 1)) G K = some (v, sg G 1 M', sg K 1 J') ∧ ¬ v < -1 := by
  intro d
  induction d with
  | zero =>
    intro k mc G K hk h1 hR
    obtain ⟨mc, rfl⟩ := fu h1
    obtain rfl : k = 600 := by omega
    refine ⟨-1, G 1, K 1, ?_, by decide⟩
    rw [show fbX4_minutesToLoad_13 F (mc + 1) = fsX4_minutesToLoad_13 F (fbX4_minutesToLoad_13 F mc) from rfl]
    unfold fsX4_minutesToLoad_13
    rw [if_pos (by decide), sg_self, sg_self]
  | succ d ih =>
    intro k mc G K hk h1 hR
    obtain ⟨mc, rfl⟩ := fu h1
    have hI2 := (Iv_mik (k := k) hI (by omega)).1
    obtain ⟨M', J', g1, g2⟩ := pc_minute hF hI2 hR
    rw [show fbX4_minutesToLoad_13 F (mc + 1) = fsX4_minutesToLoad_13 F (fbX4_minutesToLoad_13 F mc) from rfl]
    unfold fsX4_minutesToLoad_13
    rw [if_neg (fun h => by have h2 := (pn_lt1 (a := 600) (by decide) (by omega)).mp h; have : 600 < k + 1 := h2; omega)]
    rw [g1, bd3_s]
    simp only [bnd_s, pn_s]
    cases hb : bzk (mrot (mik n q k).1 n) (prs (mrot (mik n q k).1 n)) n with
    | true =>
      rw [if_pos rfl, if_neg (by decide)]
      refine ⟨Int32.ofNat (k + 1), M', J', rfl, ?_⟩
      rw [Int32.lt_iff_toInt_lt, pn_ti (by omega)]
      show ¬ ((k + 1 : Nat) : Int) < -1
      omega
    | false =>
      rw [if_neg Bool.false_ne_true, if_pos rfl]
      obtain ⟨v, M2', J2', q1, q2⟩ := ih (k + 1) mc (sg G 1 M') (sg K 1 J') (by omega) (by omega) (by rw [sg_eq, sg_eq]; exact g2)
      rw [sg_sg, sg_sg] at q1
      exact ⟨v, M2', J2', q1, q2⟩
theorem w_mtl (hF : 1000 ≤ F) (p : PI n h G K s b sv bv) : ∃ v M' J', fX4_minutesToLoad F G K = some (v, sg G 1 M', sg K 1 J') ∧ ¬ v < -1 := by
  have hI := p.1
  obtain ⟨M1', J1', a1, a2⟩ := pc_tk (F := F) (G := G) (K := K) (g := 1) (g' := 0) hF (by decide) hI.n5 hI.cnt p.2.1
  obtain ⟨v, M', J', q1, q2⟩ := w_mtlL (F := F) (q := (s, b)) hF hI 600 0 F (sg G 1 M1') (sg K 1 J1') (by omega) (by omega) (by rw [sg_eq, sg_eq]; exact a2)
  rw [sg_sg, sg_sg] at q1
  refine ⟨v, M', J', ?_, q2⟩
  unfold fX4_minutesToLoad
  rw [a1, bd2_s]
  exact q1
/-- the trial's module is nobody's -/
theorem PI.trial {M' : M2} {J' : J2} (p : PI n h G K s b sv bv) : PI n h (sg G 1 M') (sg K 1 J') s b sv bv := by
  obtain ⟨hI, hR, hh, ⟨w, hw, h0, h1, hS⟩, t, ht, h7⟩ := p
  refine ⟨hI, ?_, hh, ⟨w, hw, ?_, ?_, fun i hi => ?_⟩, t, ht, ?_⟩
  · rw [sg_ne _ _ (by decide), sg_ne _ _ (by decide)]; exact hR
  · rw [sg_ne _ _ (by decide)]; exact h0
  · rw [sg_ne _ _ (by decide)]; exact h1
  · obtain ⟨n2, d1, d2⟩ := hS i hi
    exact ⟨n2, d1, by rw [sg_ne _ _ (by omega), sg_ne _ _ (by omega)]; exact d2⟩
  · rw [sg_ne _ _ (by decide)]; exact h7
theorem w_pass0 : fX4_pass F 0 G K = some (1, 0, G, K) := by
  unfold fX4_pass
  rw [if_neg (fun e => e (by decide))]
theorem w_trip4 (hF : 1000 ≤ F) (p : PI 4 h G K s b sv bv) : fX4_trip F 4 G K = some (3, 0, G, K) := by
  have h10 := (p.q0 hF).n10
  have e := pc_num (M := G 0) (J := K 0) (n := 4) (i := 4) (by decide) h10 (by decide)
  unfold fX4_trip
  rw [show (4 : Int32) = Int32.ofNat 4 from rfl, e, if_neg (by decide)]
  rfl
end C
