/-! the law's loops -/
/-- the law's state between two calls -/
def LI (n : Nat) (G : M3) (K : J3) (s : M1) (b : J1) : Prop := (∃ h sv bv, PI n h G K s b sv bv) ∧ Pq n (s, b)
section L
variable {F L : Nat} {xs : Nat → Int32}
/-- the demand, the step -/
theorem lq_set {n k : Nat} {G : M3} {K : J3} {s : M1} {b : J1} {y : Int32} (hF : 1000 ≤ F) (p : LI n G K s b) (hk : k = 1 ∨ k = 6 ∨ k = 7) (hy : rowLeast k ≤ y ∧ y ≤ rowMost k) : ∃ G' K', fX4_set F (Int32.ofNat k) y G K = some (0, s (2 + k), G', K') ∧ LI n G' K' (sg s (2 + k) y) b ∧ Q0 F n G' K' (sg s (2 + k) y) b := by
  obtain ⟨⟨h, sv, bv, p1⟩, p2⟩ := p
  obtain ⟨G', K', e1, e2⟩ := w_set hF p1 (by omega) hy
  refine ⟨G', K', e1, ⟨⟨_, _, _, e2⟩, Pq_set p2 hk (fun e => ?_)⟩, e2.q0 hF⟩
  subst e
  exact Int32.le_iff_toInt_le.mp hy.1
theorem lq_trip {n c : Nat} {G : M3} {K : J3} {s : M1} {b : J1} (hF : 1000 ≤ F) (p : LI n G K s b) (hc : c < n) (hm : ¬ s (21 + 7 * c + 1) = 3) : ∃ G' K', fX4_trip F (Int32.ofNat c) G K = some (0, s (21 + 7 * c + 1), G', K') ∧ LI n G' K' (trp s c) b ∧ Q0 F n G' K' (trp s c) b := by
  obtain ⟨⟨h, sv, bv, p1⟩, p2⟩ := p
  obtain ⟨G', K', e1, e2⟩ := w_trip hF p1 hc hm
  exact ⟨G', K', e1, ⟨⟨_, _, _, e2⟩, Pq_trp p2⟩, e2.q0 hF⟩
theorem lq_clear {n c : Nat} {G : M3} {K : J3} {s : M1} {b : J1} (hF : 1000 ≤ F) (p : LI n G K s b) (hc : c < n) (hm : s (21 + 7 * c + 1) = 3) : ∃ G' K', fX4_clear F (Int32.ofNat c) G K = some (0, Int32.ofNat (stg s c), G', K') ∧ LI n G' K' (clr s c) b ∧ Q0 F n G' K' (clr s c) b := by
  obtain ⟨⟨h, sv, bv, p1⟩, p2⟩ := p
  obtain ⟨G', K', e1, e2⟩ := w_clear hF p1 hc hm
  exact ⟨G', K', e1, ⟨⟨_, _, _, e2⟩, Pq_clr p2⟩, e2.q0 hF⟩
theorem lq_rotate {n : Nat} {G : M3} {K : J3} {s : M1} {b : J1} (hF : 1000 ≤ F) (p : LI n G K s b) : ∃ G' K', fX4_rotate F G K = some (Int32.ofNat (mvk s n n), G', K') ∧ LI n G' K' (rots s n) b ∧ Q0 F n G' K' (rots s n) b := by
  obtain ⟨⟨h, sv, bv, p1⟩, p2⟩ := p
  obtain ⟨G', K', e1, e2⟩ := w_rotate hF p1
  exact ⟨G', K', e1, ⟨⟨_, _, _, e2⟩, Pq_rots p2 p1.1.n5⟩, e2.q0 hF⟩
theorem tm_le {n N : Nat} {s : M1} {b : J1} (hI : Iv 100000 n (s, b)) (hN : N ≤ 600) (ht : (s 11).toInt + N ≤ 100000) : s 11 + Int32.ofNat N ≤ 100000 := by
  rw [Int32.le_iff_toInt_le, tm_add hI (by decide) hN]
  exact ht
theorem tm_eq {n N : Nat} {s : M1} {b : J1} {x : Int32} (hI : Iv 100000 n (s, b)) (hN : N ≤ 600) (h : x.toInt = (s 11).toInt + N) : x = s 11 + Int32.ofNat N := by
  rw [← Int32.toInt_inj, tm_add hI (by decide) hN]
  exact h
theorem lq_passU {n N h : Nat} {G : M3} {K : J3} {s : M1} {b : J1} {sv : Nat → M1} {bv : Nat → J1} (hF : 1000 ≤ F) (p1 : PI n h G K s b sv bv) (p2 : Pq n (s, b)) (h1 : 1 ≤ N) (hN : N ≤ 600) (ht : (s 11).toInt + N ≤ 100000) : ∃ G' K' s' b', fX4_pass F (Int32.ofNat N) G K = some (0, prs s', G', K') ∧ PI n (hup h) G' K' s' b' (psh s sv) (psh b bv) ∧ Pq n (s', b') := by
  have hI := p1.1
  obtain ⟨G', K', e1, e2⟩ := w_pass hF p1 h1 hN (tm_le hI hN ht)
  exact ⟨G', K', _, _, e1, e2, Pq_mik (k := N) hI (by omega) p2⟩
theorem lq_pass {n N : Nat} {G : M3} {K : J3} {s : M1} {b : J1} (hF : 1000 ≤ F) (p : LI n G K s b) (h1 : 1 ≤ N) (hN : N ≤ 600) (ht : (s 11).toInt + N ≤ 100000) : ∃ G' K' s' b', fX4_pass F (Int32.ofNat N) G K = some (0, prs s', G', K') ∧ LI n G' K' s' b' ∧ Q0 F n G' K' s' b' ∧ s' 11 = s 11 + Int32.ofNat N ∧ (s' 11).toInt = (s 11).toInt + N := by
  obtain ⟨⟨h, sv, bv, p1⟩, p2⟩ := p
  have hI := p1.1
  obtain ⟨G', K', e1, e2⟩ := w_pass hF p1 h1 hN (tm_le hI hN ht)
  obtain ⟨-, e3⟩ := Iv_mik (k := N) hI (by omega)
  exact ⟨G', K', _, _, e1, ⟨⟨_, _, _, e2⟩, Pq_mik (k := N) hI (by omega) p2⟩, e2.q0 hF, tm_eq hI hN e3, e3⟩
theorem lq_test {n N : Nat} {G : M3} {K : J3} {s : M1} {b : J1} (hF : 1000 ≤ F) (p : LI n G K s b) (h1 : 1 ≤ N) (hN : N ≤ 60) (ht : (s 11).toInt + N ≤ 100000) : ∃ G' K' s' b', fX4_leakTest F (Int32.ofNat N) G K = some (0, (b' 1).toInt32 - (b 1).toInt32, G', K') ∧ LI n G' K' s' b' ∧ Q0 F n G' K' s' b' ∧ s' 11 = s 11 + Int32.ofNat N ∧ (s' 11).toInt = (s 11).toInt + N ∧ cntk s' 1 n = 0 := by
  obtain ⟨⟨h, sv, bv, p1⟩, p2⟩ := p
  have hI := p1.1
  have hn := hI.n5
  obtain ⟨G', K', r, hr, e1, e2⟩ := w_test hF p1 h1 hN (tm_le hI (by omega) ht)
  have hU : Iv 100000 n (ulk s n, b) := Inv_ulk hI (Nat.le_refl n)
  have e11 : ulk s n 11 = s 11 := ulk_at hn (by omega)
  obtain ⟨-, e3⟩ := Iv_tsk (k := N) hU (by omega)
  have hP : Pq n (lts n (s, b) N) := Pq_tsk (k := N) hU (by omega) (Pq_ulk p2 hn)
  have e4 : kpr (lts n (s, b) N).1 r (lks n (ulk s n, b) N) 11 = (tsk n (ulk s n, b) N).1 11 := kpr_at hr (by omega)
  have e5 : (kpr (lts n (s, b) N).1 r (lks n (ulk s n, b) N) 11).toInt = (s 11).toInt + N := by rw [e4, e3]; dsimp only; rw [e11]
  refine ⟨G', K', _, _, ?_, ⟨⟨_, _, _, e2⟩, Pq_kpr (s := (lts n (s, b) N).1) (b := (lts n (s, b) N).2) hP hr⟩, e2.q0 hF, tm_eq hI (by omega) e5, e5, cntk_0 (fun c hc => ?_)⟩
  · rw [e1, ← lks_eq, Int64.toInt32_sub]
    rfl
  · rw [kpr_at hr (by omega)]
    show ¬ (tsk n (ulk s n, b) N).1 (21 + 7 * c + 1) = 1
    rw [tsk_md hn hc]
    exact ulk_md hc
theorem lq_holds {n : Nat} {G : M3} {K : J3} {s : M1} {b : J1} (hF : 1000 ≤ F) (p : LI n G K s b) : fL_holds F G K = some (1, G, K) := by
  obtain ⟨⟨h, sv, bv, p1⟩, p2⟩ := p
  exact w_holds (p1.q0 hF) p2
theorem LI.q0 {n : Nat} {G : M3} {K : J3} {s : M1} {b : J1} (hF : 1000 ≤ F) (p : LI n G K s b) : Q0 F n G K s b := by
  obtain ⟨⟨h, sv, bv, p1⟩, p2⟩ := p
  exact p1.q0 hF
/-- the order, stage by stage -/
theorem lq_457 {G : M3} {K : J3} {s : M1} {b : J1} {k98 : Int32 → M3 → J3 → Option Int32} {a3 : Int32} (h : Q0 F 4 G K (rots s 4) b) (hfin : fbL_law_592 F k98 xs L a3 G K = some 1) : ∀ d j m, 1 ≤ j → j + d = 4 → d < m → fbL_law_457 F k98 xs L m a3 (Int32.ofNat j) G K = some 1 := by
  obtain ⟨r1, r2⟩ := rots_prm (s := s) (n := 4) (by decide)
  intro d
  induction d with
  | zero =>
    intro j m h1 h2 hm
    obtain ⟨m, rfl⟩ := fu hm
    show fsL_law_457 F k98 xs L (fbL_law_457 F k98 xs L m) _ _ _ _ = _
    unfold fsL_law_457
    rw [if_pos ((pn_le1 (a := 4) (by decide) (by omega)).mpr (by show 4 ≤ j; omega))]
    exact hfin
  | succ d ih =>
    intro j m h1 h2 hm
    obtain ⟨m, rfl⟩ := fu hm
    have IH := ih (j + 1) m (by omega) (by omega) (by omega)
    show fsL_law_457 F k98 xs L (fbL_law_457 F k98 xs L m) _ _ _ _ = _
    unfold fsL_law_457 fbL_law_526
    rw [if_neg (fun e => by have := (pn_le1 (a := 4) (by decide) (by omega)).mp e; have : 4 ≤ j := this; omega)]
    obtain ⟨a, a1, a2, a3⟩ := r1.of_ (j - 1) (by omega)
    obtain ⟨c, c1, c2, c3⟩ := r1.of_ j (by omega)
    rw [r2 a a1] at a3
    rw [r2 c c1] at c3
    have e0 : Int32.ofNat j - (1 : Int32) = Int32.ofNat (j - 1) := pn_sub2 (b := 1) h1
    rw [e0, q_ats h (show j - 1 < 4 by omega), bdz_p, q_ats h (show j < 4 by omega), bdz_p, a2, c2, q_c3 h a1, bdz_p, q_c3 h c1, bdz_p, pn_s]
    have hah := rot_ahd (s := s) a1 c1 (by omega)
    have ea : rots s 4 (21 + 7 * a + 2) = s (21 + 7 * a + 2) := rots_at (by omega) (by omega) (by omega)
    have ec : rots s 4 (21 + 7 * c + 2) = s (21 + 7 * c + 2) := rots_at (by omega) (by omega) (by omega)
    unfold ahd at hah
    by_cases hl : rots s 4 (21 + 7 * a + 2) < rots s 4 (21 + 7 * c + 2)
    · rw [if_pos hl]; exact IH
    · rw [if_neg hl, q_c3 h a1, bdz_p, q_c3 h c1, bdz_p]
      rw [ea, ec] at hl
      rcases hah with hah | ⟨h3, h4⟩
      · exact absurd hah hl
      · rw [ea, ec, chk_t h3, chk_t (show ¬ Int32.ofNat c ≤ Int32.ofNat a from fun e => by have := (pn_le (by omega) (by omega)).mp e; omega)]
        exact IH
end L
