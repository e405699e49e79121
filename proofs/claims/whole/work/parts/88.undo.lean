/-- undo -/
theorem c_undo {F : Nat} {G : M3} {K : J3} (hF : 1000 ≤ F) (h : RR G K) : Agr (fL_undo F G K) (fX5_undo F) := by
  obtain ⟨⟨n, a1, a2⟩, ⟨h0, w, sv, bv, b1, b2, b3, b4, b5, b6, b7⟩, ⟨t, c1, c2, c3, c4⟩⟩ := id h
  by_cases hz : h0 = 0
  · subst hz
    refine Agr.throw (k := 1) (v := 0) h (by decide) ?_ ?_
    · unfold fL_undo fX4_undo
      rw [b3, if_neg (fun e => e (by decide)), bd4_s]
      rfl
    · unfold fX5_undo
      rw [b5, if_neg (fun e => e (by decide)), pv_fails, bd3_s]
  · obtain ⟨p, rfl⟩ : ∃ p, h0 = p + 1 := ⟨h0 - 1, by omega⟩
    have hnz : ¬ Int32.ofNat (p + 1) = 0 := fun e => by have := (pn_eq2 (b := 0) (by omega) (by decide)).mp e; have : p + 1 = 0 := this; omega
    obtain ⟨G1, K1, g1, g2, ⟨n', g3, g4⟩, w', g5, g6, g7, g8⟩ := pc_rest hF b1 b2 b3 b4 b6
    have e8 : (up2 (G 8) 0 8 (Int32.ofNat p)) 0 8 = Int32.ofNat p := by simp [up2_ap]
    have e1 := pl_undo25 (F := F) (M := up2 (G 8) 0 8 (Int32.ofNat p)) (J := K 8) (p := p) (by omega) e8 61 0 F (by omega) (by omega)
    have e2 := pl_undo59 (F := F) (M := cpr 1 3 (fun i => i) (fun i => 61 * p + i) (up2 (G 8) 0 8 (Int32.ofNat p)) 61) (J := K 8) (p := p) (by omega) (by rw [cpr_o (by decide)]; exact e8) 6 0 F (by omega) (by omega)
    have hup : ∀ r, r ≠ 0 → up2 (G 8) 0 8 (Int32.ofNat p) r = G 8 r := fun r hr => by unfold up2; exact sg_ne _ _ hr
    have f1 : ∀ x, x < 61 → cpr 1 3 (fun i => i) (fun i => 61 * p + i) (up2 (G 8) 0 8 (Int32.ofNat p)) 61 1 x = sv 0 x := by
      intro x hx
      have q := cpr_in (d := 1) (r := 3) (f := fun i => i) (g := fun i => 61 * p + i) (M := up2 (G 8) 0 8 (Int32.ofNat p)) (k := 61) hx (fun i _ h1 => h1) (fun h => by omega)
      refine Eq.trans q ?_
      rw [hup 3 (by decide), ← (b7 0 (by omega)).1 x hx, show p + 1 - 1 - 0 = p by omega]
    have f2 : ∀ x, x < 6 → cpr 2 4 (fun i => i) (fun i => 6 * p + i) (K 8) 6 2 x = bv 0 x := by
      intro x hx
      have q := cpr_in (d := 2) (r := 4) (f := fun i => i) (g := fun i => 6 * p + i) (M := K 8) (k := 6) hx (fun i _ h1 => h1) (fun h => by omega)
      refine Eq.trans q ?_
      rw [← (b7 0 (by omega)).2 x hx, show p + 1 - 1 - 0 = p by omega]
    refine ⟨0, G1, up3 K1 9 0 0 (Int32.ofNat p).toInt64, Int32.ofNat p, up2 (cpr 1 3 (fun i => i) (fun i => 61 * p + i) (up2 (G 8) 0 8 (Int32.ofNat p)) 61) 0 11 0, cpr 2 4 (fun i => i) (fun i => 6 * p + i) (K 8) 6, ?_, ?_, ?_, ?_, ?_⟩
    · unfold fL_undo fX4_undo
      rw [b3, if_pos hnz, g1, bd2_s, bd4_s, if_pos rfl, g6]
      rfl
    · rw [(g2 8 (by omega)).1, up3_o (by decide), (g2 8 (by omega)).2]
      unfold fX5_undo
      rw [b5, if_pos hnz, pn_sub2 (by show 1 ≤ p + 1; omega), bnd_s]
      refine Eq.trans e1 (Eq.trans e2 ?_)
      rw [pv_tells, bd3_s, cpr_o (by decide), e8]
    · simp [up2_ap]
    · intro _; rw [up3_e]; simp [up2_ap]
    · have q8 : sg G1 8 (up2 (cpr 1 3 (fun i => i) (fun i => 61 * p + i) (up2 (G 8) 0 8 (Int32.ofNat p)) 61) 0 11 0) 8 = up2 (cpr 1 3 (fun i => i) (fun i => 61 * p + i) (up2 (G 8) 0 8 (Int32.ofNat p)) 61) 0 11 0 := sg_eq _ _ _
      have qo : ∀ g, g < 8 → sg G1 8 (up2 (cpr 1 3 (fun i => i) (fun i => 61 * p + i) (up2 (G 8) 0 8 (Int32.ofNat p)) 61) 0 11 0) g = G1 g := fun g hg => sg_ne _ _ (by omega)
      have r8 : sg (up3 K1 9 0 0 (Int32.ofNat p).toInt64) 8 (cpr 2 4 (fun i => i) (fun i => 6 * p + i) (K 8) 6) 8 = cpr 2 4 (fun i => i) (fun i => 6 * p + i) (K 8) 6 := sg_eq _ _ _
      have ro : ∀ g, g < 8 → sg (up3 K1 9 0 0 (Int32.ofNat p).toInt64) 8 (cpr 2 4 (fun i => i) (fun i => 6 * p + i) (K 8) 6) g = K1 g := fun g hg => by rw [sg_ne _ _ (by omega), up3_o (by omega)]
      have m1 : ∀ r, r ≠ 0 → up2 (cpr 1 3 (fun i => i) (fun i => 61 * p + i) (up2 (G 8) 0 8 (Int32.ofNat p)) 61) 0 11 0 r = cpr 1 3 (fun i => i) (fun i => 61 * p + i) (up2 (G 8) 0 8 (Int32.ofNat p)) 61 r := fun r hr => by unfold up2; exact sg_ne _ _ hr
      refine ⟨⟨n', ?_, ?_⟩, ⟨p, w', fun i => sv (i + 1), fun i => bv (i + 1), by omega, g5, ?_, ?_, ?_, ?_, ?_⟩, ⟨t, c1, ?_, ?_, fun k hk => ?_⟩⟩
      · rw [q8, r8, m1 1 (by decide)]; exact Inv_cg g3 f1 f2
      · rw [q8, r8, m1 1 (by decide), qo 0 (by decide), ro 0 (by decide)]; exact Rep_cg g4 g3.n5 f1 f2
      · rw [qo 6 (by decide)]; exact g6
      · rw [qo 6 (by decide)]; exact g7
      · rw [q8, up2_ap, if_pos rfl, if_neg (by decide), cpr_o (by decide)]; exact e8
      · intro i hi
        obtain ⟨n2, k1, k2⟩ := g8 i hi
        have : (w' + 4 - i) % 4 < 4 := Nat.mod_lt _ (by decide)
        exact ⟨n2, k1, by rw [qo _ (by omega), ro _ (by omega)]; exact k2⟩
      · rw [q8, r8, m1 3 (by decide), cpr_o (by decide), cpr_o (by decide), hup 3 (by decide)]
        intro i hi
        have q := b7 (i + 1) (by omega)
        rw [show p + 1 - 1 - (i + 1) = p - 1 - i by omega] at q
        exact q
      · rw [qo 7 (by decide), (g2 7 (by omega)).1]; exact c2
      · rw [q8, up2_ap, if_pos rfl, if_neg (by decide), cpr_o (by decide), up2_ap, if_pos rfl, if_neg (by decide)]; exact c3
      · rw [qo 7 (by decide), (g2 7 (by omega)).1, q8, m1 9 (by decide), cpr_o (by decide), hup 9 (by decide)]; exact c4 k hk
/-- the text alone changed -/
theorem RR_text {G G' : M3} {K K' : J3} (h : RR G K) (hg : ∀ g, g = 0 ∨ (2 ≤ g ∧ g < 7) → G' g = G g ∧ K' g = K g) (h1 : G' 8 1 = G 8 1) (h2 : K' 8 = K 8) (h3 : G' 8 3 = G 8 3) (h8 : G' 8 0 8 = G 8 0 8) (ht : ∃ t : Nat, t ≤ 100 ∧ G' 7 0 0 = Int32.ofNat t ∧ G' 8 0 10 = Int32.ofNat t ∧ ∀ k, k < t → G' 7 1 k = G' 8 9 k ∧ 0 ≤ (G' 8 9 k).toInt ∧ (G' 8 9 k).toInt ≤ 127) : RR G' K' := by
  obtain ⟨⟨n, a1, a2⟩, ⟨h, w, sv, bv, b1, b2, b3, b4, b5, b6, b7⟩, -⟩ := h
  refine ⟨⟨n, ?_, ?_⟩, ⟨h, w, sv, bv, b1, b2, ?_, ?_, ?_, fun i hi => ?_, ?_⟩, ht⟩
  · rw [h1, h2]; exact a1
  · rw [h1, h2, (hg 0 (by omega)).1, (hg 0 (by omega)).2]; exact a2
  · rw [(hg 6 (by omega)).1]; exact b3
  · rw [(hg 6 (by omega)).1]; exact b4
  · rw [h8]; exact b5
  · obtain ⟨n2, d1, d2⟩ := b6 i hi
    have : (w + 4 - i) % 4 < 4 := Nat.mod_lt _ (by decide)
    exact ⟨n2, d1, by rw [(hg _ (by omega)).1, (hg _ (by omega)).2]; exact d2⟩
  · rw [h3, h2]; exact b7
theorem c_append {G : M3} {K : J3} {x : Int32} (h : RR G K) : Agr (fL_append x G K) (fX5_append x) := by
  obtain ⟨-, -, ⟨t, c1, c2, c3, c4⟩⟩ := id h
  by_cases h1 : 0 ≤ x ∧ x ≤ 127
  · have hx : 0 ≤ x.toInt ∧ x.toInt ≤ 127 := ⟨Int32.le_iff_toInt_le.mp h1.1, Int32.le_iff_toInt_le.mp h1.2⟩
    have w1 : ¬ fX4_isWithin x 0 127 = 0 := fun e => (wi_iff.mp e) h1
    by_cases h2 : t < 100
    · refine ⟨0, sg G 7 (up2 (up2 (G 7) 1 t x) 0 0 (Int32.ofNat (t + 1))), up3 K 9 0 0 (Int32.ofNat (t + 1)).toInt64, Int32.ofNat (t + 1), up2 (up2 (up2 (G 8) 9 t x) 0 10 (Int32.ofNat (t + 1))) 0 11 0, K 8, ?_, ?_, ?_, ?_, ?_⟩
      · unfold fL_append fX4_append fX2_putByte
        rw [if_pos w1, c2, if_pos ((pn_lt2 (b := 100) (by omega) (by decide)).mpr h2), if_neg (fun e => by have := (pn_le1 (a := 100) (by decide) (by omega)).mp e; have : 100 ≤ t := this; omega)]
        simp (disch := omega) only [chk_b, pn_in, bnd_s]
        have e : up2 (G 7) 1 t x 0 0 = Int32.ofNat t := by rw [up2_ap, if_neg (by decide)]; exact c2
        rw [e, pn_s, bd3_s, bd4_s, if_pos rfl, sg_self]
        simp [up2_ap, bnd_s]
      · rw [sg_ne _ _ (by decide), up3_o (by decide)]
        unfold fX5_append
        rw [if_pos (show ¬ fX5_in x 0 127 = 0 from w1), c3, if_pos (fun e => by have := (pn_eq2 (b := 100) (by omega) (by decide)).mp e; have : t = 100 := this; omega)]
        simp (disch := omega) only [chk_b, pn_in, bnd_s]
        have e : up2 (G 8) 9 t x 0 10 = Int32.ofNat t := by rw [up2_ap, if_neg (by decide)]; exact c3
        rw [e, pn_s, pv_tells, bd3_s]
        simp [up2_ap]
      · simp [up2_ap]
      · intro _; rw [up3_e]; simp [up2_ap]
      · have q8 : sg (sg G 7 (up2 (up2 (G 7) 1 t x) 0 0 (Int32.ofNat (t + 1)))) 8 (up2 (up2 (up2 (G 8) 9 t x) 0 10 (Int32.ofNat (t + 1))) 0 11 0) 8 = up2 (up2 (up2 (G 8) 9 t x) 0 10 (Int32.ofNat (t + 1))) 0 11 0 := sg_eq _ _ _
        have q7 : sg (sg G 7 (up2 (up2 (G 7) 1 t x) 0 0 (Int32.ofNat (t + 1)))) 8 (up2 (up2 (up2 (G 8) 9 t x) 0 10 (Int32.ofNat (t + 1))) 0 11 0) 7 = up2 (up2 (G 7) 1 t x) 0 0 (Int32.ofNat (t + 1)) := by rw [sg_ne _ _ (by decide), sg_eq]
        refine RR_text h (fun g hg => ⟨?_, ?_⟩) ?_ ?_ ?_ ?_ ⟨t + 1, by omega, ?_, ?_, fun k hk => ?_⟩
        · rw [sg_ne _ _ (by omega), sg_ne _ _ (by omega)]
        · rw [sg_ne _ _ (by omega), up3_o (by omega)]
        · rw [q8]; unfold up2; rw [sg_ne _ _ (by decide), sg_ne _ _ (by decide), sg_ne _ _ (by decide)]
        · rw [sg_eq]
        · rw [q8]; unfold up2; rw [sg_ne _ _ (by decide), sg_ne _ _ (by decide), sg_ne _ _ (by decide)]
        · rw [q8]; simp [up2_ap]
        · rw [q7]; simp [up2_ap]
        · rw [q8]; simp [up2_ap]
        · rw [q7, q8]
          simp only [up2_ap]
          simp
          by_cases e : k = t
          · subst e; simp; exact hx
          · simp [e]; exact c4 k (by omega)
    · obtain rfl : t = 100 := by omega
      refine Agr.throw (k := 2) (v := 0) h (by decide) ?_ ?_
      · unfold fL_append fX4_append
        rw [if_pos w1, c2, if_neg (by decide), bd4_s]
        rfl
      · unfold fX5_append
        rw [if_pos (show ¬ fX5_in x 0 127 = 0 from w1), c3, if_neg (fun e => e (by decide)), pv_fails, bd3_s]
  · have w1 : fX4_isWithin x 0 127 = 0 := wi_iff.mpr h1
    refine Agr.throw (k := 1) (v := 0) h (by decide) ?_ ?_
    · unfold fL_append fX4_append
      rw [if_neg (fun e => e w1), bd4_s]
      rfl
    · unfold fX5_append
      rw [if_neg (fun e => e w1), pv_fails, bd3_s]
theorem c_clt {G : M3} {K : J3} (h : RR G K) : Agd (fX4_clearText G K) fX5_clearText := by
  obtain ⟨-, -, ⟨t, c1, c2, c3, c4⟩⟩ := id h
  refine ⟨Int32.ofNat t, up3 G 7 0 0 0, K, up2 (up2 (G 8) 0 10 0) 0 11 0, K 8, ?_, ?_, ?_⟩
  · unfold fX4_clearText
    rw [c2]; rfl
  · rw [up3_o (by decide)]
    unfold fX5_clearText
    rw [bnd_s, pv_tells, bd3_s, c3]
  · have q8 : sg (up3 G 7 0 0 0) 8 (up2 (up2 (G 8) 0 10 0) 0 11 0) 8 = up2 (up2 (G 8) 0 10 0) 0 11 0 := sg_eq _ _ _
    refine RR_text h (fun g hg => ⟨?_, ?_⟩) ?_ ?_ ?_ ?_ ⟨0, by omega, ?_, ?_, fun k hk => ?_⟩
    · rw [sg_ne _ _ (by omega), up3_o (by omega)]
    · rw [sg_ne _ _ (by omega)]
    · rw [q8]; unfold up2; rw [sg_ne _ _ (by decide), sg_ne _ _ (by decide)]
    · rw [sg_eq]
    · rw [q8]; unfold up2; rw [sg_ne _ _ (by decide), sg_ne _ _ (by decide)]
    · rw [q8]; simp [up2_ap]
    · rw [sg_ne _ _ (by decide), up3_e]; simp [up2_ap]
    · rw [q8]; simp [up2_ap]
    · omega
