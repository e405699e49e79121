/-- a call that changes the state: the class saves and changes its state's module; the reference saves what it held -/
theorem mut_end {F : Nat} {G : M3} {K : J3} (hF : 1000 ≤ F) (h : RR G K) : ∃ G1 K1, fX1_save F 0 G K = some (G1, K1) ∧ G1 0 = G 0 ∧ K1 0 = K 0 ∧ G1 8 = G 8 ∧ K1 8 = K 8 ∧ G1 7 = G 7 ∧ K1 7 = K 7 ∧
    ∀ (n' : Nat) (M' : M2) (J' : J2) (M : M2) (r0 s' : M1) (b' : J1), Iv 100000 n' (s', b') → Rep n' M' J' s' b' → r0 8 = G 8 0 8 → r0 10 = G 8 0 10 → (∀ r, r ≠ 0 → r ≠ 1 → M r = hM (G 8) r) → ∃ R B r8, fX5_saves F (RM M r0 s') (RJ (hJ (K 8)) b') = some (RM (sg M 3 R) (sg r0 8 r8) s', RJ (sg (hJ (K 8)) 4 B) b') ∧
      ∀ (G' : M3) (K' : J3) (r0' : M1), (∀ g, g < 8 → G' g = if g = 0 then M' else G1 g) → (∀ g, g < 8 → K' g = if g = 0 then J' else K1 g) → r0' 8 = r8 → r0' 10 = G 8 0 10 → G' 8 = RM (sg M 3 R) r0' s' → K' 8 = RJ (sg (hJ (K 8)) 4 B) b' → RR G' K' := by
  obtain ⟨G1, K1, n, d1, d2, -, -, d3⟩ := mut_save hF h
  refine ⟨G1, K1, d1, (d2 0 (by omega)).1, (d2 0 (by omega)).2, (d2 8 (by omega)).1, (d2 8 (by omega)).2, (d2 7 (by omega)).1, (d2 7 (by omega)).2, fun n' M' J' M r0 s' b' a1 a2 a3 a4 a5 => ?_⟩
  obtain ⟨R, B, r8, e1, e2⟩ := d3 M (hJ (K 8)) r0 s' b' a3 (by rw [a5 3 (by decide) (by decide)]; exact hM_o (by decide)) (hJ_o (by decide)) (fun x hx => by rw [a5 7 (by decide) (by decide)]; exact hM_7 hx) (fun x hx => hJ_8 hx)
  refine ⟨R, B, r8, e1, fun G' K' r0' g1 g2 g3 g4 g5 g6 => e2 n' G' K' r0' a1 ?_ (fun g h1 h2 => ?_) g5 g6 g3 g4 (by rw [a5 9 (by decide) (by decide)]; exact hM_o (by decide))⟩
  · rw [g1 0 (by omega), g2 0 (by omega), if_pos rfl, if_pos rfl]; exact a2
  · rw [g1 g h2, g2 g h2, if_neg (by omega), if_neg (by omega)]; exact ⟨rfl, rfl⟩
/-- the reference's end of a call that changes the state, its answer v -/
theorem Agr.mut {o : Option (Int32 × M3 × J3)} {r : M2 → J2 → Option (Int32 × M2 × J2)} {G G1 : M3} {K K1 : J3} {v : Int32} {M' M8 : M2} {J' J8 : J2} (e1 : G1 8 = G 8) (e2 : K1 8 = K 8) (ho : o = some (0, sg G1 0 M', up3 (sg K1 0 J') 9 0 0 v.toInt64)) (hr : r (G 8) (K 8) = some (v, M8, J8)) (ht : M8 0 11 = 0) (hR : RR (sg (sg G1 0 M') 8 M8) (sg (up3 (sg K1 0 J') 9 0 0 v.toInt64) 8 J8)) : Agr o r :=
  ⟨0, _, _, v, M8, J8, ho, by rw [sg_ne _ _ (by decide), up3_o (by decide), sg_ne _ _ (by decide), e1, e2]; exact hr, ht, fun _ => by rw [up3_e]; simp [up2_ap], hR⟩
theorem mut_g {G1 : M3} {M' M8 : M2} (g : Nat) (h : g < 8) : sg (sg G1 0 M') 8 M8 g = if g = 0 then M' else G1 g := by
  rw [sg_ne _ _ (by omega), sg_ap]
theorem mut_k {K1 : J3} {J' J8 : J2} {x : Int64} (g : Nat) (h : g < 8) : sg (up3 (sg K1 0 J') 9 0 0 x) 8 J8 g = if g = 0 then J' else K1 g := by
  rw [sg_ne _ _ (by omega), up3_o (by omega), sg_ap]
theorem s_cases {x : Int32} {a b : Nat} (hb : b < 2147483648) (h : Int32.ofNat a ≤ x ∧ x ≤ Int32.ofNat b) (ha : a < 2147483648) : ∃ k : Nat, a ≤ k ∧ k ≤ b ∧ x = Int32.ofNat k := by
  obtain ⟨h1, h2⟩ := h
  rw [Int32.le_iff_toInt_le, pn_ti ha] at h1
  rw [Int32.le_iff_toInt_le, pn_ti hb] at h2
  exact ⟨x.toInt.toNat, by omega, by omega, pn_of (by omega)⟩
theorem lm_eq {k : Nat} (h : k < 8) : fX5_least (Int32.ofNat k) = rowLeast k ∧ fX5_most (Int32.ofNat k) = rowMost k := by
  match k, h with
  | 0, _ => exact ⟨by decide, by decide⟩
  | 1, _ => exact ⟨by decide, by decide⟩
  | 2, _ => exact ⟨by decide, by decide⟩
  | 3, _ => exact ⟨by decide, by decide⟩
  | 4, _ => exact ⟨by decide, by decide⟩
  | 5, _ => exact ⟨by decide, by decide⟩
  | 6, _ => exact ⟨by decide, by decide⟩
  | 7, _ => exact ⟨by decide, by decide⟩
  | k + 8, h => omega
theorem lm_in {k : Nat} {x : Int32} (h : k < 8) (hx : rowLeast k ≤ x ∧ x ≤ rowMost k) : (k = 2 → 2000 ≤ x.toInt ∧ x.toInt ≤ 16000) ∧ (k = 4 → 0 ≤ x.toInt ∧ x.toInt ≤ 30) ∧ (k = 5 → 0 ≤ x.toInt ∧ x.toInt ≤ 50) ∧ (k = 6 → 0 ≤ x.toInt ∧ x.toInt ≤ 3000) := by
  rw [Int32.le_iff_toInt_le, Int32.le_iff_toInt_le] at hx
  refine ⟨fun e => ?_, fun e => ?_, fun e => ?_, fun e => ?_⟩ <;> subst e <;> exact hx
theorem c_set {F : Nat} {G : M3} {K : J3} {x y : Int32} (hF : 1000 ≤ F) (h : RR G K) : Agr (fL_set F x y G K) (fX5_set F x y) := by
  obtain ⟨n, hI, hR⟩ := h.1
  by_cases h1 : 0 ≤ x ∧ x ≤ 7
  · obtain ⟨k, -, hk, rfl⟩ := s_cases (a := 0) (b := 7) (by decide) h1 (by decide)
    have w1 : ¬ fX4_isWithin (Int32.ofNat k) 0 7 = 0 := fun e => (wi_iff.mp e) h1
    obtain ⟨l1, l2⟩ := lm_eq (k := k) (by omega)
    by_cases h2 : rowLeast k ≤ y ∧ y ≤ rowMost k
    · have w2 : ¬ fX4_isWithin y (rowLeast k) (rowMost k) = 0 := fun e => (wi_iff.mp e) h2
      obtain ⟨G1, K1, d1, d2, d3, d4, d5, -, -, d6⟩ := mut_end hF h
      obtain ⟨c2, c4, c5, c6⟩ := lm_in (k := k) (by omega) h2
      have hI1 : Iv 100000 n (sg (G 8 1) (2 + k) y, K 8 2) := Inv_sc hI (by omega) (by omega) (fun e => by omega) (fun e => c2 (by omega)) (fun e => c4 (by omega)) (fun e => c5 (by omega)) (fun e => c6 (by omega))
      have hR1 := Rep_set (k0 := k) y hR hI.n5 (by omega)
      obtain ⟨R, B, r8, d7, d8⟩ := d6 n _ _ (hM (G 8)) (G 8 0) _ _ hI1 hR1 rfl rfl (fun r _ _ => rfl)
      refine Agr.mut (M' := up2 (G1 0) 1 k y) (J' := K1 0) (v := G 8 1 (2 + k)) (M8 := RM (sg (hM (G 8)) 3 R) (sg (sg (G 8 0) 8 r8) 11 0) (sg (G 8 1) (2 + k) y)) (J8 := RJ (sg (hJ (K 8)) 4 B) (K 8 2)) d4 d5 ?_ ?_ ?_ ?_
      · unfold fL_set fX4_set
        rw [if_pos w1]
        simp (disch := omega) only [chk_b, pn_in]
        rw [if_pos w2, d1, bd2_s]
        simp (disch := omega) only [chk_b, pn_in, bnd_s, bd4_s, if_true]
        rw [d2, hR.st k (by omega), sg_self]
        unfold up3
        rw [d2]
      · unfold fX5_set
        rw [if_neg (show ¬ fX5_in (Int32.ofNat k) 0 7 = 0 from w1), l1, l2, if_pos (show ¬ fX5_in y (rowLeast k) (rowMost k) = 0 from w2), pv_hold hF, bd2_s]
        simp (disch := omega) only [pn_add1, chk_b, pn_in, bnd_s, RM_u1]
        rw [RM_1, d7, bd2_s, pv_tells, bd3_s, RM_u0]
      · rw [RM_0, sg_eq]
      · refine d8 _ _ (sg (sg (G 8 0) 8 r8) 11 0) (fun g hg => ?_) (fun g hg => ?_) ?_ ?_ (sg_eq _ _ _) (sg_eq _ _ _)
        · rw [mut_g g hg, d2]
        · rw [mut_k g hg, d3]
        · rw [sg_ne _ _ (by decide), sg_eq]
        · rw [sg_ne _ _ (by decide), sg_ne _ _ (by decide)]
    · have w2 : fX4_isWithin y (rowLeast k) (rowMost k) = 0 := wi_iff.mpr h2
      refine Agr.throw (k := 1) (v := 0) h (by decide) ?_ ?_
      · unfold fL_set fX4_set
        rw [if_pos w1]
        simp (disch := omega) only [chk_b, pn_in]
        rw [if_neg (fun e => e w2), bd4_s]
        rfl
      · unfold fX5_set fbX5_set_25
        rw [if_neg (show ¬ fX5_in (Int32.ofNat k) 0 7 = 0 from w1), l1, l2, if_neg (fun e => e w2), pv_fails, bd3_s]
  · have w1 : fX4_isWithin x 0 7 = 0 := wi_iff.mpr h1
    refine Agr.throw (k := 1) (v := 0) h (by decide) ?_ ?_
    · unfold fL_set fX4_set
      rw [if_neg (fun e => e w1), bd4_s]
      rfl
    · unfold fX5_set fbX5_set_25
      rw [if_pos (show fX5_in x 0 7 = 0 from w1), pv_fails, bd3_s]
