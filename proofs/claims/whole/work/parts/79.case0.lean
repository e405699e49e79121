theorem lg_same (x : Int64) : lg_cmp x x = 0 := by
  unfold lg_cmp
  rw [if_neg (Int64.lt_irrefl), if_pos rfl]
/-- a case of the law whose calls agree goes on -/
theorem wrap_k {o : Option (Int32 × M3 × J3)} {r : M2 → J2 → Option (Int32 × M2 × J2)} {nx : M3 → J3 → Option Int32} {k v : Int32} {G3 : M3} {K3 : J3} {M8 : M2} {J8 : J2} (ho : o = some (k, G3, K3)) (hr : r (G3 8) (K3 8) = some (v, M8, J8)) (ht : M8 0 11 = k) (hv : k = 0 → K3 9 0 0 = v.toInt64) :
    bd3 o (fun vv2 G3 K4 => bd3 (r (G3 8) (K4 8)) (fun vv14 M8 J9 => bnd (sg G3 8 M8) (fun G10 => bnd (sg K4 8 J9) (fun K11 => (if (fX5_thrown (G10 8) (K11 8)) = vv2 then ((if ¬ vv2 = 0 then nx G10 K11 else ((if (lg_cmp (K11 9 0 0) (vv14.toInt64)) = 0 then nx G10 K11 else (some 0))))) else (some 0)))))) = nx (sg G3 8 M8) (sg K3 8 J8) := by
  subst ho
  rw [bd3_s, hr, bd3_s]
  simp only [bnd_s, fX5_thrown, sg_eq]
  rw [if_pos ht]
  by_cases hk : k = 0
  · rw [if_neg (fun h => h hk), sg_ne _ _ (by decide), hv hk, lg_same, if_pos rfl]
  · rw [if_pos hk]
/-- the two sides' ends of a call -/
abbrev CGo (o : Option Int32) (nx : M3 → J3 → Option Int32) : Prop := ∃ G K, RR G K ∧ o = nx G K
theorem wi_iff {x a b : Int32} : fX4_isWithin x a b = 0 ↔ ¬ (a ≤ x ∧ x ≤ b) := by
  unfold fX4_isWithin
  have h1 := Int32.lt_iff_toInt_lt (x := x) (y := a)
  have h2 := Int32.lt_iff_toInt_lt (x := b) (y := x)
  have h3 := Int32.le_iff_toInt_le (x := a) (y := x)
  have h4 := Int32.le_iff_toInt_le (x := x) (y := b)
  by_cases c1 : x < a
  · rw [if_pos c1]
    exact ⟨fun _ h => by rw [h1] at c1; rw [h3] at h; omega, fun _ => rfl⟩
  · rw [if_neg c1]
    by_cases c2 : b < x
    · rw [if_pos c2]
      exact ⟨fun _ h => by rw [h2] at c2; rw [h4] at h; omega, fun _ => rfl⟩
    · rw [if_neg c2]
      exact ⟨fun h => absurd h (by decide), fun h => absurd ⟨by rw [h3]; rw [h1] at c1; omega, by rw [h4]; rw [h2] at c2; omega⟩ h⟩
theorem in_iff {x a b : Int32} : fX5_in x a b = 0 ↔ ¬ (a ≤ x ∧ x ≤ b) := wi_iff
theorem in_wi {x a b : Int32} : fX5_in x a b = fX4_isWithin x a b := rfl
/-- save and saves, and what they leave -/
theorem mut_save {F : Nat} {G : M3} {K : J3} (hF : 1000 ≤ F) (h : RR G K) : ∃ G1 K1 n, fX1_save F 0 G K = some (G1, K1) ∧ (∀ g, g = 0 ∨ g = 1 ∨ 7 ≤ g → G1 g = G g ∧ K1 g = K g) ∧ Iv 100000 n (G 8 1, K 8 2) ∧ Rep n (G 0) (K 0) (G 8 1) (K 8 2) ∧
    ∀ (M : M2) (J : J2) (r0 s' : M1) (b' : J1), r0 8 = G 8 0 8 → M 3 = G 8 3 → J 4 = K 8 4 → (∀ x, x < 61 → M 7 x = G 8 1 x) → (∀ x, x < 6 → J 8 x = K 8 2 x) → ∃ R B r8, fX5_saves F (RM M r0 s') (RJ J b') = some (RM (sg M 3 R) (sg r0 8 r8) s', RJ (sg J 4 B) b') ∧
      ∀ (n' : Nat) (G' : M3) (K' : J3) (r0' : M1), Iv 100000 n' (s', b') → Rep n' (G' 0) (K' 0) s' b' → (∀ g, 2 ≤ g → g < 8 → G' g = G1 g ∧ K' g = K1 g) → G' 8 = RM (sg M 3 R) r0' s' → K' 8 = RJ (sg J 4 B) b' → r0' 8 = r8 → r0' 10 = G 8 0 10 → M 9 = G 8 9 → RR G' K' := by
  obtain ⟨⟨n, a1, a2⟩, ⟨h, w, sv, bv, b1, b2, b3, b4, b5, b6, b7⟩, ⟨t, c1, c2, c3, c4⟩⟩ := h
  obtain ⟨G1, K1, d1, d2, w', d3, d4, d5, d6⟩ := pc_save hF a1 a2 b1 b2 b3 b4 b6
  refine ⟨G1, K1, n, d1, d2, a1, a2, fun M J r0 s' b' e1 e2 e3 e4 e5 => ?_⟩
  obtain ⟨R, B, f1, f2⟩ := pv_saves (F := F) (M := M) (J := J) (r0 := r0) (s' := s') (b' := b') (s := G 8 1) (b := K 8 2) hF b1 (by rw [e1, b5]) (by rw [e2, e3]; exact b7) e4 e5
  refine ⟨R, B, _, f1, fun n' G' K' r0' g1 g2 g3 g4 g5 g6 g7 g8 => ⟨⟨n', ?_, ?_⟩, ⟨hup h, w', psh (G 8 1) sv, psh (K 8 2) bv, ?_, d3, ?_, ?_, ?_, fun i hi => ?_, ?_⟩, ⟨t, c1, ?_, ?_, fun k hk => ?_⟩⟩⟩
  · rw [g4, g5, RM_1, RJ_2]; exact g1
  · rw [g4, g5, RM_1, RJ_2]; exact g2
  · unfold hup; split <;> omega
  · rw [(g3 6 (by omega) (by omega)).1]; exact d4
  · rw [(g3 6 (by omega) (by omega)).1]; exact d5
  · rw [g4, RM_0]; exact g6
  · obtain ⟨n2, k1, k2⟩ := d6 i hi
    refine ⟨n2, k1, ?_⟩
    have hlt : (w' + 4 - i) % 4 < 4 := Nat.mod_lt _ (by decide)
    rw [(g3 _ (by omega) (by omega)).1, (g3 _ (by omega) (by omega)).2]; exact k2
  · rw [g4, g5, RM_o _ _ _ (by decide) (by decide), RJ_o _ _ (by decide), sg_eq, sg_eq]; exact f2
  · rw [(g3 7 (by omega) (by omega)).1, (d2 7 (by omega)).1]; exact c2
  · rw [g4, RM_0, g7]; exact c3
  · rw [(g3 7 (by omega) (by omega)).1, (d2 7 (by omega)).1, g4, RM_o _ _ _ (by decide) (by decide), sg_ne _ _ (by decide), g8]; exact c4 k hk
/-- what holds() leaves -/
def hM (M : M2) : M2 := cpr 7 1 (fun i => i) (fun i => i) M 61
def hJ (J : J2) : J2 := cpr 8 2 (fun i => i) (fun i => i) J 6
theorem pv_hold {F : Nat} {M : M2} {J : J2} (hF : 1000 ≤ F) : fX5_holds F M J = some (RM (hM M) (M 0) (M 1), RJ (hJ J) (J 2)) := by
  rw [pv_holds hF]
  congr 2
  · show hM M = _
    have e0 : M 0 = hM M 0 := (cpr_o (by decide)).symm
    have e1 : M 1 = hM M 1 := (cpr_o (by decide)).symm
    rw [e0, e1, RM_self]
  · show hJ J = _
    have e2 : J 2 = hJ J 2 := (cpr_o (by decide)).symm
    rw [e2, RJ_self]
theorem hM_o {M : M2} {r : Nat} (h : r ≠ 7) : hM M r = M r := cpr_o h
theorem hJ_o {J : J2} {r : Nat} (h : r ≠ 8) : hJ J r = J r := cpr_o h
theorem hM_7 {M : M2} {x : Nat} (h : x < 61) : hM M 7 x = M 1 x := cpr_in (d := 7) (r := 1) (f := fun i => i) (g := fun i => i) (M := M) (k := 61) h (fun i _ h1 => h1) (fun h => by omega)
theorem hJ_8 {J : J2} {x : Nat} (h : x < 6) : hJ J 8 x = J 2 x := cpr_in (d := 8) (r := 2) (f := fun i => i) (g := fun i => i) (M := J) (k := 6) h (fun i _ h1 => h1) (fun h => by omega)
theorem pv_fails {M : M2} {J : J2} {x : Int32} : fX5_fails x M J = some (0, up2 M 0 11 x, J) := rfl
theorem pv_tells {M : M2} {J : J2} {x : Int32} : fX5_tells x M J = some (x, up2 M 0 11 0, J) := rfl
/-- a call that throws: the reference's word, and nothing else changed -/
theorem RR_fail {G : M3} {K : J3} {x : Int32} (h : RR G K) : RR (sg G 8 (up2 (G 8) 0 11 x)) (sg K 8 (K 8)) := by
  refine RR_keep h (fun g hg => ⟨sg_ne _ _ (by omega), sg_ne _ _ (by omega)⟩) ?_ ?_ ?_ ?_ ?_ ?_ ?_ <;> intros <;> simp [sg_eq, up2_ap] <;> (try (unfold up2; rw [sg_ne _ _ (by decide)]))
