/-- the two sides' answers to one call, and what they leave -/
def Agr (o : Option (Int32 × M3 × J3)) (r : M2 → J2 → Option (Int32 × M2 × J2)) : Prop := ∃ k G3 K3 v M8 J8, o = some (k, G3, K3) ∧ r (G3 8) (K3 8) = some (v, M8, J8) ∧ M8 0 11 = k ∧ (k = 0 → K3 9 0 0 = v.toInt64) ∧ RR (sg G3 8 M8) (sg K3 8 J8)
theorem Agr.go {o : Option (Int32 × M3 × J3)} {r : M2 → J2 → Option (Int32 × M2 × J2)} {nx : M3 → J3 → Option Int32} (h : Agr o r) : CGo (bd3 o (fun vv2 G3 K4 => bd3 (r (G3 8) (K4 8)) (fun vv14 M8 J9 => bnd (sg G3 8 M8) (fun G10 => bnd (sg K4 8 J9) (fun K11 => (if (fX5_thrown (G10 8) (K11 8)) = vv2 then ((if ¬ vv2 = 0 then nx G10 K11 else ((if (lg_cmp (K11 9 0 0) (vv14.toInt64)) = 0 then nx G10 K11 else (some 0))))) else (some 0))))))) nx := by
  obtain ⟨k, G3, K3, v, M8, J8, h1, h2, h3, h4, h5⟩ := h
  exact ⟨_, _, h5, wrap_k h1 h2 h3 h4⟩
/-- both throw -/
theorem Agr.throw {o : Option (Int32 × M3 × J3)} {r : M2 → J2 → Option (Int32 × M2 × J2)} {G : M3} {K : J3} {k v : Int32} (h : RR G K) (hk : ¬ k = 0) (ho : o = some (k, G, K)) (hr : r (G 8) (K 8) = some (v, up2 (G 8) 0 11 k, K 8)) : Agr o r :=
  ⟨k, G, K, v, _, _, ho, hr, by simp [up2_ap], fun h => absurd h hk, RR_fail h⟩
theorem up3_o {α : Type} {G : Nat → Nat → Nat → α} {g g' r k : Nat} {v : α} (h : g' ≠ g) : up3 G g r k v g' = G g' := by unfold up3; exact sg_ne _ _ h
theorem up3_e {α : Type} {G : Nat → Nat → Nat → α} {g r k : Nat} {v : α} : up3 G g r k v g = up2 (G g) r k v := by unfold up3; exact sg_eq _ _ _
/-- one scalar of the rows set -/
theorem Inv_sc {U A T : Int} {n i : Nat} {s : M1} {b : J1} {x : Int32} (h : Inv U A T n s b) (hi : i < 10) (h1 : i ≠ 1) (c0 : i = 0 → 100 ≤ x.toInt ∧ x.toInt ≤ 5000) (c4 : i = 4 → 2000 ≤ x.toInt ∧ x.toInt ≤ 16000) (c6 : i = 6 → 0 ≤ x.toInt ∧ x.toInt ≤ 30) (c7 : i = 7 → 0 ≤ x.toInt ∧ x.toInt ≤ 50) (c8 : i = 8 → 0 ≤ x.toInt ∧ x.toInt ≤ 3000) : Inv U A T n (sg s i x) b := by
  have hn := h.n5
  refine ⟨hn, ?_, ?_, ?_, ?_, ?_, ?_, ?_, ?_, ?_, fun d hd => (h.cmp d hd).congr (fun f hf _ _ _ => sg_ne _ _ (by omega)), h.prm.congr (fun j hj => sg_ne _ _ (by omega)), ?_⟩
  · rw [sg_ne _ _ (by omega)]; exact h.cnt
  · rw [sg_ap]; split
    · rename_i e; exact c0 e.symm
    · exact h.vol
  · rw [sg_ne _ _ (by omega)]; exact h.air
  · rw [sg_ap]; split
    · rename_i e; exact c4 e.symm
    · exact h.rel
  · rw [sg_ap]; split
    · rename_i e; exact c6 e.symm
    · exact h.rst
  · rw [sg_ap]; split
    · rename_i e; exact c7 e.symm
    · exact h.lek
  · rw [sg_ap]; split
    · rename_i e; exact c8 e.symm
    · exact h.dem
  · rw [sg_ne _ _ (by omega)]; exact h.tim
  · rw [sg_ne _ _ (by omega)]; exact h.unm
  · rw [sg_ne _ _ (by omega)]; exact h.res
theorem c_setVolume {F : Nat} {G : M3} {K : J3} {x : Int32} (hF : 1000 ≤ F) (h : RR G K) : Agr (fL_setVolume F x G K) (fX5_setVolume F x) := by
  obtain ⟨n, hI, hR⟩ := h.1
  have o1 := hR.o.2.1
  have s2 : G 0 1 2 = G 8 1 4 := hR.st 2 (by omega)
  by_cases h1 : 100 ≤ x ∧ x ≤ 5000
  · have hx : 100 ≤ x.toInt ∧ x.toInt ≤ 5000 := ⟨Int32.le_iff_toInt_le.mp h1.1, Int32.le_iff_toInt_le.mp h1.2⟩
    have hx0 : 0 < x := by rw [Int32.lt_iff_toInt_lt]; show (0 : Int) < _; omega
    have hxn : ¬ x = 0 := fun e => by subst e; exact absurd hx0 (by decide)
    have w1 : ¬ fX4_isWithin x 100 5000 = 0 := fun e => (wi_iff.mp e) h1
    by_cases h2 : G 8 1 1 * 1000 / x ≤ G 8 1 4
    · obtain ⟨G1, K1, n', d1, d2, -, -, d3⟩ := mut_save hF h
      obtain ⟨R, B, r8, d4, d5⟩ := d3 (hM (G 8)) (hJ (K 8)) (G 8 0) (sg (G 8 1) 0 x) (K 8 2) rfl (hM_o (by decide)) (hJ_o (by decide)) (fun x hx => hM_7 hx) (fun x hx => hJ_8 hx)
      have hR1 : Rep n (up2 (G1 0) 0 0 x) (K1 0) (sg (G 8 1) 0 x) (K 8 2) := by
        rw [(d2 0 (by omega)).1, (d2 0 (by omega)).2]; exact Rep_o0 x hR hI.n5
      have hI1 : Iv 100000 n (sg (G 8 1) 0 x, K 8 2) := Inv_sc hI (by omega) (by omega) (fun _ => hx) (fun e => by omega) (fun e => by omega) (fun e => by omega) (fun e => by omega)
      refine ⟨0, up3 G1 0 0 0 x, up3 K1 9 0 0 (prs (sg (G 8 1) 0 x)).toInt64, prs (sg (G 8 1) 0 x), RM (sg (hM (G 8)) 3 R) (sg (sg (G 8 0) 8 r8) 11 0) (sg (G 8 1) 0 x), RJ (sg (hJ (K 8)) 4 B) (K 8 2), ?_, ?_, ?_, ?_, ?_⟩
      · unfold fL_setVolume fX4_setVolume
        rw [if_pos w1, o1, pc_pof hx0, Option.bind_some, s2, if_pos h2, d1, bd2_s]
        simp only [bnd_s]
        rw [up3_e, pc_press (Inv_v0 hI1).1 hR1, Option.bind_some, bd4_s]
        rfl
      · rw [up3_o (by decide), up3_o (by decide), (d2 8 (by omega)).1, (d2 8 (by omega)).2]
        unfold fX5_setVolume
        rw [if_pos (show ¬ fX5_in x 100 5000 = 0 from w1), chk_t hxn, if_pos h2, pv_hold hF, bd2_s, RM_u1, bnd_s, d4, bd2_s, pv_press (Inv_v0 hI1).2, Option.bind_some, pv_tells, bd3_s, RM_u0]
        rfl
      · rw [RM_0, sg_eq]
      · intro _; rw [up3_e]; simp [up2_ap]
      · refine d5 n _ _ _ hI1 ?_ ?_ (sg_eq _ _ _) (sg_eq _ _ _) ?_ ?_ (hM_o (by decide))
        · rw [sg_ne _ _ (by decide), sg_ne _ _ (by decide), up3_e, up3_o (by decide)]; exact hR1
        · intro g g1 g2
          rw [sg_ne _ _ (by omega), sg_ne _ _ (by omega), up3_o (by omega), up3_o (by omega)]
          exact ⟨rfl, rfl⟩
        · rw [sg_ne _ _ (by decide), sg_eq]
        · rw [sg_ne _ _ (by decide), sg_ne _ _ (by decide)]
    · refine Agr.throw (k := 2) (v := 0) h (by decide) ?_ ?_
      · unfold fL_setVolume fX4_setVolume
        rw [if_pos w1, o1, pc_pof hx0, Option.bind_some, s2, if_neg h2, bd4_s]
        rfl
      · unfold fX5_setVolume
        rw [if_pos (show ¬ fX5_in x 100 5000 = 0 from w1), chk_t hxn, if_neg h2, pv_fails, bd3_s]
  · have w1 : fX4_isWithin x 100 5000 = 0 := wi_iff.mpr h1
    refine Agr.throw (k := 1) (v := 0) h (by decide) ?_ ?_
    · unfold fL_setVolume fX4_setVolume
      rw [if_neg (fun e => e w1), bd4_s]
      rfl
    · unfold fX5_setVolume
      rw [if_neg (fun e => e w1), pv_fails, bd3_s]
