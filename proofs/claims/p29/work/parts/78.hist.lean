/-- the saved states of the class: h of them, the newest at w -/
def HS (G : M3) (K : J3) (h w : Nat) (sv : Nat → M1) (bv : Nat → J1) : Prop := ∀ i, i < h → ∃ n, Iv 100000 n (sv i, bv i) ∧ Rep n (G (2 + (w + 4 - i) % 4)) (K (2 + (w + 4 - i) % 4)) (sv i) (bv i)
theorem pc_sat {G : M3} {K : J3} {w : Nat} (hw : w < 4) : fX1_savedAt G K (Int32.ofNat w) = some (some (2 + w)) := by
  unfold fX1_savedAt
  rw [if_neg (fun h => by rw [show (0 : Int32) = Int32.ofNat 0 from rfl, pn_lt (by omega) (by omega)] at h; omega), if_neg (fun h => by have h2 := (pn_le1 (by decide) (by omega)).mp h; have : 4 ≤ w := h2; omega), chk_b hw (by omega), pn_in (by omega)]
theorem pc_sav21 {F : Nat} {G : M3} {K : J3} {n h w w' : Nat} {s : M1} {b : J1} {sv : Nat → M1} {bv : Nat → J1} (hF : 1000 ≤ F) (hI : Iv 100000 n (s, b)) (hr : Rep n (G 0) (K 0) s b) (hh : h ≤ 4) (hw : w < 4) (h0 : G 6 1 0 = Int32.ofNat h) (hS : HS G K h w sv bv) (hw' : w' = (w + 1) % 4) : ∃ G' K', fbX1_save_21 F 0 (Int32.ofNat w') G K = some (G', K') ∧ (∀ g, g = 0 ∨ g = 1 ∨ 7 ≤ g → G' g = G g ∧ K' g = K g) ∧ G' 6 1 0 = Int32.ofNat (hup h) ∧ G' 6 1 1 = Int32.ofNat w' ∧ HS G' K' (hup h) w' (psh s sv) (psh b bv) := by
  have hw4 : w' < 4 := by omega
  unfold fbX1_save_21
  simp only [bnd_s]
  have e1 : up3 G 6 1 1 (Int32.ofNat w') 6 1 1 = Int32.ofNat w' := by unfold up3; rw [sg_eq, up2_ap, if_pos rfl, if_pos rfl]
  have e2 : ∀ g, g ≠ 6 → up3 G 6 1 1 (Int32.ofNat w') g = G g := fun g hg => by unfold up3; rw [sg_ne _ _ hg]
  have e3 : up3 G 6 1 1 (Int32.ofNat w') 6 1 0 = Int32.ofNat h := by unfold up3; rw [sg_eq, up2_ap, if_pos rfl, if_neg (by decide), h0]
  rw [e1, pc_sat hw4]
  simp only [Option.bind_some, oc_ss]
  rw [chk_t (show isS (2 + w') from by show 2 + w' < 6; omega)]
  obtain ⟨M', J', g1, g2⟩ := pc_tk (F := F) (G := up3 G 6 1 1 (Int32.ofNat w')) (K := K) (g := 2 + w') (g' := 0) hF (by omega) hI.n5 hI.cnt (by rw [e2 0 (by omega)]; exact hr)
  rw [g1, bd2_s]
  unfold fbX1_save_42
  simp only [bnd_s]
  generalize hG1 : up3 G 6 1 1 (Int32.ofNat w') = G1 at e1 e2 e3 ⊢
  have e4 : sg G1 (2 + w') M' 6 = G1 6 := sg_ne _ _ (by omega)
  rw [e4, e3]
  have hv : (if (4 : Int32) < Int32.ofNat h + 1 then 4 else Int32.ofNat h + 1) = Int32.ofNat (hup h) := by
    unfold hup
    rw [pn_s]
    by_cases h4 : h < 4
    · rw [if_pos h4, if_neg (fun e => by have h2 := (pn_lt1 (a := 4) (by decide) (by omega)).mp e; have : 4 < h + 1 := h2; omega)]
    · rw [if_neg h4]
      obtain rfl : h = 4 := by omega
      decide
  rw [hv]
  have f1 : ∀ g, g ≠ 6 → up3 (sg G1 (2 + w') M') 6 1 0 (Int32.ofNat (hup h)) g = sg G1 (2 + w') M' g := fun g hg => by unfold up3; rw [sg_ne _ _ hg]
  refine ⟨_, _, rfl, fun g hg => ⟨?_, ?_⟩, ?_, ?_, fun i hi => ?_⟩
  · rw [f1 g (by omega), sg_ne _ _ (by omega), e2 g (by omega)]
  · rw [sg_ne _ _ (by omega)]
  · unfold up3; rw [sg_eq, up2_ap, if_pos rfl, if_pos rfl]
  · unfold up3; rw [sg_eq, up2_ap, if_pos rfl, if_neg (by decide), e4, e1]
  · have hi4 : i < 4 := by unfold hup at hi; split at hi <;> omega
    unfold psh
    by_cases i0 : i = 0
    · subst i0
      refine ⟨n, hI, ?_⟩
      rw [if_pos rfl, if_pos rfl, show (w' + 4 - 0) % 4 = w' by omega, f1 _ (by omega), sg_eq, sg_eq]
      exact g2
    · have hi2 : i - 1 < h := by unfold hup at hi; split at hi <;> omega
      obtain ⟨n2, k1, k2⟩ := hS (i - 1) hi2
      refine ⟨n2, ?_, ?_⟩
      · rw [if_neg i0, if_neg i0]; exact k1
      · rw [if_neg i0, if_neg i0, f1 _ (by omega), sg_ne _ _ (by omega), sg_ne _ _ (by omega), e2 _ (by omega), show (w' + 4 - i) % 4 = (w + 4 - (i - 1)) % 4 by omega]
        exact k2
theorem pc_save {F : Nat} {G : M3} {K : J3} {n h w : Nat} {s : M1} {b : J1} {sv : Nat → M1} {bv : Nat → J1} (hF : 1000 ≤ F) (hI : Iv 100000 n (s, b)) (hr : Rep n (G 0) (K 0) s b) (hh : h ≤ 4) (hw : w < 4) (h0 : G 6 1 0 = Int32.ofNat h) (h1 : G 6 1 1 = Int32.ofNat w) (hS : HS G K h w sv bv) : ∃ G' K', fX1_save F 0 G K = some (G', K') ∧ (∀ g, g = 0 ∨ g = 1 ∨ 7 ≤ g → G' g = G g ∧ K' g = K g) ∧ ∃ w', w' < 4 ∧ G' 6 1 0 = Int32.ofNat (hup h) ∧ G' 6 1 1 = Int32.ofNat w' ∧ HS G' K' (hup h) w' (psh s sv) (psh b bv) := by
  unfold fX1_save
  rw [h1, pn_s]
  by_cases h3 : w = 3
  · subst h3
    rw [if_pos (by decide)]
    obtain ⟨G', K', g1, g2, g3, g4, g5⟩ := pc_sav21 (w' := 0) hF hI hr hh hw h0 hS (by omega)
    exact ⟨G', K', g1, g2, 0, by omega, g3, g4, g5⟩
  · rw [if_neg (fun e => by have h2 := (pn_le1 (a := 4) (by decide) (by omega)).mp e; have : 4 ≤ w + 1 := h2; omega)]
    obtain ⟨G', K', g1, g2, g3, g4, g5⟩ := pc_sav21 (w' := w + 1) hF hI hr hh hw h0 hS (by omega)
    exact ⟨G', K', g1, g2, w + 1, by omega, g3, g4, g5⟩
theorem pc_rest {F : Nat} {G : M3} {K : J3} {h w : Nat} {sv : Nat → M1} {bv : Nat → J1} (hF : 1000 ≤ F) (hh : h + 1 ≤ 4) (hw : w < 4) (h0 : G 6 1 0 = Int32.ofNat (h + 1)) (h1 : G 6 1 1 = Int32.ofNat w) (hS : HS G K (h + 1) w sv bv) : ∃ G' K', fX1_restore F 0 G K = some (G', K') ∧ (∀ g, 7 ≤ g → G' g = G g ∧ K' g = K g) ∧ (∃ n, Iv 100000 n (sv 0, bv 0) ∧ Rep n (G' 0) (K' 0) (sv 0) (bv 0)) ∧ ∃ w', w' < 4 ∧ G' 6 1 0 = Int32.ofNat h ∧ G' 6 1 1 = Int32.ofNat w' ∧ HS G' K' h w' (fun i => sv (i + 1)) (fun i => bv (i + 1)) := by
  unfold fX1_restore
  rw [h1, pc_sat hw]
  simp only [Option.bind_some, oc_ss]
  rw [chk_t (show isS (2 + w) from by show 2 + w < 6; omega)]
  obtain ⟨n, hI, hR⟩ := hS 0 (by omega)
  rw [show (w + 4 - 0) % 4 = w by omega] at hR
  obtain ⟨M', J', g1, g2⟩ := pc_tk (F := F) (G := G) (K := K) (g := 0) (g' := 2 + w) hF (by omega) hI.n5 hI.cnt hR
  rw [g1, bd2_s]
  have key : ∀ w', w' < 4 → (∀ i, i < 3 → (w' + 4 - i) % 4 = (w + 4 - (i + 1)) % 4) → ∃ G' K', fbX1_restore_36 F 0 (Int32.ofNat w') (sg G 0 M') (sg K 0 J') = some (G', K') ∧ (∀ g, 7 ≤ g → G' g = G g ∧ K' g = K g) ∧ (∃ n, Iv 100000 n (sv 0, bv 0) ∧ Rep n (G' 0) (K' 0) (sv 0) (bv 0)) ∧ ∃ w', w' < 4 ∧ G' 6 1 0 = Int32.ofNat h ∧ G' 6 1 1 = Int32.ofNat w' ∧ HS G' K' h w' (fun i => sv (i + 1)) (fun i => bv (i + 1)) := by
    intro w' hw' hmod
    unfold fbX1_restore_36
    simp only [bnd_s]
    have e3 : up3 (sg G 0 M') 6 1 1 (Int32.ofNat w') 6 1 0 = Int32.ofNat (h + 1) := by unfold up3; rw [sg_eq, up2_ap, if_pos rfl, if_neg (by decide), sg_ne _ _ (by decide), h0]
    rw [e3, pn_sub2 (by show 1 ≤ h + 1; omega)]
    rw [if_neg (fun e => by rw [show (0 : Int32) = Int32.ofNat 0 from rfl, pn_lt (by omega) (by omega)] at e; omega)]
    have f1 : ∀ g, g ≠ 6 → up3 (up3 (sg G 0 M') 6 1 1 (Int32.ofNat w')) 6 1 0 (Int32.ofNat (h + 1 - 1)) g = sg G 0 M' g := fun g hg => by unfold up3; rw [sg_ne _ _ hg, sg_ne _ _ hg]
    refine ⟨_, _, rfl, fun g hg => ⟨?_, ?_⟩, ⟨n, hI, ?_⟩, w', hw', ?_, ?_, fun i hi => ?_⟩
    · exact (f1 g (by omega)).trans (sg_ne _ _ (by omega))
    · rw [sg_ne _ _ (by omega)]
    · rw [show up3 (up3 (sg G 0 M') 6 1 1 (Int32.ofNat w')) 6 1 0 (Int32.ofNat (h + 1 - OfNat.ofNat 1)) 0 = M' from (f1 0 (by omega)).trans (sg_eq _ _ _), sg_eq]; exact g2
    · unfold up3; rw [sg_eq, up2_ap, if_pos rfl, if_pos rfl]; rfl
    · unfold up3; rw [sg_eq, up2_ap, if_pos rfl, if_neg (by decide), sg_eq, up2_ap, if_pos rfl, if_pos rfl]
    · obtain ⟨n2, k1, k2⟩ := hS (i + 1) (by omega)
      refine ⟨n2, k1, ?_⟩
      rw [hmod i (by omega), sg_ne _ _ (by omega)]
      rw [show up3 (up3 (sg G 0 M') 6 1 1 (Int32.ofNat w')) 6 1 0 (Int32.ofNat (h + 1 - OfNat.ofNat 1)) (2 + (w + 4 - (i + 1)) % 4) = G (2 + (w + 4 - (i + 1)) % 4) from (f1 _ (by omega)).trans (sg_ne _ _ (by omega))]
      exact k2
  unfold fbX1_restore_18
  rw [sg_ne _ _ (by decide), h1]
  by_cases h3 : w = 0
  · subst h3
    rw [if_pos (by decide)]
    exact key 3 (by omega) (by omega)
  · rw [if_neg (fun e => by rw [show (0 : Int32) = Int32.ofNat 0 from rfl, pn_le (by omega) (by omega)] at e; omega), pn_sub2 (by show 1 ≤ w; omega)]
    exact key (w - 1) (by omega) (by omega)
