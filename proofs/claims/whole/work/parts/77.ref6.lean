theorem cpr_sg {α : Type} {d r : Nat} {f g : Nat → Nat} {M : Nat → Nat → α} {k : Nat} : cpr d r f g M k = sg M d (cpr d r f g M k d) := by
  funext x
  by_cases h : x = d
  · subst h; rw [sg_eq]
  · rw [cpr_o h, sg_ne _ _ h]
theorem RM_sg {M : M2} {r0 s x : M1} {r : Nat} (h : r ≠ 0) (h1 : r ≠ 1) : sg (RM M r0 s) r x = RM (sg M r x) r0 s := by
  unfold RM; rw [sg_cm _ _ _ (Ne.symm h1), sg_cm _ _ _ (Ne.symm h)]
theorem RJ_sg {J : J2} {b x : J1} {r : Nat} (h : r ≠ 2) : sg (RJ J b) r x = RJ (sg J r x) b := by
  unfold RJ; rw [sg_cm _ _ _ (Ne.symm h)]
theorem cpr_RM {M : M2} {r0 s : M1} {d r : Nat} {f g : Nat → Nat} {k : Nat} (h : d ≠ 0) (h1 : d ≠ 1) (h2 : r ≠ 0) (h3 : r ≠ 1) : cpr d r f g (RM M r0 s) k = RM (cpr d r f g M k) r0 s := by
  induction k with
  | zero => rfl
  | succ k ih => unfold cpr; rw [ih, RM_o _ _ _ h2 h3, RM_uo _ _ _ h h1]
theorem cpr_RJ {J : J2} {b : J1} {d r : Nat} {f g : Nat → Nat} {k : Nat} (h : d ≠ 2) (h2 : r ≠ 2) : cpr d r f g (RJ J b) k = RJ (cpr d r f g J k) b := by
  induction k with
  | zero => rfl
  | succ k ih => unfold cpr; rw [ih, RJ_o _ _ h2, RJ_uo _ _ h]
/-- the saved states of the reference: h of them, by their ages -/
def HR (R : M1) (B : J1) (h : Nat) (sv : Nat → M1) (bv : Nat → J1) : Prop := ∀ i, i < h → (∀ x, x < 61 → R (61 * (h - 1 - i) + x) = sv i x) ∧ ∀ x, x < 6 → B (6 * (h - 1 - i) + x) = bv i x
def psh {α : Type} (s : α) (sv : Nat → α) : Nat → α := fun i => if i = 0 then s else sv (i - 1)
def hup (h : Nat) : Nat := if h < 4 then h + 1 else 4
theorem pv_sav77 {F : Nat} {M : M2} {J : J2} {r0 s' s : M1} {b' b : J1} {h : Nat} {sv : Nat → M1} {bv : Nat → J1} (hF : 1000 ≤ F) (hh : h < 4) (h8 : r0 8 = Int32.ofNat h) (hR : HR (M 3) (J 4) h sv bv) (hs : ∀ x, x < 61 → M 7 x = s x) (hb : ∀ x, x < 6 → J 8 x = b x) : ∃ R B, fbX5_saves_77 F (RM M r0 s') (RJ J b') = some (RM (sg M 3 R) (sg r0 8 (Int32.ofNat (h + 1))) s', RJ (sg J 4 B) b') ∧ HR R B (h + 1) (psh s sv) (psh b bv) := by
  refine ⟨cpr 3 7 (fun i => 61 * h + i) (fun i => i) M 61 3, cpr 4 8 (fun i => 6 * h + i) (fun i => i) J 6 4, ?_, ?_⟩
  · unfold fbX5_saves_77
    have e1 := pl_saves79 (F := F) (M := RM M r0 s') (J := RJ J b') hh (by rw [RM_0]; exact h8) 61 0 F (by omega) (by omega)
    have e2 := pl_saves113 (F := F) (M := cpr 3 7 (fun i => 61 * h + i) (fun i => i) (RM M r0 s') 61) (J := RJ J b') hh (by rw [cpr_o (by decide), RM_0]; exact h8) 6 0 F (by omega) (by omega)
    refine Eq.trans e1 (Eq.trans e2 ?_)
    rw [cpr_RM (by decide) (by decide) (by decide) (by decide), cpr_RJ (by decide) (by decide), RM_u0, RM_0, h8, pn_s, ← cpr_sg, ← cpr_sg]
  · intro i hi
    unfold psh
    refine ⟨fun x hx => ?_, fun x hx => ?_⟩
    · by_cases h0 : i = 0
      · subst h0
        rw [if_pos rfl, show h + 1 - 1 - 0 = h by omega, ← hs x hx]
        exact cpr_in (d := 3) (r := 7) (f := fun i => 61 * h + i) (g := fun i => i) (M := M) (k := 61) hx (fun i _ h1 => by omega) (fun h => by omega)
      · rw [if_neg h0, ← (hR (i - 1) (by omega)).1 x hx, show h + 1 - 1 - i = h - 1 - (i - 1) by omega]
        refine cpr_out (fun j hj => ?_)
        have : 61 * (h - 1 - (i - 1)) + 61 ≤ 61 * h := by
          have : h - 1 - (i - 1) + 1 ≤ h := by omega
          omega
        omega
    · by_cases h0 : i = 0
      · subst h0
        rw [if_pos rfl, show h + 1 - 1 - 0 = h by omega, ← hb x hx]
        exact cpr_in (d := 4) (r := 8) (f := fun i => 6 * h + i) (g := fun i => i) (M := J) (k := 6) hx (fun i _ h1 => by omega) (fun h => by omega)
      · rw [if_neg h0, ← (hR (i - 1) (by omega)).2 x hx, show h + 1 - 1 - i = h - 1 - (i - 1) by omega]
        refine cpr_out (fun j hj => ?_)
        have : 6 * (h - 1 - (i - 1)) + 6 ≤ 6 * h := by
          have : h - 1 - (i - 1) + 1 ≤ h := by omega
          omega
        omega
theorem HR_le {R : M1} {B : J1} {h k : Nat} {sv : Nat → M1} {bv : Nat → J1} (hR : HR R B h sv bv) : HR R B h (fun i => sv i) bv := hR
theorem pv_saves {F : Nat} {M : M2} {J : J2} {r0 s' s : M1} {b' b : J1} {h : Nat} {sv : Nat → M1} {bv : Nat → J1} (hF : 1000 ≤ F) (hh : h ≤ 4) (h8 : r0 8 = Int32.ofNat h) (hR : HR (M 3) (J 4) h sv bv) (hs : ∀ x, x < 61 → M 7 x = s x) (hb : ∀ x, x < 6 → J 8 x = b x) : ∃ R B, fX5_saves F (RM M r0 s') (RJ J b') = some (RM (sg M 3 R) (sg r0 8 (Int32.ofNat (hup h))) s', RJ (sg J 4 B) b') ∧ HR R B (hup h) (psh s sv) (psh b bv) := by
  unfold fX5_saves
  rw [RM_0, h8]
  by_cases h4 : h < 4
  · rw [if_pos (fun e => by have := (pn_eq2 (b := 4) (by omega) (by decide)).mp e; have : h = 4 := this; omega)]
    have e : hup h = h + 1 := if_pos h4
    rw [e]
    exact pv_sav77 hF h4 h8 hR hs hb
  · obtain rfl : h = 4 := by omega
    rw [if_neg (fun e => e (by decide))]
    have e1 := pl_saves10 (F := F) (M := RM M r0 s') (J := RJ J b') 183 0 F (by omega) (by omega)
    have e2 := pl_saves40 (F := F) (M := cpr 3 3 (fun i => i) (fun i => i + 61) (RM M r0 s') 183) (J := RJ J b') 18 0 F (by omega) (by omega)
    have c1 : cpr 3 3 (fun i => i) (fun i => i + 61) (RM M r0 s') 183 = RM (sg M 3 (fun i => if i < 183 then M 3 (i + 61) else M 3 i)) r0 s' := by
      rw [cpr_RM (by decide) (by decide) (by decide) (by decide), cpr_sg]
      refine congrArg (fun y => RM (sg M 3 y) r0 s') ?_
      funext i
      by_cases hi : i < 183
      · have a1 := cpr_in (d := 3) (r := 3) (f := fun i => i) (g := fun i => i + 61) (M := M) (k := 183) hi (fun i _ h1 => by omega) (fun _ i _ _ => by omega)
        try dsimp only at a1
        rw [a1, if_pos hi]
      · rw [cpr_out (fun j hj e => by omega), if_neg hi]
    have c2 : cpr 4 4 (fun i => i) (fun i => i + 6) (RJ J b') 18 = RJ (sg J 4 (fun i => if i < 18 then J 4 (i + 6) else J 4 i)) b' := by
      rw [cpr_RJ (by decide) (by decide), cpr_sg]
      refine congrArg (fun y => RJ (sg J 4 y) b') ?_
      funext i
      by_cases hi : i < 18
      · have a1 := cpr_in (d := 4) (r := 4) (f := fun i => i) (g := fun i => i + 6) (M := J) (k := 18) hi (fun i _ h1 => by omega) (fun _ i _ _ => by omega)
        try dsimp only at a1
        rw [a1, if_pos hi]
      · rw [cpr_out (fun j hj e => by omega), if_neg hi]
    have hR2 : HR (fun i => if i < 183 then M 3 (i + 61) else M 3 i) (fun i => if i < 18 then J 4 (i + 6) else J 4 i) 3 sv bv := by
      intro i hi
      refine ⟨fun x hx => ?_, fun x hx => ?_⟩
      · dsimp only
        rw [if_pos (by omega), ← (hR i (by omega)).1 x hx]; congr 1; omega
      · dsimp only
        rw [if_pos (by omega), ← (hR i (by omega)).2 x hx]; congr 1; omega
    obtain ⟨R, B, g1, g2⟩ := pv_sav77 (F := F) (M := sg M 3 (fun i => if i < 183 then M 3 (i + 61) else M 3 i)) (J := sg J 4 (fun i => if i < 18 then J 4 (i + 6) else J 4 i)) (r0 := sg r0 8 (Int32.ofNat 3)) (s' := s') (b' := b') (s := s) (b := b) (h := 3) (sv := sv) (bv := bv) hF (by decide) (sg_eq _ _ _) (by rw [sg_eq, sg_eq]; exact hR2) (fun x hx => by rw [sg_ne _ _ (by decide)]; exact hs x hx) (fun x hx => by rw [sg_ne _ _ (by decide)]; exact hb x hx)
    refine ⟨R, B, ?_, g2⟩
    refine Eq.trans e1 (Eq.trans e2 ?_)
    rw [c1, c2, RM_u0, RM_0, h8, show Int32.ofNat 4 - 1 = Int32.ofNat 3 by decide, g1, sg_sg, sg_sg, sg_sg]
    rfl
