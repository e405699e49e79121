/-- a copying loop: k elements, from row r at g, to row d at f -/
def cpr {α : Type} (d r : Nat) (f g : Nat → Nat) (M : Nat → Nat → α) : Nat → (Nat → Nat → α)
  | 0 => M
  | k + 1 => up2 (cpr d r f g M k) d (f k) (cpr d r f g M k r (g k))
theorem cpr_o {α : Type} {d r : Nat} {f g : Nat → Nat} {M : Nat → Nat → α} {k x : Nat} (h : x ≠ d) : cpr d r f g M k x = M x := by
  induction k with
  | zero => rfl
  | succ k ih => unfold cpr up2; rw [sg_ne _ _ h, ih]
theorem cpr_out {α : Type} {d r : Nat} {f g : Nat → Nat} {M : Nat → Nat → α} {k i : Nat} (h : ∀ j, j < k → f j ≠ i) : cpr d r f g M k d i = M d i := by
  induction k with
  | zero => rfl
  | succ k ih =>
    unfold cpr
    rw [up2_ap, if_pos rfl, if_neg (fun e => h k (by omega) e.symm), ih (fun j hj => h j (by omega))]
theorem cpr_in {α : Type} {d r : Nat} {f g : Nat → Nat} {M : Nat → Nat → α} {k j : Nat} (h : j < k) (hf : ∀ i, i < k → i ≠ j → f i ≠ f j) (hg : r = d → ∀ i, i < k → i ≤ j → f i ≠ g j ∨ i = j) : cpr d r f g M k d (f j) = M r (g j) := by
  induction k with
  | zero => omega
  | succ k ih =>
    unfold cpr
    rw [up2_ap, if_pos rfl]
    by_cases e : k = j
    · subst e
      rw [if_pos rfl]
      by_cases hr : r = d
      · subst hr
        exact cpr_out (fun i hi => by rcases hg rfl i (by omega) (by omega) with h | h <;> omega)
      · rw [cpr_o hr]
    · rw [if_neg (fun h2 => hf k (by omega) e h2.symm), ih (by omega) (fun i hi hij => hf i (by omega) hij) (fun hr i hi hij => hg hr i (by omega) hij)]
