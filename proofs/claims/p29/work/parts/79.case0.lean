theorem lg_same (x : Int64) : lg_cmp x x = 0 := by
  unfold lg_cmp
  rw [if_neg (Int64.lt_irrefl), if_pos rfl]
theorem wi_iff {x a b : Int32} : fX4_isWithin x a b = 0 ↔ ¬ (a ≤ x ∧ x ≤ b) := by
  unfold fX4_isWithin
  have h1 := Int32.lt_iff_toInt_lt (x := x) (y := a)
  have h2 := Int32.lt_iff_toInt_lt (x := b) (y := x)
  have h3 := Int32.le_iff_toInt_le (x := a) (y := x)
  have h4 := Int32.le_iff_toInt_le (x := x) (y := b)
  by_cases c1 : x < a
  · rw [if_pos c1]
    exact ⟨fun _ h => by rw [h1] at c1; rw [h3] at h; omega, fun _ => rfl⟩
  · rw [if_neg c1]
    by_cases c2 : b < x
    · rw [if_pos c2]
      exact ⟨fun _ h => by rw [h2] at c2; rw [h4] at h; omega, fun _ => rfl⟩
    · rw [if_neg c2]
      exact ⟨fun h => absurd h (by decide), fun h => absurd ⟨by rw [h3]; rw [h1] at c1; omega, by rw [h4]; rw [h2] at c2; omega⟩ h⟩
