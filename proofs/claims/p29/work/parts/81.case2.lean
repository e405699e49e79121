theorem s_cases {x : Int32} {a b : Nat} (hb : b < 2147483648) (h : Int32.ofNat a ≤ x ∧ x ≤ Int32.ofNat b) (ha : a < 2147483648) : ∃ k : Nat, a ≤ k ∧ k ≤ b ∧ x = Int32.ofNat k := by
  obtain ⟨h1, h2⟩ := h
  rw [Int32.le_iff_toInt_le, pn_ti ha] at h1
  rw [Int32.le_iff_toInt_le, pn_ti hb] at h2
  exact ⟨x.toInt.toNat, by omega, by omega, pn_of (by omega)⟩
theorem lm_in {k : Nat} {x : Int32} (h : k < 8) (hx : rowLeast k ≤ x ∧ x ≤ rowMost k) : (k = 2 → 2000 ≤ x.toInt ∧ x.toInt ≤ 16000) ∧ (k = 4 → 0 ≤ x.toInt ∧ x.toInt ≤ 30) ∧ (k = 5 → 0 ≤ x.toInt ∧ x.toInt ≤ 50) ∧ (k = 6 → 0 ≤ x.toInt ∧ x.toInt ≤ 3000) := by
  rw [Int32.le_iff_toInt_le, Int32.le_iff_toInt_le] at hx
  refine ⟨fun e => ?_, fun e => ?_, fun e => ?_, fun e => ?_⟩ <;> subst e <;> exact hx
