theorem pi_bm {v : Int} (h : -2147483648 ≤ v) (h2 : v < 2147483648) : v.bmod (2 ^ 32) = v := by
  rw [Int.bmod_eq_of_le] <;> omega
theorem pi_bm64 {v : Int} (h : -9223372036854775808 ≤ v) (h2 : v < 9223372036854775808) : v.bmod (2 ^ 64) = v := by
  rw [Int.bmod_eq_of_le] <;> omega
theorem pi_add {x y : Int32} (h : -2147483648 ≤ x.toInt + y.toInt) (h2 : x.toInt + y.toInt < 2147483648) : (x + y).toInt = x.toInt + y.toInt := by
  rw [Int32.toInt_add, pi_bm h h2]
theorem pi_sub {x y : Int32} (h : -2147483648 ≤ x.toInt - y.toInt) (h2 : x.toInt - y.toInt < 2147483648) : (x - y).toInt = x.toInt - y.toInt := by
  rw [Int32.toInt_sub, pi_bm h h2]
theorem pi_mul {x y : Int32} {B C : Int} (hx : 0 ≤ x.toInt ∧ x.toInt ≤ B) (hy : 0 ≤ y.toInt ∧ y.toInt ≤ C) (hb : B * C < 2147483648) : (x * y).toInt = x.toInt * y.toInt ∧ 0 ≤ x.toInt * y.toInt ∧ x.toInt * y.toInt ≤ B * C := by
  have h1 : 0 ≤ x.toInt * y.toInt := Int.mul_nonneg hx.1 hy.1
  have h2 : x.toInt * y.toInt ≤ B * C := Int.mul_le_mul hx.2 hy.2 hy.1 (by omega)
  refine ⟨?_, h1, h2⟩
  rw [Int32.toInt_mul, pi_bm (by omega) (by omega)]
theorem pi_div {x y : Int32} (hx : 0 ≤ x.toInt) (hy : 0 < y.toInt) : (x / y).toInt = x.toInt / y.toInt := by
  rw [Int32.toInt_div, Int.tdiv_eq_ediv_of_nonneg hx]
  have h1 : 0 ≤ x.toInt / y.toInt := Int.ediv_nonneg hx (by omega)
  have h2 : x.toInt / y.toInt ≤ x.toInt := Int.ediv_le_self _ hx
  have h3 := x.toInt_lt
  rw [pi_bm (by omega) (by omega)]
theorem pi_add64 {x : Int64} {y : Int32} (h : -9000000000000000000 ≤ x.toInt) (h2 : x.toInt ≤ 9000000000000000000) : (x + y.toInt64).toInt = x.toInt + y.toInt := by
  have h3 := y.toInt_lt
  have h4 := y.le_toInt
  rw [Int64.toInt_add, Int32.toInt_toInt64, pi_bm64 (by omega) (by omega)]
/-- a pressure: of air up to A, of a volume of 100 at the least -/
theorem prs_in {s : M1} {A : Int} (ha : 0 ≤ (s 1).toInt ∧ (s 1).toInt ≤ A) (hA : A ≤ 100000) (hv : 100 ≤ (s 0).toInt) : (prs s).toInt = (s 1).toInt * 1000 / (s 0).toInt ∧ 0 ≤ (prs s).toInt ∧ (prs s).toInt ≤ 1000000 := by
  obtain ⟨h1, h2, h3⟩ := pi_mul (x := s 1) (y := 1000) (B := A) (C := 1000) ha (by decide) (by omega)
  have e : (1000 : Int32).toInt = 1000 := by decide
  rw [e] at h1 h2 h3
  unfold prs
  have h4 := pi_div (x := s 1 * 1000) (y := s 0) (by omega) (by omega)
  rw [h1] at h4
  refine ⟨h4, ?_, ?_⟩
  · rw [h4]; exact Int.ediv_nonneg (by omega) (by omega)
  · rw [h4]
    exact Int.ediv_le_of_le_mul (by omega) (by omega)
/-- the step of a field that is neither the counters' -/
theorem Inv_rots {U A T : Int} {n : Nat} {s : M1} {b : J1} (h : Inv U A T n s b) : Inv U A T n (rots s n) b := by
  have hn := h.n5
  have e : ∀ i, i < 56 → i ≠ 12 → i ≠ 13 → rots s n i = s i := fun i h1 h2 h3 => rots_at h1 h2 h3
  refine ⟨hn, ?_, ?_, ?_, ?_, ?_, ?_, ?_, ?_, ?_, fun c hc => (h.cmp c hc).congr (fun f hf _ _ _ => e (21 + 7 * c + f) (by omega) (by omega) (by omega)), (rots_prm hn).1, ?_⟩
  · rw [e 10 (by omega) (by omega) (by omega)]; exact h.cnt
  · rw [e 0 (by omega) (by omega) (by omega)]; exact h.vol
  · rw [e 1 (by omega) (by omega) (by omega)]; exact h.air
  · rw [e 4 (by omega) (by omega) (by omega)]; exact h.rel
  · rw [e 6 (by omega) (by omega) (by omega)]; exact h.rst
  · rw [e 7 (by omega) (by omega) (by omega)]; exact h.lek
  · rw [e 8 (by omega) (by omega) (by omega)]; exact h.dem
  · rw [e 11 (by omega) (by omega) (by omega)]; exact h.tim
  · rw [e 11 (by omega) (by omega) (by omega)]; exact h.unm
  · rw [e 14 (by omega) (by omega) (by omega)]; exact h.res
theorem Inv_mrot {U A T : Int} {n : Nat} {s : M1} {b : J1} (h : Inv U A T n s b) : Inv U A T n (mrot s n) b := by
  unfold mrot
  split
  · exact h
  · exact Inv_rots h
theorem doz_cok {s : M1} {c : Nat} {p : Int32} (h : Cok s c) (h6 : 0 ≤ (s 6).toInt) : Cok (doz s c (nxt s c p)) c := by
  obtain ⟨h1, h2, h3, h4, h5⟩ := h
  have z : (0 : Int32).toInt = 0 := by decide
  have h7 : 0 < s (21 + 7 * c + 5) → 0 ≤ (s (21 + 7 * c + 5) - 1).toInt := by
    intro h
    rw [Int32.lt_iff_toInt_lt, z] at h
    have := (s (21 + 7 * c + 5)).toInt_lt
    have o : (1 : Int32).toInt = 1 := by decide
    rw [pi_sub (by omega) (by omega)]
    omega
  have h8 : ¬ 0 < s (21 + 7 * c + 5) → s (21 + 7 * c + 5) = 0 := by
    intro h
    rw [Int32.lt_iff_toInt_lt, z] at h
    rw [← Int32.toInt_inj, z]; omega
  unfold Cok
  generalize hv : nxt s c p = v
  unfold nxt at hv
  unfold doz
  simp only [apply_ite (fun f : M1 => f (21 + 7 * c)), apply_ite (fun f : M1 => f (21 + 7 * c + 1)), apply_ite (fun f : M1 => f (21 + 7 * c + 4)), apply_ite (fun f : M1 => f (21 + 7 * c + 5)), sg_ap]
  simp
  grind
