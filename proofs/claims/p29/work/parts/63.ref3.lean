theorem doz_out {s : M1} {c i : Nat} {v : Int32} (h : i < 21 + 7 * c ∨ 28 + 7 * c ≤ i) : doz s c v i = s i := by
  unfold doz
  simp only [apply_ite (fun f : M1 => f i), sg_ap]
  grind
/-- two rows that agree on one compressor and on what is no compressor's: it does the same -/
def agr (s t : M1) (c : Nat) : Prop := (∀ i, i < 21 → t i = s i) ∧ (∀ i, 56 ≤ i → t i = s i) ∧ ∀ f, f < 7 → t (21 + 7 * c + f) = s (21 + 7 * c + f)
theorem stg_congr {s t : M1} {c : Nat} (h : ∀ i, 56 ≤ i → t i = s i) : stg t c = stg s c := by
  unfold stg
  rw [h 56 (by omega), h 57 (by omega), h 58 (by omega), h 59 (by omega)]
theorem Prm.congr {n : Nat} {s t : M1} (hp : Prm n s) (h : ∀ i, 56 ≤ i → t i = s i) : Prm n t := by
  refine ⟨fun c hc => ?_, fun k hk => ?_⟩
  · rw [stg_congr h, h _ (by omega)]; exact hp.at_ c hc
  · obtain ⟨c, h1, h2, h3⟩ := hp.of_ k hk
    exact ⟨c, h1, by rw [h _ (by omega)]; exact h2, by rw [stg_congr h]; exact h3⟩
theorem nxt_congr {s t : M1} {c : Nat} {p : Int32} (h : agr s t c) : nxt t c p = nxt s c p := by
  obtain ⟨h1, h2, h3⟩ := h
  unfold nxt uabv lbel
  rw [stg_congr h2, h3 1 (by omega), h3 4 (by omega), h3 5 (by omega), h1 2 (by omega), h1 3 (by omega), h1 10 (by omega), h1 5 (by omega)]
theorem doz_congr {s t : M1} {c f : Nat} {v : Int32} (h : agr s t c) (hf : f < 7) : doz t c v (21 + 7 * c + f) = doz s c v (21 + 7 * c + f) := by
  obtain ⟨h1, h2, h3⟩ := h
  have e1 := h3 1 (by omega)
  have e4 := h3 4 (by omega)
  have e5 := h3 5 (by omega)
  have e6 := h3 6 (by omega)
  have ef := h3 f hf
  have e := h1 6 (by omega)
  unfold doz
  simp only [apply_ite (fun g : M1 => g (21 + 7 * c + f)), sg_ap, e1, e4, e5, e6, ef, e]
/-- all of the first k are looked at, by their numbers -/
def dzk (s : M1) (p : Int32) : Nat → M1
  | 0 => s
  | k + 1 => doz (dzk s p k) k (nxt s k p)
def bzk (s : M1) (p : Int32) : Nat → Bool
  | 0 => false
  | k + 1 => bzk s p k || decide (nxt s k p = 2)
theorem dzk_at {s : M1} {p : Int32} {k i : Nat} (h : i < 21 ∨ 21 + 7 * k ≤ i) : dzk s p k i = s i := by
  induction k with
  | zero => rfl
  | succ k ih => unfold dzk; rw [doz_out (by omega), ih (by omega)]
theorem dzk_in {s : M1} {p : Int32} {k c f : Nat} (hk : k ≤ 5) (hf : f < 7) (h : c < k) : dzk s p k (21 + 7 * c + f) = doz s c (nxt s c p) (21 + 7 * c + f) := by
  induction k with
  | zero => omega
  | succ k ih =>
    unfold dzk
    by_cases hc : c = k
    · subst hc
      exact doz_congr ⟨fun i hi => dzk_at (by omega), fun i hi => dzk_at (by omega), fun g hg => dzk_at (by omega)⟩ hf
    · rw [doz_out (by omega), ih (by omega) (by omega)]
/-- the same by their order -/
def ozk (s : M1) (p : Int32) : Nat → M1
  | 0 => s
  | k + 1 => doz (ozk s p k) (s (56 + k)).toNatClampNeg (nxt s (s (56 + k)).toNatClampNeg p)
def oby (s : M1) (p : Int32) : Nat → Bool
  | 0 => false
  | k + 1 => oby s p k || decide (nxt s (s (56 + k)).toNatClampNeg p = 2)
theorem ozk_at {n : Nat} {s : M1} {p : Int32} {k i : Nat} (hn : n ≤ 5) (hp : Prm n s) (hk : k ≤ n) (h : i < 21 ∨ 21 + 7 * n ≤ i) : ozk s p k i = s i := by
  induction k with
  | zero => rfl
  | succ k ih =>
    obtain ⟨c, h1, h2, h3⟩ := hp.of_ k (by omega)
    unfold ozk
    rw [h2, pn_in (by omega), doz_out (by omega), ih (by omega)]
theorem ozk_in {n : Nat} {s : M1} {p : Int32} {k c f : Nat} (hn : n ≤ 5) (hp : Prm n s) (hk : k ≤ n) (hc : c < n) (hf : f < 7) : ozk s p k (21 + 7 * c + f) = if stg s c < k then doz s c (nxt s c p) (21 + 7 * c + f) else s (21 + 7 * c + f) := by
  induction k with
  | zero => rfl
  | succ k ih =>
    obtain ⟨d, h1, h2, h3⟩ := hp.of_ k (by omega)
    have ih := ih (by omega)
    unfold ozk
    rw [h2, pn_in (by omega)]
    by_cases hcd : c = d
    · subst hcd
      rw [if_pos (by omega)]
      refine doz_congr ⟨fun i hi => ozk_at hn hp (by omega) (by omega), fun i hi => ozk_at hn hp (by omega) (by omega), fun g hg => ?_⟩ hf
      clear ih
      suffices H : ∀ j, j ≤ k → ozk s p j (21 + 7 * c + g) = s (21 + 7 * c + g) from H k (Nat.le_refl _)
      intro j
      induction j with
      | zero => intro _; rfl
      | succ j ihj =>
        intro hj
        obtain ⟨e, g1, g2, g3⟩ := hp.of_ j (by omega)
        unfold ozk
        have hce : c ≠ e := fun h => by subst h; omega
        rw [g2, pn_in (by omega), doz_out (by omega), ihj (by omega)]
    · rw [doz_out (by omega), ih]
      have hs : stg s c ≠ k := fun h => by
        have := (hp.at_ c hc).2
        rw [h, h2, pn_eq (by omega) (by omega)] at this
        omega
      by_cases h4 : stg s c < k
      · rw [if_pos h4, if_pos (by omega)]
      · rw [if_neg h4, if_neg (by omega)]
theorem ozk_dzk {n : Nat} {s : M1} {p : Int32} (hn : n ≤ 5) (hp : Prm n s) : ozk s p n = dzk s p n := by
  funext i
  by_cases h : i < 21 ∨ 21 + 7 * n ≤ i
  · rw [ozk_at hn hp (Nat.le_refl _) h, dzk_at h]
  · obtain ⟨c, f, hf, rfl⟩ : ∃ c f, f < 7 ∧ i = 21 + 7 * c + f := ⟨(i - 21) / 7, (i - 21) % 7, by omega, by omega⟩
    rw [ozk_in hn hp (Nat.le_refl _) (by omega) hf, dzk_in hn hf (by omega), if_pos (hp.at_ c (by omega)).1]
theorem bzk_iff {s : M1} {p : Int32} {k : Nat} : bzk s p k = true ↔ ∃ c, c < k ∧ nxt s c p = 2 := by
  induction k with
  | zero => unfold bzk; grind
  | succ k ih => unfold bzk; grind
theorem oby_iff {s : M1} {p : Int32} {k : Nat} : oby s p k = true ↔ ∃ j, j < k ∧ nxt s (s (56 + j)).toNatClampNeg p = 2 := by
  induction k with
  | zero => unfold oby; grind
  | succ k ih => unfold oby; grind
theorem oby_bzk {n : Nat} {s : M1} {p : Int32} (hn : n ≤ 5) (hp : Prm n s) : oby s p n = bzk s p n := by
  rw [Bool.eq_iff_iff, oby_iff, bzk_iff]
  constructor
  · rintro ⟨j, h1, h2⟩
    obtain ⟨c, g1, g2, g3⟩ := hp.of_ j h1
    rw [g2, pn_in (by omega)] at h2
    exact ⟨c, g1, h2⟩
  · rintro ⟨c, h1, h2⟩
    obtain ⟨g1, g2⟩ := hp.at_ c h1
    refine ⟨stg s c, g1, ?_⟩
    rw [g2, pn_in (by omega)]
    exact h2
