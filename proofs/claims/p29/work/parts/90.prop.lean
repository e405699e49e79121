/-! the property on the rows: flows, energy; kept by all that happens -/
theorem t64_i (x : Int32) : x.toInt64.toInt = x.toInt := Int32.toInt_toInt64 x
theorem t64_add {x y : Int32} (h : -2147483648 ≤ x.toInt + y.toInt) (h2 : x.toInt + y.toInt < 2147483648) : (x + y).toInt64 = x.toInt64 + y.toInt64 := by
  have hx := x.toInt_lt
  have hx2 := x.le_toInt
  have hy := y.toInt_lt
  have hy2 := y.le_toInt
  rw [← Int64.toInt_inj, t64_i, pi_add h h2, Int64.toInt_add, t64_i, t64_i, pi_bm64 (by omega) (by omega)]
theorem t64_sub {x y : Int32} (h : -2147483648 ≤ x.toInt - y.toInt) (h2 : x.toInt - y.toInt < 2147483648) : (x - y).toInt64 = x.toInt64 - y.toInt64 := by
  have hx := x.toInt_lt
  have hx2 := x.le_toInt
  have hy := y.toInt_lt
  have hy2 := y.le_toInt
  rw [← Int64.toInt_inj, t64_i, pi_sub h h2, Int64.toInt_sub, t64_i, t64_i, pi_bm64 (by omega) (by omega)]
theorem t64_mul {x y : Int32} {B C : Int} (hx : 0 ≤ x.toInt ∧ x.toInt ≤ B) (hy : 0 ≤ y.toInt ∧ y.toInt ≤ C) (hb : B * C < 2147483648) : (x * y).toInt64 = x.toInt64 * y.toInt64 := by
  obtain ⟨h1, h2, h3⟩ := pi_mul hx hy hb
  rw [← Int64.toInt_inj, t64_i, h1, Int64.toInt_mul, t64_i, t64_i, pi_bm64 (by omega) (by omega)]
/-- what one compressor's minutes took; what those of the first k took -/
def et (s : M1) (k : Nat) : Int64 := (10 : Int64) * (s (21 + 7 * k)).toInt64 * (s (21 + 7 * k + 2)).toInt64 + (3 : Int64) * (s (21 + 7 * k)).toInt64 * (s (21 + 7 * k + 3)).toInt64
def en (s : M1) : Nat → Int64
  | 0 => 0
  | k + 1 => en s k + et s k
/-- the rows that the sums read -/
abbrev Sm (n : Nat) (s t : M1) : Prop := ∀ c, c < n → t (21 + 7 * c) = s (21 + 7 * c) ∧ t (21 + 7 * c + 2) = s (21 + 7 * c + 2) ∧ t (21 + 7 * c + 3) = s (21 + 7 * c + 3)
theorem en_cg {s t : M1} {n : Nat} (h : Sm n s t) : en t n = en s n := by
  induction n with
  | zero => rfl
  | succ n ih =>
    obtain ⟨h1, h2, h3⟩ := h n (by omega)
    unfold en et
    rw [ih (fun c hc => h c (by omega)), h1, h2, h3]
def Lb (T : Int) (n : Nat) (s : M1) : Prop := ∀ c, c < n → (0 ≤ (s (21 + 7 * c + 2)).toInt ∧ (s (21 + 7 * c + 2)).toInt ≤ T) ∧ 0 ≤ (s (21 + 7 * c + 3)).toInt ∧ (s (21 + 7 * c + 3)).toInt ≤ T
theorem Lb_cg {T : Int} {n : Nat} {s t : M1} (h : Lb T n s) (e : Sm n s t) : Lb T n t := fun c hc => by
  obtain ⟨-, h2, h3⟩ := e c hc
  rw [h2, h3]
  exact h c hc
def Aeq (s : M1) (b : J1) : Prop := (s 1).toInt64 + b 1 + b 2 + b 4 - b 0 = 6000
/-- within a minute: air up to A, minutes up to T -/
def Fq (A T : Int) (n : Nat) (q : M1 × J1) : Prop := (q.1 0 = 1000 ∧ q.1 4 = 10000 ∧ 10 ≤ (q.1 3).toInt) ∧ (0 ≤ (q.1 1).toInt ∧ (q.1 1).toInt ≤ A) ∧ Lb T n q.1 ∧ Aeq q.1 q.2 ∧ q.2 5 = en q.1 n
theorem Fq_cg {A T : Int} {n : Nat} {s t : M1} {b : J1} (h : Fq A T n (s, b)) (e0 : t 0 = s 0) (e1 : t 1 = s 1) (e3 : t 3 = s 3) (e4 : t 4 = s 4) (e : Sm n s t) : Fq A T n (t, b) := by
  obtain ⟨⟨h1, h2, h3⟩, h4, h5, h6, h7⟩ := h
  unfold Aeq at h6
  dsimp only at *
  refine ⟨⟨e0.trans h1, e4.trans h2, by dsimp only; rw [e3]; exact h3⟩, by dsimp only; rw [e1]; exact h4, Lb_cg h5 e, ?_, by dsimp only; rw [en_cg e]; exact h7⟩
  unfold Aeq
  dsimp only
  rw [e1]
  exact h6
theorem Fq_mrot {A T : Int} {n : Nat} {s : M1} {b : J1} (h : Fq A T n (s, b)) (hn : n ≤ 5) : Fq A T n (mrot s n, b) := by
  refine Fq_cg h ?_ ?_ ?_ ?_ (fun c hc => ⟨?_, ?_, ?_⟩) <;> exact mrot_lt (by omega) (by omega) (by omega)
theorem Fq_rots {A T : Int} {n : Nat} {s : M1} {b : J1} (h : Fq A T n (s, b)) (hn : n ≤ 5) : Fq A T n (rots s n, b) := by
  refine Fq_cg h ?_ ?_ ?_ ?_ (fun c hc => ⟨?_, ?_, ?_⟩) <;> exact rots_at (by omega) (by omega) (by omega)
theorem doz_k {s : M1} {c : Nat} {v : Int32} {f : Nat} (h : f = 0 ∨ f = 2 ∨ f = 3) : doz s c v (21 + 7 * c + f) = s (21 + 7 * c + f) := by
  unfold doz
  split
  · rw [sg_ne _ _ (by omega)]
  · split
    · rw [sg_ne _ _ (by omega), sg_ne _ _ (by omega), sg_ne _ _ (by omega)]
    · split
      · rw [sg_ne _ _ (by omega), sg_ne _ _ (by omega)]
      · split
        · rw [sg_ne _ _ (by omega)]
        · split
          · rw [sg_ne _ _ (by omega), sg_ne _ _ (by omega), sg_ne _ _ (by omega)]
          · rfl
theorem Fq_dzk {A T : Int} {n : Nat} {s : M1} {b : J1} {p : Int32} (h : Fq A T n (s, b)) (hn : n ≤ 5) : Fq A T n (dzk s p n, b) := by
  refine Fq_cg h (dzk_at (by omega)) (dzk_at (by omega)) (dzk_at (by omega)) (dzk_at (by omega)) (fun c hc => ⟨?_, ?_, ?_⟩)
  · exact (dzk_in (f := 0) hn (by omega) hc).trans (doz_k (by omega))
  · exact (dzk_in (f := 2) hn (by omega) hc).trans (doz_k (by omega))
  · exact (dzk_in (f := 3) hn (by omega) hc).trans (doz_k (by omega))
/-- the flows of one compressor, field by field -/
theorem flb_l {q : M1 × J1} {c : Nat} : (flb q c).1 (21 + 7 * c + 2) = if q.1 (21 + 7 * c + 1) = 1 then q.1 (21 + 7 * c + 2) + 1 else q.1 (21 + 7 * c + 2) := by
  unfold flb
  split
  · dsimp only; rw [sg_eq]
  · split
    · dsimp only; rw [sg_ne _ _ (by omega)]
    · rfl
theorem flb_u {q : M1 × J1} {c : Nat} : (flb q c).1 (21 + 7 * c + 3) = if q.1 (21 + 7 * c + 1) = 1 then q.1 (21 + 7 * c + 3) else if q.1 (21 + 7 * c + 1) = 2 then q.1 (21 + 7 * c + 3) + 1 else q.1 (21 + 7 * c + 3) := by
  unfold flb
  split
  · dsimp only; rw [sg_ne _ _ (by omega), sg_ne _ _ (by omega)]
  · split
    · dsimp only; rw [sg_eq]
    · rfl
theorem flb_b {q : M1 × J1} {c i : Nat} (h0 : i ≠ 0) (h5 : i ≠ 5) : (flb q c).2 i = q.2 i := by
  unfold flb
  split
  · dsimp only; rw [sg_ne _ _ h5, sg_ne _ _ h0]
  · split
    · dsimp only; rw [sg_ne _ _ h5]
    · rfl
theorem flb_b0 {q : M1 × J1} {c : Nat} : (flb q c).2 0 = if q.1 (21 + 7 * c + 1) = 1 then q.2 0 + (q.1 (21 + 7 * c)).toInt64 else q.2 0 := by
  unfold flb
  split
  · dsimp only; rw [sg_ne _ _ (by decide), sg_eq]
  · split
    · dsimp only; rw [sg_ne _ _ (by decide)]
    · rfl
theorem flb_b5 {q : M1 × J1} {c : Nat} : (flb q c).2 5 = if q.1 (21 + 7 * c + 1) = 1 then q.2 5 + (10 * q.1 (21 + 7 * c)).toInt64 else if q.1 (21 + 7 * c + 1) = 2 then q.2 5 + (3 * q.1 (21 + 7 * c)).toInt64 else q.2 5 := by
  unfold flb
  split
  · dsimp only; rw [sg_eq]
  · split
    · dsimp only; rw [sg_eq]
    · rfl
/-- a row above those that have flowed is as it was -/
theorem flk_up {s : M1} {b : J1} {k c f : Nat} (hc : k ≤ c) : (flk s b k).1 (21 + 7 * c + f) = s (21 + 7 * c + f) := by
  induction k with
  | zero => rfl
  | succ k ih => unfold flk; rw [flb_at (by omega) (by omega) (by omega), ih (by omega)]
theorem flk_md {s : M1} {b : J1} {k c f : Nat} (hf : f = 0 ∨ f = 1) : (flk s b k).1 (21 + 7 * c + f) = s (21 + 7 * c + f) := by
  induction k with
  | zero => rfl
  | succ k ih => unfold flk; rw [flb_at (by omega) (by omega) (by omega), ih]
theorem en_flb {q : M1 × J1} {k n : Nat} (h : n ≤ k) : en (flb q k).1 n = en q.1 n := en_cg (fun c hc => ⟨flb_at (by omega) (by omega) (by omega), flb_at (by omega) (by omega) (by omega), flb_at (by omega) (by omega) (by omega)⟩)
/-- what a compressor's minute adds -/
theorem Fq_flb {A T : Int} {n k : Nat} {q : M1 × J1} (h : (q.1 0 = 1000 ∧ q.1 4 = 10000 ∧ 10 ≤ (q.1 3).toInt) ∧ (0 ≤ (q.1 1).toInt ∧ (q.1 1).toInt ≤ A) ∧ Lb (T + 1) k q.1 ∧ (∀ c, k ≤ c → c < n → (0 ≤ (q.1 (21 + 7 * c + 2)).toInt ∧ (q.1 (21 + 7 * c + 2)).toInt ≤ T) ∧ 0 ≤ (q.1 (21 + 7 * c + 3)).toInt ∧ (q.1 (21 + 7 * c + 3)).toInt ≤ T) ∧ Aeq q.1 q.2 ∧ q.2 5 = en q.1 n) (hA : 0 ≤ A ∧ A ≤ 100000) (hT : 0 ≤ T ∧ T ≤ 1000000) (hk : k < n) (hc : 10 ≤ (q.1 (21 + 7 * k)).toInt ∧ (q.1 (21 + 7 * k)).toInt ≤ 500) :
    ((flb q k).1 0 = 1000 ∧ (flb q k).1 4 = 10000 ∧ 10 ≤ ((flb q k).1 3).toInt) ∧ (0 ≤ ((flb q k).1 1).toInt ∧ ((flb q k).1 1).toInt ≤ A + 500) ∧ Lb (T + 1) (k + 1) (flb q k).1 ∧ (∀ c, k + 1 ≤ c → c < n → (0 ≤ ((flb q k).1 (21 + 7 * c + 2)).toInt ∧ ((flb q k).1 (21 + 7 * c + 2)).toInt ≤ T) ∧ 0 ≤ ((flb q k).1 (21 + 7 * c + 3)).toInt ∧ ((flb q k).1 (21 + 7 * c + 3)).toInt ≤ T) ∧ Aeq (flb q k).1 (flb q k).2 ∧ (flb q k).2 5 = en (flb q k).1 n := by
  obtain ⟨⟨h1, h2, h3⟩, h4, h5, h6, h7, h8⟩ := h
  obtain ⟨⟨l1, l2⟩, l3, l4⟩ := h6 k (Nat.le_refl _) hk
  have o : (1 : Int32).toInt = 1 := by decide
  have f1 : (flb q k).1 0 = q.1 0 := flb_at (by omega) (by omega) (by omega)
  have f2 : (flb q k).1 4 = q.1 4 := flb_at (by omega) (by omega) (by omega)
  have f3 : (flb q k).1 3 = q.1 3 := flb_at (by omega) (by omega) (by omega)
  have sl : (q.1 (21 + 7 * k + 2) + 1).toInt = (q.1 (21 + 7 * k + 2)).toInt + 1 := by rw [pi_add (by omega) (by omega), o]
  have su : (q.1 (21 + 7 * k + 3) + 1).toInt = (q.1 (21 + 7 * k + 3)).toInt + 1 := by rw [pi_add (by omega) (by omega), o]
  refine ⟨⟨f1.trans h1, f2.trans h2, by rw [f3]; exact h3⟩, ?_, fun c hc2 => ?_, fun c hc1 hc2 => ?_, ?_, ?_⟩
  · rw [flb_1]
    split
    · rw [pi_add (by omega) (by omega)]; omega
    · omega
  · by_cases e : c = k
    · subst e
      rw [flb_l, flb_u]
      split
      · rw [sl]; omega
      · split
        · rw [su]; omega
        · omega
    · rw [flb_at (by omega) (by omega) (by omega), flb_at (by omega) (by omega) (by omega)]
      exact h5 c (by omega)
  · rw [flb_at (by omega) (by omega) (by omega), flb_at (by omega) (by omega) (by omega)]
    exact h6 c (by omega) hc2
  · unfold Aeq at *
    rw [flb_1, flb_b (by decide) (by decide), flb_b (by decide) (by decide), flb_b (by decide) (by decide), flb_b0]
    split
    · rw [t64_add (by omega) (by omega)]
      grind
    · exact h7
  · rw [flb_b5]
    have e1 : en (flb q k).1 n = en q.1 n + (et (flb q k).1 k - et q.1 k) := by
      clear f1 f2 f3 h6 h8 h7
      induction n with
      | zero => omega
      | succ n ih =>
        by_cases e : k = n
        · subst e
          unfold en
          rw [en_flb (Nat.le_refl _)]
          grind
        · unfold en
          rw [ih (by omega)]
          have e2 : et (flb q k).1 n = et q.1 n := by
            unfold et
            rw [flb_at (by omega) (by omega) (by omega), flb_at (by omega) (by omega) (by omega), flb_at (by omega) (by omega) (by omega)]
          rw [e2]
          grind
    rw [e1]
    unfold et
    rw [flb_at (i := 21 + 7 * k) (by omega) (by omega) (by omega), flb_l, flb_u]
    have m1 : (10 * q.1 (21 + 7 * k)).toInt64 = 10 * (q.1 (21 + 7 * k)).toInt64 := by
      rw [t64_mul (B := 10) (C := 500) ⟨by decide, by decide⟩ ⟨by omega, hc.2⟩ (by decide)]; rfl
    have m2 : (3 * q.1 (21 + 7 * k)).toInt64 = 3 * (q.1 (21 + 7 * k)).toInt64 := by
      rw [t64_mul (B := 3) (C := 500) ⟨by decide, by decide⟩ ⟨by omega, hc.2⟩ (by decide)]; rfl
    have a1 : (q.1 (21 + 7 * k + 2) + 1).toInt64 = (q.1 (21 + 7 * k + 2)).toInt64 + 1 := by rw [t64_add (by omega) (by omega)]; rfl
    have a2 : (q.1 (21 + 7 * k + 3) + 1).toInt64 = (q.1 (21 + 7 * k + 3)).toInt64 + 1 := by rw [t64_add (by omega) (by omega)]; rfl
    split
    · rw [m1, a1, h8]
      grind
    · split
      · rw [m2, a2, h8]
        grind
      · rw [h8]
        grind
