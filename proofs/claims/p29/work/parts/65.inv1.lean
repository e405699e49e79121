theorem inj_surj : ∀ (n : Nat) (f : Nat → Nat), (∀ c, c < n → f c < n) → (∀ c d, c < n → d < n → f c = f d → c = d) → ∀ k, k < n → ∃ c, c < n ∧ f c = k := by
  intro n
  induction n with
  | zero => intro f _ _ k hk; omega
  | succ n ih =>
    intro f h1 h2 k hk
    have hm := h1 n (by omega)
    have ih := ih (fun c => if f c = n then f n else f c) (fun c hc => by
      have h3 := h1 c (by omega)
      have h4 := h2 c n (by omega) (by omega)
      try dsimp only
      split <;> omega) (fun c d hc hd h => by
      have h3 := h1 c (by omega)
      have h4 := h2 c n (by omega) (by omega)
      have h5 := h2 d n (by omega) (by omega)
      have h6 := h2 c d (by omega) (by omega)
      try dsimp only at h
      split at h <;> split at h <;> omega)
    by_cases e1 : k = f n
    · exact ⟨n, by omega, e1.symm⟩
    · by_cases e2 : k = n
      · obtain ⟨c, hc, h⟩ := ih (f n) (by omega)
        have h4 := h2 c n (by omega) (by omega)
        refine ⟨c, by omega, ?_⟩
        try dsimp only at h
        split at h <;> omega
      · obtain ⟨c, hc, h⟩ := ih k (by omega)
        refine ⟨c, by omega, ?_⟩
        try dsimp only at h
        split at h <;> omega
theorem stg_of {s : M1} {c k : Nat} (hk : k < 5) (h : s (56 + k) = Int32.ofNat c) (h2 : ∀ j, j < k → s (56 + j) ≠ Int32.ofNat c) : stg s c = k := by
  unfold stg
  match k, hk with
  | 0, _ => grind
  | 1, _ => have := h2 0 (by omega); grind
  | 2, _ => have := h2 0 (by omega); have := h2 1 (by omega); grind
  | 3, _ => have := h2 0 (by omega); have := h2 1 (by omega); have := h2 2 (by omega); grind
  | 4, _ => have := h2 0 (by omega); have := h2 1 (by omega); have := h2 2 (by omega); have := h2 3 (by omega); grind
/-- an order out of a bijection -/
theorem Prm.of {n : Nat} {s : M1} (hn : n ≤ 5) (r : Nat → Nat) (h1 : ∀ c, c < n → r c < n) (h2 : ∀ c d, c < n → d < n → r c = r d → c = d) (h3 : ∀ c, c < n → s (56 + r c) = Int32.ofNat c) : Prm n s ∧ ∀ c, c < n → stg s c = r c := by
  have h4 := inj_surj n r h1 h2
  have h5 : ∀ c, c < n → stg s c = r c := fun c hc => stg_of (by have := h1 c hc; omega) (h3 c hc) (fun j hj => by
    obtain ⟨d, h6, h7⟩ := h4 j (by have := h1 c hc; omega)
    rw [← h7, h3 d h6, Ne, pn_eq (by omega) (by omega)]
    intro h; subst h; omega)
  refine ⟨⟨fun c hc => ?_, fun k hk => ?_⟩, h5⟩
  · rw [h5 c hc]; exact ⟨h1 c hc, h3 c hc⟩
  · obtain ⟨d, h6, h7⟩ := h4 k hk
    exact ⟨d, h6, by rw [← h7]; exact h3 d h6, by rw [h5 d h6]; exact h7⟩
theorem rkk_mono {s : M1} {c d k : Nat} (h : ahd s d c) : rkk s c k + (if c < k then 1 else 0) ≤ rkk s d k := by
  induction k with
  | zero => simp [rkk]
  | succ k ih =>
    unfold rkk
    by_cases e : k = c
    · subst e
      rw [if_neg (show ¬ ahd s k k by unfold ahd; grind), if_pos h]
      simp at ih ⊢
      exact ih
    · have h2 : ahd s c k → ahd s d k := by unfold ahd at *; grind
      by_cases h3 : ahd s c k
      · rw [if_pos h3, if_pos (h2 h3)]
        split at ih <;> split <;> omega
      · rw [if_neg h3]
        split at ih <;> split <;> omega
theorem rkk_inj {s : M1} {c d n : Nat} (hc : c < n) (hd : d < n) (h : rkk s c n = rkk s d n) : c = d := by
  by_cases e : c = d
  · exact e
  · have h1 : ahd s d c ∨ ahd s c d := by unfold ahd; grind
    rcases h1 with h1 | h1
    · have := rkk_mono (k := n) h1
      rw [if_pos hc] at this
      omega
    · have := rkk_mono (k := n) h1
      rw [if_pos hd] at this
      omega
theorem rotk_in {s : M1} {n k c : Nat} (hk : k ≤ n) (hc : c < k) : rotk s n k (56 + rkk s c n) = Int32.ofNat c := by
  induction k with
  | zero => omega
  | succ k ih =>
    unfold rotk
    by_cases e : c = k
    · subst e; rw [sg_eq]
    · rw [sg_ne, ih (by omega) (by omega)]
      intro h
      exact e (rkk_inj (s := s) (n := n) (by omega) (by omega) (by omega))
theorem rots_prm {s : M1} {n : Nat} (hn : n ≤ 5) : Prm n (rots s n) ∧ ∀ c, c < n → stg (rots s n) c = rkk s c n := by
  refine Prm.of hn (fun c => rkk s c n) (fun c hc => rkk_lt hc) (fun c d hc hd h => rkk_inj hc hd h) (fun c hc => ?_)
  unfold rots
  rw [sg_ne _ _ (by omega), sg_ne _ _ (by omega)]
  exact rotk_in (Nat.le_refl _) hc
theorem rots_at {s : M1} {n i : Nat} (h : i < 56) (h2 : i ≠ 12) (h3 : i ≠ 13) : rots s n i = s i := by
  unfold rots
  rw [sg_ne _ _ h3, sg_ne _ _ h2, rotk_lt h]
theorem mrot_prm {s : M1} {n : Nat} (hn : n ≤ 5) (hp : Prm n s) : Prm n (mrot s n) := by
  unfold mrot
  split
  · exact hp
  · exact (rots_prm hn).1
/-- a compressor that is as it may be -/
def Cok (s : M1) (c : Nat) : Prop := (10 ≤ (s (21 + 7 * c)).toInt ∧ (s (21 + 7 * c)).toInt ≤ 500) ∧ (s (21 + 7 * c + 1) = 0 ∨ s (21 + 7 * c + 1) = 1 ∨ s (21 + 7 * c + 1) = 2 ∨ s (21 + 7 * c + 1) = 3) ∧ 0 ≤ (s (21 + 7 * c + 5)).toInt ∧ (s (21 + 7 * c + 1) ≠ 0 → s (21 + 7 * c + 5) = 0) ∧ (s (21 + 7 * c + 1) ≠ 2 → s (21 + 7 * c + 4) = 0)
theorem Cok.congr {s t : M1} {c : Nat} (h : Cok s c) (e : ∀ f, f < 7 → f ≠ 2 → f ≠ 3 → f ≠ 6 → t (21 + 7 * c + f) = s (21 + 7 * c + f)) : Cok t c := by
  have e0 := e 0 (by omega) (by omega) (by omega) (by omega)
  rw [Nat.add_zero] at e0
  unfold Cok at *
  rw [e0, e 1 (by omega) (by omega) (by omega) (by omega), e 4 (by omega) (by omega) (by omega) (by omega), e 5 (by omega) (by omega) (by omega) (by omega)]
  exact h
def Inv (U A T : Int) (n : Nat) (s : M1) (b : J1) : Prop :=
  (n ≤ 5) ∧
  (s 10 = Int32.ofNat n) ∧
  (100 ≤ (s 0).toInt ∧ (s 0).toInt ≤ 5000) ∧
  (0 ≤ (s 1).toInt ∧ (s 1).toInt ≤ A) ∧
  (2000 ≤ (s 4).toInt ∧ (s 4).toInt ≤ 16000) ∧
  (0 ≤ (s 6).toInt ∧ (s 6).toInt ≤ 30) ∧
  (0 ≤ (s 7).toInt ∧ (s 7).toInt ≤ 50) ∧
  (0 ≤ (s 8).toInt ∧ (s 8).toInt ≤ 3000) ∧
  (0 ≤ (s 11).toInt ∧ (s 11).toInt ≤ T) ∧
  (0 ≤ (b 3).toInt ∧ (b 3).toInt ≤ 3000 * (s 11).toInt + U) ∧
  (∀ c, c < n → Cok s c) ∧
  (Prm n s) ∧
  (∃ r : Nat, r ≤ 6 ∧ s 14 = Int32.ofNat r)
theorem Inv.n5 {U A T : Int} {n : Nat} {s : M1} {b : J1} (h : Inv U A T n s b) : n ≤ 5 := h.1
theorem Inv.cnt {U A T : Int} {n : Nat} {s : M1} {b : J1} (h : Inv U A T n s b) : s 10 = Int32.ofNat n := h.2.1
theorem Inv.vol {U A T : Int} {n : Nat} {s : M1} {b : J1} (h : Inv U A T n s b) : 100 ≤ (s 0).toInt ∧ (s 0).toInt ≤ 5000 := h.2.2.1
theorem Inv.air {U A T : Int} {n : Nat} {s : M1} {b : J1} (h : Inv U A T n s b) : 0 ≤ (s 1).toInt ∧ (s 1).toInt ≤ A := h.2.2.2.1
theorem Inv.rel {U A T : Int} {n : Nat} {s : M1} {b : J1} (h : Inv U A T n s b) : 2000 ≤ (s 4).toInt ∧ (s 4).toInt ≤ 16000 := h.2.2.2.2.1
theorem Inv.rst {U A T : Int} {n : Nat} {s : M1} {b : J1} (h : Inv U A T n s b) : 0 ≤ (s 6).toInt ∧ (s 6).toInt ≤ 30 := h.2.2.2.2.2.1
theorem Inv.lek {U A T : Int} {n : Nat} {s : M1} {b : J1} (h : Inv U A T n s b) : 0 ≤ (s 7).toInt ∧ (s 7).toInt ≤ 50 := h.2.2.2.2.2.2.1
theorem Inv.dem {U A T : Int} {n : Nat} {s : M1} {b : J1} (h : Inv U A T n s b) : 0 ≤ (s 8).toInt ∧ (s 8).toInt ≤ 3000 := h.2.2.2.2.2.2.2.1
theorem Inv.tim {U A T : Int} {n : Nat} {s : M1} {b : J1} (h : Inv U A T n s b) : 0 ≤ (s 11).toInt ∧ (s 11).toInt ≤ T := h.2.2.2.2.2.2.2.2.1
theorem Inv.unm {U A T : Int} {n : Nat} {s : M1} {b : J1} (h : Inv U A T n s b) : 0 ≤ (b 3).toInt ∧ (b 3).toInt ≤ 3000 * (s 11).toInt + U := h.2.2.2.2.2.2.2.2.2.1
theorem Inv.cmp {U A T : Int} {n : Nat} {s : M1} {b : J1} (h : Inv U A T n s b) : ∀ c, c < n → Cok s c := h.2.2.2.2.2.2.2.2.2.2.1
theorem Inv.prm {U A T : Int} {n : Nat} {s : M1} {b : J1} (h : Inv U A T n s b) : Prm n s := h.2.2.2.2.2.2.2.2.2.2.2.1
theorem Inv.res {U A T : Int} {n : Nat} {s : M1} {b : J1} (h : Inv U A T n s b) : ∃ r : Nat, r ≤ 6 ∧ s 14 = Int32.ofNat r := h.2.2.2.2.2.2.2.2.2.2.2.2
