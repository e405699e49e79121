theorem Fq_flk {A T : Int} {n : Nat} {s : M1} {b : J1} (h : Fq A T n (s, b)) (hA : 0 ≤ A ∧ A ≤ 90000) (hT : 0 ≤ T ∧ T ≤ 1000000) (hn : n ≤ 5) (hc : ∀ c, c < n → 10 ≤ (s (21 + 7 * c)).toInt ∧ (s (21 + 7 * c)).toInt ≤ 500) : Fq (A + 2500) (T + 1) n (flk s b n) := by
  have key : ∀ k, k ≤ n → ((flk s b k).1 0 = 1000 ∧ (flk s b k).1 4 = 10000 ∧ 10 ≤ ((flk s b k).1 3).toInt) ∧ (0 ≤ ((flk s b k).1 1).toInt ∧ ((flk s b k).1 1).toInt ≤ A + 500 * (k : Int)) ∧ Lb (T + 1) k (flk s b k).1 ∧ (∀ c, k ≤ c → c < n → (0 ≤ ((flk s b k).1 (21 + 7 * c + 2)).toInt ∧ ((flk s b k).1 (21 + 7 * c + 2)).toInt ≤ T) ∧ 0 ≤ ((flk s b k).1 (21 + 7 * c + 3)).toInt ∧ ((flk s b k).1 (21 + 7 * c + 3)).toInt ≤ T) ∧ Aeq (flk s b k).1 (flk s b k).2 ∧ (flk s b k).2 5 = en (flk s b k).1 n := by
    intro k
    induction k with
    | zero =>
      intro _
      obtain ⟨h1, h2, h3, h4, h5⟩ := h
      exact ⟨h1, by simpa [flk] using h2, fun c hc => by omega, fun c _ hc => h3 c hc, h4, h5⟩
    | succ k ih =>
      intro hk
      have h1 := ih (by omega)
      have h2 := Fq_flb (n := n) (k := k) h1 (by omega) hT (by omega) (by rw [show 21 + 7 * k = 21 + 7 * k + 0 from rfl, flk_up (Nat.le_refl _)]; exact hc k (by omega))
      obtain ⟨a1, a2, a3⟩ := h2
      exact ⟨a1, ⟨a2.1, by have := a2.2; show ((flb (flk s b k) k).1 1).toInt ≤ _; omega⟩, a3⟩
  obtain ⟨a1, a2, a3, -, a5, a6⟩ := key n (Nat.le_refl _)
  exact ⟨a1, ⟨a2.1, by omega⟩, a3, a5, a6⟩
theorem Fq_air {A A' T : Int} {n : Nat} {s : M1} {b b' : J1} {x : Int32} (h : Fq A T n (s, b)) (hx : 0 ≤ x.toInt ∧ x.toInt ≤ A') (h5 : b' 5 = b 5) (ha : x.toInt64 + b' 1 + b' 2 + b' 4 - b' 0 = (s 1).toInt64 + b 1 + b 2 + b 4 - b 0) : Fq A' T n (sg s 1 x, b') := by
  obtain ⟨⟨h1, h2, h3⟩, h4, h6, h7, h8⟩ := h
  have e : ∀ i, i ≠ 1 → sg s 1 x i = s i := fun i hi => sg_ne _ _ hi
  have hs : Sm n s (sg s 1 x) := fun c hc => ⟨e _ (by omega), e _ (by omega), e _ (by omega)⟩
  refine ⟨⟨(e 0 (by decide)).trans h1, (e 4 (by decide)).trans h2, by dsimp only; rw [e 3 (by decide)]; exact h3⟩, by dsimp only; rw [sg_eq]; exact hx, Lb_cg h6 hs, ?_, ?_⟩
  · unfold Aeq at *
    dsimp only at *
    rw [sg_eq, ha]; exact h7
  · dsimp only at *
    rw [h5, h8]
    exact (en_cg hs).symm
theorem Fq_lkd {A T : Int} {n : Nat} {q : M1 × J1} {p : Int32} (h : Fq A T n q) (hA : A ≤ 100000) (hl : 0 ≤ (lkg q.1 p).toInt ∧ (lkg q.1 p).toInt ≤ (q.1 1).toInt) : Fq A T n (lkd q p) := by
  have h4 := h.2.1
  refine Fq_air (s := q.1) (b := q.2) (A := A) h ?_ (sg_ne _ _ (by decide)) ?_
  · rw [pi_sub (by omega) (by omega)]; omega
  · rw [t64_sub (by omega) (by omega), sg_eq, sg_ne _ _ (by decide), sg_ne _ _ (by decide), sg_ne _ _ (by decide)]
    grind
theorem Fq_tkd {A T : Int} {n : Nat} {q : M1 × J1} (h : Fq A T n q) (hA : A ≤ 100000) (hl : 0 ≤ (tkn q.1).toInt ∧ (tkn q.1).toInt ≤ (q.1 1).toInt) : Fq A T n (tkd q) := by
  have h4 := h.2.1
  refine Fq_air (s := q.1) (b := q.2) (A := A) h ?_ ?_ ?_
  · rw [pi_sub (by omega) (by omega)]; omega
  · rw [sg_ne _ _ (by decide), sg_ne _ _ (by decide)]
  · rw [t64_sub (by omega) (by omega), sg_ne _ _ (by decide : (1 : Nat) ≠ 3), sg_ne _ _ (by decide : (1 : Nat) ≠ 2), sg_ne _ _ (by decide : (2 : Nat) ≠ 3), sg_eq, sg_ne _ _ (by decide : (4 : Nat) ≠ 3), sg_ne _ _ (by decide : (4 : Nat) ≠ 2), sg_ne _ _ (by decide : (0 : Nat) ≠ 3), sg_ne _ _ (by decide : (0 : Nat) ≠ 2)]
    grind
theorem Fq_blw {A T : Int} {n : Nat} {q : M1 × J1} (h : Fq A T n q) (hA : A ≤ 100000) : Fq 10000 T n (blw q) := by
  have h4 := h.2.1
  have h0 := h.1.1
  have hr := h.1.2.1
  have z : (1000 : Int32).toInt = 1000 := by decide
  have z4 : (10000 : Int32).toInt = 10000 := by decide
  unfold blw
  rw [h0, hr, show (10000 : Int32) * 1000 / 1000 = 10000 by decide]
  obtain ⟨g1, g2, g3⟩ := pi_mul (x := q.1 1) (y := 1000) (B := 100000) (C := 1000) ⟨h4.1, by omega⟩ ⟨by decide, by decide⟩ (by decide)
  have g4 := pi_div (x := q.1 1 * 1000) (y := 1000) (by omega) (by decide)
  rw [g1, z] at g4
  split
  · rename_i hc
    rw [Int32.le_iff_toInt_le, g4, z4] at hc
    obtain ⟨a1, a2, a3⟩ := h
    exact ⟨a1, ⟨a2.1, by omega⟩, a3⟩
  · rename_i hc
    refine Fq_air (s := q.1) (b := q.2) (A := A) h ⟨by decide, by decide⟩ (sg_ne _ _ (by decide)) ?_
    rw [t64_sub (by omega) (by omega), sg_eq, sg_ne _ _ (by decide), sg_ne _ _ (by decide), sg_ne _ _ (by decide)]
    grind
theorem Fq_tik {A T : Int} {n : Nat} {q : M1 × J1} (h : Fq A T n q) : Fq A T n (tik q) := by
  have e : ∀ i, i ≠ 11 → i ≠ 12 → sg (sg q.1 11 (q.1 11 + 1)) 12 (q.1 12 + 1) i = q.1 i := fun i h1 h2 => by rw [sg_ne _ _ h2, sg_ne _ _ h1]
  exact Fq_cg (s := q.1) (b := q.2) h (e 0 (by decide) (by decide)) (e 1 (by decide) (by decide)) (e 3 (by decide) (by decide)) (e 4 (by decide) (by decide)) (fun c hc => ⟨e _ (by omega) (by omega), e _ (by omega) (by omega), e _ (by omega) (by omega)⟩)
/-- the property between two minutes -/
abbrev Pq (n : Nat) (q : M1 × J1) : Prop := Fq 10000 (q.1 11).toInt n q
theorem Pq_mnt {T : Int} {n : Nat} {q : M1 × J1} (hI : Iv T n q) (hT : T ≤ 900000) (h : Pq n q) : Pq n (mnt n q) := by
  have hn := hI.n5
  have ht := hI.tim
  have h1 := Inv_mrot hI
  obtain ⟨-, hp⟩ := prs_in h1.air (by omega) h1.vol.1
  have h2 := Inv_dzk (p := prs (mrot q.1 n)) h1 (Nat.le_refl n)
  have h3 := Inv_flk h2 (by omega) (Nat.le_refl n)
  have h4 := Inv_lkd h3 (by omega) hp
  have hl := lkg_in h3 hp
  have hk := tkn_in h4
  obtain ⟨-, e11⟩ := Iv_mnt hI (by omega)
  unfold Pq
  rw [e11]
  have g1 : Fq 10000 (q.1 11).toInt n (mrot q.1 n, q.2) := Fq_mrot h hn
  have g2 := Fq_dzk (p := prs (mrot q.1 n)) g1 hn
  have g3 := Fq_flk g2 (by omega) (by omega) hn (fun c hc => (h2.cmp c hc).1)
  exact Fq_tik (Fq_blw (Fq_tkd (Fq_lkd g3 (by omega) hl) (by omega) ⟨hk.1, hk.2.1⟩) (by omega))
theorem Pq_tst {T : Int} {n : Nat} {q : M1 × J1} (hI : Iv T n q) (hT : T ≤ 900000) (h : Pq n q) : Pq n (tst n q) := by
  have hn := hI.n5
  have ht := hI.tim
  have h1 := Inv_mrot hI
  obtain ⟨-, hp⟩ := prs_in h1.air (by omega) h1.vol.1
  have h3 := Inv_flk h1 (by omega) (Nat.le_refl n)
  have hl := lkg_in h3 hp
  obtain ⟨-, e11⟩ := Iv_tst hI (by omega)
  unfold Pq
  rw [e11]
  have g1 : Fq 10000 (q.1 11).toInt n (mrot q.1 n, q.2) := Fq_mrot h hn
  have g3 := Fq_flk g1 (by omega) (by omega) hn (fun c hc => (h1.cmp c hc).1)
  exact Fq_tik (Fq_blw (Fq_lkd g3 (by omega) hl) (by omega))
theorem Pq_mik {T : Int} {n k : Nat} {q : M1 × J1} (hI : Iv T n q) (hT : T + (k : Int) ≤ 900000) (h : Pq n q) : Pq n (mik n q k) := by
  induction k with
  | zero => exact h
  | succ k ih => exact Pq_mnt (Iv_mik (k := k) hI (by omega)).1 (by omega) (ih (by omega))
theorem Pq_tsk {T : Int} {n k : Nat} {q : M1 × J1} (hI : Iv T n q) (hT : T + (k : Int) ≤ 900000) (h : Pq n q) : Pq n (tsk n q k) := by
  induction k with
  | zero => exact h
  | succ k ih => exact Pq_tst (Iv_tsk (k := k) hI (by omega)).1 (by omega) (ih (by omega))
theorem ulk_k {s : M1} {k c f : Nat} (hf : f = 0 ∨ f = 2 ∨ f = 3) : ulk s k (21 + 7 * c + f) = s (21 + 7 * c + f) := by
  induction k with
  | zero => rfl
  | succ k ih => unfold ulk; rw [ulb_at (by omega) (by omega), ih]
theorem Pq_ulk {n : Nat} {s : M1} {b : J1} (h : Pq n (s, b)) (hn : n ≤ 5) : Pq n (ulk s n, b) := by
  have e : ∀ i, i < 21 → ulk s n i = s i := fun i hi => ulk_at hn (Or.inl hi)
  unfold Pq at *
  dsimp only at *
  rw [e 11 (by decide)]
  exact Fq_cg h (e 0 (by decide)) (e 1 (by decide)) (e 3 (by decide)) (e 4 (by decide)) (fun c hc => ⟨ulk_k (f := 0) (by omega), ulk_k (by omega), ulk_k (by omega)⟩)
theorem Pq_kpr {n r : Nat} {s : M1} {b : J1} {x : Int32} (h : Pq n (s, b)) (hr : r ≤ 6) : Pq n (kpr s r x, b) := by
  unfold Pq at *
  dsimp only at *
  rw [kpr_at hr (by omega)]
  exact Fq_cg h (kpr_at hr (by omega)) (kpr_at hr (by omega)) (kpr_at hr (by omega)) (kpr_at hr (by omega)) (fun c hc => ⟨kpr_at hr (by omega), kpr_at hr (by omega), kpr_at hr (by omega)⟩)
theorem Pq_rots {n : Nat} {s : M1} {b : J1} (h : Pq n (s, b)) (hn : n ≤ 5) : Pq n (rots s n, b) := by
  unfold Pq at *
  dsimp only at *
  rw [rots_at (by omega) (by omega) (by omega)]
  exact Fq_rots h hn
/-- one compressor's mode, timer, rest changed -/
theorem Pq_cmp {n c : Nat} {s t : M1} {b : J1} (h : Pq n (s, b)) (e : ∀ i, i < 21 + 7 * c ∨ 28 + 7 * c ≤ i → t i = s i) (e2 : ∀ f, f = 0 ∨ f = 2 ∨ f = 3 → t (21 + 7 * c + f) = s (21 + 7 * c + f)) : Pq n (t, b) := by
  unfold Pq at *
  dsimp only at *
  rw [e 11 (by omega)]
  refine Fq_cg h (e _ (by omega)) (e _ (by omega)) (e _ (by omega)) (e _ (by omega)) (fun d hd => ?_)
  by_cases hdc : d = c
  · subst hdc; exact ⟨e2 0 (by omega), e2 2 (by omega), e2 3 (by omega)⟩
  · exact ⟨e _ (by omega), e _ (by omega), e _ (by omega)⟩
theorem Pq_trp {n c : Nat} {s : M1} {b : J1} (h : Pq n (s, b)) : Pq n (trp s c, b) :=
  Pq_cmp (c := c) h (fun i hi => trp_out hi) (fun f hf => by unfold trp; rw [sg_ne _ _ (by omega), sg_ne _ _ (by omega), sg_ne _ _ (by omega)])
theorem Pq_clr {n c : Nat} {s : M1} {b : J1} (h : Pq n (s, b)) : Pq n (clr s c, b) :=
  Pq_cmp (c := c) h (fun i hi => clr_out hi) (fun f hf => by unfold clr; rw [sg_ne _ _ (by omega), sg_ne _ _ (by omega)])
/-- a setting changed that the property doesn't name, or the step -/
theorem Pq_set {n k : Nat} {s : M1} {b : J1} {x : Int32} (h : Pq n (s, b)) (hk : k = 1 ∨ k = 6 ∨ k = 7) (hx : k = 1 → 10 ≤ x.toInt) : Pq n (sg s (2 + k) x, b) := by
  unfold Pq at *
  dsimp only at *
  have e : ∀ i, i ≠ 2 + k → sg s (2 + k) x i = s i := fun i hi => sg_ne _ _ hi
  rw [e 11 (by omega)]
  obtain ⟨⟨h1, h2, h3⟩, h4, h5, h6, h7⟩ := h
  have hs : Sm n s (sg s (2 + k) x) := fun c hc => ⟨e _ (by omega), e _ (by omega), e _ (by omega)⟩
  unfold Aeq at h6
  dsimp only at *
  refine ⟨⟨(e 0 (by omega)).trans h1, (e 4 (by omega)).trans h2, ?_⟩, by dsimp only; rw [e 1 (by omega)]; exact h4, Lb_cg h5 hs, ?_, by dsimp only; rw [en_cg hs]; exact h7⟩
  · dsimp only
    rw [sg_ap]
    split
    · exact hx (by omega)
    · exact h3
  · unfold Aeq
    dsimp only
    rw [e 1 (by omega)]; exact h6
theorem Pq_adc {n : Nat} {s : M1} {b : J1} {x : Int32} (h : Pq n (s, b)) (hn : n < 5) (ht : 0 ≤ (s 11).toInt) : Pq (n + 1) (adc s n x, b) := by
  have e : ∀ i, i < 21 + 7 * n → i ≠ 10 → adc s n x i = s i := fun i hi h1 => adc_o (Or.inl hi) (by omega) h1
  have hs : Sm n s (adc s n x) := fun c hc => ⟨e _ (by omega) (by omega), e _ (by omega) (by omega), e _ (by omega) (by omega)⟩
  unfold Pq at *
  dsimp only at *
  rw [e 11 (by omega) (by omega)]
  obtain ⟨⟨h1, h2, h3⟩, h4, h5, h6, h7⟩ := h
  unfold Aeq at h6
  dsimp only at *
  have f2 : adc s n x (21 + 7 * n + 2) = 0 := adc_f hn (by decide) (by decide)
  have f3 : adc s n x (21 + 7 * n + 3) = 0 := adc_f hn (by decide) (by decide)
  have z : (0 : Int32).toInt = 0 := by decide
  refine ⟨⟨(e 0 (by omega) (by omega)).trans h1, (e 4 (by omega) (by omega)).trans h2, by dsimp only; rw [e 3 (by omega) (by omega)]; exact h3⟩, by dsimp only; rw [e 1 (by omega) (by omega)]; exact h4, fun c hc => ?_, ?_, ?_⟩
  · by_cases hcn : c = n
    · subst hcn
      dsimp only
      rw [f2, f3, z]; omega
    · exact Lb_cg h5 hs c (by omega)
  · unfold Aeq
    dsimp only
    rw [e 1 (by omega) (by omega)]; exact h6
  · dsimp only
    unfold en et
    rw [en_cg hs, f2, f3, h7, show (0 : Int32).toInt64 = 0 by decide]
    grind
