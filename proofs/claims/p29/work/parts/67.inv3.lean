theorem Inv_doz {U A T : Int} {n c : Nat} {s : M1} {b : J1} {p : Int32} (h : Inv U A T n s b) (hc : c < n) : Inv U A T n (doz s c (nxt s c p)) b := by
  have hn := h.n5
  have e : ∀ i, i < 21 + 7 * c ∨ 28 + 7 * c ≤ i → doz s c (nxt s c p) i = s i := fun i h1 => doz_out h1
  refine ⟨hn, ?_, ?_, ?_, ?_, ?_, ?_, ?_, ?_, ?_, fun d hd => ?_, h.prm.congr (fun i hi => e i (by omega)), ?_⟩
  · rw [e 10 (by omega)]; exact h.cnt
  · rw [e 0 (by omega)]; exact h.vol
  · rw [e 1 (by omega)]; exact h.air
  · rw [e 4 (by omega)]; exact h.rel
  · rw [e 6 (by omega)]; exact h.rst
  · rw [e 7 (by omega)]; exact h.lek
  · rw [e 8 (by omega)]; exact h.dem
  · rw [e 11 (by omega)]; exact h.tim
  · rw [e 11 (by omega)]; exact h.unm
  · by_cases hd2 : d = c
    · subst hd2; exact doz_cok (h.cmp d hd) h.rst.1
    · exact (h.cmp d hd).congr (fun f hf _ _ _ => e (21 + 7 * d + f) (by omega))
  · rw [e 14 (by omega)]; exact h.res
theorem Inv_dzk {U A T : Int} {n k : Nat} {s : M1} {b : J1} {p : Int32} (h : Inv U A T n s b) (hk : k ≤ n) : Inv U A T n (dzk s p k) b := by
  have hn := h.n5
  induction k with
  | zero => exact h
  | succ k ih =>
    have h2 := Inv_doz (c := k) (p := p) (ih (by omega)) (by omega)
    unfold dzk
    rw [nxt_congr ⟨fun i hi => dzk_at (by omega), fun i hi => dzk_at (by omega), fun g hg => dzk_at (by omega)⟩] at h2
    exact h2
theorem flb_at {q : M1 × J1} {c i : Nat} (h : i ≠ 1) (h2 : i ≠ 21 + 7 * c + 2) (h3 : i ≠ 21 + 7 * c + 3) : (flb q c).1 i = q.1 i := by
  unfold flb
  simp only [apply_ite (fun q : M1 × J1 => q.1 i), sg_ap]
  grind
theorem flb_3 {q : M1 × J1} {c : Nat} : (flb q c).2 3 = q.2 3 := by
  unfold flb
  simp only [apply_ite (fun q : M1 × J1 => q.2 3), sg_ap]
  grind
theorem flb_1 {q : M1 × J1} {c : Nat} : (flb q c).1 1 = if q.1 (21 + 7 * c + 1) = 1 then q.1 1 + q.1 (21 + 7 * c) else q.1 1 := by
  unfold flb
  simp only [apply_ite (fun q : M1 × J1 => q.1 1), sg_ap]
  grind
theorem Inv_flb {U A T : Int} {n c : Nat} {q : M1 × J1} (h : Inv U A T n q.1 q.2) (hA : A ≤ 100000) (hc : c < n) : Inv U (A + 500) T n (flb q c).1 (flb q c).2 := by
  have hn := h.n5
  have ha := h.air
  refine ⟨hn, ?_, ?_, ?_, ?_, ?_, ?_, ?_, ?_, ?_, fun d hd => ?_, h.prm.congr (fun i hi => flb_at (by omega) (by omega) (by omega)), ?_⟩
  · rw [flb_at (by omega) (by omega) (by omega)]; exact h.cnt
  · rw [flb_at (by omega) (by omega) (by omega)]; exact h.vol
  · rw [flb_1]
    have hk := (h.cmp c hc).1
    split
    · rw [pi_add (by omega) (by omega)]; omega
    · omega
  · rw [flb_at (by omega) (by omega) (by omega)]; exact h.rel
  · rw [flb_at (by omega) (by omega) (by omega)]; exact h.rst
  · rw [flb_at (by omega) (by omega) (by omega)]; exact h.lek
  · rw [flb_at (by omega) (by omega) (by omega)]; exact h.dem
  · rw [flb_at (by omega) (by omega) (by omega)]; exact h.tim
  · rw [flb_at (by omega) (by omega) (by omega), flb_3]; exact h.unm
  · exact (h.cmp d hd).congr (fun f hf _ _ _ => flb_at (by omega) (by omega) (by omega))
  · rw [flb_at (by omega) (by omega) (by omega)]; exact h.res
theorem Inv_flk {U A T : Int} {n k : Nat} {s : M1} {b : J1} (h : Inv U A T n s b) (hA : A ≤ 90000) (hk : k ≤ n) : Inv U (A + 500 * (k : Int)) T n (flk s b k).1 (flk s b k).2 := by
  have hn := h.n5
  induction k with
  | zero => rw [show A + 500 * ((0 : Nat) : Int) = A by omega]; exact h
  | succ k ih =>
    have h2 := Inv_flb (c := k) (ih (by omega)) (by omega) (by omega)
    rw [show A + 500 * (k : Int) + 500 = A + 500 * ((k + 1 : Nat) : Int) by omega] at h2
    exact h2
theorem Inv_wk {U U' A A' T T' : Int} {n : Nat} {s : M1} {b : J1} (h : Inv U A T n s b) (h1 : U ≤ U') (h2 : A ≤ A') (h3 : T ≤ T') : Inv U' A' T' n s b :=
  ⟨h.n5, h.cnt, h.vol, ⟨h.air.1, Int.le_trans h.air.2 h2⟩, h.rel, h.rst, h.lek, h.dem, ⟨h.tim.1, Int.le_trans h.tim.2 h3⟩, ⟨h.unm.1, Int.le_trans h.unm.2 (by omega)⟩, h.cmp, h.prm, h.res⟩
/-- air, and an amount of it, changed -/
theorem Inv_air {U U' A A' T : Int} {n : Nat} {s : M1} {b b' : J1} {x : Int32} (h : Inv U A T n s b) (hx : 0 ≤ x.toInt ∧ x.toInt ≤ A') (hu : 0 ≤ (b' 3).toInt ∧ (b' 3).toInt ≤ 3000 * (s 11).toInt + U') : Inv U' A' T n (sg s 1 x) b' := by
  have hn := h.n5
  have e : ∀ i, i ≠ 1 → sg s 1 x i = s i := fun i h1 => sg_ne _ _ h1
  refine ⟨hn, ?_, ?_, ?_, ?_, ?_, ?_, ?_, ?_, ?_, fun d hd => (h.cmp d hd).congr (fun f hf _ _ _ => e _ (by omega)), h.prm.congr (fun i hi => e i (by omega)), ?_⟩
  · rw [e 10 (by omega)]; exact h.cnt
  · rw [e 0 (by omega)]; exact h.vol
  · rw [sg_eq]; exact hx
  · rw [e 4 (by omega)]; exact h.rel
  · rw [e 6 (by omega)]; exact h.rst
  · rw [e 7 (by omega)]; exact h.lek
  · rw [e 8 (by omega)]; exact h.dem
  · rw [e 11 (by omega)]; exact h.tim
  · rw [e 11 (by omega)]; exact hu
  · rw [e 14 (by omega)]; exact h.res
theorem lkg_in {U A T : Int} {n : Nat} {s : M1} {b : J1} {p : Int32} (h : Inv U A T n s b) (hp : 0 ≤ p.toInt ∧ p.toInt ≤ 1000000) : 0 ≤ (lkg s p).toInt ∧ (lkg s p).toInt ≤ (s 1).toInt := by
  have ha := h.air
  unfold lkg
  obtain ⟨h1, h2, h3⟩ := pi_mul (x := p) (y := s 7) (B := 1000000) (C := 50) hp h.lek (by decide)
  have e : (1000 : Int32).toInt = 1000 := by decide
  have h4 := pi_div (x := p * s 7) (y := 1000) (by omega) (by omega)
  split
  · rename_i h5
    rw [Int32.le_iff_toInt_le] at h5
    refine ⟨?_, h5⟩
    rw [h4, h1, e]
    exact Int.ediv_nonneg h2 (by omega)
  · omega
theorem Inv_lkd {U A T : Int} {n : Nat} {q : M1 × J1} {p : Int32} (h : Inv U A T n q.1 q.2) (hA : A ≤ 100000) (hp : 0 ≤ p.toInt ∧ p.toInt ≤ 1000000) : Inv U A T n (lkd q p).1 (lkd q p).2 := by
  have ha := h.air
  have hl := lkg_in h hp
  refine Inv_air h ?_ ?_
  · rw [pi_sub (by omega) (by omega)]; omega
  · unfold lkd; dsimp only; rw [sg_ne _ _ (by decide)]; exact h.unm
theorem tkn_in {U A T : Int} {n : Nat} {s : M1} {b : J1} (h : Inv U A T n s b) : 0 ≤ (tkn s).toInt ∧ (tkn s).toInt ≤ (s 1).toInt ∧ (tkn s).toInt ≤ (s 8).toInt := by
  have ha := h.air
  have hd := h.dem
  unfold tkn
  split
  · rename_i h5
    rw [Int32.le_iff_toInt_le] at h5
    omega
  · rename_i h5
    rw [Int32.le_iff_toInt_le] at h5
    omega
theorem Inv_tkd {A T : Int} {n : Nat} {q : M1 × J1} (h : Inv 0 A T n q.1 q.2) (hA : A ≤ 100000) (hT : T ≤ 2000000) : Inv 3000 A T n (tkd q).1 (tkd q).2 := by
  have ha := h.air
  have ht := h.tim
  have hu := h.unm
  have hd := h.dem
  have hl := tkn_in h
  refine Inv_air h ?_ ?_
  · rw [pi_sub (by omega) (by omega)]; omega
  · unfold tkd; dsimp only; rw [sg_eq, pi_add64 (by omega) (by omega), pi_sub (by omega) (by omega)]; omega
theorem Inv_blw {U A T : Int} {n : Nat} {q : M1 × J1} (h : Inv U A T n q.1 q.2) (hA : A ≤ 100000) : Inv U 80010 T n (blw q).1 (blw q).2 := by
  have ha := h.air
  have hv := h.vol
  have hr := h.rel
  unfold blw
  have e : (1000 : Int32).toInt = 1000 := by decide
  obtain ⟨h1, h2, h3⟩ := prs_in ha hA hv.1
  split
  · rename_i h5
    rw [Int32.le_iff_toInt_le] at h5
    have h6 : (q.1 1).toInt * 1000 / (q.1 0).toInt ≤ 16000 := by rw [← h1]; exact Int.le_trans h5 hr.2
    have h7 : (q.1 1).toInt * 1000 < 16001 * (q.1 0).toInt := by
      have := Int.lt_ediv_add_one_mul_self ((q.1 1).toInt * 1000) (show 0 < (q.1 0).toInt by omega)
      have h8 : ((q.1 1).toInt * 1000 / (q.1 0).toInt + 1) * (q.1 0).toInt ≤ 16001 * (q.1 0).toInt := Int.mul_le_mul_of_nonneg_right (by omega) (by omega)
      omega
    have h9 := Inv_air (x := q.1 1) (b' := q.2) h (A' := 80010) ⟨ha.1, by omega⟩ h.unm
    rw [sg_self] at h9
    exact h9
  · obtain ⟨g1, g2, g3⟩ := pi_mul (x := q.1 4) (y := q.1 0) (B := 16000) (C := 5000) ⟨by omega, hr.2⟩ ⟨by omega, hv.2⟩ (by decide)
    have h4 := pi_div (x := q.1 4 * q.1 0) (y := 1000) (by omega) (by omega)
    rw [g1, e] at h4
    refine Inv_air h ?_ ?_
    · rw [h4]; omega
    · dsimp only; rw [sg_ne _ _ (by decide)]; exact h.unm
theorem Inv_tik {U A T : Int} {n : Nat} {q : M1 × J1} (h : Inv U A T n q.1 q.2) (hU : U ≤ 3000) (hT : T ≤ 2000000) : Inv 0 A (T + 1) n (tik q).1 (tik q).2 ∧ ((tik q).1 11).toInt = (q.1 11).toInt + 1 := by
  have hn := h.n5
  have ht := h.tim
  have hu := h.unm
  have o : (1 : Int32).toInt = 1 := by decide
  have e : ∀ i, i ≠ 11 → i ≠ 12 → (tik q).1 i = q.1 i := fun i h1 h2 => by unfold tik; dsimp only; rw [sg_ne _ _ h2, sg_ne _ _ h1]
  have e11 : ((tik q).1 11).toInt = (q.1 11).toInt + 1 := by
    unfold tik; dsimp only; rw [sg_ne _ _ (by decide), sg_eq, pi_add (by omega) (by omega)]; omega
  refine ⟨⟨hn, ?_, ?_, ?_, ?_, ?_, ?_, ?_, ?_, ?_, fun d hd => (h.cmp d hd).congr (fun f hf _ _ _ => e _ (by omega) (by omega)), h.prm.congr (fun i hi => e i (by omega) (by omega)), ?_⟩, e11⟩
  · rw [e 10 (by omega) (by omega)]; exact h.cnt
  · rw [e 0 (by omega) (by omega)]; exact h.vol
  · rw [e 1 (by omega) (by omega)]; exact h.air
  · rw [e 4 (by omega) (by omega)]; exact h.rel
  · rw [e 6 (by omega) (by omega)]; exact h.rst
  · rw [e 7 (by omega) (by omega)]; exact h.lek
  · rw [e 8 (by omega) (by omega)]; exact h.dem
  · rw [e11]; omega
  · rw [e11]
    show 0 ≤ (q.2 3).toInt ∧ (q.2 3).toInt ≤ _
    omega
  · rw [e 14 (by omega) (by omega)]; exact h.res
/-- the state between two minutes -/
abbrev Iv (T : Int) (n : Nat) (q : M1 × J1) : Prop := Inv 0 80010 T n q.1 q.2
theorem blw_11 {q : M1 × J1} : (blw q).1 11 = q.1 11 := by
  unfold blw; split
  · rfl
  · show sg q.1 1 (q.1 4 * q.1 0 / 1000) 11 = _
    exact sg_ne _ _ (by decide)
theorem flk_at {s : M1} {b : J1} {k i : Nat} (h : i ≠ 1) (h2 : i < 21 ∨ 56 ≤ i) (hk : k ≤ 5) : (flk s b k).1 i = s i := by
  induction k with
  | zero => rfl
  | succ k ih => unfold flk; rw [flb_at h (by omega) (by omega), ih (by omega)]
theorem lkd_at {q : M1 × J1} {p : Int32} {i : Nat} (h : i ≠ 1) : (lkd q p).1 i = q.1 i := sg_ne _ _ h
theorem tkd_at {q : M1 × J1} {i : Nat} (h : i ≠ 1) : (tkd q).1 i = q.1 i := sg_ne _ _ h
theorem Iv_mnt {T : Int} {n : Nat} {q : M1 × J1} (h : Iv T n q) (hT : T ≤ 1000000) : Iv (T + 1) n (mnt n q) ∧ ((mnt n q).1 11).toInt = (q.1 11).toInt + 1 := by
  have hn := h.n5
  have h1 := Inv_mrot h
  obtain ⟨-, hp⟩ := prs_in h1.air (by omega) h1.vol.1
  have h3 := Inv_lkd (Inv_flk (Inv_dzk (p := prs (mrot q.1 n)) h1 (Nat.le_refl n)) (by omega) (Nat.le_refl n)) (by omega) hp
  have h4 := Inv_blw (Inv_tkd h3 (by omega) (by omega)) (by omega)
  obtain ⟨h5, h6⟩ := Inv_tik h4 (by omega) (by omega)
  refine ⟨h5, ?_⟩
  unfold mnt
  rw [h6, blw_11]
  rw [tkd_at (by omega), lkd_at (by omega), flk_at (by omega) (by omega) hn, dzk_at (by omega), mrot_lt (by omega) (by omega) (by omega)]
theorem Iv_tst {T : Int} {n : Nat} {q : M1 × J1} (h : Iv T n q) (hT : T ≤ 1000000) : Iv (T + 1) n (tst n q) ∧ ((tst n q).1 11).toInt = (q.1 11).toInt + 1 := by
  have hn := h.n5
  have h1 := Inv_mrot h
  obtain ⟨-, hp⟩ := prs_in h1.air (by omega) h1.vol.1
  have h3 := Inv_lkd (Inv_flk h1 (by omega) (Nat.le_refl n)) (by omega) hp
  have h4 := Inv_blw h3 (by omega)
  obtain ⟨h5, h6⟩ := Inv_tik h4 (by omega) (by omega)
  refine ⟨h5, ?_⟩
  unfold tst
  rw [h6, blw_11]
  rw [lkd_at (by omega), flk_at (by omega) (by omega) hn, mrot_lt (by omega) (by omega) (by omega)]
