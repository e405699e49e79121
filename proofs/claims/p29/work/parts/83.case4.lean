/-- a compressor's fields made 0 -/
def zrk (s : M1) (c : Nat) : Nat → M1
  | 0 => s
  | k + 1 => sg (zrk s c k) (21 + 7 * c + k) 0
theorem zrk_o {s : M1} {c k i : Nat} (h : i < 21 + 7 * c ∨ 21 + 7 * c + k ≤ i) : zrk s c k i = s i := by
  induction k with
  | zero => rfl
  | succ k ih => unfold zrk; rw [sg_ne _ _ (by omega), ih (by omega)]
theorem zrk_i {s : M1} {c k j : Nat} (h : j < k) : zrk s c k (21 + 7 * c + j) = 0 := by
  induction k with
  | zero => omega
  | succ k ih =>
    unfold zrk
    by_cases e : j = k
    · subst e; rw [sg_eq]
    · rw [sg_ne _ _ (by omega), ih (by omega)]
/-- a new compressor -/
def adc (s : M1) (n : Nat) (x : Int32) : M1 := sg (sg (sg (zrk s n 7) (21 + 7 * n) x) (56 + n) (Int32.ofNat n)) 10 (Int32.ofNat (n + 1))
theorem adc_o {s : M1} {n i : Nat} {x : Int32} (h : i < 21 + 7 * n ∨ 28 + 7 * n ≤ i) (h1 : i ≠ 56 + n) (h2 : i ≠ 10) : adc s n x i = s i := by
  unfold adc
  rw [sg_ne _ _ h2, sg_ne _ _ h1, sg_ne _ _ (by omega), zrk_o (by omega)]
theorem adc_0 {s : M1} {n : Nat} {x : Int32} (hn : n < 5) : adc s n x (21 + 7 * n) = x := by
  unfold adc
  rw [sg_ne _ _ (by omega), sg_ne _ _ (by omega), sg_eq]
theorem adc_f {s : M1} {n f : Nat} {x : Int32} (hn : n < 5) (h : 0 < f) (h7 : f < 7) : adc s n x (21 + 7 * n + f) = 0 := by
  unfold adc
  rw [sg_ne _ _ (by omega), sg_ne _ _ (by omega), sg_ne _ _ (by omega), zrk_i (by omega)]
theorem adc_10 {s : M1} {n : Nat} {x : Int32} : adc s n x 10 = Int32.ofNat (n + 1) := sg_eq _ _ _
theorem adc_n {s : M1} {n : Nat} {x : Int32} : adc s n x (56 + n) = Int32.ofNat n := by
  unfold adc; rw [sg_ne _ _ (by omega), sg_eq]
theorem adc_prm {s : M1} {n : Nat} {x : Int32} (hn : n < 5) (hp : Prm n s) : Prm (n + 1) (adc s n x) ∧ ∀ c, c < n + 1 → stg (adc s n x) c = if c < n then stg s c else n := by
  refine Prm.of (by omega) (fun c => if c < n then stg s c else n) (fun c hc => ?_) (fun c d hc hd h => ?_) (fun c hc => ?_)
  · split
    · have := (hp.at_ c (by assumption)).1; omega
    · omega
  · by_cases h1 : c < n
    · obtain ⟨a1, a2⟩ := hp.at_ c h1
      rw [if_pos h1] at h
      by_cases h2 : d < n
      · obtain ⟨b1, b2⟩ := hp.at_ d h2
        rw [if_pos h2] at h
        rw [h, b2, pn_eq (by omega) (by omega)] at a2
        exact a2.symm
      · rw [if_neg h2] at h; omega
    · rw [if_neg h1] at h
      by_cases h2 : d < n
      · obtain ⟨b1, b2⟩ := hp.at_ d h2
        rw [if_pos h2] at h; omega
      · omega
  · by_cases h1 : c < n
    · obtain ⟨a1, a2⟩ := hp.at_ c h1
      rw [if_pos h1, adc_o (by omega) (by omega) (by omega)]
      exact a2
    · rw [if_neg h1, adc_n, show c = n by omega]
theorem Inv_adc {U A T : Int} {n : Nat} {s : M1} {b : J1} {x : Int32} (h : Inv U A T n s b) (hn : n < 5) (hx : 10 ≤ x.toInt ∧ x.toInt ≤ 500) : Inv U A T (n + 1) (adc s n x) b := by
  have e : ∀ i, i < 21 → i ≠ 10 → adc s n x i = s i := fun i h1 h2 => adc_o (by omega) (by omega) h2
  refine ⟨by omega, adc_10, ?_, ?_, ?_, ?_, ?_, ?_, ?_, ?_, fun d hd => ?_, (adc_prm hn h.prm).1, ?_⟩
  · rw [e 0 (by omega) (by omega)]; exact h.vol
  · rw [e 1 (by omega) (by omega)]; exact h.air
  · rw [e 4 (by omega) (by omega)]; exact h.rel
  · rw [e 6 (by omega) (by omega)]; exact h.rst
  · rw [e 7 (by omega) (by omega)]; exact h.lek
  · rw [e 8 (by omega) (by omega)]; exact h.dem
  · rw [e 11 (by omega) (by omega)]; exact h.tim
  · rw [e 11 (by omega) (by omega)]; exact h.unm
  · by_cases hd2 : d < n
    · exact (h.cmp d hd2).congr (fun f hf _ _ _ => adc_o (by omega) (by omega) (by omega))
    · obtain rfl : d = n := by omega
      unfold Cok
      rw [adc_0 hn, adc_f hn (by omega) (by omega), adc_f hn (by omega) (by omega), adc_f hn (by omega) (by omega)]
      exact ⟨hx, Or.inl rfl, by decide, fun _ => rfl, fun _ => rfl⟩
  · rw [e 14 (by omega) (by omega)]; exact h.res
theorem pc_inst {n : Nat} {M : M2} {J : J2} {s : M1} {b : J1} {x : Int32} (hn : n < 5) (hc : s 10 = Int32.ofNat n) (hp : Prm n s) (h : Rep n M J s b) : ∃ M', fX3_install x M J = some (Int32.ofNat n, M', J) ∧ Rep (n + 1) M' J (adc s n x) b := by
  have h10 : M 0 5 = Int32.ofNat n := by rw [h.o.2.2.2.2.2.1, hc]
  obtain ⟨o0, o1, o2, o3, o4, o5, o6⟩ := h.o
  unfold fX3_install
  rw [h10, bnd_s, pn_s, pc_num (n := n + 1) (by omega) (by simp [up2_ap]) (by omega), if_pos (by omega)]
  simp only [Option.bind_some, oc_ss]
  rw [chk_t (pc_isC hn)]
  unfold fX0_begin
  simp only [bnd_s, bd2_s]
  have q : ∀ (M : M2) (r k : Nat) (x : Int32) (r' : Nat), r' ≠ r → up2 M r k x r' = M r' := fun M r k x r' hr => by unfold up2; exact sg_ne _ _ hr
  have e : ∀ i, i < 21 → i ≠ 10 → adc s n x i = s i := fun i h1 h2 => adc_o (by omega) (by omega) h2
  refine ⟨_, rfl, ?_, fun k hk => ?_, h.am, fun d hd => ?_, fun r hr h14 k hk => ?_⟩
  · unfold RO
    rw [q _ _ _ _ _ (by omega), q _ _ _ _ _ (by omega), q _ _ _ _ _ (by omega), q _ _ _ _ _ (by omega), q _ _ _ _ _ (by omega), q _ _ _ _ _ (by omega), q _ _ _ _ _ (by omega), q _ _ _ _ _ (by omega)]
    rw [e 0 (by omega) (by omega), e 1 (by omega) (by omega), e 11 (by omega) (by omega), e 12 (by omega) (by omega), e 13 (by omega) (by omega), e 14 (by omega) (by omega), adc_10]
    simp [up2_ap, o0, o1, o2, o3, o4, o6]
  · rw [q _ _ _ _ _ (by omega), q _ _ _ _ _ (by omega), q _ _ _ _ _ (by omega), q _ _ _ _ _ (by omega), q _ _ _ _ _ (by omega), q _ _ _ _ _ (by omega), q _ _ _ _ _ (by omega), q _ _ _ _ _ (by omega), q _ _ _ _ _ (by omega), e _ (by omega) (by omega)]
    exact h.st k hk
  · have hs := (adc_prm (x := x) hn hp).2 d hd
    by_cases hd2 : d < n
    · have h2 := h.c d hd2
      unfold RC at *
      rw [hs, if_pos hd2, q _ _ _ _ _ (by omega), q _ _ _ _ _ (by omega), q _ _ _ _ _ (by omega), q _ _ _ _ _ (by omega), q _ _ _ _ _ (by omega), q _ _ _ _ _ (by omega), q _ _ _ _ _ (by omega), q _ _ _ _ _ (by omega), q _ _ _ _ _ (by omega)]
      rw [adc_o (i := 21 + 7 * d) (by omega) (by omega) (by omega), adc_o (i := 21 + 7 * d + 1) (by omega) (by omega) (by omega), adc_o (i := 21 + 7 * d + 2) (by omega) (by omega) (by omega), adc_o (i := 21 + 7 * d + 3) (by omega) (by omega) (by omega), adc_o (i := 21 + 7 * d + 4) (by omega) (by omega) (by omega), adc_o (i := 21 + 7 * d + 5) (by omega) (by omega) (by omega), adc_o (i := 21 + 7 * d + 6) (by omega) (by omega) (by omega)]
      exact h2
    · obtain rfl : d = n := by omega
      unfold RC
      rw [hs, if_neg hd2, adc_0 hn, adc_f hn (by omega) (by omega), adc_f hn (by omega) (by omega), adc_f hn (by omega) (by omega), adc_f hn (by omega) (by omega), adc_f hn (by omega) (by omega), adc_f hn (by omega) (by omega)]
      simp [up2_ap]
  · rw [e 14 (by omega) (by omega)] at h14
    rw [q _ _ _ _ _ (by omega), q _ _ _ _ _ (by omega), q _ _ _ _ _ (by omega), q _ _ _ _ _ (by omega), q _ _ _ _ _ (by omega), q _ _ _ _ _ (by omega), q _ _ _ _ _ (by omega), q _ _ _ _ _ (by omega), q _ _ _ _ _ (by omega), e _ (by omega) (by omega)]
    exact h.r r hr h14 k hk
