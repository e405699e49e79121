theorem one_of {x : Int32} {n : Nat} (h : 0 ≤ x.toInt ∧ x.toInt < n) : ∃ c : Nat, c < n ∧ x = Int32.ofNat c := ⟨x.toInt.toNat, by omega, pn_of h.1⟩
theorem c_lt {c n : Nat} (h : c < n) (hn : n ≤ 5) : 0 ≤ (Int32.ofNat c).toInt ∧ (Int32.ofNat c).toInt < n := by rw [pn_ti (by omega)]; omega
/-- one compressor changed: the bounds stand -/
theorem Inv_cmp {U A T : Int} {n c : Nat} {s s' : M1} {b : J1} (h : Inv U A T n s b) (hc : c < n) (e : ∀ i, i < 21 + 7 * c ∨ 28 + 7 * c ≤ i → s' i = s i) (hk : Cok s' c) : Inv U A T n s' b := by
  have hn := h.n5
  refine ⟨hn, ?_, ?_, ?_, ?_, ?_, ?_, ?_, ?_, ?_, fun d hd => ?_, h.prm.congr (fun i hi => e i (by omega)), ?_⟩
  · rw [e 10 (by omega)]; exact h.cnt
  · rw [e 0 (by omega)]; exact h.vol
  · rw [e 1 (by omega)]; exact h.air
  · rw [e 4 (by omega)]; exact h.rel
  · rw [e 6 (by omega)]; exact h.rst
  · rw [e 7 (by omega)]; exact h.lek
  · rw [e 8 (by omega)]; exact h.dem
  · rw [e 11 (by omega)]; exact h.tim
  · rw [e 11 (by omega)]; exact h.unm
  · by_cases hd2 : d = c
    · subst hd2; exact hk
    · exact (h.cmp d hd).congr (fun f hf _ _ _ => e (21 + 7 * d + f) (by omega))
  · rw [e 14 (by omega)]; exact h.res
/-- a tripped compressor -/
def trp (s : M1) (c : Nat) : M1 := sg (sg (sg s (21 + 7 * c + 1) 3) (21 + 7 * c + 4) 0) (21 + 7 * c + 5) 0
theorem trp_out {s : M1} {c i : Nat} (h : i < 21 + 7 * c ∨ 28 + 7 * c ≤ i) : trp s c i = s i := by
  unfold trp; rw [sg_ne _ _ (by omega), sg_ne _ _ (by omega), sg_ne _ _ (by omega)]
theorem trp_cok {s : M1} {c : Nat} (h : Cok s c) : Cok (trp s c) c := by
  obtain ⟨h1, h2, h3, h4, h5⟩ := h
  unfold Cok trp
  simp only [sg_ap]
  simp
  exact h1
theorem pc_fail {M : M2} {J : J2} {n c : Nat} {s : M1} {b : J1} (h : Rep n M J s b) (hc : c < n) (hn : n ≤ 5) : ∃ M', fX0_fail (5 + c) M J = some (M', J) ∧ Rep n M' J (trp s c) b := by
  obtain ⟨e0, e1, e2, e3, e4, e5, e6, e7⟩ := h.c c hc
  unfold fX0_fail
  simp only [bnd_s]
  refine ⟨_, rfl, Rep_cmp h hc hn (fun r hr => ?_) (fun i hi => trp_out hi) ?_⟩
  · funext j; simp only [up2_ap]; rw [if_neg hr, if_neg hr, if_neg hr]
  · unfold RC
    rw [stg_congr (s := s) (fun i hi => trp_out (by omega))]
    unfold trp
    simp [up2_ap, sg_ap, e0, e1, e2, e3, e4, e5, e6, e7]
/-- a cleared one -/
def clr (s : M1) (c : Nat) : M1 := sg (sg s (21 + 7 * c + 1) 0) (21 + 7 * c + 5) (s 6)
theorem clr_out {s : M1} {c i : Nat} (h : i < 21 + 7 * c ∨ 28 + 7 * c ≤ i) : clr s c i = s i := by
  unfold clr; rw [sg_ne _ _ (by omega), sg_ne _ _ (by omega)]
theorem clr_cok {s : M1} {c : Nat} (h : Cok s c) (hm : s (21 + 7 * c + 1) = 3) (h6 : 0 ≤ (s 6).toInt) : Cok (clr s c) c := by
  obtain ⟨h1, h2, h3, h4, h5⟩ := h
  have h7 := h5 (by rw [hm]; decide)
  unfold Cok clr
  simp only [sg_ap]
  simp
  exact ⟨h1, h6, h7⟩
theorem pc_stop {M : M2} {J : J2} {n c : Nat} {s : M1} {b : J1} (h : Rep n M J s b) (hc : c < n) (hn : n ≤ 5) (hk : Cok s c) (hm : s (21 + 7 * c + 1) = 3) : ∃ M', fX0_stop (5 + c) (M 1 4) M J = some (M', J) ∧ Rep n M' J (clr s c) b ∧ M' (5 + c) 2 = Int32.ofNat (stg s c) := by
  obtain ⟨e0, e1, e2, e3, e4, e5, e6, e7⟩ := h.c c hc
  have h7 := hk.2.2.2.2 (by rw [hm]; decide)
  have s4 := h.st 4 (by omega)
  unfold fX0_stop
  simp only [bnd_s]
  refine ⟨_, rfl, Rep_cmp h hc hn (fun r hr => ?_) (fun i hi => clr_out hi) ?_, ?_⟩
  · funext j; simp only [up2_ap]; rw [if_neg hr, if_neg hr, if_neg hr]
  · unfold RC
    rw [stg_congr (s := s) (fun i hi => clr_out (by omega))]
    unfold clr
    simp [up2_ap, sg_ap, e0, e1, e2, e3, e4, e5, e6, e7, h7, s4]
  · simp [up2_ap, e2]
