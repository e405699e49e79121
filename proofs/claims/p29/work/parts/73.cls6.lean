theorem lkd_air {U A T : Int} {n : Nat} {q : M1 × J1} {p : Int32} (h : Inv U A T n q.1 q.2) (hA : A ≤ 100000) (hp : 0 ≤ p.toInt ∧ p.toInt ≤ 1000000) : ¬ (lkd q p).1 1 < 0 := by
  have h2 := (Inv_lkd h hA hp).air
  have z : (0 : Int32).toInt = 0 := by decide
  rw [Int32.lt_iff_toInt_lt]; omega
theorem pc_min19 {F : Nat} {T : Int} {n : Nat} {M : M2} {J : J2} {s : M1} {b : J1} (hF : 1000 ≤ F) (hI : Iv T n (s, b)) (h : Rep n M J s b) : ∃ M' J', fbX3_runMinute_19 F M J = some (if bzk s (prs s) n then 1 else 0, M', J') ∧ Rep n M' J' (tik (blw (tkd (lkd (flk (dzk s (prs s) n) b n) (prs s))))).1 (tik (blw (tkd (lkd (flk (dzk s (prs s) n) b n) (prs s))))).2 := by
  have hn := hI.n5
  obtain ⟨-, hp⟩ := prs_in hI.air (by omega) hI.vol.1
  unfold fbX3_runMinute_19
  rw [pc_press (Inv_v0 hI).1 h]
  obtain ⟨M1', g1, g2⟩ := pc_look (F := F) (p := prs s) hF hI h
  simp only [Option.bind_some]
  rw [g1, bd3_s]
  have hI2 := Inv_dzk (p := prs s) hI (Nat.le_refl n)
  have e8 : M1' 1 6 = dzk s (prs s) n 8 := g2.st 6 (by omega)
  obtain ⟨M2', J2', k1, k2⟩ := pc_flows (F := F) (p := prs s) false hF hn hI2.cnt g2 (Inv_v0 hI2).1 (lkd_air (Inv_flk hI2 (by omega) (Nat.le_refl n)) (by omega) hp)
  rw [e8]
  simp only [Bool.false_eq_true, if_false] at k1 k2
  rw [k1, bd3_s]
  have hb : ∀ x : Bool, (if x = true then (1 : Int32) else 0) = 0 ∨ (if x = true then (1 : Int32) else 0) = 1 := fun x => by cases x <;> simp
  rw [chk_t (hb _)]
  exact ⟨M2', J2', rfl, k2⟩
theorem pc_minute {F : Nat} {T : Int} {n : Nat} {M : M2} {J : J2} {q : M1 × J1} (hF : 1000 ≤ F) (hI : Iv T n q) (h : Rep n M J q.1 q.2) : ∃ M' J', fX3_runMinute F M J = some (if bzk (mrot q.1 n) (prs (mrot q.1 n)) n then 1 else 0, M', J') ∧ Rep n M' J' (mnt n q).1 (mnt n q).2 := by
  have hn := hI.n5
  obtain ⟨s, b⟩ := q
  dsimp only at h
  have o3 := h.o.2.2.2.1
  have s7 := h.st 7 (by omega)
  unfold fX3_runMinute mnt
  dsimp only
  rw [o3, s7]
  have hI2 : Iv T n (mrot s n, b) := Inv_mrot hI
  by_cases hc : s 12 < s 9
  · have e : mrot s n = s := if_pos hc
    rw [if_pos hc]
    rw [e] at hI2 ⊢
    exact pc_min19 hF hI2 h
  · have e : mrot s n = rots s n := if_neg hc
    rw [if_neg hc]
    obtain ⟨M', h1, h2⟩ := pc_rot (F := F) hF hn hI.cnt hI.prm h
    rw [h1, bd3_s]
    rw [e] at hI2 ⊢
    exact pc_min19 hF hI2 h2
def mik (n : Nat) (q : M1 × J1) : Nat → M1 × J1
  | 0 => q
  | k + 1 => mnt n (mik n q k)
theorem Iv_mik {T : Int} {n k : Nat} {q : M1 × J1} (h : Iv T n q) (hT : T + (k : Int) ≤ 1000000) : Iv (T + (k : Int)) n (mik n q k) ∧ ((mik n q k).1 11).toInt = (q.1 11).toInt + (k : Int) := by
  induction k with
  | zero => exact ⟨by rw [show T + ((0 : Nat) : Int) = T by omega]; exact h, by unfold mik; omega⟩
  | succ k ih =>
    obtain ⟨h1, h2⟩ := ih (by omega)
    obtain ⟨h3, h4⟩ := Iv_mnt h1 (by omega)
    refine ⟨?_, ?_⟩
    · rw [show T + ((k + 1 : Nat) : Int) = T + (k : Int) + 1 by omega]; exact h3
    · show ((mnt n (mik n q k)).1 11).toInt = _
      rw [h4, h2]; omega
theorem pc_minutesL {F : Nat} {T : Int} {n N : Nat} {q : M1 × J1} (hF : 1000 ≤ F) (hI : Iv T n q) (hN : N ≤ 600) (hT : T ≤ 900000) : ∀ d k m M J, k + d = N → d < m → Rep n M J (mik n q k).1 (mik n q k).2 → ∃ M' J', fbX3_runMinutes_2 F m (Int32.ofNat N) (Int32.ofNat k) M J = some (M', J') ∧ Rep n M' J' (mik n q N).1 (mik n q N).2 := by
  intro d
  induction d with
  | zero =>
    intro k m M J hk hmm h
    obtain ⟨m, rfl⟩ := fu hmm
    refine ⟨M, J, ?_, by rw [← show k = N by omega]; exact h⟩
    show fsX3_runMinutes_2 F _ _ _ _ _ = _
    unfold fsX3_runMinutes_2
    rw [if_pos ((pn_le (by omega) (by omega)).mpr (by omega))]
  | succ d ih =>
    intro k m M J hk hmm h
    obtain ⟨m, rfl⟩ := fu hmm
    obtain ⟨M', J', h1, h2⟩ := pc_minute hF (Iv_mik (k := k) hI (by omega)).1 h
    obtain ⟨M2, J2, h3, h4⟩ := ih (k + 1) m M' J' (by omega) (by omega) h2
    refine ⟨M2, J2, ?_, h4⟩
    show fsX3_runMinutes_2 F (fbX3_runMinutes_2 F m) _ _ _ _ = _
    unfold fsX3_runMinutes_2
    rw [if_neg (fun h => by have := (pn_le (by omega) (by omega)).mp h; omega), h1, bd3_s, pn_s, h3]
theorem pc_minutes {F : Nat} {T : Int} {n N : Nat} {M : M2} {J : J2} {q : M1 × J1} (hF : 1000 ≤ F) (hI : Iv T n q) (hN : N ≤ 600) (hT : T ≤ 900000) (h : Rep n M J q.1 q.2) : ∃ M' J', fX3_runMinutes F (Int32.ofNat N) M J = some (M', J') ∧ Rep n M' J' (mik n q N).1 (mik n q N).2 :=
  pc_minutesL (F := F) hF hI hN hT N 0 F M J (by omega) (by omega) h
/-- all that are loaded unload -/
def ulb (s : M1) (c : Nat) : M1 := if s (21 + 7 * c + 1) = 1 then sg (sg s (21 + 7 * c + 1) 2) (21 + 7 * c + 4) 0 else s
def ulk (s : M1) : Nat → M1
  | 0 => s
  | k + 1 => ulb (ulk s k) k
theorem ulb_at {s : M1} {c i : Nat} (h : i ≠ 21 + 7 * c + 1) (h2 : i ≠ 21 + 7 * c + 4) : ulb s c i = s i := by
  unfold ulb
  split
  · rw [sg_ne _ _ h2, sg_ne _ _ h]
  · rfl
theorem ulk_at {s : M1} {k i : Nat} (hk : k ≤ 5) (h : i < 21 ∨ 56 ≤ i) : ulk s k i = s i := by
  induction k with
  | zero => rfl
  | succ k ih => unfold ulk; rw [ulb_at (by omega) (by omega), ih (by omega)]
theorem ulb_cok {s : M1} {c : Nat} (h : Cok s c) : Cok (ulb s c) c := by
  obtain ⟨h1, h2, h3, h4, h5⟩ := h
  unfold Cok ulb
  simp only [apply_ite (fun f : M1 => f (21 + 7 * c)), apply_ite (fun f : M1 => f (21 + 7 * c + 1)), apply_ite (fun f : M1 => f (21 + 7 * c + 4)), apply_ite (fun f : M1 => f (21 + 7 * c + 5)), sg_ap]
  simp
  grind
theorem Inv_ulb {U A T : Int} {n c : Nat} {s : M1} {b : J1} (h : Inv U A T n s b) (hc : c < n) : Inv U A T n (ulb s c) b := by
  have hn := h.n5
  have e : ∀ i, i < 21 + 7 * c ∨ 28 + 7 * c ≤ i → ulb s c i = s i := fun i h1 => ulb_at (by omega) (by omega)
  refine ⟨hn, ?_, ?_, ?_, ?_, ?_, ?_, ?_, ?_, ?_, fun d hd => ?_, h.prm.congr (fun i hi => e i (by omega)), ?_⟩
  · rw [e 10 (by omega)]; exact h.cnt
  · rw [e 0 (by omega)]; exact h.vol
  · rw [e 1 (by omega)]; exact h.air
  · rw [e 4 (by omega)]; exact h.rel
  · rw [e 6 (by omega)]; exact h.rst
  · rw [e 7 (by omega)]; exact h.lek
  · rw [e 8 (by omega)]; exact h.dem
  · rw [e 11 (by omega)]; exact h.tim
  · rw [e 11 (by omega)]; exact h.unm
  · by_cases hd2 : d = c
    · subst hd2; exact ulb_cok (h.cmp d hd)
    · exact (h.cmp d hd).congr (fun f hf _ _ _ => e (21 + 7 * d + f) (by omega))
  · rw [e 14 (by omega)]; exact h.res
theorem Inv_ulk {U A T : Int} {n k : Nat} {s : M1} {b : J1} (h : Inv U A T n s b) (hk : k ≤ n) : Inv U A T n (ulk s k) b := by
  induction k with
  | zero => exact h
  | succ k ih => exact Inv_ulb (ih (by omega)) (by omega)
theorem pc_unlL {F : Nat} {n : Nat} {s : M1} {b : J1} {J : J2} (hn : n ≤ 5) (h10 : s 10 = Int32.ofNat n) : ∀ d k m M, k + d = 5 → d < m → Rep n M J (ulk s (if k < n then k else n)) b → ∃ M', fbX3_unloadAll_2 F m (Int32.ofNat k) M J = some (M', J) ∧ Rep n M' J (ulk s n) b := by
  intro d
  induction d with
  | zero =>
    intro k m M hk hmm h
    obtain ⟨m, rfl⟩ := fu hmm
    rw [if_neg (show ¬ k < n by omega)] at h
    refine ⟨M, ?_, h⟩
    show fsX3_unloadAll_2 F _ _ _ _ = _
    unfold fsX3_unloadAll_2
    rw [if_pos (pc_ge5 (k := k) (by omega))]
  | succ d ih =>
    intro k m M hk hmm h
    obtain ⟨m, rfl⟩ := fu hmm
    have hc10 : M 0 5 = Int32.ofNat n := by rw [h.o.2.2.2.2.2.1, ulk_at (by split <;> omega) (by omega), h10]
    show ∃ M', fsX3_unloadAll_2 F (fbX3_unloadAll_2 F m) _ _ _ = _ ∧ _
    unfold fsX3_unloadAll_2
    rw [if_neg (pc_lt5 (k := k) (by omega)), pc_num hn hc10 (by omega)]
    by_cases hkn : k < n
    · rw [if_pos hkn] at h
      simp only [Option.bind_some, if_pos hkn, oc_ss]
      rw [chk_t (pc_isC (by omega))]
      have e : (if k + 1 < n then k + 1 else n) = k + 1 := by split <;> omega
      have ih := fun M => ih (k + 1) m M (by omega) (by omega)
      rw [e] at ih
      rw [show ulk s (k + 1) = ulb (ulk s k) k from rfl] at ih
      unfold ulb at ih
      generalize ulk s k = s' at h ih
      obtain ⟨e0, e1, e2, e3, e4, e5, e6, e7⟩ := h.c k hkn
      simp only [fbX3_unloadAll_29, pn_s]
      by_cases h1 : s' (21 + 7 * k + 1) = 1
      · rw [if_neg (by rw [e1]; exact fun h => h h1)]
        rw [if_pos h1] at ih
        unfold fX0_unload
        simp only [bnd_s, bd2_s]
        refine ih _ (Rep_cmp h hkn hn (fun r hr => ?_) (fun i hi => ?_) ?_)
        · funext j; simp only [up2_ap]; rw [if_neg hr, if_neg hr]
        · rw [sg_ne _ _ (by omega), sg_ne _ _ (by omega)]
        · unfold RC
          rw [stg_congr (s := s') (fun i hi => by rw [sg_ne _ _ (by omega), sg_ne _ _ (by omega)])]
          simp [up2_ap, sg_ap, e0, e1, e2, e3, e4, e5, e6, e7]
      · rw [if_pos (by rw [e1]; exact h1)]
        rw [if_neg h1] at ih
        exact ih _ h
    · rw [if_neg hkn] at h
      simp only [Option.bind_some, if_neg hkn, oc_ns, fbX3_unloadAll_29, pn_s]
      exact ih (k + 1) m M (by omega) (by omega) (by rw [if_neg (by omega)]; exact h)
theorem pc_unl {F : Nat} {n : Nat} {M : M2} {J : J2} {s : M1} {b : J1} (hF : 1000 ≤ F) (hn : n ≤ 5) (h10 : s 10 = Int32.ofNat n) (h : Rep n M J s b) : ∃ M', fX3_unloadAll F M J = some (M', J) ∧ Rep n M' J (ulk s n) b := by
  have e1 : (if 0 < n then 0 else n) = 0 := by split <;> omega
  exact pc_unlL (F := F) (s := s) (b := b) hn h10 5 0 F M (by omega) (by omega) (by rw [e1]; exact h)
