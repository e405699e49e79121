/-- one compressor changed on both sides -/
theorem Rep_cmp {n c : Nat} {M M' : M2} {J : J2} {s s' : M1} {b : J1} (h : Rep n M J s b) (hc : c < n) (hn : n ≤ 5) (hM : ∀ r, r ≠ 5 + c → M' r = M r) (hs : ∀ i, i < 21 + 7 * c ∨ 28 + 7 * c ≤ i → s' i = s i) (hR : RC M' s' c) : Rep n M' J s' b := by
  obtain ⟨o0, o1, o2, o3, o4, o5, o6⟩ := h.o
  refine ⟨?_, fun k hk => ?_, h.am, fun d hd => ?_, fun r hr h14 k hk => ?_⟩
  · unfold RO
    rw [hM 0 (by omega), hs 0 (by omega), hs 1 (by omega), hs 11 (by omega), hs 12 (by omega), hs 13 (by omega), hs 10 (by omega), hs 14 (by omega)]
    exact ⟨o0, o1, o2, o3, o4, o5, o6⟩
  · rw [hM 1 (by omega), hs _ (by omega)]; exact h.st k hk
  · by_cases e : d = c
    · subst e; exact hR
    · have h2 := h.c d hd
      unfold RC at *
      rw [hM _ (by omega), stg_congr (s := s) (fun i hi => hs i (by omega)), hs (21 + 7 * d) (by omega), hs (21 + 7 * d + 1) (by omega), hs (21 + 7 * d + 2) (by omega), hs (21 + 7 * d + 3) (by omega), hs (21 + 7 * d + 4) (by omega), hs (21 + 7 * d + 5) (by omega), hs (21 + 7 * d + 6) (by omega)]
      exact h2
  · rw [hs 14 (by omega)] at h14
    rw [hM 3 (by omega), hs _ (by omega)]; exact h.r r hr h14 k hk
theorem pc_doing {n c : Nat} {M : M2} {J : J2} {s : M1} {b : J1} {p : Int32} (h : Rep n M J s b) (hc : c < n) (hk : Cok s c) : fX3_doingOf M J (5 + c) p = nxt s c p := by
  obtain ⟨o0, o1, o2, o3, o4, o5, o6⟩ := h.o
  obtain ⟨e0, e1, e2, e3, e4, e5, e6, e7⟩ := h.c c hc
  have s0 := h.st 0 (by omega)
  have s1 := h.st 1 (by omega)
  have s3 := h.st 3 (by omega)
  unfold fX3_doingOf fX3_limitForLoading fX3_limitForUnloading nxt lbel uabv
  rw [e1, e2, e5, e6, o5, s0, s1, s3]
  obtain ⟨-, hm, -⟩ := hk
  rcases hm with hm | hm | hm | hm <;> simp [hm] <;> grind
theorem pc_carry {n c : Nat} {M : M2} {J : J2} {s : M1} {b : J1} {v : Int32} (h : Rep n M J s b) (hc : c < n) (hn : n ≤ 5) : ∃ M', fX0_carryOn (5 + c) v (M 1 4) M J = some (M', J) ∧ Rep n M' J (doz s c v) b := by
  have hcc := h.c c hc
  obtain ⟨e0, e1, e2, e3, e4, e5, e6, e7⟩ := hcc
  have s4 := h.st 4 (by omega)
  have hst : stg (doz s c v) c = stg s c := stg_congr (fun i hi => doz_out (by omega))
  have key : ∀ M' : M2, (∀ r, r ≠ 5 + c → M' r = M r) → (RC M' (doz s c v) c) → Rep n M' J (doz s c v) b := fun M' h1 h2 => Rep_cmp h hc hn h1 (fun i hi => doz_out hi) h2
  have hup : ∀ (M : M2) (k : Nat) (x : Int32) (r : Nat), r ≠ 5 + c → up2 M (5 + c) k x r = M r := fun M k x r hr => by unfold up2; exact sg_ne _ _ hr
  unfold fX0_carryOn
  by_cases h1 : v = 1
  · subst h1
    refine ⟨_, by simp only [if_true, bnd_s]; rfl, key _ (fun r hr => hup _ _ _ r hr) ?_⟩
    unfold RC
    rw [hst]
    simp only [up2_ap, doz, sg_ap]
    simp [sg_ap, e0, e1, e2, e3, e4, e5, e6, e7]
  by_cases h2 : v = 2
  · subst h2
    simp only [fX0_load, fbX0_load_17, bnd_s]
    by_cases h0 : M (5 + c) 1 = 0
    · refine ⟨_, by simp [h0, bd2_s]; rfl, key _ (fun r hr => by rw [hup _ _ _ r hr, hup _ _ _ r hr, hup _ _ _ r hr]) ?_⟩
      unfold RC
      rw [hst]
      simp only [up2_ap, doz, sg_ap]
      rw [e1] at h0
      simp [sg_ap, e0, e1, e2, e3, e4, e5, e6, e7, h0]
    · refine ⟨_, by simp [h0, bd2_s]; rfl, key _ (fun r hr => by rw [hup _ _ _ r hr, hup _ _ _ r hr]) ?_⟩
      unfold RC
      rw [hst]
      simp only [up2_ap, doz, sg_ap]
      rw [e1] at h0
      simp [sg_ap, e0, e1, e2, e3, e4, e5, e6, e7, h0]
  by_cases h4 : v = 4
  · subst h4
    refine ⟨_, by simp [fX0_unload, bnd_s, bd2_s]; rfl, key _ (fun r hr => by rw [hup _ _ _ r hr, hup _ _ _ r hr]) ?_⟩
    unfold RC
    rw [hst]
    simp only [up2_ap, doz, sg_ap]
    simp [sg_ap, e0, e1, e2, e3, e4, e5, e6, e7]
  by_cases h5 : v = 5
  · subst h5
    refine ⟨_, by simp [bnd_s, bd2_s]; rfl, key _ (fun r hr => by rw [hup _ _ _ r hr]) ?_⟩
    unfold RC
    rw [hst]
    simp only [up2_ap, doz, sg_ap]
    simp [sg_ap, e0, e1, e2, e3, e4, e5, e6, e7]
  by_cases h6 : v = 6
  · subst h6
    refine ⟨_, by simp [fX0_stop, bnd_s, bd2_s]; rfl, key _ (fun r hr => by rw [hup _ _ _ r hr, hup _ _ _ r hr, hup _ _ _ r hr]) ?_⟩
    unfold RC
    rw [hst]
    simp only [up2_ap, doz, sg_ap]
    simp [sg_ap, e0, e1, e2, e3, e4, e5, e6, e7, s4]
  · have hd : doz s c v = s := by unfold doz; simp [h1, h2, h4, h5, h6]
    refine ⟨M, by simp [h1, h2, h4, h5, h6], ?_⟩
    rw [hd]; exact h
theorem pc_lookL {F : Nat} {U A T : Int} {n : Nat} {s : M1} {b : J1} {J : J2} {p : Int32} (hI : Inv U A T n s b) : ∀ d k m M, k + d = 5 → d < m → Rep n M J (dzk s p (if k < n then k else n)) b → ∃ M', fbX3_lookAtAll_4 F m p (if bzk s p (if k < n then k else n) then 1 else 0) (Int32.ofNat k) M J = some (if bzk s p n then 1 else 0, M', J) ∧ Rep n M' J (dzk s p n) b := by
  have hn := hI.n5
  intro d
  induction d with
  | zero =>
    intro k m M hk hmm h
    obtain ⟨m, rfl⟩ := fu hmm
    rw [if_neg (show ¬ k < n by omega)] at h ⊢
    refine ⟨M, ?_, h⟩
    show fsX3_lookAtAll_4 F _ _ _ _ _ _ = _
    unfold fsX3_lookAtAll_4
    have hb : ∀ x : Bool, (if x = true then (1 : Int32) else 0) = 0 ∨ (if x = true then (1 : Int32) else 0) = 1 := fun x => by cases x <;> simp
    rw [if_pos (pc_ge5 (k := k) (by omega)), chk_t (hb _)]
  | succ d ih =>
    intro k m M hk hmm h
    obtain ⟨m, rfl⟩ := fu hmm
    have h10 : M 0 5 = Int32.ofNat n := by rw [h.o.2.2.2.2.2.1, dzk_at (by omega), hI.cnt]
    by_cases hkn : k < n
    · rw [if_pos hkn] at h ⊢
      have hag : agr s (dzk s p k) k := ⟨fun i hi => dzk_at (by omega), fun i hi => dzk_at (by omega), fun g hg => dzk_at (by omega)⟩
      have hI2 := Inv_dzk (p := p) (k := k) hI (by omega)
      have hd := pc_doing (J := J) (p := p) h hkn (hI2.cmp k hkn)
      rw [nxt_congr hag] at hd
      obtain ⟨M', hc, hR⟩ := pc_carry (v := nxt s k p) h hkn hn
      have e : (if k + 1 < n then k + 1 else n) = k + 1 := by split <;> omega
      have ih := ih (k + 1) m M' (by omega) (by omega) (by rw [e]; exact hR)
      rw [e] at ih
      obtain ⟨M2, h1, h2⟩ := ih
      refine ⟨M2, ?_, h2⟩
      rw [← h1]
      show fsX3_lookAtAll_4 F (fbX3_lookAtAll_4 F m) _ _ _ _ _ = _
      unfold fsX3_lookAtAll_4
      rw [if_neg (pc_lt5 (by omega)), pc_num hn h10 (by omega)]
      simp only [Option.bind_some, if_pos hkn, oc_ss]
      rw [chk_t (pc_isC (by omega)), hd, hc]
      simp only [bd2_s, fbX3_lookAtAll_53, fbX3_lookAtAll_58, fbX3_lookAtAll_59, pn_s]
      by_cases hb : bzk s p k = true
      · simp [hb, bzk]
      · by_cases hv : nxt s k p = 2
        · simp [hb, bzk, hv]
        · simp [hb, bzk, hv]
    · rw [if_neg hkn] at h ⊢
      have e : (if k + 1 < n then k + 1 else n) = n := if_neg (by omega)
      have ih := ih (k + 1) m M (by omega) (by omega) (by rw [e]; exact h)
      rw [e] at ih
      obtain ⟨M2, h1, h2⟩ := ih
      refine ⟨M2, ?_, h2⟩
      rw [← h1]
      show fsX3_lookAtAll_4 F (fbX3_lookAtAll_4 F m) _ _ _ _ _ = _
      unfold fsX3_lookAtAll_4
      rw [if_neg (pc_lt5 (by omega)), pc_num hn h10 (by omega)]
      simp only [Option.bind_some, if_neg hkn, oc_ns, fbX3_lookAtAll_59, pn_s]
theorem pc_look {F : Nat} {U A T : Int} {n : Nat} {M : M2} {s : M1} {b : J1} {J : J2} {p : Int32} (hF : 1000 ≤ F) (hI : Inv U A T n s b) (h : Rep n M J s b) : ∃ M', fX3_lookAtAll F p M J = some (if bzk s p n then 1 else 0, M', J) ∧ Rep n M' J (dzk s p n) b := by
  have e1 : (if 0 < n then 0 else n) = 0 := by split <;> omega
  have e := pc_lookL (F := F) (p := p) (J := J) hI 5 0 F M (by omega) (by omega) (by rw [e1]; exact h)
  rw [e1] at e
  exact e
