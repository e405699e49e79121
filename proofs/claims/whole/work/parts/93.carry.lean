/-! carryOut -/
noncomputable def opos (t : M1) (L : Nat) : Nat → Nat → Nat
  | 0, p => p
  | j + 1, p => opos t L j (osp t L p).2.1
noncomputable def prz (t : M1) (L : Nat) : Nat → Nat → Int32 × Nat
  | 0, _ => (-1, 0)
  | d + 1, p => if L ≤ p then (-1, 0) else if (osp t L p).1 = -1 then ((prz t L d (osp t L p).2.1).1, (prz t L d (osp t L p).2.1).2 + 1) else ((osp t L p).1, 0)
theorem opos_s {t : M1} {L j p : Nat} : opos t L (j + 1) p = (osp t L (opos t L j p)).2.1 := by
  induction j generalizing p with
  | zero => rfl
  | succ j ih =>
    show opos t L (j + 1) (osp t L p).2.1 = _
    rw [ih]; rfl
theorem prz_ok {t : M1} {L : Nat} (hL : L ≤ 100) : ∀ d p, L < p + d → p ≤ L → (prz t L d p).1 = -1 → (∀ j, j < (prz t L d p).2 → opos t L j p < L ∧ (osp t L (opos t L j p)).1 = -1) ∧ opos t L (prz t L d p).2 p = L ∧ p + (prz t L d p).2 ≤ L := by
  intro d
  induction d with
  | zero => intro p h1 h2; omega
  | succ d ih =>
    intro p h1 h2 h
    unfold prz at h ⊢
    by_cases h3 : L ≤ p
    · rw [if_pos h3]
      exact ⟨fun j hj => absurd hj (Nat.not_lt_zero _), by show p = L; omega, by show p + 0 ≤ L; omega⟩
    · rw [if_neg h3] at h ⊢
      by_cases h4 : (osp t L p).1 = -1
      · rw [if_pos h4] at h ⊢
        obtain ⟨o1, o2, o3, -⟩ := osp_ok hL (by omega) h4
        obtain ⟨i1, i2, i3⟩ := ih (osp t L p).2.1 (by omega) o3 h
        dsimp only
        refine ⟨fun j hj => ?_, i2, by omega⟩
        match j, hj with
        | 0, _ => exact ⟨o1, h4⟩
        | j + 1, hj => exact i1 j (by omega)
      · rw [if_neg h4] at h
        exact absurd h h4
theorem PM_ur {M : M2} {p r j : Nat} {e x : Int32} (h : r ≠ 0) : up2 (PM M p e) r j x = PM (up2 M r j x) p e := by
  funext r' j'
  unfold PM
  simp only [up2_ap]
  grind
theorem PM_u1 {M : M2} {p : Nat} {e x : Int32} : up2 (PM M p e) 0 1 x = PM (up2 M 0 1 x) p e := by
  funext r' j'
  unfold PM
  simp only [up2_ap]
  grind
theorem pc_rd17 {F : Nat} {J : J2} {t : M1} {L : Nat} (hF : 1000 ≤ F) (ht : ∀ k, k < L → 0 ≤ (t k).toInt ∧ (t k).toInt ≤ 127) : ∀ d p i m (M : M2), L < p + d → d < m → i ≤ p → p ≤ L → TXc M t L → M 0 1 = Int32.ofNat i →
    ∃ M', fbX2_readOrdersOrError_17 F m (Int32.ofNat i) (PM M p (-1)) J = some ((prz t L d p).1, M', J) ∧ M' 0 0 = M 0 0 ∧ M' 1 = M 1 ∧ ((prz t L d p).1 = -1 → M' 0 1 = Int32.ofNat (i + (prz t L d p).2) ∧ (∀ j, j < (prz t L d p).2 → M' 2 (i + j) = bt t L (opos t L j p) ∧ M' 3 (i + j) = (osp t L (opos t L j p)).2.2) ∧ ∀ j, j < i → M' 2 j = M 2 j ∧ M' 3 j = M 3 j) := by
  intro d
  induction d with
  | zero => intro p i m M h1 h2 h3 h4; omega
  | succ d ih =>
    intro p i m M h1 h2 h3 h4 hT hi
    have hL := hT.1
    obtain ⟨m, rfl⟩ := fu h2
    rw [show fbX2_readOrdersOrError_17 F (m + 1) = fsX2_readOrdersOrError_17 F (fbX2_readOrdersOrError_17 F m) from rfl]
    unfold fsX2_readOrdersOrError_17 prz
    rw [PM_3, PM_2, PM_0 (by decide) (by decide), hT.2.1]
    by_cases h5 : L ≤ p
    · rw [if_pos h5, if_pos ((pn_le (by omega) (by omega)).mpr h5), ite_self]
      refine ⟨PM M p (-1), rfl, by rw [PM_0 (by decide) (by decide)]; exact hT.2.1, PM_r (by decide), fun _ => ⟨?_, fun j hj => absurd hj (Nat.not_lt_zero _), fun j hj => ?_⟩⟩
      · rw [PM_0 (by decide) (by decide), hi]; rfl
      · rw [PM_r (by decide), PM_r (by decide)]; exact ⟨rfl, rfl⟩
    · rw [if_neg h5, if_neg (fun e => by have := (pn_le1 (a := 100) (by decide) (by omega)).mp e; have : 100 ≤ i := this; omega), if_neg (fun e => by have := (pn_le (by omega) (by omega)).mp e; omega), if_neg (fun e => e rfl), pc_bt hT.pm (by omega), Option.bind_some, chk_b (by omega) (by omega), bnd_s, chk_b (by omega) (by omega), pn_in (by omega), PM_ur (by decide), PM_r (by decide)]
      have e2 : up2 M 2 i (bt t L p) 2 i = bt t L p := by simp [up2_ap]
      have hT1 : TXc (up2 M 2 i (bt t L p)) t L := ⟨hL, by rw [up2_ap, if_neg (by decide)]; exact hT.2.1, fun k hk => by rw [up2_ap, if_neg (by decide)]; exact hT.2.2 k hk⟩
      obtain ⟨v, q, a1, a2⟩ := pc_order (F := F) (J := J) (p := p) hF hT1 ht (by omega)
      rw [e2, a1, bd3_s, chk_b (by omega) (by omega), bnd_s, PM_ur (by decide), bnd_s, PM_0 (by decide) (by decide), PM_u1]
      have e3 : up2 (up2 M 2 i (bt t L p)) 3 i v 0 1 = Int32.ofNat i := by rw [up2_ap, if_neg (by decide), up2_ap, if_neg (by decide)]; exact hi
      rw [e3, pn_s]
      by_cases h6 : (osp t L p).1 = -1
      · obtain ⟨rfl, rfl⟩ := a2 h6
        obtain ⟨o1, o2, o3, -⟩ := osp_ok hL (by omega) h6
        rw [h6, if_pos rfl]
        have hT2 : TXc (up2 (up2 (up2 M 2 i (bt t L p)) 3 i (osp t L p).2.2) 0 1 (Int32.ofNat (i + 1))) t L := ⟨hL, by rw [up2_ap, if_pos rfl, if_neg (by decide), up2_ap, if_neg (by decide)]; exact hT1.2.1, fun k hk => by rw [up2_ap, if_neg (by decide), up2_ap, if_neg (by decide)]; exact hT1.2.2 k hk⟩
        obtain ⟨M', i1, i2, i3, i4⟩ := ih (osp t L p).2.1 (i + 1) m _ (by omega) (by omega) (by omega) o3 hT2 (by simp [up2_ap])
        refine ⟨M', i1, ?_, ?_, fun h7 => ?_⟩
        · rw [i2, up2_ap, if_pos rfl, if_neg (by decide), up2_ap, if_neg (by decide), up2_ap, if_neg (by decide)]; exact hT.2.1
        · rw [i3]; unfold up2; rw [sg_ne _ _ (by decide), sg_ne _ _ (by decide), sg_ne _ _ (by decide)]
        · obtain ⟨b1, b2, b3⟩ := i4 h7
          refine ⟨?_, fun j hj => ?_, fun j hj => ?_⟩
          · rw [b1]; congr 1; dsimp only; omega
          · match j, hj with
            | 0, _ =>
              obtain ⟨c1, c2⟩ := b3 i (by omega)
              rw [Nat.add_zero, c1, c2]
              simp [up2_ap]
              exact ⟨rfl, rfl⟩
            | j + 1, hj =>
              have b := b2 j (by dsimp only at hj; omega)
              rw [show i + 1 + j = i + (j + 1) by omega] at b
              exact b
          · obtain ⟨c1, c2⟩ := b3 j (by omega)
            have hji : ¬ j = i := by omega
            rw [c1, c2]
            simp [up2_ap, hji]
      · rw [if_neg h6]
        obtain ⟨m, rfl⟩ : ∃ m', m = m' + 1 := ⟨m - 1, by omega⟩
        rw [show fbX2_readOrdersOrError_17 F (m + 1) = fsX2_readOrdersOrError_17 F (fbX2_readOrdersOrError_17 F m) from rfl]
        unfold fsX2_readOrdersOrError_17
        rw [PM_3]
        refine ⟨PM (up2 (up2 (up2 M 2 i (bt t L p)) 3 i v) 0 1 (Int32.ofNat (i + 1))) q (osp t L p).1, ?_, ?_, ?_, fun h7 => absurd h7 h6⟩
        · rw [if_pos h6, ite_self, ite_self]
        · rw [PM_0 (by decide) (by decide), up2_ap, if_pos rfl, if_neg (by decide), up2_ap, if_neg (by decide), up2_ap, if_neg (by decide)]; exact hT.2.1
        · rw [PM_r (by decide)]; unfold up2; rw [sg_ne _ _ (by decide), sg_ne _ _ (by decide), sg_ne _ _ (by decide)]
theorem pv_co5 {F : Nat} {M : M2} {J : J2} {r0 s : M1} {L : Nat} (hF : 1000 ≤ F) (hL : L ≤ 100) (h10 : r0 10 = Int32.ofNat L) : ∀ d p v m, L < p + d → d < m → p ≤ L → ∃ p' v', fbX5_carryOut_5 F m (RM M (RA r0 p v) s) J = if (prz (M 9) L d p).1 = -1 then bd2 (fX5_holds F (RM M (RA r0 p' v') s) J) (fun M3 J4 => bnd (up2 M3 0 14 (0 : Int32)) (fun M5 => fbX5_carryOut_51 F F (0 : Int32) (1 : Int32) M5 J4)) else some (-10 - (prz (M 9) L d p).1, RM M (sg (RA r0 p' v') 11 0) s, J) := by
  intro d
  induction d with
  | zero => intro p v m h1 h2 h3; omega
  | succ d ih =>
    intro p v m h1 h2 h3
    obtain ⟨m, rfl⟩ := fu h2
    rw [show fbX5_carryOut_5 F (m + 1) = fsX5_carryOut_5 F (fbX5_carryOut_5 F m) from rfl]
    unfold fsX5_carryOut_5 prz
    rw [RM_0, RA_14, RA_o (by decide) (by decide), h10]
    by_cases h5 : L ≤ p
    · rw [if_pos h5, if_pos ((pn_le (by omega) (by omega)).mpr h5)]
      exact ⟨p, v, (if_pos rfl).symm⟩
    · rw [if_neg h5, if_neg (fun e => by have := (pn_le (by omega) (by omega)).mp e; omega)]
      obtain ⟨q, v', a1, a2⟩ := pv_order (F := F) (M := M) (J := J) (r0 := r0) (s := s) (p := p) (v := v) hF hL h10 (by omega)
      rw [a1, bd3_s]
      by_cases h6 : (osp (M 9) L p).1 = -1
      · obtain ⟨rfl, -⟩ := a2 h6
        obtain ⟨o1, o2, o3, -⟩ := osp_ok hL (by omega) h6
        rw [if_pos h6, if_pos h6]
        exact ih _ v' m (by omega) (by omega) o3
      · rw [if_neg h6, if_neg h6]
        exact ⟨q, v', by rw [if_neg h6, pv_tells, bd3_s, RM_u0]⟩
/-- one order obeyed on both sides -/
theorem ob_eq {F n : Nat} {k v : Int32} {M Mr : M2} {J Jr : J2} {s r0 : M1} {b : J1} (hF : 1000 ≤ F) (hI : Iv 100000 n (s, b)) (hR : Rep n M J s b) (hk : k = 99 ∨ k = 100 ∨ k = 109 ∨ k = 116 ∨ k = 114) (h100 : k = 100 → 0 ≤ v ∧ v ≤ 3000) (h109 : k = 109 → 1 ≤ v ∧ v ≤ 600) (h15 : ¬ k = 114 → r0 15 = v) :
    (∃ M' J' s' b' r0', fX3_obeys F k v M J = some (1, M', J') ∧ fX5_obeys F k (RM Mr r0 s) (RJ Jr b) = some (0, RM Mr r0' s', RJ Jr b') ∧ Rep n M' J' s' b' ∧ Iv 100000 n (s', b') ∧ ∀ i, i ≠ 12 → i ≠ 13 → r0' i = r0 i) ∨
    (∃ z r0', ¬ z = 0 ∧ fX3_obeys F k v M J = some (0, M, J) ∧ fX5_obeys F k (RM Mr r0 s) (RJ Jr b) = some (z, RM Mr r0' s, RJ Jr b) ∧ ∀ i, i ≠ 12 → i ≠ 13 → r0' i = r0 i) := by
  have hn := hI.n5
  have hcn : s 10 = Int32.ofNat n := hI.cnt
  have h10 : M 0 5 = Int32.ofNat n := by rw [hR.o.2.2.2.2.2.1, hcn]
  have o1 : ((1 : Int32) = 0 ∨ (1 : Int32) = 1) := Or.inr rfl
  have o0 : ((0 : Int32) = 0 ∨ (0 : Int32) = 1) := Or.inl rfl
  have keep : ∀ x : Int32, ∀ i, i ≠ 12 → i ≠ 13 → sg r0 13 x i = r0 i := fun x i _ h => sg_ne _ _ h
  have keep2 : ∀ x y : Int32, ∀ i, i ≠ 12 → i ≠ 13 → sg (sg r0 13 x) 13 y i = r0 i := fun x y i _ h => by rw [sg_ne _ _ h, sg_ne _ _ h]
  unfold fX3_obeys fX5_obeys
  rw [RM_u0, bnd_s, bnd_s, RM_0]
  by_cases k1 : k = 99
  · rw [if_pos k1, if_pos k1, sg_ne _ _ (by decide), h15 (by rw [k1]; decide)]
    by_cases h1 : 0 ≤ v.toInt ∧ v.toInt < n
    · obtain ⟨c, hc, rfl⟩ := one_of h1
      have e1 := (hR.c c hc).2.1
      rw [pc_num hn h10 (by omega), if_pos hc]
      simp only [Option.bind_some, oc_ss]
      rw [chk_t (pc_isC (by omega))]
      unfold fX3_clears
      rw [oc_ss, chk_t (pc_isC (by omega)), e1]
      by_cases hm : s (21 + 7 * c + 1) = 3
      · obtain ⟨M', g1, g2, -⟩ := pc_stop hR hc hn (hI.cmp c hc) hm
        refine Or.inl ⟨M', J, clr s c, b, _, ?_, ?_, g2, Inv_cmp hI hc (fun i hi => clr_out hi) (clr_cok (hI.cmp c hc) hm hI.rst.1), keep2 0 (Int32.ofNat (stg s c))⟩
        · rw [if_pos hm, g1, bd2_s, bd3_s, chk_t o1]
        · rw [pv_clears hF hn hcn hI.prm hc hm, bd3_s]
      · refine Or.inr ⟨2, _, by decide, ?_, ?_, keep 0⟩
        · rw [if_neg hm, bd3_s, chk_t o0]
        · unfold fX5_clears fX5_isOne
          rw [RM_1, hcn, if_pos (fun e => (rng_iff (by omega)).mp e (c_lt hc hn)), pv_its (by show 21 + 7 * c + 1 < 61; omega), RM_1, Option.bind_some, if_neg hm, bd3_s]
    · refine Or.inr ⟨1, _, by decide, ?_, ?_, keep 0⟩
      · rw [pc_numx hn h10, if_neg h1]
        simp only [Option.bind_some, oc_ns]
        unfold fX3_clears
        rw [oc_ns, bd3_s, chk_t o0]
      · unfold fX5_clears fX5_isOne
        rw [RM_1, hcn, if_neg (fun e => e ((rng_iff (by omega)).mpr h1)), bd3_s]
  rw [if_neg k1, if_neg k1]
  by_cases k2 : k = 100
  · have hv := h100 k2
    rw [Int32.le_iff_toInt_le, Int32.le_iff_toInt_le] at hv
    rw [if_pos k2, if_pos k2, sg_ne _ _ (by decide), h15 (by rw [k2]; decide), bnd_s, RM_u1]
    have hI1 : Iv 100000 n (sg s 8 v, b) := Inv_sc hI (by omega) (by omega) (fun e => by omega) (fun e => by omega) (fun e => by omega) (fun e => by omega) (fun _ => hv)
    exact Or.inl ⟨_, J, sg s 8 v, b, _, rfl, rfl, Rep_set (k0 := 6) v hR hn (by omega), hI1, keep 0⟩
  rw [if_neg k2, if_neg k2]
  by_cases k3 : k = 109
  · rw [if_pos k3, if_pos k3, sg_ne _ _ (by decide), h15 (by rw [k3]; decide)]
    obtain ⟨N, -, hN, rfl⟩ := s_cases (a := 1) (b := 600) (by decide) (h109 k3) (by decide)
    unfold fX5_passes
    rw [RM_1]
    by_cases ht : s 11 + Int32.ofNat N ≤ 100000
    · obtain ⟨M', J', g1, g2⟩ := pc_minutes (F := F) (N := N) (q := (s, b)) hF hI hN (by omega) hR
      obtain ⟨y, k4⟩ := pv_minutes (F := F) (N := N) (M := Mr) (J := Jr) (r0 := sg r0 13 0) (q := (s, b)) hF hI hN (by omega)
      have hI1 := Iv_mikT hI hN ht
      refine Or.inl ⟨M', J', (mik n (s, b) N).1, (mik n (s, b) N).2, sg (sg (sg r0 13 0) 12 y) 13 (prs (mik n (s, b) N).1), ?_, ?_, g2, hI1, fun i h12 h13 => by rw [sg_ne _ _ h13, sg_ne _ _ h12, sg_ne _ _ h13]⟩
      · rw [if_pos (fun e => (pc_time hR).mp e ht), g1, bd2_s]
      · rw [if_pos ht, k4, bd2_s, pv_press (Inv_v0 hI1).2, Option.bind_some, bnd_s, RM_u0, bd3_s]
        rfl
    · refine Or.inr ⟨2, _, by decide, ?_, ?_, keep 0⟩
      · rw [if_neg (fun e => e ((pc_time hR).mpr ht))]
      · rw [if_neg ht, bd3_s]
  rw [if_neg k3, if_neg k3]
  by_cases k4 : k = 116
  · rw [if_pos k4, if_pos k4, sg_ne _ _ (by decide), h15 (by rw [k4]; decide)]
    by_cases h1 : 0 ≤ v.toInt ∧ v.toInt < n
    · obtain ⟨c, hc, rfl⟩ := one_of h1
      have e1 := (hR.c c hc).2.1
      rw [pc_num hn h10 (by omega), if_pos hc]
      simp only [Option.bind_some, oc_ss]
      rw [chk_t (pc_isC (by omega))]
      unfold fX3_trips
      rw [oc_ss, chk_t (pc_isC (by omega)), e1]
      by_cases hm : s (21 + 7 * c + 1) = 3
      · refine Or.inr ⟨2, _, by decide, ?_, ?_, keep 0⟩
        · rw [if_neg (fun e => e hm), bd3_s, chk_t o0]
        · unfold fX5_trips fX5_isOne
          rw [RM_1, hcn, if_pos (fun e => (rng_iff (by omega)).mp e (c_lt hc hn)), pv_its (by show 21 + 7 * c + 1 < 61; omega), RM_1]
          simp only [Option.bind_some]
          rw [if_neg (fun e => e hm), bd3_s]
      · obtain ⟨M', g1, g2⟩ := pc_fail hR hc hn
        refine Or.inl ⟨M', J, trp s c, b, _, ?_, ?_, g2, Inv_cmp hI hc (fun i hi => trp_out hi) (trp_cok (hI.cmp c hc)), keep2 0 (s (21 + 7 * c + 1))⟩
        · rw [if_pos hm, g1, bd2_s, bd3_s, chk_t o1]
        · rw [pv_trips hn hcn hc hm, bd3_s]
    · refine Or.inr ⟨1, _, by decide, ?_, ?_, keep 0⟩
      · rw [pc_numx hn h10, if_neg h1]
        simp only [Option.bind_some, oc_ns]
        unfold fX3_trips
        rw [oc_ns, bd3_s, chk_t o0]
      · unfold fX5_trips fX5_isOne
        rw [RM_1, hcn, if_neg (fun e => e ((rng_iff (by omega)).mpr h1)), bd3_s]
  rw [if_neg k4, if_neg k4]
  obtain ⟨M', g1, g2⟩ := pc_rot (F := F) hF hn hcn hI.prm hR
  refine Or.inl ⟨M', J, rots s n, b, _, ?_, ?_, g2, Inv_rots hI, keep2 0 (Int32.ofNat (mvk s n n))⟩
  · rw [g1, bd3_s]
  · rw [pv_rot hF hn hcn hI.prm, bd3_s, bnd_s, RM_u0]
theorem pc_kind {M : M2} {J : J2} {j : Nat} (h : j < 100) : fX2_kindOf M J (Int32.ofNat j) = some (M 2 j) ∧ fX2_numberIn M J (Int32.ofNat j) = some (M 3 j) := by
  unfold fX2_kindOf fX2_numberIn
  have h1 : ¬ Int32.ofNat j < 0 := fun e => by have := (pn_lt2 (b := 0) (by omega) (by decide)).mp e; have : j < 0 := this; omega
  have h2 : ¬ (100 : Int32) ≤ Int32.ofNat j := fun e => by have := (pn_le1 (a := 100) (by decide) (by omega)).mp e; have : 100 ≤ j := this; omega
  rw [if_neg h1, if_neg h2, chk_b h (by omega), pn_in (by omega), if_neg h1, if_neg h2, chk_b h (by omega)]
  exact ⟨rfl, rfl⟩
theorem pco_L {F n N L : Nat} {Mr : M2} {Jr : J2} (hF : 1000 ≤ F) (hL : L ≤ 100) (hN : N ≤ 100) (hok : ∀ j, j < N → opos (Mr 9) L j 0 < L ∧ (osp (Mr 9) L (opos (Mr 9) L j 0)).1 = -1) (hend : opos (Mr 9) L N 0 = L) : ∀ d j mc mr (G : M3) (K : J3) (s : M1) (b : J1) (r0 : M1) (g : Int32), j + d = N → d < mc → d + 1 < mr → Rep n (G 0) (K 0) s b → Iv 100000 n (s, b) → G 7 0 1 = Int32.ofNat N → (∀ j, j < N → G 7 2 j = bt (Mr 9) L (opos (Mr 9) L j 0) ∧ G 7 3 j = (osp (Mr 9) L (opos (Mr 9) L j 0)).2.2) → r0 10 = Int32.ofNat L →
    ∃ v M' J' r0' s' b', fbX4_carryOut_31 F mc (Int32.ofNat j) G K = some (v, sg G 0 M', sg K 0 J') ∧ fbX5_carryOut_51 F mr (Int32.ofNat j) 1 (RM Mr (RA r0 (opos (Mr 9) L j 0) g) s) (RJ Jr b) = fbX5_carryOut_108 F v (RM Mr r0' s') (RJ Jr b') ∧ Rep n M' J' s' b' ∧ Iv 100000 n (s', b') ∧ r0' 8 = r0 8 ∧ r0' 10 = r0 10 := by
  intro d
  induction d with
  | zero =>
    intro j mc mr G K s b r0 g hj h1 h2 hR hI h71 h72 h10
    obtain ⟨mc, rfl⟩ := fu h1
    obtain ⟨mr, rfl⟩ := fu h2
    obtain rfl : j = N := by omega
    refine ⟨Int32.ofNat j, G 0, K 0, RA r0 (opos (Mr 9) L j 0) g, s, b, ?_, ?_, hR, hI, RA_o (by decide) (by decide), RA_o (by decide) (by decide)⟩
    · rw [show fbX4_carryOut_31 F (mc + 1) = fsX4_carryOut_31 F (fbX4_carryOut_31 F mc) from rfl]
      unfold fsX4_carryOut_31
      rw [h71, if_pos ((pn_le (by omega) (by omega)).mpr (by omega)), sg_self, sg_self]
    · rw [show fbX5_carryOut_51 F (mr + 1) = fsX5_carryOut_51 F (fbX5_carryOut_51 F mr) from rfl]
      unfold fsX5_carryOut_51
      rw [if_neg (by decide), RM_0, RA_14, RA_o (by decide) (by decide), h10, hend, if_pos ((pn_le (by omega) (by omega)).mpr (by omega))]
  | succ d ih =>
    intro j mc mr G K s b r0 g hj h1 h2 hR hI h71 h72 h10
    obtain ⟨mc, rfl⟩ := fu h1
    obtain ⟨mr, rfl⟩ := fu h2
    obtain ⟨p1, p2⟩ := hok j (by omega)
    obtain ⟨o1, o2, o3, o4, o5, o6⟩ := osp_ok hL (by omega) p2
    obtain ⟨c1, c2⟩ := pc_kind (M := G 7) (J := K 7) (j := j) (by omega)
    obtain ⟨d1, d2⟩ := h72 j (by omega)
    obtain ⟨q, v', a1, a2⟩ := pv_order (F := F) (M := Mr) (J := RJ Jr b) (r0 := r0) (s := s) (p := opos (Mr 9) L j 0) (v := g) hF hL h10 (by omega)
    obtain ⟨rfl, a3⟩ := a2 p2
    rw [p2] at a1
    rw [show fbX4_carryOut_31 F (mc + 1) = fsX4_carryOut_31 F (fbX4_carryOut_31 F mc) from rfl]
    rw [show fbX5_carryOut_51 F (mr + 1) = fsX5_carryOut_51 F (fbX5_carryOut_51 F mr) from rfl]
    unfold fsX4_carryOut_31 fsX5_carryOut_51
    rw [h71, if_neg (fun e => by have := (pn_le (by omega) (by omega)).mp e; omega), c1, c2, Option.bind_some, Option.bind_some, d1, d2]
    rw [if_neg (show ¬ (1 : Int32) = 0 by decide), RM_0, RA_14, RA_o (by decide) (by decide), h10, if_neg (fun e => by have := (pn_le (by omega) (by omega)).mp e; omega), pv_bt hL (by rw [RA_o (by decide) (by decide)]; exact h10) RA_14 (by omega), Option.bind_some, a1, bd3_s, if_neg (fun e => e rfl)]
    unfold fbX5_carryOut_91 fbX5_carryOut_92 fbX5_carryOut_103
    rw [← opos_s]
    rcases ob_eq (F := F) (n := n) (k := bt (Mr 9) L (opos (Mr 9) L j 0)) (v := (osp (Mr 9) L (opos (Mr 9) L j 0)).2.2) (M := G 0) (Mr := Mr) (J := K 0) (Jr := Jr) (s := s) (r0 := RA r0 (opos (Mr 9) L (j + 1) 0) v') (b := b) hF hI hR o6 o4 o5 (fun h => by rw [RA_15]; exact a3 h) with ⟨M', J', s', b', r0', e1, e2, e3, e4, e5⟩ | ⟨z, r0', e0, e1, e2, e5⟩
    · rw [e1, bd3_s, e2, bd3_s]
      simp only [bnd_s]
      rw [if_pos (show ¬ (1 : Int32) = 0 by decide), if_neg (fun e => e trivial), if_neg (show ¬ (1 : Int32) = 0 by decide), pn_s]
      have r14 : r0' 14 = Int32.ofNat (opos (Mr 9) L (j + 1) 0) := by rw [e5 14 (by decide) (by decide), RA_14]
      have i := ih (j + 1) mc mr (sg G 0 M') (sg K 0 J') s' b' r0' (r0' 15) (by omega) (by omega) (by omega) (by rw [sg_eq, sg_eq]; exact e3) e4 (by rw [sg_ne _ _ (by decide)]; exact h71) (by rw [sg_ne _ _ (by decide)]; exact h72) (by rw [e5 10 (by decide) (by decide), RA_o (by decide) (by decide)]; exact h10)
      rw [RA_self r14] at i
      obtain ⟨v, M2', J2', r2, s2, b2, i1, i2, i3, i4, i5, i6⟩ := i
      rw [sg_sg, sg_sg] at i1
      refine ⟨v, M2', J2', r2, s2, b2, i1, i2, i3, i4, ?_, ?_⟩
      · rw [i5, e5 8 (by decide) (by decide), RA_o (by decide) (by decide)]
      · rw [i6, e5 10 (by decide) (by decide), RA_o (by decide) (by decide)]; exact h10
    · rw [e1, bd3_s, e2, bd3_s]
      simp only [bnd_s]
      obtain ⟨mr, rfl⟩ : ∃ m', mr = m' + 1 := ⟨mr - 1, by omega⟩
      refine ⟨Int32.ofNat j, G 0, K 0, r0', s, b, ?_, ?_, hR, hI, ?_, ?_⟩
      · rw [if_neg (fun e => e trivial)]
      · rw [if_pos e0, if_pos trivial, Int32.add_zero]
        rw [show fbX5_carryOut_51 F (mr + 1) = fsX5_carryOut_51 F (fbX5_carryOut_51 F mr) from rfl]
        unfold fsX5_carryOut_51
        rw [if_pos rfl]
      · rw [e5 8 (by decide) (by decide), RA_o (by decide) (by decide)]
      · rw [e5 10 (by decide) (by decide), RA_o (by decide) (by decide)]; exact h10
theorem hM_row7 {M : M2} : hM M 7 = fun x => if x < 61 then M 1 x else M 7 x := by
  funext x
  by_cases h : x < 61
  · rw [if_pos h]; exact hM_7 h
  · rw [if_neg h]; exact cpr_out (fun j hj e => h (by omega))
theorem c_carry {F : Nat} {G : M3} {K : J3} (hF : 1000 ≤ F) (h : RR G K) : Agd (fX4_carryOut F G K) (fX5_carryOut F) := by
  obtain ⟨-, -, ⟨L, hL, t2, t3, t4⟩⟩ := id h
  have ht : ∀ k, k < L → 0 ≤ (G 8 9 k).toInt ∧ (G 8 9 k).toInt ≤ 127 := fun k hk => (t4 k hk).2
  have hT : TXc (up2 (G 7) 0 1 0) (G 8 9) L := ⟨hL, by rw [up2_ap, if_pos rfl, if_neg (by decide)]; exact t2, fun k hk => by rw [up2_ap, if_neg (by decide)]; exact (t4 k hk).1⟩
  obtain ⟨M7, a1, a2, a3, a4⟩ := pc_rd17 (F := F) (J := K 7) (t := G 8 9) (L := L) hF ht 101 0 0 F (up2 (G 7) 0 1 0) (by omega) (by omega) (by omega) (by omega) hT (by simp [up2_ap])
  have a5 : fX2_readOrdersOrError F (G 7) (K 7) = some ((prz (G 8 9) L 101 0).1, M7, K 7) := a1
  obtain ⟨p', v', c1⟩ := pv_co5 (F := F) (M := G 8) (J := K 8) (r0 := G 8 0) (s := G 8 1) (L := L) hF hL t3 101 0 (G 8 0 15) F (by omega) (by omega) (by omega)
  have c2 : fX5_carryOut F (G 8) (K 8) = fbX5_carryOut_5 F F (RM (G 8) (RA (G 8 0) 0 (G 8 0 15)) (G 8 1)) (K 8) := by
    unfold fX5_carryOut
    rw [bnd_s]
    have e : up2 (G 8) 0 14 0 = RM (G 8) (RA (G 8 0) 0 (G 8 0 15)) (G 8 1) := by
      funext r
      by_cases h0 : r = 0
      · subst h0
        rw [RM_0]
        unfold up2 RA
        rw [sg_eq]
        funext i
        simp only [sg_ap]
        by_cases h15 : i = 15
        · subst h15; simp
        · simp [h15]
      · by_cases h1 : r = 1
        · subst h1; rw [RM_1]; unfold up2; rw [sg_ne _ _ h0]
        · rw [RM_o _ _ _ h0 h1]; unfold up2; rw [sg_ne _ _ h0]
    rw [e]
  have m70 : M7 0 0 = Int32.ofNat L := by rw [a2, up2_ap, if_pos rfl, if_neg (by decide)]; exact t2
  have m71 : M7 1 = G 7 1 := by rw [a3]; unfold up2; exact sg_ne _ _ (by decide)
  by_cases hz : (prz (G 8 9) L 101 0).1 = -1
  · rw [if_pos hz] at c1
    obtain ⟨b1, b2, -⟩ := a4 hz
    obtain ⟨q1, q2, q3⟩ := prz_ok hL 101 0 (by omega) (by omega) hz
    have hRR : RR (sg G 7 M7) (sg K 7 (K 7)) := by
      refine RR_text h (fun g hg => ⟨sg_ne _ _ (by omega), sg_ne _ _ (by omega)⟩) ?_ ?_ ?_ ?_ ⟨L, hL, ?_, ?_, fun k hk => ?_⟩
      · rw [sg_ne _ _ (by decide)]
      · rw [sg_ne _ _ (by decide)]
      · rw [sg_ne _ _ (by decide)]
      · rw [sg_ne _ _ (by decide)]
      · rw [sg_eq]; exact m70
      · rw [sg_ne _ _ (by decide)]; exact t3
      · rw [sg_eq, sg_ne _ _ (by decide), m71]; exact t4 k hk
    obtain ⟨n, hI, hR⟩ := h.1
    obtain ⟨G1, K1, d1, d2, d3, d4, d5, d6, d7, d8⟩ := mut_end hF hRR
    rw [sg_ne _ _ (by decide)] at d2 d3 d4 d5
    rw [sg_eq] at d6
    rw [sg_ne _ _ (by decide), sg_ne _ _ (by decide)] at d8
    -- holds() behind the first reading
    have hh := pv_hold (F := F) (M := RM (G 8) (RA (G 8 0) p' v') (G 8 1)) (J := K 8) hF
    rw [RM_0, RM_1] at hh
    have hrow : ∀ r, r ≠ 0 → r ≠ 1 → hM (RM (G 8) (RA (G 8 0) p' v') (G 8 1)) r = hM (G 8) r := by
      intro r r0 r1
      by_cases h7 : r = 7
      · subst h7
        rw [hM_row7, hM_row7, RM_1, RM_o _ _ _ r0 r1]
      · rw [hM_o h7, hM_o h7, RM_o _ _ _ r0 r1]
    have h9 : hM (RM (G 8) (RA (G 8 0) p' v') (G 8 1)) 9 = G 8 9 := by rw [hrow 9 (by decide) (by decide)]; exact hM_o (by decide)
    obtain ⟨v, M', J', r0', s', b', e1, e2, e3, e4, e5, e6⟩ := pco_L (F := F) (n := n) (N := (prz (G 8 9) L 101 0).2) (L := L) (Mr := hM (RM (G 8) (RA (G 8 0) p' v') (G 8 1))) (Jr := hJ (K 8)) hF hL (by omega) (by rw [h9]; exact q1) (by rw [h9]; exact q2) (prz (G 8 9) L 101 0).2 0 F F G1 K1 (G 8 1) (K 8 2) (RA (G 8 0) p' v') v' (by omega) (by omega) (by omega) (by rw [d2, d3]; exact hR) hI (by rw [d6, b1, Nat.zero_add]) (by rw [d6, h9]; intro j hj; have := b2 j hj; rw [Nat.zero_add] at this; exact this) (by rw [RA_o (by decide) (by decide)]; exact t3)
    rw [RA_o (by decide) (by decide)] at e5 e6
    obtain ⟨R, B, r8, f1, f2⟩ := d8 n M' J' (hM (RM (G 8) (RA (G 8 0) p' v') (G 8 1))) r0' s' b' e4 e3 e5 e6 hrow
    refine Agd.mut (M' := M') (J' := J') (v := v) (M8 := RM (sg (hM (RM (G 8) (RA (G 8 0) p' v') (G 8 1))) 3 R) (sg (sg r0' 8 r8) 11 0) s') (J8 := RJ (sg (hJ (K 8)) 4 B) b') d4 d5 ?_ ?_ ?_
    · unfold fX4_carryOut
      rw [a5, bd3_s, bnd_s, bnd_s, if_pos hz, d1, bd2_s]
      exact e1
    · rw [c2, c1, hh, bd2_s, bnd_s, RM_u0]
      have e7 : sg (RA (G 8 0) p' v') 14 (0 : Int32) = RA (RA (G 8 0) p' v') (opos (hM (RM (G 8) (RA (G 8 0) p' v') (G 8 1)) 9) L 0 0) v' := by
        show sg (RA (G 8 0) p' v') 14 (Int32.ofNat 0) = RA (RA (G 8 0) p' v') 0 v'
        rw [RA_s14]
        funext i
        unfold RA
        simp only [sg_ap]
        grind
      rw [e7]
      refine Eq.trans e2 ?_
      unfold fbX5_carryOut_108
      rw [f1, bd2_s, pv_tells, bd3_s, RM_u0]
    · refine f2 _ _ (sg (sg r0' 8 r8) 11 0) (fun g hg => mut_g g hg) (fun g hg => mut_k2 g hg) ?_ ?_ (sg_eq _ _ _) (sg_eq _ _ _)
      · rw [sg_ne _ _ (by decide), sg_eq]
      · rw [sg_ne _ _ (by decide), sg_ne _ _ (by decide), e6]
  · rw [if_neg hz] at c1
    refine ⟨-10 - (prz (G 8 9) L 101 0).1, sg G 7 M7, sg K 7 (K 7), RM (G 8) (sg (RA (G 8 0) p' v') 11 0) (G 8 1), K 8, ?_, ?_, ?_⟩
    · unfold fX4_carryOut
      rw [a5, bd3_s, bnd_s, bnd_s, if_neg hz]
    · rw [sg_ne _ _ (by decide), sg_ne _ _ (by decide), c2, c1]
    · refine RR_text h (fun g hg => ⟨?_, ?_⟩) ?_ ?_ ?_ ?_ ⟨L, hL, ?_, ?_, fun k hk => ?_⟩
      · rw [sg_ne _ _ (by omega), sg_ne _ _ (by omega)]
      · rw [sg_ne _ _ (by omega), sg_ne _ _ (by omega)]
      · rw [sg_eq, RM_1]
      · rw [sg_eq]
      · rw [sg_eq, RM_o _ _ _ (by decide) (by decide)]
      · rw [sg_eq, RM_0, sg_ne _ _ (by decide), RA_o (by decide) (by decide)]
      · rw [sg_ne _ _ (by decide), sg_eq]; exact m70
      · rw [sg_eq, RM_0, sg_ne _ _ (by decide), RA_o (by decide) (by decide)]; exact t3
      · rw [sg_ne _ _ (by decide), sg_eq, sg_eq, RM_o _ _ _ (by decide) (by decide), m71]; exact t4 k hk
