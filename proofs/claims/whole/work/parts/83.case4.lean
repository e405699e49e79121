theorem pv_putn {M : M2} {J : J2} {r0 s : M1} {c f : Nat} {x : Int32} (h : 21 + 7 * c + f < 61) : fX5_put (Int32.ofNat c) (Int32.ofNat f) x (RM M r0 s) J = some (RM M r0 (sg s (21 + 7 * c + f) x), J) := by
  unfold fX5_put
  rw [pn_mul1, pn_add1, pn_add, chk_b h (by omega), pn_in (by omega), RM_u1]; rfl
/-- a compressor's fields made 0 -/
def zrk (s : M1) (c : Nat) : Nat → M1
  | 0 => s
  | k + 1 => sg (zrk s c k) (21 + 7 * c + k) 0
theorem zrk_o {s : M1} {c k i : Nat} (h : i < 21 + 7 * c ∨ 21 + 7 * c + k ≤ i) : zrk s c k i = s i := by
  induction k with
  | zero => rfl
  | succ k ih => unfold zrk; rw [sg_ne _ _ (by omega), ih (by omega)]
theorem zrk_i {s : M1} {c k j : Nat} (h : j < k) : zrk s c k (21 + 7 * c + j) = 0 := by
  induction k with
  | zero => omega
  | succ k ih =>
    unfold zrk
    by_cases e : j = k
    · subst e; rw [sg_eq]
    · rw [sg_ne _ _ (by omega), ih (by omega)]
/-- a new compressor -/
def adc (s : M1) (n : Nat) (x : Int32) : M1 := sg (sg (sg (zrk s n 7) (21 + 7 * n) x) (56 + n) (Int32.ofNat n)) 10 (Int32.ofNat (n + 1))
theorem adc_o {s : M1} {n i : Nat} {x : Int32} (h : i < 21 + 7 * n ∨ 28 + 7 * n ≤ i) (h1 : i ≠ 56 + n) (h2 : i ≠ 10) : adc s n x i = s i := by
  unfold adc
  rw [sg_ne _ _ h2, sg_ne _ _ h1, sg_ne _ _ (by omega), zrk_o (by omega)]
theorem adc_0 {s : M1} {n : Nat} {x : Int32} (hn : n < 5) : adc s n x (21 + 7 * n) = x := by
  unfold adc
  rw [sg_ne _ _ (by omega), sg_ne _ _ (by omega), sg_eq]
theorem adc_f {s : M1} {n f : Nat} {x : Int32} (hn : n < 5) (h : 0 < f) (h7 : f < 7) : adc s n x (21 + 7 * n + f) = 0 := by
  unfold adc
  rw [sg_ne _ _ (by omega), sg_ne _ _ (by omega), sg_ne _ _ (by omega), zrk_i (by omega)]
theorem adc_10 {s : M1} {n : Nat} {x : Int32} : adc s n x 10 = Int32.ofNat (n + 1) := sg_eq _ _ _
theorem adc_n {s : M1} {n : Nat} {x : Int32} : adc s n x (56 + n) = Int32.ofNat n := by
  unfold adc; rw [sg_ne _ _ (by omega), sg_eq]
theorem adc_prm {s : M1} {n : Nat} {x : Int32} (hn : n < 5) (hp : Prm n s) : Prm (n + 1) (adc s n x) ∧ ∀ c, c < n + 1 → stg (adc s n x) c = if c < n then stg s c else n := by
  refine Prm.of (by omega) (fun c => if c < n then stg s c else n) (fun c hc => ?_) (fun c d hc hd h => ?_) (fun c hc => ?_)
  · split
    · have := (hp.at_ c (by assumption)).1; omega
    · omega
  · by_cases h1 : c < n
    · obtain ⟨a1, a2⟩ := hp.at_ c h1
      rw [if_pos h1] at h
      by_cases h2 : d < n
      · obtain ⟨b1, b2⟩ := hp.at_ d h2
        rw [if_pos h2] at h
        rw [h, b2, pn_eq (by omega) (by omega)] at a2
        exact a2.symm
      · rw [if_neg h2] at h; omega
    · rw [if_neg h1] at h
      by_cases h2 : d < n
      · obtain ⟨b1, b2⟩ := hp.at_ d h2
        rw [if_pos h2] at h; omega
      · omega
  · by_cases h1 : c < n
    · obtain ⟨a1, a2⟩ := hp.at_ c h1
      rw [if_pos h1, adc_o (by omega) (by omega) (by omega)]
      exact a2
    · rw [if_neg h1, adc_n, show c = n by omega]
theorem Inv_adc {U A T : Int} {n : Nat} {s : M1} {b : J1} {x : Int32} (h : Inv U A T n s b) (hn : n < 5) (hx : 10 ≤ x.toInt ∧ x.toInt ≤ 500) : Inv U A T (n + 1) (adc s n x) b := by
  have e : ∀ i, i < 21 → i ≠ 10 → adc s n x i = s i := fun i h1 h2 => adc_o (by omega) (by omega) h2
  refine ⟨by omega, adc_10, ?_, ?_, ?_, ?_, ?_, ?_, ?_, ?_, fun d hd => ?_, (adc_prm hn h.prm).1, ?_⟩
  · rw [e 0 (by omega) (by omega)]; exact h.vol
  · rw [e 1 (by omega) (by omega)]; exact h.air
  · rw [e 4 (by omega) (by omega)]; exact h.rel
  · rw [e 6 (by omega) (by omega)]; exact h.rst
  · rw [e 7 (by omega) (by omega)]; exact h.lek
  · rw [e 8 (by omega) (by omega)]; exact h.dem
  · rw [e 11 (by omega) (by omega)]; exact h.tim
  · rw [e 11 (by omega) (by omega)]; exact h.unm
  · by_cases hd2 : d < n
    · exact (h.cmp d hd2).congr (fun f hf _ _ _ => adc_o (by omega) (by omega) (by omega))
    · obtain rfl : d = n := by omega
      unfold Cok
      rw [adc_0 hn, adc_f hn (by omega) (by omega), adc_f hn (by omega) (by omega), adc_f hn (by omega) (by omega)]
      exact ⟨hx, Or.inl rfl, by decide, fun _ => rfl, fun _ => rfl⟩
  · rw [e 14 (by omega) (by omega)]; exact h.res
theorem pc_inst {n : Nat} {M : M2} {J : J2} {s : M1} {b : J1} {x : Int32} (hn : n < 5) (hc : s 10 = Int32.ofNat n) (hp : Prm n s) (h : Rep n M J s b) : ∃ M', fX3_install x M J = some (Int32.ofNat n, M', J) ∧ Rep (n + 1) M' J (adc s n x) b := by
  have h10 : M 0 5 = Int32.ofNat n := by rw [h.o.2.2.2.2.2.1, hc]
  obtain ⟨o0, o1, o2, o3, o4, o5, o6⟩ := h.o
  unfold fX3_install
  rw [h10, bnd_s, pn_s, pc_num (n := n + 1) (by omega) (by simp [up2_ap]) (by omega), if_pos (by omega)]
  simp only [Option.bind_some, oc_ss]
  rw [chk_t (pc_isC hn)]
  unfold fX0_begin
  simp only [bnd_s, bd2_s]
  have q : ∀ (M : M2) (r k : Nat) (x : Int32) (r' : Nat), r' ≠ r → up2 M r k x r' = M r' := fun M r k x r' hr => by unfold up2; exact sg_ne _ _ hr
  have e : ∀ i, i < 21 → i ≠ 10 → adc s n x i = s i := fun i h1 h2 => adc_o (by omega) (by omega) h2
  refine ⟨_, rfl, ?_, fun k hk => ?_, h.am, fun d hd => ?_, fun r hr h14 k hk => ?_⟩
  · unfold RO
    rw [q _ _ _ _ _ (by omega), q _ _ _ _ _ (by omega), q _ _ _ _ _ (by omega), q _ _ _ _ _ (by omega), q _ _ _ _ _ (by omega), q _ _ _ _ _ (by omega), q _ _ _ _ _ (by omega), q _ _ _ _ _ (by omega)]
    rw [e 0 (by omega) (by omega), e 1 (by omega) (by omega), e 11 (by omega) (by omega), e 12 (by omega) (by omega), e 13 (by omega) (by omega), e 14 (by omega) (by omega), adc_10]
    simp [up2_ap, o0, o1, o2, o3, o4, o6]
  · rw [q _ _ _ _ _ (by omega), q _ _ _ _ _ (by omega), q _ _ _ _ _ (by omega), q _ _ _ _ _ (by omega), q _ _ _ _ _ (by omega), q _ _ _ _ _ (by omega), q _ _ _ _ _ (by omega), q _ _ _ _ _ (by omega), q _ _ _ _ _ (by omega), e _ (by omega) (by omega)]
    exact h.st k hk
  · have hs := (adc_prm (x := x) hn hp).2 d hd
    by_cases hd2 : d < n
    · have h2 := h.c d hd2
      unfold RC at *
      rw [hs, if_pos hd2, q _ _ _ _ _ (by omega), q _ _ _ _ _ (by omega), q _ _ _ _ _ (by omega), q _ _ _ _ _ (by omega), q _ _ _ _ _ (by omega), q _ _ _ _ _ (by omega), q _ _ _ _ _ (by omega), q _ _ _ _ _ (by omega), q _ _ _ _ _ (by omega)]
      rw [adc_o (i := 21 + 7 * d) (by omega) (by omega) (by omega), adc_o (i := 21 + 7 * d + 1) (by omega) (by omega) (by omega), adc_o (i := 21 + 7 * d + 2) (by omega) (by omega) (by omega), adc_o (i := 21 + 7 * d + 3) (by omega) (by omega) (by omega), adc_o (i := 21 + 7 * d + 4) (by omega) (by omega) (by omega), adc_o (i := 21 + 7 * d + 5) (by omega) (by omega) (by omega), adc_o (i := 21 + 7 * d + 6) (by omega) (by omega) (by omega)]
      exact h2
    · obtain rfl : d = n := by omega
      unfold RC
      rw [hs, if_neg hd2, adc_0 hn, adc_f hn (by omega) (by omega), adc_f hn (by omega) (by omega), adc_f hn (by omega) (by omega), adc_f hn (by omega) (by omega), adc_f hn (by omega) (by omega), adc_f hn (by omega) (by omega)]
      simp [up2_ap]
  · rw [e 14 (by omega) (by omega)] at h14
    rw [q _ _ _ _ _ (by omega), q _ _ _ _ _ (by omega), q _ _ _ _ _ (by omega), q _ _ _ _ _ (by omega), q _ _ _ _ _ (by omega), q _ _ _ _ _ (by omega), q _ _ _ _ _ (by omega), q _ _ _ _ _ (by omega), q _ _ _ _ _ (by omega), e _ (by omega) (by omega)]
    exact h.r r hr h14 k hk
theorem pv_addL {F : Nat} {M M3' : M2} {J J3' : J2} {r0 s : M1} {n : Nat} {x : Int32} (hn : n < 5) (hc : s 10 = Int32.ofNat n) (hs : fX5_saves F (RM M r0 (adc s n x)) J = some (M3', J3')) : ∀ d k m, k + d = 7 → d < m → fbX5_addCompressor_49 F m x (Int32.ofNat n) (Int32.ofNat k) (RM M r0 (zrk s n k)) J = some (Int32.ofNat n, up2 M3' 0 11 0, J3') := by
  intro d
  induction d with
  | zero =>
    intro k m hk hm
    obtain ⟨m, rfl⟩ := fu hm
    obtain rfl : k = 7 := by omega
    rw [show fbX5_addCompressor_49 F (m + 1) = fsX5_addCompressor_49 F (fbX5_addCompressor_49 F m) from rfl]
    unfold fsX5_addCompressor_49
    rw [if_pos (by decide), pv_put (by show 21 + 7 * n + 0 < 61; omega), bd2_s]
    simp (disch := omega) only [pn_add1, chk_b, pn_in, bnd_s, RM_u1, RM_1]
    have e : sg (sg (sg (zrk s n 7) (21 + 7 * n + 0) x) (56 + n) (Int32.ofNat n)) 10 (sg (sg (zrk s n 7) (21 + 7 * n + 0) x) (56 + n) (Int32.ofNat n) 10 + 1) = adc s n x := by
      rw [sg_ne _ _ (by omega), sg_ne _ _ (by omega), zrk_o (by omega), hc, pn_s]
      rfl
    rw [e, hs, bd2_s, pv_tells, bd3_s]
  | succ d ih =>
    intro k m hk hm
    obtain ⟨m, rfl⟩ := fu hm
    show fsX5_addCompressor_49 F (fbX5_addCompressor_49 F m) _ _ _ _ _ = _
    unfold fsX5_addCompressor_49
    rw [if_neg (fun h => by have h2 := (pn_le1 (a := 7) (by decide) (by omega)).mp h; have : 7 ≤ k := h2; omega), pv_putn (by omega), bd2_s, pn_s]
    exact ih (k + 1) m (by omega) (by omega)
theorem c_add {F : Nat} {G : M3} {K : J3} {x : Int32} (hF : 1000 ≤ F) (h : RR G K) : Agr (fL_addCompressor F x G K) (fX5_addCompressor F x) := by
  obtain ⟨n, hI, hR⟩ := h.1
  have hn := hI.n5
  have hcn : G 8 1 10 = Int32.ofNat n := hI.cnt
  have h10 : G 0 0 5 = Int32.ofNat n := by rw [hR.o.2.2.2.2.2.1, hcn]
  by_cases h1 : 10 ≤ x ∧ x ≤ 500
  · have hx : 10 ≤ x.toInt ∧ x.toInt ≤ 500 := ⟨Int32.le_iff_toInt_le.mp h1.1, Int32.le_iff_toInt_le.mp h1.2⟩
    have w1 : ¬ fX4_isWithin x 10 500 = 0 := fun e => (wi_iff.mp e) h1
    by_cases h5 : n < 5
    · obtain ⟨G1, K1, d1, d2, d3, d4, d5, -, -, d6⟩ := mut_end hF h
      obtain ⟨M', g1, g2⟩ := pc_inst (x := x) h5 hcn hI.prm hR
      have hI1 : Iv 100000 (n + 1) (adc (G 8 1) n x, K 8 2) := Inv_adc hI h5 hx
      obtain ⟨R, B, r8, d7, d8⟩ := d6 (n + 1) _ _ (hM (G 8)) (G 8 0) _ _ hI1 g2 rfl rfl (fun r _ _ => rfl)
      refine Agr.mut (M' := M') (J' := K1 0) (v := Int32.ofNat n) (M8 := RM (sg (hM (G 8)) 3 R) (sg (sg (G 8 0) 8 r8) 11 0) (adc (G 8 1) n x)) (J8 := RJ (sg (hJ (K 8)) 4 B) (K 8 2)) d4 d5 ?_ ?_ ?_ ?_
      · unfold fL_addCompressor fX4_addCompressor
        rw [if_pos w1, h10, if_pos ((pn_lt2 (b := 5) (by omega) (by decide)).mpr h5), d1, bd2_s, d2, d3, g1, bd3_s]
        simp only [bnd_s, bd4_s, if_true]
      · unfold fX5_addCompressor
        rw [if_pos (show ¬ fX5_in x 10 500 = 0 from w1), hcn, if_pos (fun e => by have := (pn_eq2 (b := 5) (by omega) (by decide)).mp e; have : n = 5 := this; omega), pv_hold hF, bd2_s, RM_1, hcn]
        refine (pv_addL h5 hcn d7 7 0 F (by omega) (by omega)).trans ?_
        rw [RM_u0]
      · rw [RM_0, sg_eq]
      · refine d8 _ _ (sg (sg (G 8 0) 8 r8) 11 0) (fun g hg => mut_g g hg) (fun g hg => ?_) ?_ ?_ (sg_eq _ _ _) (sg_eq _ _ _)
        · rw [mut_k g hg, d3]
        · rw [sg_ne _ _ (by decide), sg_eq]
        · rw [sg_ne _ _ (by decide), sg_ne _ _ (by decide)]
    · obtain rfl : n = 5 := by omega
      refine Agr.throw (k := 2) (v := 0) h (by decide) ?_ ?_
      · unfold fL_addCompressor fX4_addCompressor
        rw [if_pos w1, h10, if_neg (by decide), bd4_s]
        rfl
      · unfold fX5_addCompressor
        rw [if_pos (show ¬ fX5_in x 10 500 = 0 from w1), hcn, if_neg (fun e => e (by decide)), pv_fails, bd3_s]
  · have w1 : fX4_isWithin x 10 500 = 0 := wi_iff.mpr h1
    refine Agr.throw (k := 1) (v := 0) h (by decide) ?_ ?_
    · unfold fL_addCompressor fX4_addCompressor
      rw [if_neg (fun e => e w1), bd4_s]
      rfl
    · unfold fX5_addCompressor
      rw [if_neg (fun e => e w1), pv_fails, bd3_s]
/-- the same of calls that throw nothing -/
def Agd (o : Option (Int32 × M3 × J3)) (r : M2 → J2 → Option (Int32 × M2 × J2)) : Prop := ∃ v G3 K3 M8 J8, o = some (v, G3, K3) ∧ r (G3 8) (K3 8) = some (v, M8, J8) ∧ RR (sg G3 8 M8) (sg K3 8 J8)
theorem Agd.go {o : Option (Int32 × M3 × J3)} {r : M2 → J2 → Option (Int32 × M2 × J2)} {nx : M3 → J3 → Option Int32} (h : Agd o r) : CGo (bd3 o (fun vv4 G2 K3 => bd3 (r (G2 8) (K3 8)) (fun vv12 M6 J7 => bnd (sg G2 8 M6) (fun G8 => bnd (sg K3 8 J7) (fun K9 => (if vv4 = vv12 then nx G8 K9 else (some 0))))))) nx := by
  obtain ⟨v, G3, K3, M8, J8, h1, h2, h3⟩ := h
  refine ⟨_, _, h3, ?_⟩
  rw [h1, bd3_s, h2, bd3_s]
  simp only [bnd_s, if_true]
theorem Agd.mut {o : Option (Int32 × M3 × J3)} {r : M2 → J2 → Option (Int32 × M2 × J2)} {G G1 : M3} {K K1 : J3} {v : Int32} {M' M8 : M2} {J' J8 : J2} (e1 : G1 8 = G 8) (e2 : K1 8 = K 8) (ho : o = some (v, sg G1 0 M', sg K1 0 J')) (hr : r (G 8) (K 8) = some (v, M8, J8)) (hR : RR (sg (sg G1 0 M') 8 M8) (sg (sg K1 0 J') 8 J8)) : Agd o r :=
  ⟨v, _, _, M8, J8, ho, by rw [sg_ne _ _ (by decide), sg_ne _ _ (by decide), e1, e2]; exact hr, hR⟩
theorem mut_k2 {K1 : J3} {J' J8 : J2} (g : Nat) (h : g < 8) : sg (sg K1 0 J') 8 J8 g = if g = 0 then J' else K1 g := by
  rw [sg_ne _ _ (by omega), sg_ap]
theorem c_rotate {F : Nat} {G : M3} {K : J3} (hF : 1000 ≤ F) (h : RR G K) : Agd (fX4_rotate F G K) (fX5_rotate F) := by
  obtain ⟨n, hI, hR⟩ := h.1
  have hn := hI.n5
  have hcn : G 8 1 10 = Int32.ofNat n := hI.cnt
  obtain ⟨G1, K1, d1, d2, d3, d4, d5, -, -, d6⟩ := mut_end hF h
  obtain ⟨M', g1, g2⟩ := pc_rot (F := F) hF hn hcn hI.prm hR
  have hI1 : Iv 100000 n (rots (G 8 1) n, K 8 2) := Inv_rots hI
  obtain ⟨R, B, r8, d7, d8⟩ := d6 n _ _ (hM (G 8)) (sg (G 8 0) 13 (Int32.ofNat (mvk (G 8 1) n n))) _ _ hI1 g2 (sg_ne _ _ (by decide)) (sg_ne _ _ (by decide)) (fun r _ _ => rfl)
  refine Agd.mut (M' := M') (J' := K1 0) (v := Int32.ofNat (mvk (G 8 1) n n)) (M8 := RM (sg (hM (G 8)) 3 R) (sg (sg (sg (G 8 0) 13 (Int32.ofNat (mvk (G 8 1) n n))) 8 r8) 11 0) (rots (G 8 1) n)) (J8 := RJ (sg (hJ (K 8)) 4 B) (K 8 2)) d4 d5 ?_ ?_ ?_
  · unfold fX4_rotate
    rw [d1, bd2_s, d2, d3, g1, bd3_s]
    rfl
  · unfold fX5_rotate
    rw [pv_hold hF, bd2_s, pv_rot hF hn hcn hI.prm, bd3_s, bnd_s, RM_u0, pv_ends0 d7, bd3_s, RM_0, RM_u0, sg_ne _ _ (by decide), sg_eq]
  · refine d8 _ _ (sg (sg (sg (G 8 0) 13 (Int32.ofNat (mvk (G 8 1) n n))) 8 r8) 11 0) (fun g hg => mut_g g hg) (fun g hg => ?_) ?_ ?_ (sg_eq _ _ _) (sg_eq _ _ _)
    · rw [mut_k2 g hg, d3]
    · rw [sg_ne _ _ (by decide), sg_eq]
    · rw [sg_ne _ _ (by decide), sg_ne _ _ (by decide), sg_ne _ _ (by decide)]
