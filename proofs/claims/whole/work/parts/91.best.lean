/-! bestOrder -/
def c7 (M : M2) (s : M1) (k : Nat) : M2 := sg M 7 (fun i => if i < k then s (56 + i) else M 7 i)
def c10 (M : M2) (k : Nat) : M2 := sg M 10 (fun i => if i < k then M 7 i else M 10 i)
theorem c7_o {M : M2} {s : M1} {k r : Nat} (h : r ≠ 7) : c7 M s k r = M r := sg_ne _ _ h
theorem c10_o {M : M2} {k r : Nat} (h : r ≠ 10) : c10 M k r = M r := sg_ne _ _ h
theorem c7_s {M : M2} {s : M1} {k : Nat} : up2 (c7 M s k) 7 k (s (56 + k)) = c7 M s (k + 1) := by
  unfold up2 c7
  rw [sg_sg, sg_eq]
  congr 1
  funext i
  rw [sg_ap]
  by_cases e : i = k
  · subst e; rw [if_pos rfl, if_pos (by omega)]
  · rw [if_neg e]
    by_cases e2 : i < k
    · rw [if_pos e2, if_pos (by omega)]
    · rw [if_neg e2, if_neg (by omega)]
theorem c10_s {M : M2} {k : Nat} : up2 (c10 M k) 10 k (M 7 k) = c10 M (k + 1) := by
  unfold up2 c10
  rw [sg_sg, sg_eq]
  congr 1
  funext i
  rw [sg_ap]
  by_cases e : i = k
  · subst e; rw [if_pos rfl, if_pos (by omega)]
  · rw [if_neg e]
    by_cases e2 : i < k
    · rw [if_pos e2, if_pos (by omega)]
    · rw [if_neg e2, if_neg (by omega)]
theorem pv_b197 {F : Nat} {k82 : Int32 → Int32 → Int32 → Int64 → Int64 → Int32 → M2 → J2 → Option (Int32 × M2 × J2)} {M : M2} {J : J2} {r0 s : M1} {a1 a2 a3 a8 : Int32} {a4 a6 : Int64} : ∀ d k m, k + d = 5 → d < m → fbX5_bestOrder_197 F k82 m a1 a2 a3 a4 a6 a8 (Int32.ofNat k) (RM (c10 M k) r0 s) J = k82 a1 a2 a3 a4 a6 (a8 + 1) (RM (c10 M 5) r0 s) J := by
  intro d
  induction d with
  | zero =>
    intro k m hk hm
    obtain ⟨m, rfl⟩ := fu hm
    obtain rfl : k = 5 := by omega
    rw [show fbX5_bestOrder_197 F k82 (m + 1) = fsX5_bestOrder_197 F k82 (fbX5_bestOrder_197 F k82 m) from rfl]
    unfold fsX5_bestOrder_197 fbX5_bestOrder_223
    rw [if_pos (by decide)]
  | succ d ih =>
    intro k m hk hm
    obtain ⟨m, rfl⟩ := fu hm
    rw [← ih (k + 1) m (by omega) (by omega)]
    rw [show fbX5_bestOrder_197 F k82 (m + 1) = fsX5_bestOrder_197 F k82 (fbX5_bestOrder_197 F k82 m) from rfl]
    unfold fsX5_bestOrder_197
    rw [if_neg (pc_lt5 (by omega)), chk_b (by omega) (by omega), chk_b (by omega) (by omega), bnd_s, pn_in (by omega), pn_s, RM_o _ _ _ (by decide) (by decide), RM_uo _ _ _ (by decide) (by decide), c10_o (by decide), c10_s]
theorem pv_b101 {F : Nat} {k82 : Int32 → Int32 → Int32 → Int64 → Int64 → Int32 → M2 → J2 → Option (Int32 × M2 × J2)} {M M3 : M2} {J J3 : J2} {r0 s : M1} {a1 a2 a3 a8 : Int32} {a4 a6 : Int64} (hm3 : fX5_minutes F a1 (RM (c7 M s 5) r0 s) J = some (M3, J3)) : ∀ d k m, k + d = 5 → d < m → fbX5_bestOrder_101 F k82 m a1 a2 a3 a4 a6 a8 (Int32.ofNat k) (RM (c7 M s k) r0 s) J = (if (lg_cmp a4 (0 : Int64)) < 0 then (fbX5_bestOrder_178 F k82 a1 a2 a3 a8 M3 J3) else ((if (lg_cmp (J3 2 3) a4) < 0 then (fbX5_bestOrder_178 F k82 a1 a2 a3 a8 M3 J3) else ((if ¬ (lg_cmp (J3 2 3) a4) = 0 then (fbX5_bestOrder_223 F k82 a1 a2 a3 a4 a6 a8 M3 J3) else ((if 0 ≤ (lg_cmp (J3 2 5) a6) then (fbX5_bestOrder_223 F k82 a1 a2 a3 a4 a6 a8 M3 J3) else (fbX5_bestOrder_178 F k82 a1 a2 a3 a8 M3 J3)))))))) := by
  intro d
  induction d with
  | zero =>
    intro k m hk hm
    obtain ⟨m, rfl⟩ := fu hm
    obtain rfl : k = 5 := by omega
    rw [show fbX5_bestOrder_101 F k82 (m + 1) = fsX5_bestOrder_101 F k82 (fbX5_bestOrder_101 F k82 m) from rfl]
    unfold fsX5_bestOrder_101
    rw [if_pos (by decide), hm3, bd2_s]
  | succ d ih =>
    intro k m hk hm
    obtain ⟨m, rfl⟩ := fu hm
    rw [← ih (k + 1) m (by omega) (by omega)]
    rw [show fbX5_bestOrder_101 F k82 (m + 1) = fsX5_bestOrder_101 F k82 (fbX5_bestOrder_101 F k82 m) from rfl]
    unfold fsX5_bestOrder_101
    rw [if_neg (pc_lt5 (by omega)), pn_add1, chk_b (by show 56 + k < 61; omega) (by show 56 + k < _; omega), chk_b (by omega) (by omega), bnd_s, pn_in (by omega), pn_in (by show 56 + k < _; omega), pn_s, RM_1, RM_uo _ _ _ (by decide) (by decide)]
    rw [show OfNat.ofNat 56 + k = 56 + k from rfl, c7_s]
theorem lg_m1 : lg_cmp (-1) 0 < 0 := by decide
theorem lg_nn {x : Int64} (h : 0 ≤ x.toInt) : ¬ lg_cmp x 0 < 0 := by
  have h2 : 0 ≤ lg_cmp x 0 := by rw [lg_cmp_ge, Int64.le_iff_toInt_le]; exact h
  rw [Int32.le_iff_toInt_le] at h2
  rw [Int32.lt_iff_toInt_lt]
  omega
theorem pb_L {F n N st : Nat} {s : M1} {b : J1} (hF : 1000 ≤ F) (hI : Iv 100000 n (s, b)) (hN : N ≤ 600) (hst : st < n) : ∀ d w mc mr (G : M3) (K : J3) (M : M2) (J : J2) (r0 s' : M1) (b' : J1) (best : Nat) (cu ce ru re : Int64),
    w + d = fct n → d < mc → d < mr → Rep n (G 0) (K 0) s b → G 1 0 5 = Int32.ofNat n → (∀ x, x < 61 → M 5 x = s x) → (∀ x, x < 6 → J 6 x = b x) →
    ((w = 0 ∧ ru = -1) ∨ (0 < w ∧ cu = ru ∧ ce = re ∧ 0 ≤ ru.toInt ∧ ∀ k, k < n → M 10 k = Int32.ofNat (oo n best k))) → best < fct n →
    ∃ best' M1' J1' M' r0' s'' b'', best' < fct n ∧ M1' 0 5 = Int32.ofNat n ∧
      fbX4_rankOfBestOrder_22 F mc (Int32.ofNat N) (Int32.ofNat best) cu ce (Int32.ofNat (fct n)) (Int32.ofNat w) G K = some (Int32.ofNat best', sg G 1 M1', sg K 1 J1') ∧
      fbX5_bestOrder_82 F mr (Int32.ofNat N) (Int32.ofNat st) (Int32.ofNat (fct n)) ru re (Int32.ofNat w) (RM M r0 s') (RJ J b') = some (Int32.ofNat (oo n best' st), RM M' (sg r0' 11 0) s'', RJ J b'') ∧ M' 3 = M 3 ∧ M' 9 = M 9 ∧ r0' 8 = r0 8 ∧ r0' 10 = r0 10 ∧ (∀ x, x < 61 → s'' x = s x) ∧ ∀ x, x < 6 → b'' x = b x := by
  have hn := hI.n5
  have hcn : s 10 = Int32.ofNat n := hI.cnt
  have hfn := fct_in n (by omega)
  intro d
  induction d with
  | zero =>
    intro w mc mr G K M J r0 s' b' best cu ce ru re hw h1 h2 hR h15 h5 h6 hcmp hbest
    obtain ⟨mc, rfl⟩ := fu h1
    obtain ⟨mr, rfl⟩ := fu h2
    obtain rfl : w = fct n := by omega
    rcases hcmp with ⟨e, -⟩ | ⟨-, -, -, -, h10⟩
    · omega
    obtain ⟨s'', b'', q1, q2, q3⟩ := pv_back (F := F) (M := M) (J := J) (r0 := r0) (s' := s') (b' := b') hF h5 h6
    refine ⟨best, G 1, K 1, M, r0, s'', b'', hbest, h15, ?_, ?_, rfl, rfl, rfl, rfl, q2, q3⟩
    · rw [show fbX4_rankOfBestOrder_22 F (mc + 1) = fsX4_rankOfBestOrder_22 F (fbX4_rankOfBestOrder_22 F mc) from rfl]
      unfold fsX4_rankOfBestOrder_22
      rw [if_pos ((pn_le (by omega) (by omega)).mpr (by omega)), sg_self, sg_self]
    · rw [show fbX5_bestOrder_82 F (mr + 1) = fsX5_bestOrder_82 F (fbX5_bestOrder_82 F mr) from rfl]
      unfold fsX5_bestOrder_82
      rw [if_pos ((pn_le (by omega) (by omega)).mpr (by omega)), q1, bd2_s, chk_b (by omega) (by omega), pn_in (by omega), RM_o _ _ _ (by decide) (by decide), h10 st hst, pv_tells, bd3_s, RM_u0]
  | succ d ih =>
    intro w mc mr G K M J r0 s' b' best cu ce ru re hw h1 h2 hR h15 h5 h6 hcmp hbest
    obtain ⟨mc, rfl⟩ := fu h1
    obtain ⟨mr, rfl⟩ := fu h2
    have hwn : w < fct n := by omega
    obtain ⟨s1, b1, q1, q2, q3⟩ := pv_back (F := F) (M := M) (J := J) (r0 := r0) (s' := s') (b' := b') hF h5 h6
    obtain ⟨Ma, Ja, a1, a2⟩ := pc_tk (F := F) (G := G) (K := K) (g := 1) (g' := 0) hF (by decide) hn hcn hR
    have a3 : Rep n Ma Ja s1 b1 := Rep_cg a2 hn q2 q3
    have hI1 : Iv 100000 n (s1, b1) := Inv_cg hI q2 q3
    have hc1 : s1 10 = Int32.ofNat n := hI1.cnt
    have a4 : Ma 0 5 = Int32.ofNat n := by rw [a3.o.2.2.2.2.2.1, hc1]
    have a5 := pc_rank2 (F := F) (M := Ma) (J := Ja) hF hn a4 hwn
    have a6 := Rep_sor a3 hn hwn
    have hI2 : Iv 100000 n (sor s1 n w n, b1) := Inv_sor hI1 hwn
    obtain ⟨M', J', g1, g2⟩ := pc_minutes (F := F) (N := N) (q := (sor s1 n w n, b1)) hF hI2 hN (by omega) a6
    obtain ⟨y, k1⟩ := pv_minutes (F := F) (N := N) (M := c7 M (sor s1 n w n) 5) (J := J) (r0 := r0) (q := (sor s1 n w n, b1)) hF hI2 hN (by omega)
    have hI3 := (Iv_mik (k := N) hI2 (by omega)).1
    have hu := hI3.unm.1
    have g15 : M' 0 5 = Int32.ofNat n := by rw [g2.o.2.2.2.2.2.1]; exact hI3.cnt
    have b101 := pv_b101 (F := F) (k82 := fbX5_bestOrder_82 F mr) (M := M) (J := RJ J b1) (r0 := r0) (s := sor s1 n w n) (a1 := Int32.ofNat N) (a2 := Int32.ofNat st) (a3 := Int32.ofNat (fct n)) (a8 := Int32.ofNat w) (a4 := ru) (a6 := re) k1 5 0 F (by omega) (by omega)
    have c70 : c7 M (sor s1 n w n) 0 = M := by
      unfold c7
      have : (fun i => if i < 0 then sor s1 n w n (56 + i) else M 7 i) = M 7 := by funext i; rw [if_neg (by omega)]
      rw [this, sg_self]
    rw [c70, show Int32.ofNat 0 = (0 : Int32) from rfl] at b101
    have b197 := pv_b197 (F := F) (k82 := fbX5_bestOrder_82 F mr) (M := c7 M (sor s1 n w n) 5) (J := RJ J (mik n (sor s1 n w n, b1) N).2) (r0 := sg r0 12 y) (s := (mik n (sor s1 n w n, b1) N).1) (a1 := Int32.ofNat N) (a2 := Int32.ofNat st) (a3 := Int32.ofNat (fct n)) (a8 := Int32.ofNat w) (a4 := (mik n (sor s1 n w n, b1) N).2 3) (a6 := (mik n (sor s1 n w n, b1) N).2 5) 5 0 F (by omega) (by omega)
    have c100 : c10 (c7 M (sor s1 n w n) 5) 0 = c7 M (sor s1 n w n) 5 := by
      unfold c10
      have : (fun i => if i < 0 then c7 M (sor s1 n w n) 5 7 i else c7 M (sor s1 n w n) 5 10 i) = c7 M (sor s1 n w n) 5 10 := by funext i; rw [if_neg (by omega)]
      rw [this, sg_self]
    rw [c100, show Int32.ofNat 0 = (0 : Int32) from rfl] at b197
    rw [show fbX4_rankOfBestOrder_22 F (mc + 1) = fsX4_rankOfBestOrder_22 F (fbX4_rankOfBestOrder_22 F mc) from rfl]
    rw [show fbX5_bestOrder_82 F (mr + 1) = fsX5_bestOrder_82 F (fbX5_bestOrder_82 F mr) from rfl]
    unfold fsX4_rankOfBestOrder_22 fsX5_bestOrder_82 fbX4_rankOfBestOrder_106 fbX4_rankOfBestOrder_116
    rw [if_neg (fun h => by have := (pn_le (by omega) (by omega)).mp h; omega), if_neg (fun h => by have := (pn_le (by omega) (by omega)).mp h; omega), a1, bd2_s, sg_eq, sg_eq, a5, bd2_s, q1, bd2_s, pv_orders hF hn hc1 hwn, bd2_s]
    simp only [bnd_s, sg_eq, sg_sg]
    rw [g1, bd2_s]
    rw [g2.am 3 (by omega), g2.am 5 (by omega)]
    rw [b101]
    unfold fbX5_bestOrder_178 fbX5_bestOrder_223
    rw [RJ_2, b197]
    simp only [pn_s]
    -- a better order, and one that is not
    have better : ∃ best' M1' J1' Mx r0' s'' b'', best' < fct n ∧ M1' 0 5 = Int32.ofNat n ∧
      fbX4_rankOfBestOrder_22 F mc (Int32.ofNat N) (Int32.ofNat w) ((mik n (sor s1 n w n, b1) N).2 3) ((mik n (sor s1 n w n, b1) N).2 5) (Int32.ofNat (fct n)) (Int32.ofNat (w + 1)) (sg G 1 M') (sg K 1 J') = some (Int32.ofNat best', sg G 1 M1', sg K 1 J1') ∧
      fbX5_bestOrder_82 F mr (Int32.ofNat N) (Int32.ofNat st) (Int32.ofNat (fct n)) ((mik n (sor s1 n w n, b1) N).2 3) ((mik n (sor s1 n w n, b1) N).2 5) (Int32.ofNat (w + 1)) (RM (c10 (c7 M (sor s1 n w n) 5) 5) (sg r0 12 y) (mik n (sor s1 n w n, b1) N).1) (RJ J (mik n (sor s1 n w n, b1) N).2) = some (Int32.ofNat (oo n best' st), RM Mx (sg r0' 11 0) s'', RJ J b'') ∧ Mx 3 = M 3 ∧ Mx 9 = M 9 ∧ r0' 8 = r0 8 ∧ r0' 10 = r0 10 ∧ (∀ x, x < 61 → s'' x = s x) ∧ ∀ x, x < 6 → b'' x = b x := by
      obtain ⟨best', M1', J1', Mx, r0', s'', b'', i1, i2, i3, i4, i5, i6, i7, i8, i9, i10⟩ := ih (w + 1) mc mr (sg G 1 M') (sg K 1 J') (c10 (c7 M (sor s1 n w n) 5) 5) J (sg r0 12 y) (mik n (sor s1 n w n, b1) N).1 (mik n (sor s1 n w n, b1) N).2 w ((mik n (sor s1 n w n, b1) N).2 3) ((mik n (sor s1 n w n, b1) N).2 5) ((mik n (sor s1 n w n, b1) N).2 3) ((mik n (sor s1 n w n, b1) N).2 5) (by omega) (by omega) (by omega) (by rw [sg_ne _ _ (by decide), sg_ne _ _ (by decide)]; exact hR) (by rw [sg_eq]; exact g15) (fun x hx => by rw [c10_o (by decide), c7_o (by decide)]; exact h5 x hx) h6 (Or.inr ⟨by omega, rfl, rfl, hu, fun k hk => by
        unfold c10
        rw [sg_eq, if_pos (by omega)]
        unfold c7
        rw [sg_eq, if_pos (by omega)]
        unfold sor
        rw [if_pos (by omega), show 56 + k - 56 = k by omega]⟩) hwn
      rw [sg_sg, sg_sg] at i3
      rw [c10_o (by decide), c7_o (by decide)] at i5 i6
      rw [sg_ne _ _ (by decide)] at i7 i8
      exact ⟨best', M1', J1', Mx, r0', s'', b'', i1, i2, i3, i4, i5, i6, i7, i8, i9, i10⟩
    rcases hcmp with ⟨e0, e1⟩ | ⟨e0, e1, e2, e3, e4⟩
    · subst e0 e1
      rw [if_pos (show Int32.ofNat 0 = 0 from rfl), if_pos lg_m1]
      exact better
    · subst e1 e2
      rw [if_neg (fun e => by have := (pn_eq2 (b := 0) (by omega) (by decide)).mp e; have : w = 0 := this; omega), if_neg (lg_nn e3)]
      have worse : ∃ best' M1' J1' Mx r0' s'' b'', best' < fct n ∧ M1' 0 5 = Int32.ofNat n ∧
        fbX4_rankOfBestOrder_22 F mc (Int32.ofNat N) (Int32.ofNat best) cu ce (Int32.ofNat (fct n)) (Int32.ofNat (w + 1)) (sg G 1 M') (sg K 1 J') = some (Int32.ofNat best', sg G 1 M1', sg K 1 J1') ∧
        fbX5_bestOrder_82 F mr (Int32.ofNat N) (Int32.ofNat st) (Int32.ofNat (fct n)) cu ce (Int32.ofNat (w + 1)) (RM (c7 M (sor s1 n w n) 5) (sg r0 12 y) (mik n (sor s1 n w n, b1) N).1) (RJ J (mik n (sor s1 n w n, b1) N).2) = some (Int32.ofNat (oo n best' st), RM Mx (sg r0' 11 0) s'', RJ J b'') ∧ Mx 3 = M 3 ∧ Mx 9 = M 9 ∧ r0' 8 = r0 8 ∧ r0' 10 = r0 10 ∧ (∀ x, x < 61 → s'' x = s x) ∧ ∀ x, x < 6 → b'' x = b x := by
        obtain ⟨best', M1', J1', Mx, r0', s'', b'', i1, i2, i3, i4, i5, i6, i7, i8, i9, i10⟩ := ih (w + 1) mc mr (sg G 1 M') (sg K 1 J') (c7 M (sor s1 n w n) 5) J (sg r0 12 y) (mik n (sor s1 n w n, b1) N).1 (mik n (sor s1 n w n, b1) N).2 best cu ce cu ce (by omega) (by omega) (by omega) (by rw [sg_ne _ _ (by decide), sg_ne _ _ (by decide)]; exact hR) (by rw [sg_eq]; exact g15) (fun x hx => by rw [c7_o (by decide)]; exact h5 x hx) h6 (Or.inr ⟨by omega, rfl, rfl, e3, fun k hk => by rw [c7_o (by decide)]; exact e4 k hk⟩) hbest
        rw [sg_sg, sg_sg] at i3
        rw [c7_o (by decide)] at i5 i6
        rw [sg_ne _ _ (by decide)] at i7 i8
        exact ⟨best', M1', J1', Mx, r0', s'', b'', i1, i2, i3, i4, i5, i6, i7, i8, i9, i10⟩
      by_cases f1 : lg_cmp ((mik n (sor s1 n w n, b1) N).2 3) cu < 0
      · rw [if_pos f1, if_pos f1]; exact better
      · rw [if_neg f1, if_neg f1]
        by_cases f2 : lg_cmp ((mik n (sor s1 n w n, b1) N).2 3) cu = 0
        · have nf2 : ¬ ¬ lg_cmp ((mik n (sor s1 n w n, b1) N).2 3) cu = 0 := fun e => e f2
          rw [if_neg nf2, if_neg nf2]
          by_cases f3 : 0 ≤ lg_cmp ((mik n (sor s1 n w n, b1) N).2 5) ce
          · rw [if_pos f3, if_pos f3]; exact worse
          · rw [if_neg f3, if_neg f3]; exact better
        · rw [if_pos f2, if_pos f2]; exact worse
theorem pv_b44 {F n : Nat} {M : M2} {J : J2} {a1 a2 : Int32} (hF : 1000 ≤ F) (hn : n ≤ 5) (hn1 : 1 ≤ n) (h10 : M 1 10 = Int32.ofNat n) : ∀ d k m, k + d = n + 1 → 2 ≤ k → d < m → fbX5_bestOrder_44 F m a1 a2 (Int32.ofNat (fct (k - 1))) (Int32.ofNat k) M J = fbX5_bestOrder_82 F F a1 a2 (Int32.ofNat (fct n)) (-1 : Int64) (0 : Int64) (0 : Int32) (RM (lM M) (M 0) (M 1)) (RJ (lJ J) (J 2)) := by
  intro d
  induction d with
  | zero =>
    intro k m hk h2 hm
    obtain ⟨m, rfl⟩ := fu hm
    obtain rfl : k = n + 1 := by omega
    rw [show fbX5_bestOrder_44 F (m + 1) = fsX5_bestOrder_44 F (fbX5_bestOrder_44 F m) from rfl]
    unfold fsX5_bestOrder_44
    rw [h10, if_pos ((pn_lt (by omega) (by omega)).mpr (by omega)), pv_lay hF, bd2_s, show n + 1 - 1 = n by omega]
  | succ d ih =>
    intro k m hk h2 hm
    obtain ⟨m, rfl⟩ := fu hm
    rw [← ih (k + 1) m (by omega) (by omega) (by omega)]
    rw [show fbX5_bestOrder_44 F (m + 1) = fsX5_bestOrder_44 F (fbX5_bestOrder_44 F m) from rfl]
    unfold fsX5_bestOrder_44
    rw [h10, if_neg (fun h => by have := (pn_lt (by omega) (by omega)).mp h; omega), pn_mul, pn_s, fct_m (by omega), show k + 1 - 1 = k by omega]
theorem c_best {F : Nat} {G : M3} {K : J3} {x y : Int32} (hF : 1000 ≤ F) (h : RR G K) : Agr (fL_bestOrder F x y G K) (fX5_bestOrder F x y) := by
  obtain ⟨n, hI, hR⟩ := h.1
  have hn := hI.n5
  have hcn : G 8 1 10 = Int32.ofNat n := hI.cnt
  have h10 : G 0 0 5 = Int32.ofNat n := by rw [hR.o.2.2.2.2.2.1, hcn]
  have hfn := fct_in n (by omega)
  by_cases h0 : 1 ≤ x ∧ x ≤ 30
  · obtain ⟨N, -, hN, rfl⟩ := s_cases (a := 1) (b := 30) (by decide) h0 (by decide)
    have w0 : ¬ fX4_isWithin (Int32.ofNat N) 1 30 = 0 := fun e => (wi_iff.mp e) h0
    by_cases h1 : 0 ≤ y.toInt ∧ y.toInt < n
    · obtain ⟨st, hst, rfl⟩ := one_of h1
      have w1 : ¬ fX4_isWithin (Int32.ofNat st) 0 (Int32.ofNat n - 1) = 0 := fun e => (rng4 (by omega)).mp e h1
      obtain ⟨Ma, Ja, a1, a2⟩ := pc_tk (F := F) (G := G) (K := K) (g := 1) (g' := 0) hF (by decide) hn hcn hR
      have a4 : Ma 0 5 = Int32.ofNat n := by rw [a2.o.2.2.2.2.2.1, hcn]
      obtain ⟨best', M1', J1', Mx, r0', s'', b'', i1, i2, i3, i4, i5, i6, i7, i8, i9, i10⟩ := pb_L (F := F) (n := n) (N := N) (st := st) (s := G 8 1) (b := K 8 2) hF hI (by omega) hst (fct n) 0 F F (sg G 1 Ma) (sg K 1 Ja) (lM (G 8)) (lJ (K 8)) (G 8 0) (G 8 1) (K 8 2) 0 0 0 (-1) 0 (by omega) (by omega) (by omega) (by rw [sg_ne _ _ (by decide), sg_ne _ _ (by decide)]; exact hR) (by rw [sg_eq]; exact a4) (fun x hx => lM_5 hx) (fun x hx => lJ_6 hx) (Or.inl ⟨rfl, rfl⟩) (by omega)
      rw [sg_sg, sg_sg] at i3
      have a5 := pc_rank2 (F := F) (M := M1') (J := J1') hF hn i2 i1
      have hs := sor_prm (s := G 8 1) hn i1
      have hv : G 8 1 = G 8 1 := rfl
      refine Agr.ask (v := Int32.ofNat (oo n best' st)) (M' := omk M1' n best' n) (J' := J1') (M := Mx) (J := lJ (K 8)) (r0 := r0') (s'' := s'') (b'' := b'') h ?_ ?_ i9 i10 (by rw [i5]; exact lM_o (by decide)) (lJ_o (by decide)) (by rw [i6]; exact lM_o (by decide)) i7 i8
      · unfold fL_bestOrder fX4_bestOrder fX4_rankOfBestOrder
        rw [if_pos w0, h10, if_pos w1, a1, bd2_s, sg_ne _ _ (by decide), h10, pc_orders hF hn, Option.bind_some]
        rw [show fbX4_rankOfBestOrder_22 F F (Int32.ofNat N) 0 0 0 (Int32.ofNat (fct n)) 0 (sg G 1 Ma) (sg K 1 Ja) = _ from i3, bd3_s, sg_eq, sg_eq, a5, bd2_s]
        simp only [bnd_s, sg_eq, sg_sg]
        rw [pc_ats (s := sor (G 8 1) n best' n) hF hn (by rw [omk_o (by omega)]; exact i2) (fun c hc => by rw [omk_i hc, if_pos (ost_ok n (by omega) best' i1 c hc).1, hs.2 c hc]) hs.1 hst, Option.bind_some, bd4_s, if_pos rfl]
        have e : sor (G 8 1) n best' n (56 + st) = Int32.ofNat (oo n best' st) := by
          unfold sor
          rw [if_pos (by omega), show 56 + st - 56 = st by omega]
        rw [e]
      · unfold fX5_bestOrder
        rw [if_pos (show ¬ fX5_in (Int32.ofNat N) 1 30 = 0 from w0), hcn, if_pos (show ¬ fX5_in (Int32.ofNat st) 0 (Int32.ofNat n - 1) = 0 from w1)]
        refine (pv_b44 (F := F) (n := n) (M := G 8) (J := K 8) hF hn (by omega) hcn (n - 1) 2 F (by omega) (by omega) (by omega)).trans ?_
        exact i4
    · have w1 : fX4_isWithin y 0 (Int32.ofNat n - 1) = 0 := (rng4 (by omega)).mpr h1
      refine Agr.throw (k := 2) (v := 0) h (by decide) ?_ ?_
      · unfold fL_bestOrder fX4_bestOrder
        rw [if_pos w0, h10, if_neg (fun e => e w1), bd4_s]
        rfl
      · unfold fX5_bestOrder
        rw [if_pos (show ¬ fX5_in (Int32.ofNat N) 1 30 = 0 from w0), hcn, if_neg (fun e => e w1), pv_fails, bd3_s]
  · have w0 : fX4_isWithin x 1 30 = 0 := wi_iff.mpr h0
    refine Agr.throw (k := 1) (v := 0) h (by decide) ?_ ?_
    · unfold fL_bestOrder fX4_bestOrder
      rw [if_neg (fun e => e w0), bd4_s]
      rfl
    · unfold fX5_bestOrder
      rw [if_neg (fun e => e w0), pv_fails, bd3_s]
