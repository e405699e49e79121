/-- a result is kept -/
def kpr (s : M1) (r : Nat) (x : Int32) : M1 := if r = 6 then (fun i => if 15 ≤ i ∧ i < 20 then s (i + 1) else if i = 20 then x else s i) else sg (sg s (15 + r) x) 14 (Int32.ofNat (r + 1))
theorem kpr_at {s : M1} {r i : Nat} {x : Int32} (hr : r ≤ 6) (h : i < 14 ∨ 21 ≤ i) : kpr s r x i = s i := by
  unfold kpr
  split
  · dsimp only
    rw [if_neg (by omega), if_neg (by omega)]
  · rw [sg_ne _ _ (by omega), sg_ne _ _ (by omega)]
theorem Inv_kpr {U A T : Int} {n r : Nat} {s : M1} {b : J1} {x : Int32} (h : Inv U A T n s b) (hr : r ≤ 6) (h14 : s 14 = Int32.ofNat r) : Inv U A T n (kpr s r x) b := by
  have hn := h.n5
  have e : ∀ i, i < 14 ∨ 21 ≤ i → kpr s r x i = s i := fun i h1 => kpr_at hr h1
  refine ⟨hn, ?_, ?_, ?_, ?_, ?_, ?_, ?_, ?_, ?_, fun d hd => (h.cmp d hd).congr (fun f hf _ _ _ => e (21 + 7 * d + f) (by omega)), h.prm.congr (fun i hi => e i (by omega)), ?_⟩
  · rw [e 10 (by omega)]; exact h.cnt
  · rw [e 0 (by omega)]; exact h.vol
  · rw [e 1 (by omega)]; exact h.air
  · rw [e 4 (by omega)]; exact h.rel
  · rw [e 6 (by omega)]; exact h.rst
  · rw [e 7 (by omega)]; exact h.lek
  · rw [e 8 (by omega)]; exact h.dem
  · rw [e 11 (by omega)]; exact h.tim
  · rw [e 11 (by omega)]; exact h.unm
  · unfold kpr
    split
    · exact ⟨6, by omega, by dsimp only; rw [if_neg (by omega), if_neg (by omega), h14]; congr 1⟩
    · exact ⟨r + 1, by omega, sg_eq _ _ _⟩
/-- the class's row moved by one, from k on -/
def shr (M : M2) (k : Nat) : M2 := fun r j => if r = 3 ∧ k < j ∧ j ≤ 5 then M 3 (j - 1) else M r j
theorem pc_keepL {F : Nat} {M : M2} {J : J2} {x : Int32} : ∀ k m, k ≤ 5 → k < m → fbX3_keepResult_2 F m x (Int32.ofNat k) (shr M k) J = some (up2 (up2 (shr M 0) 3 0 x) 0 6 (if 6 < M 0 6 + 1 then 6 else M 0 6 + 1), J) := by
  intro k
  induction k with
  | zero =>
    intro m hk hm
    obtain ⟨m, rfl⟩ := fu hm
    rw [show fbX3_keepResult_2 F (m + 1) = fsX3_keepResult_2 F (fbX3_keepResult_2 F m) from rfl]
    unfold fsX3_keepResult_2
    rw [if_pos (by decide)]
    rfl
  | succ k ih =>
    intro m hk hm
    obtain ⟨m, rfl⟩ := fu hm
    show fsX3_keepResult_2 F (fbX3_keepResult_2 F m) _ _ _ _ = _
    unfold fsX3_keepResult_2
    rw [if_neg (fun h => by have := (pn_le2 (b := 0) (by omega) (by decide)).mp h; have : k + 1 ≤ 0 := this; omega)]
    rw [pn_m1 (by omega), show Int32.ofNat (k + 1) - 1 = Int32.ofNat k from by rw [show (1 : Int32) = Int32.ofNat 1 from rfl, pn_sub (by omega)]; rfl]
    simp (disch := omega) only [chk_b, pn_in, bnd_s]
    rw [← ih m (by omega) (by omega)]
    congr 1
    funext r j
    rw [up2_ap]
    unfold shr
    by_cases hr : r = 3
    · subst hr
      by_cases hj : j = k + 1
      · subst hj
        rw [if_pos rfl, if_pos rfl, if_neg (by omega), if_pos (by omega)]
        rfl
      · rw [if_pos rfl, if_neg hj]
        by_cases h2 : k + 1 < j ∧ j ≤ 5
        · rw [if_pos (by omega), if_pos (by omega)]
        · rw [if_neg (by omega), if_neg (by omega)]
    · rw [if_neg hr, if_neg (by omega), if_neg (by omega)]
theorem pc_keep {F : Nat} {n r : Nat} {M : M2} {J : J2} {s : M1} {b : J1} {x : Int32} (hF : 1000 ≤ F) (hn : n ≤ 5) (hr : r ≤ 6) (h14 : s 14 = Int32.ofNat r) (h : Rep n M J s b) : ∃ M', fX3_keepResult F x M J = some (M', J) ∧ Rep n M' J (kpr s r x) b := by
  have e := pc_keepL (F := F) (M := M) (J := J) (x := x) 5 F (by omega) (by omega)
  have e2 : shr M 5 = M := by funext r j; unfold shr; rw [if_neg (by omega)]
  rw [e2] at e
  refine ⟨_, e, ?_⟩
  obtain ⟨o0, o1, o2, o3, o4, o5, o6⟩ := h.o
  have hs : ∀ i, i < 14 ∨ 21 ≤ i → kpr s r x i = s i := fun i h1 => kpr_at hr h1
  have hM : ∀ r2 j, r2 ≠ 0 → r2 ≠ 3 → up2 (up2 (shr M 0) 3 0 x) 0 6 (if 6 < M 0 6 + 1 then 6 else M 0 6 + 1) r2 j = M r2 j := fun r2 j h1 h2 => by
    rw [up2_ap, if_neg h1, up2_ap, if_neg h2]; unfold shr; rw [if_neg (by omega)]
  have hM0 : ∀ j, j ≠ 6 → up2 (up2 (shr M 0) 3 0 x) 0 6 (if 6 < M 0 6 + 1 then 6 else M 0 6 + 1) 0 j = M 0 j := fun j h1 => by
    rw [up2_ap, if_pos rfl, if_neg h1, up2_ap, if_neg (by decide)]; unfold shr; rw [if_neg (by omega)]
  have h6 : (if 6 < M 0 6 + 1 then (6 : Int32) else M 0 6 + 1) = Int32.ofNat (if r = 6 then 6 else r + 1) := by
    rw [o6, h14, pn_s]
    by_cases e : r = 6
    · subst e; decide
    · rw [if_neg e, if_neg (fun h => by have := (pn_lt1 (a := 6) (by decide) (by omega)).mp h; have : 6 < r + 1 := this; omega)]
  have k14 : kpr s r x 14 = Int32.ofNat (if r = 6 then 6 else r + 1) := by
    unfold kpr
    split
    · rename_i h; dsimp only; rw [if_neg (by omega), if_neg (by omega), h14, h]
    · exact sg_eq _ _ _
  refine ⟨?_, fun k hk => ?_, h.am, fun d hd => ?_, fun r' hr' h14' k hk => ?_⟩
  · unfold RO
    rw [hM0 0 (by omega), hM0 1 (by omega), hM0 2 (by omega), hM0 3 (by omega), hM0 4 (by omega), hM0 5 (by omega), hs 0 (by omega), hs 1 (by omega), hs 11 (by omega), hs 12 (by omega), hs 13 (by omega), hs 10 (by omega), k14, h6]
    refine ⟨o0, o1, o2, o3, o4, o5, ?_⟩
    rw [up2_ap, if_pos rfl, if_pos rfl]
  · rw [hM _ _ (by omega) (by omega), hs _ (by omega)]; exact h.st k hk
  · have h2 := h.c d hd
    unfold RC at *
    rw [hM _ _ (by omega) (by omega), hM _ _ (by omega) (by omega), hM _ _ (by omega) (by omega), hM _ _ (by omega) (by omega), hM _ _ (by omega) (by omega), hM _ _ (by omega) (by omega), hM _ _ (by omega) (by omega), hM _ _ (by omega) (by omega), stg_congr (s := s) (fun i hi => hs i (by omega)), hs (21 + 7 * d) (by omega), hs (21 + 7 * d + 1) (by omega), hs (21 + 7 * d + 2) (by omega), hs (21 + 7 * d + 3) (by omega), hs (21 + 7 * d + 4) (by omega), hs (21 + 7 * d + 5) (by omega), hs (21 + 7 * d + 6) (by omega)]
    exact h2
  · rw [k14, pn_eq (by split <;> omega) (by omega)] at h14'
    rw [up2_ap, if_neg (by decide), up2_ap, if_pos rfl]
    by_cases hk0 : k = 0
    · subst hk0
      rw [if_pos rfl, ← h14']
      unfold kpr
      split
      · simp
      · rw [sg_ne _ _ (by omega), show 15 + (r + 1 - 1 - 0) = 15 + r by omega, sg_eq]
    · rw [if_neg hk0]
      unfold shr
      rw [if_pos (by split at h14' <;> omega), h.r r hr h14 (k - 1) (by split at h14' <;> omega)]
      unfold kpr
      split
      · rename_i h7
        rw [if_pos h7] at h14'
        dsimp only
        rw [if_pos (by omega)]
        congr 1; omega
      · rename_i h7
        rw [if_neg h7] at h14'
        rw [sg_ne _ _ (by omega), sg_ne _ _ (by omega)]
        congr 1; omega
/-- what the leak of a test's minute takes; the minutes; their sum -/
def lkt (n : Nat) (q : M1 × J1) : Int32 := lkg (flk (mrot q.1 n) q.2 n).1 (prs (mrot q.1 n))
def tsk (n : Nat) (q : M1 × J1) : Nat → M1 × J1
  | 0 => q
  | k + 1 => tst n (tsk n q k)
def lks (n : Nat) (q : M1 × J1) : Nat → Int32
  | 0 => 0
  | k + 1 => lks n q k + lkt n (tsk n q k)
theorem flk_b1 {s : M1} {b : J1} {k : Nat} : (flk s b k).2 1 = b 1 := by
  induction k with
  | zero => rfl
  | succ k ih =>
    unfold flk flb
    rw [← ih]
    simp only [apply_ite (fun q : M1 × J1 => q.2 1), sg_ap]
    grind
theorem tst_b1 {n : Nat} {q : M1 × J1} : (tst n q).2 1 = q.2 1 + (lkt n q).toInt64 := by
  unfold tst tik blw
  dsimp only
  have e : (lkd (flk (mrot q.1 n) q.2 n) (prs (mrot q.1 n))).2 1 = q.2 1 + (lkt n q).toInt64 := by
    unfold lkd lkt
    dsimp only
    rw [sg_eq, flk_b1]
  rw [← e]
  split
  · rfl
  · dsimp only; rw [sg_ne _ _ (by decide)]
theorem lks_eq {n k : Nat} {q : M1 × J1} : ((tsk n q k).2 1 - q.2 1).toInt32 = lks n q k := by
  induction k with
  | zero => unfold tsk lks; rw [Int64.toInt32_sub]; simp
  | succ k ih =>
    rw [Int64.toInt32_sub] at ih ⊢
    show ((tst n (tsk n q k)).2 1).toInt32 - _ = _
    rw [tst_b1, Int64.toInt32_add, Int32.toInt32_toInt64]
    unfold lks
    rw [← ih]
    grind
theorem Iv_tsk {T : Int} {n k : Nat} {q : M1 × J1} (h : Iv T n q) (hT : T + (k : Int) ≤ 1000000) : Iv (T + (k : Int)) n (tsk n q k) ∧ ((tsk n q k).1 11).toInt = (q.1 11).toInt + (k : Int) := by
  induction k with
  | zero => exact ⟨by rw [show T + ((0 : Nat) : Int) = T by omega]; exact h, by unfold tsk; omega⟩
  | succ k ih =>
    obtain ⟨h1, h2⟩ := ih (by omega)
    obtain ⟨h3, h4⟩ := Iv_tst h1 (by omega)
    refine ⟨?_, ?_⟩
    · rw [show T + ((k + 1 : Nat) : Int) = T + (k : Int) + 1 by omega]; exact h3
    · show ((tst n (tsk n q k)).1 11).toInt = _
      rw [h4, h2]; omega
theorem pc_tmin {F : Nat} {T : Int} {n : Nat} {M : M2} {J : J2} {q : M1 × J1} (hF : 1000 ≤ F) (hI : Iv T n q) (h : Rep n M J q.1 q.2) (k8 : Int32 → Int32 → Int32 → M2 → J2 → Option (Int32 × M2 × J2)) (a1 a2 a3 : Int32) : ∃ M' J', Rep n M' J' (tst n q).1 (tst n q).2 ∧ (if (M 0 3) < (M 1 7) then (fbX3_runLeakTest_32 F k8 a1 a2 a3 M J) else (bd3 (fX3_reorder F M J) (fun vv9 M7 J8 => fbX3_runLeakTest_32 F k8 a1 a2 a3 M7 J8))) = k8 a1 (a2 + lkt n q) (a3 + 1) M' J' := by
  have hn := hI.n5
  obtain ⟨s, b⟩ := q
  dsimp only at h
  have o3 := h.o.2.2.2.1
  have s7 := h.st 7 (by omega)
  rw [o3, s7]
  have hI2 : Iv T n (mrot s n, b) := Inv_mrot hI
  have key : ∀ M, Rep n M J (mrot s n) b → ∃ M' J', Rep n M' J' (tst n (s, b)).1 (tst n (s, b)).2 ∧ fbX3_runLeakTest_32 F k8 a1 a2 a3 M J = k8 a1 (a2 + lkt n (s, b)) (a3 + 1) M' J' := by
    intro M h
    obtain ⟨-, hp⟩ := prs_in hI2.air (by omega) hI2.vol.1
    obtain ⟨M2', J2', k1, k2⟩ := pc_flows (F := F) (p := prs (mrot s n)) true hF hn hI2.cnt h (Inv_v0 hI2).1 (lkd_air (Inv_flk hI2 (by omega) (Nat.le_refl n)) (by omega) hp)
    refine ⟨M2', J2', k2, ?_⟩
    unfold fbX3_runLeakTest_32
    rw [pc_press (Inv_v0 hI2).1 h]
    simp only [if_true] at k1
    simp only [Option.bind_some]
    rw [k1, bd3_s]
    rfl
  by_cases hc : s 12 < s 9
  · have e : mrot s n = s := if_pos hc
    rw [if_pos hc]
    exact key M (by rw [e]; exact h)
  · have e : mrot s n = rots s n := if_neg hc
    rw [if_neg hc]
    obtain ⟨M', h1, h2⟩ := pc_rot (F := F) hF hn hI.cnt hI.prm h
    rw [h1, bd3_s]
    exact key M' (by rw [e]; exact h2)
theorem pc_ltL {F : Nat} {T : Int} {n N : Nat} {q : M1 × J1} (hF : 1000 ≤ F) (hI : Iv T n q) (hN : N ≤ 600) (hT : T ≤ 900000) : ∀ d k m M J, k + d = N → d < m → Rep n M J (tsk n q k).1 (tsk n q k).2 → ∃ M' J', fbX3_runLeakTest_8 F m (Int32.ofNat N) (lks n q k) (Int32.ofNat k) M J = some (lks n q N, M', J') ∧ ∃ r, r ≤ 6 ∧ (tsk n q N).1 14 = Int32.ofNat r ∧ Rep n M' J' (kpr (tsk n q N).1 r (lks n q N)) (tsk n q N).2 := by
  intro d
  induction d with
  | zero =>
    intro k m M J hk hmm h
    obtain ⟨m, rfl⟩ := fu hmm
    have e : k = N := by omega
    subst e
    have hI2 := (Iv_tsk (k := k) hI (by omega)).1
    obtain ⟨r, hr, h14⟩ := hI2.res
    obtain ⟨M', h1, h2⟩ := pc_keep (F := F) (x := lks n q k) hF hI.n5 hr h14 h
    refine ⟨M', J, ?_, r, hr, h14, h2⟩
    show fsX3_runLeakTest_8 F _ _ _ _ _ _ = _
    unfold fsX3_runLeakTest_8
    rw [if_pos ((pn_le (by omega) (by omega)).mpr (by omega)), h1, bd2_s]
  | succ d ih =>
    intro k m M J hk hmm h
    obtain ⟨m, rfl⟩ := fu hmm
    have hI2 := (Iv_tsk (k := k) hI (by omega)).1
    obtain ⟨M', J', h1, h2⟩ := pc_tmin hF hI2 h (fbX3_runLeakTest_8 F m) (Int32.ofNat N) (lks n q k) (Int32.ofNat k)
    obtain ⟨M2, J2, h3, h4⟩ := ih (k + 1) m M' J' (by omega) (by omega) h1
    refine ⟨M2, J2, ?_, h4⟩
    show fsX3_runLeakTest_8 F (fbX3_runLeakTest_8 F m) _ _ _ _ _ = _
    unfold fsX3_runLeakTest_8
    rw [if_neg (fun h => by have := (pn_le (by omega) (by omega)).mp h; omega), h2, pn_s]
    exact h3
/-- a leak test of N minutes: the state behind it -/
def lts (n : Nat) (q : M1 × J1) (N : Nat) : M1 × J1 := tsk n (ulk q.1 n, q.2) N
theorem pc_ltest {F : Nat} {T : Int} {n N : Nat} {M : M2} {J : J2} {q : M1 × J1} (hF : 1000 ≤ F) (hI : Iv T n q) (hN : N ≤ 600) (hT : T ≤ 900000) (h : Rep n M J q.1 q.2) : ∃ M' J', fX3_runLeakTest F (Int32.ofNat N) M J = some (lks n (ulk q.1 n, q.2) N, M', J') ∧ ∃ r, r ≤ 6 ∧ (lts n q N).1 14 = Int32.ofNat r ∧ Rep n M' J' (kpr (lts n q N).1 r (lks n (ulk q.1 n, q.2) N)) (lts n q N).2 := by
  obtain ⟨M1', h1, h2⟩ := pc_unl (F := F) hF hI.n5 hI.cnt h
  have hI2 : Iv T n (ulk q.1 n, q.2) := Inv_ulk hI (Nat.le_refl n)
  obtain ⟨M2', J2', h3, h4⟩ := pc_ltL (F := F) hF hI2 hN hT N 0 F M1' J (by omega) (by omega) h2
  refine ⟨M2', J2', ?_, h4⟩
  unfold fX3_runLeakTest
  rw [h1, bd2_s]
  exact h3
