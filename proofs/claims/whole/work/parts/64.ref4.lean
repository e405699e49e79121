theorem pv_press {M : M2} {J : J2} {r0 s : M1} (h : ¬ s 0 = 0) : fX5_pressure (RM M r0 s) J = some (s 1 * 1000 / s 0) := by
  unfold fX5_pressure
  rw [RM_1, chk_t h]
/-- the flows of one compressor -/
def flb (q : M1 × J1) (c : Nat) : M1 × J1 :=
  if q.1 (21 + 7 * c + 1) = 1 then (sg (sg q.1 1 (q.1 1 + q.1 (21 + 7 * c))) (21 + 7 * c + 2) (q.1 (21 + 7 * c + 2) + 1), sg (sg q.2 0 (q.2 0 + (q.1 (21 + 7 * c)).toInt64)) 5 (q.2 5 + (10 * q.1 (21 + 7 * c)).toInt64))
  else if q.1 (21 + 7 * c + 1) = 2 then (sg q.1 (21 + 7 * c + 3) (q.1 (21 + 7 * c + 3) + 1), sg q.2 5 (q.2 5 + (3 * q.1 (21 + 7 * c)).toInt64))
  else q
def flk (s : M1) (b : J1) : Nat → M1 × J1
  | 0 => (s, b)
  | k + 1 => flb (flk s b k) k
theorem flk_10 {s : M1} {b : J1} {k : Nat} : (flk s b k).1 10 = s 10 := by
  induction k with
  | zero => rfl
  | succ k ih =>
    unfold flk flb
    rw [← ih]
    simp only [apply_ite (fun q : M1 × J1 => q.1 10), sg_ap]
    grind
theorem pv_flowL {F : Nat} {M : M2} {J : J2} {r0 s : M1} {b : J1} {n : Nat} {a1 p : Int32} (hn : n ≤ 5) (h10 : s 10 = Int32.ofNat n) : ∀ d k m, k + d = n → d < m → fbX5_minute_71 F m a1 p (Int32.ofNat k) (RM M r0 (flk s b k).1) (RJ J (flk s b k).2) = (if ((p * ((flk s b n).1 7)) / 1000) ≤ ((flk s b n).1 1) then fbX5_minute_241 F a1 ((p * ((flk s b n).1 7)) / 1000) (RM M r0 (flk s b n).1) (RJ J (flk s b n).2) else fbX5_minute_241 F a1 ((flk s b n).1 1) (RM M r0 (flk s b n).1) (RJ J (flk s b n).2)) := by
  intro d
  induction d with
  | zero =>
    intro k m hk hm
    obtain ⟨m, rfl⟩ := fu hm
    show fsX5_minute_71 F _ _ _ _ _ _ = _
    unfold fsX5_minute_71
    rw [RM_1, flk_10, h10, if_pos ((pn_le (by omega) (by omega)).mpr (by omega)), show k = n by omega]
  | succ d ih =>
    intro k m hk hm
    obtain ⟨m, rfl⟩ := fu hm
    show fsX5_minute_71 F (fbX5_minute_71 F m) _ _ _ _ _ = _
    unfold fsX5_minute_71
    rw [← ih (k + 1) m (by omega) (by omega)]
    simp (disch := omega) only [RM_1, flk_10, h10, pn_le, pv_its, pv_put, Option.bind_some, RJ_2, bd2_s, bnd_s, RM_u1, RJ_u2, fbX5_minute_201, pn_s, Nat.add_zero]
    rw [if_neg (by omega)]
    conv => rhs; unfold flk flb
    generalize flk s b k = q
    obtain ⟨s', b'⟩ := q
    dsimp only
    by_cases h1 : s' (21 + 7 * k + 1) = 1
    · simp (disch := omega) only [h1, sg_ap, not_true_eq_false, if_false, if_true]
      simp (disch := omega) [if_neg]
    · by_cases h2 : s' (21 + 7 * k + 1) = 2
      · simp [h2]
      · simp [h1, h2]
def lkg (s : M1) (p : Int32) : Int32 := if p * s 7 / 1000 ≤ s 1 then p * s 7 / 1000 else s 1
/-- what the leak takes, what the demand takes, what is blown off -/
def lkd (q : M1 × J1) (p : Int32) : M1 × J1 := (sg q.1 1 (q.1 1 - lkg q.1 p), sg q.2 1 (q.2 1 + (lkg q.1 p).toInt64))
def tkn (s : M1) : Int32 := if s 8 ≤ s 1 then s 8 else s 1
def tkd (q : M1 × J1) : M1 × J1 := (sg q.1 1 (q.1 1 - tkn q.1), sg (sg q.2 2 (q.2 2 + (tkn q.1).toInt64)) 3 (q.2 3 + (q.1 8 - tkn q.1).toInt64))
def blw (q : M1 × J1) : M1 × J1 := if q.1 1 * 1000 / q.1 0 ≤ q.1 4 then q else (sg q.1 1 (q.1 4 * q.1 0 / 1000), sg q.2 4 (q.2 4 + (q.1 1 - q.1 4 * q.1 0 / 1000).toInt64))
def tik (q : M1 × J1) : M1 × J1 := (sg (sg q.1 11 (q.1 11 + 1)) 12 (q.1 12 + 1), q.2)
def mrot (s : M1) (n : Nat) : M1 := if s 12 < s 9 then s else rots s n
def prs (s : M1) : Int32 := s 1 * 1000 / s 0
/-- a minute, a minute of a test -/
def mnt (n : Nat) (q : M1 × J1) : M1 × J1 := tik (blw (tkd (lkd (flk (dzk (mrot q.1 n) (prs (mrot q.1 n)) n) q.2 n) (prs (mrot q.1 n)))))
def tst (n : Nat) (q : M1 × J1) : M1 × J1 := tik (blw (lkd (flk (mrot q.1 n) q.2 n) (prs (mrot q.1 n))))
theorem pv_tail {F : Nat} {M : M2} {J : J2} {r0 : M1} {q : M1 × J1} (h0 : ¬ q.1 0 = 0) : fbX5_minute_344 F (RM M r0 q.1) (RJ J q.2) = some (RM M r0 (tik (blw q)).1, RJ J (tik (blw q)).2) := by
  obtain ⟨s, b⟩ := q
  dsimp only at *
  unfold fbX5_minute_344 fbX5_minute_403 blw tik
  rw [pv_press h0]
  simp only [Option.bind_some, RM_1, RJ_2, bnd_s, RM_u1, RJ_u2]
  split <;> simp [sg_ap]
theorem pv_flows {F : Nat} {M : M2} {J : J2} {r0 s : M1} {b : J1} {n : Nat} {p : Int32} (t : Bool) (hF : 1000 ≤ F) (hn : n ≤ 5) (h10 : s 10 = Int32.ofNat n) (h0 : ¬ (flk s b n).1 0 = 0) : fbX5_minute_69 F (if t then 1 else 0) p (RM M r0 s) (RJ J b) = some (RM M r0 (tik (blw (if t then lkd (flk s b n) p else tkd (lkd (flk s b n) p)))).1, RJ J (tik (blw (if t then lkd (flk s b n) p else tkd (lkd (flk s b n) p)))).2) := by
  unfold fbX5_minute_69
  have e := pv_flowL (F := F) (M := M) (J := J) (r0 := r0) (s := s) (b := b) (n := n) (a1 := if t then 1 else 0) (p := p) hn h10 n 0 F (by omega) (by omega)
  rw [show (0 : Int32) = Int32.ofNat 0 from rfl] 
  refine e.trans ?_
  generalize flk s b n = q at h0 ⊢
  obtain ⟨s', b'⟩ := q
  dsimp only at *
  have e2 : ∀ x, fbX5_minute_241 F (if t then 1 else 0) x (RM M r0 s') (RJ J b') = some (RM M r0 (tik (blw (if t then (sg s' 1 (s' 1 - x), sg b' 1 (b' 1 + x.toInt64)) else tkd (sg s' 1 (s' 1 - x), sg b' 1 (b' 1 + x.toInt64))))).1, RJ J (tik (blw (if t then (sg s' 1 (s' 1 - x), sg b' 1 (b' 1 + x.toInt64)) else tkd (sg s' 1 (s' 1 - x), sg b' 1 (b' 1 + x.toInt64))))).2) := by
    intro x
    unfold fbX5_minute_241
    simp only [RM_1, RJ_2, bnd_s, RM_u1, RJ_u2]
    cases t with
    | true =>
      simp only [if_true]
      rw [if_pos (by decide)]
      exact pv_tail (q := (sg s' 1 (s' 1 - x), sg b' 1 (b' 1 + x.toInt64))) (by simpa [sg_ap] using h0)
    | false =>
      simp only [Bool.false_eq_true, if_false]
      rw [if_neg (by decide)]
      have e3 : ∀ y, fbX5_minute_299 F y (RM M r0 (sg s' 1 (s' 1 - x))) (RJ J (sg b' 1 (b' 1 + x.toInt64))) = some (RM M r0 (tik (blw (sg (sg s' 1 (s' 1 - x)) 1 (s' 1 - x - y), sg (sg (sg b' 1 (b' 1 + x.toInt64)) 2 (b' 2 + y.toInt64)) 3 (b' 3 + (s' 8 - y).toInt64)))).1, RJ J (tik (blw (sg (sg s' 1 (s' 1 - x)) 1 (s' 1 - x - y), sg (sg (sg b' 1 (b' 1 + x.toInt64)) 2 (b' 2 + y.toInt64)) 3 (b' 3 + (s' 8 - y).toInt64)))).2) := by
        intro y
        unfold fbX5_minute_299
        simp only [RM_1, RJ_2, bnd_s, RM_u1, RJ_u2]
        rw [← pv_tail (F := F) (M := M) (J := J) (r0 := r0) (by simpa [sg_ap] using h0)]
        simp [sg_ap]
      simp only [e3, sg_ap, tkd, tkn, Nat.reduceEqDiff, ↓reduceIte, reduceCtorEq]
      split <;> rfl
  simp only [e2, lkd, lkg]
  split <;> rfl
theorem dzk_10 {s : M1} {p : Int32} {k i : Nat} (h : i < 21) : dzk s p k i = s i := dzk_at (Or.inl h)
theorem mrot_lt {s : M1} {n i : Nat} (h : i < 56) (h2 : i ≠ 12) (h3 : i ≠ 13) : mrot s n i = s i := by
  unfold mrot rots
  split
  · rfl
  · rw [sg_ne _ _ h3, sg_ne _ _ h2, rotk_lt h]
theorem flk_0 {s : M1} {b : J1} {k : Nat} : (flk s b k).1 0 = s 0 := by
  induction k with
  | zero => rfl
  | succ k ih =>
    unfold flk flb
    rw [← ih]
    simp only [apply_ite (fun q : M1 × J1 => q.1 0), sg_ap]
    grind
theorem pv_doesL {F : Nat} {M : M2} {J : J2} {r0 s : M1} {n : Nat} {p : Int32} (hF : 1000 ≤ F) (hn : n ≤ 5) (h10 : s 10 = Int32.ofNat n) (hp : Prm n s) : ∀ d k m, k + d = n → d < m → fbX5_minute_34 F m 0 p (Int32.ofNat k) (RM M (sg r0 12 (if oby s p k then 1 else 0)) (ozk s p k)) J = fbX5_minute_69 F 0 p (RM M (sg r0 12 (if oby s p n then 1 else 0)) (ozk s p n)) J := by
  intro d
  induction d with
  | zero =>
    intro k m hk hm
    obtain ⟨m, rfl⟩ := fu hm
    show fsX5_minute_34 F _ _ _ _ _ _ = _
    unfold fsX5_minute_34
    rw [RM_1, ozk_at hn hp (by omega) (by omega), h10, if_pos ((pn_le (by omega) (by omega)).mpr (by omega)), show k = n by omega]
  | succ d ih =>
    intro k m hk hm
    obtain ⟨m, rfl⟩ := fu hm
    show fsX5_minute_34 F (fbX5_minute_34 F m) _ _ _ _ _ = _
    unfold fsX5_minute_34
    rw [← ih (k + 1) m (by omega) (by omega)]
    obtain ⟨c, h1, h2, h3⟩ := hp.of_ k (by omega)
    have hq : Prm n (ozk s p k) := hp.congr (fun i hi => ozk_at hn hp (by omega) (by omega))
    have hag : agr s (ozk s p k) c := by
      refine ⟨fun i hi => ozk_at hn hp (by omega) (by omega), fun i hi => ozk_at hn hp (by omega) (by omega), fun g hg => ?_⟩
      rw [ozk_in hn hp (by omega) h1 hg, if_neg (by omega)]
    rw [RM_1, ozk_at hn hp (by omega) (by omega), h10, if_neg (fun h => by have := (pn_le (by omega) (by omega)).mp h; omega), if_neg (by decide)]
    simp (disch := omega) only [pn_add1, chk_b, pn_in, pn_s]
    rw [ozk_at hn hp (by omega) (by omega), h2, pv_does hF hn hq h1, bd2_s, nxt_congr hag]
    conv => rhs; unfold ozk oby
    rw [h2, pn_in (by omega)]
    congr 1
    by_cases hx : nxt s c p = 2
    · simp [hx, sg_sg]
    · simp [hx]
theorem pv_minute {F : Nat} {M : M2} {J : J2} {r0 s : M1} {b : J1} {n : Nat} (hF : 1000 ≤ F) (hn : n ≤ 5) (h10 : s 10 = Int32.ofNat n) (hp : Prm n s) (hp2 : Prm n (mrot s n)) (h0 : ¬ s 0 = 0) : fX5_minute F 0 (RM M r0 s) (RJ J b) = some (RM M (sg r0 12 (if bzk (mrot s n) (prs (mrot s n)) n then 1 else 0)) (mnt n (s, b)).1, RJ J (mnt n (s, b)).2) := by
  have h10' : mrot s n 10 = Int32.ofNat n := by rw [mrot_lt (by omega) (by omega) (by omega), h10]
  have h0' : ¬ mrot s n 0 = 0 := by rw [mrot_lt (by omega) (by omega) (by omega)]; exact h0
  have key : fbX5_minute_22 F 0 (RM M r0 (mrot s n)) (RJ J b) = some (RM M (sg r0 12 (if bzk (mrot s n) (prs (mrot s n)) n then 1 else 0)) (mnt n (s, b)).1, RJ J (mnt n (s, b)).2) := by
    unfold fbX5_minute_22
    rw [pv_press h0', Option.bind_some, bnd_s, RM_u0]
    have e := pv_doesL (F := F) (M := M) (J := RJ J b) (r0 := r0) (p := prs (mrot s n)) hF hn h10' hp2 n 0 F (by omega) (by omega)
    refine Eq.trans e ?_
    rw [ozk_dzk hn hp2, oby_bzk hn hp2]
    exact pv_flows (t := false) hF hn (by rw [dzk_10 (by omega), h10']) (by rw [flk_0, dzk_10 (by omega)]; exact h0')
  unfold fX5_minute
  rw [RM_1]
  by_cases h : s 12 < s 9
  · rw [if_pos h]
    have e : mrot s n = s := if_pos h
    refine Eq.trans ?_ key
    rw [e]
  · rw [if_neg h, pv_rot hF hn h10 hp, bd3_s]
    have e : mrot s n = rots s n := if_neg h
    refine Eq.trans ?_ key
    rw [e]
theorem pv_test {F : Nat} {M : M2} {J : J2} {r0 s : M1} {b : J1} {n : Nat} (hF : 1000 ≤ F) (hn : n ≤ 5) (h10 : s 10 = Int32.ofNat n) (hp : Prm n s) (hp2 : Prm n (mrot s n)) (h0 : ¬ s 0 = 0) : fX5_minute F 1 (RM M r0 s) (RJ J b) = some (RM M (sg r0 12 0) (tst n (s, b)).1, RJ J (tst n (s, b)).2) := by
  have h10' : mrot s n 10 = Int32.ofNat n := by rw [mrot_lt (by omega) (by omega) (by omega), h10]
  have h0' : ¬ mrot s n 0 = 0 := by rw [mrot_lt (by omega) (by omega) (by omega)]; exact h0
  have key : fbX5_minute_22 F 1 (RM M r0 (mrot s n)) (RJ J b) = some (RM M (sg r0 12 0) (tst n (s, b)).1, RJ J (tst n (s, b)).2) := by
    unfold fbX5_minute_22
    rw [pv_press h0', Option.bind_some, bnd_s, RM_u0]
    obtain ⟨m, rfl⟩ : ∃ m, F = m + 1 := ⟨F - 1, by omega⟩
    show fsX5_minute_34 _ _ _ _ _ _ _ = _
    unfold fsX5_minute_34
    have e := pv_flows (F := m + 1) (M := M) (J := J) (r0 := sg r0 12 0) (s := mrot s n) (b := b) (p := prs (mrot s n)) (t := true) hF hn h10' (by rw [flk_0]; exact h0')
    split
    · exact e
    · rw [if_pos (by decide)]; exact e
  unfold fX5_minute
  rw [RM_1]
  by_cases h : s 12 < s 9
  · rw [if_pos h]
    have e : mrot s n = s := if_pos h
    refine Eq.trans ?_ key
    rw [e]
  · rw [if_neg h, pv_rot hF hn h10 hp, bd3_s]
    have e : mrot s n = rots s n := if_neg h
    refine Eq.trans ?_ key
    rw [e]
