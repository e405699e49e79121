theorem rkk_congr {s t : M1} {c k : Nat} (h : ∀ o, o < 5 → t (21 + 7 * o + 2) = s (21 + 7 * o + 2)) (hc : c < 5) (hk : k ≤ 5) : rkk t c k = rkk s c k := by
  induction k with
  | zero => rfl
  | succ k ih =>
    have h1 := h c hc
    have h2 := h k (by omega)
    have h3 : ahd t c k ↔ ahd s c k := by unfold ahd; rw [h1, h2]
    simp only [rkk, ih (by omega), h3]
theorem rkk_lt {s : M1} {c k : Nat} (h : c < k) : rkk s c k < k := by
  induction k with
  | zero => omega
  | succ k ih =>
    unfold rkk
    by_cases hc : c = k
    · subst hc
      rw [if_neg (fun h => by unfold ahd at h; grind)]
      have := rkk_le s c c
      omega
    · have := ih (by omega)
      split <;> omega
def rotk (s : M1) (n : Nat) : Nat → M1
  | 0 => s
  | k + 1 => sg (rotk s n k) (56 + rkk s k n) (Int32.ofNat k)
theorem rotk_lt {s : M1} {n k i : Nat} (h : i < 56) : rotk s n k i = s i := by
  induction k with
  | zero => rfl
  | succ k ih => unfold rotk; rw [sg_ne _ _ (by omega), ih]
def mvk (s : M1) (n : Nat) : Nat → Nat
  | 0 => 0
  | k + 1 => mvk s n k + if rkk s k n = stg s k then 0 else 1
def rots (s : M1) (n : Nat) : M1 := sg (sg (rotk s n n) 12 0) 13 (s 13 + 1)
theorem pv_rotL2 {F : Nat} {M : M2} {J : J2} {r0 s : M1} {n : Nat} {x : Int32} (hF : 1000 ≤ F) (hn : n ≤ 5) (h10 : s 10 = Int32.ofNat n) : ∀ d k m, k + d = n → d < m → fbX5_rotates_44 F m x (Int32.ofNat k) (RM M r0 (rotk s n k)) J = some (x, RM M r0 (rots s n), J) := by
  intro d
  induction d with
  | zero =>
    intro k m hk hm
    obtain ⟨m, rfl⟩ := fu hm
    show fsX5_rotates_44 F _ _ _ _ _ = _
    unfold fsX5_rotates_44
    rw [RM_1, rotk_lt (by omega), h10, if_pos ((pn_le (by omega) (by omega)).mpr (by omega)), show k = n by omega]
    simp only [bnd_s, RM_u1, RM_1, sg_ap, rots]
    rw [if_neg (by decide), rotk_lt (by omega)]
  | succ d ih =>
    intro k m hk hm
    obtain ⟨m, rfl⟩ := fu hm
    show fsX5_rotates_44 F (fbX5_rotates_44 F m) _ _ _ _ = _
    unfold fsX5_rotates_44
    have hr : rkk (rotk s n k) k n = rkk s k n := rkk_congr (fun o ho => rotk_lt (by omega)) (by omega) hn
    have hr2 := rkk_lt (s := s) (c := k) (k := n) (by omega)
    rw [pv_rank hF hn (by rw [RM_1, rotk_lt (by omega), h10]) (by omega)]
    simp (disch := omega) only [RM_1, rotk_lt, h10, pn_le, Option.bind_some, hr, pn_add1, chk_b, pn_in, bnd_s, RM_u1, pn_s]
    rw [if_neg (by omega)]
    exact ih (k + 1) m (by omega) (by omega)
theorem pv_rotL1 {F : Nat} {M : M2} {J : J2} {r0 s : M1} {n : Nat} (hF : 1000 ≤ F) (hn : n ≤ 5) (h10 : s 10 = Int32.ofNat n) (hp : Prm n s) : ∀ d k m, k + d = n → d < m → fbX5_rotates_4 F m (Int32.ofNat (mvk s n k)) (Int32.ofNat k) (RM M r0 s) J = some (Int32.ofNat (mvk s n n), RM M r0 (rots s n), J) := by
  intro d
  induction d with
  | zero =>
    intro k m hk hm
    obtain ⟨m, rfl⟩ := fu hm
    show fsX5_rotates_4 F _ _ _ _ _ = _
    unfold fsX5_rotates_4
    rw [RM_1, h10, if_pos ((pn_le (by omega) (by omega)).mpr (by omega)), show k = n by omega]
    exact pv_rotL2 (s := s) hF hn h10 n 0 F (by omega) (by omega)
  | succ d ih =>
    intro k m hk hm
    obtain ⟨m, rfl⟩ := fu hm
    show fsX5_rotates_4 F (fbX5_rotates_4 F m) _ _ _ _ = _
    unfold fsX5_rotates_4
    rw [pv_rank hF hn (by rw [RM_1, h10]) (by omega), pv_stage hF hn (by rw [RM_1]; exact hp) (by omega), ← ih (k + 1) m (by omega) (by omega)]
    have hr2 := rkk_le s k n
    have hs := (hp.at_ k (by omega)).1
    simp (disch := omega) only [RM_1, h10, pn_le, Option.bind_some, fbX5_rotates_34, pn_s, pn_eq, mvk, pn_add2]
    grind
theorem pv_rot {F : Nat} {M : M2} {J : J2} {r0 s : M1} {n : Nat} (hF : 1000 ≤ F) (hn : n ≤ 5) (h10 : s 10 = Int32.ofNat n) (hp : Prm n s) : fX5_rotates F (RM M r0 s) J = some (Int32.ofNat (mvk s n n), RM M r0 (rots s n), J) :=
  pv_rotL1 (s := s) hF hn h10 hp n 0 F (by omega) (by omega)
/-- what a compressor does next, at a pressure -/
def nxt (s : M1) (c : Nat) (p : Int32) : Int32 :=
  if s (21 + 7 * c + 1) = 3 then 0 else if s (21 + 7 * c + 1) = 1 then (if p ≤ uabv s c then 3 else 4) else
  if s (21 + 7 * c + 1) = 0 ∧ 0 < s (21 + 7 * c + 5) then 1 else if p < lbel s c then 2 else
  if s (21 + 7 * c + 1) = 0 then 7 else if s (21 + 7 * c + 4) + 1 < s 5 then 5 else 6
theorem pv_next {F : Nat} {M : M2} {J : J2} {n c : Nat} {p : Int32} (hF : 1000 ≤ F) (hn : n ≤ 5) (hp : Prm n (M 1)) (hc : c < n) : fX5_nextOf F M J (Int32.ofNat c) p = some (nxt (M 1) c p) := by
  unfold fX5_nextOf fbX5_nextOf_49
  rw [pv_lb hF hn hp hc, pv_ua hF hn hp hc]
  simp (disch := omega) only [pv_its, Option.bind_some, nxt]
  grind
/-- and it is done -/
def doz (s : M1) (c : Nat) (v : Int32) : M1 :=
  if v = 1 then sg s (21 + 7 * c + 5) (s (21 + 7 * c + 5) - 1)
  else if v = 2 then sg (sg (sg s (21 + 7 * c + 6) (s (21 + 7 * c + 6) + if s (21 + 7 * c + 1) = 0 then 1 else 0)) (21 + 7 * c + 1) 1) (21 + 7 * c + 4) 0
  else if v = 4 then sg (sg s (21 + 7 * c + 1) 2) (21 + 7 * c + 4) 0
  else if v = 5 then sg s (21 + 7 * c + 4) (s (21 + 7 * c + 4) + 1)
  else if v = 6 then sg (sg (sg s (21 + 7 * c + 1) 0) (21 + 7 * c + 4) 0) (21 + 7 * c + 5) (s 6)
  else s
theorem pv_does {F : Nat} {M : M2} {J : J2} {r0 s : M1} {n c : Nat} {p : Int32} (hF : 1000 ≤ F) (hn : n ≤ 5) (hp : Prm n s) (hc : c < n) : fX5_does F (Int32.ofNat c) p (RM M r0 s) J = some (RM M (if nxt s c p = 2 then sg r0 12 1 else r0) (doz s c (nxt s c p)), J) := by
  unfold fX5_does
  rw [pv_next hF hn (by rw [RM_1]; exact hp) hc, RM_1]
  generalize nxt s c p = v
  simp (disch := omega) only [pv_its, pv_put, Option.bind_some, RM_1, bd2_s, fbX5_does_86, bnd_s, RM_u0, doz]
  by_cases h1 : v = 1
  · subst h1; simp
  by_cases h2 : v = 2
  · subst h2; simp; grind
  by_cases h3 : v = 3
  · subst h3; simp
  by_cases h4 : v = 4
  · subst h4; simp
  by_cases h5 : v = 5
  · subst h5; simp
  by_cases h6 : v = 6
  · subst h6; simp [sg_ap]
    rw [if_neg (by omega), if_neg (by omega)]
  · simp [h1, h2, h3, h4, h5, h6]
