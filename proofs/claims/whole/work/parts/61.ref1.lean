/-! the spec: the reference's rows s, b as functions -/
abbrev ahd (s : M1) (c o : Nat) : Prop := s (21 + 7 * o + 2) < s (21 + 7 * c + 2) ∨ (s (21 + 7 * o + 2) = s (21 + 7 * c + 2) ∧ o < c)
def rkk (s : M1) (c : Nat) : Nat → Nat
  | 0 => 0
  | k + 1 => rkk s c k + if ahd s c k then 1 else 0
theorem rkk_le (s : M1) (c k : Nat) : rkk s c k ≤ k := by
  induction k with
  | zero => exact Nat.le_refl _
  | succ k ih => unfold rkk; split <;> omega
/-- one fold of a loop: the fuel is a successor -/
theorem fu {d m : Nat} (h : d < m) : ∃ m', m = m' + 1 := ⟨m - 1, by omega⟩
theorem pv_rankL {F : Nat} {M : M2} {J : J2} {n c : Nat} (hn : n ≤ 5) (h10 : M 1 10 = Int32.ofNat n) (hc : c < 5) : ∀ d k m, k + d = n → d < m → fbX5_rank_4 F M J m (Int32.ofNat c) (Int32.ofNat (rkk (M 1) c k)) (Int32.ofNat k) = some (Int32.ofNat (rkk (M 1) c n)) := by
  intro d
  induction d with
  | zero =>
    intro k m hk hm
    obtain ⟨m, rfl⟩ := fu hm
    show fsX5_rank_4 F M J _ _ _ _ = _
    unfold fsX5_rank_4
    rw [h10, if_pos ((pn_le (by omega) (by omega)).mpr (by omega)), show k = n by omega]
  | succ d ih =>
    intro k m hk hm
    obtain ⟨m, rfl⟩ := fu hm
    show fsX5_rank_4 F M J (fbX5_rank_4 F M J m) _ _ _ = _
    unfold fsX5_rank_4
    rw [← ih (k + 1) m (by omega) (by omega)]
    simp (disch := omega) only [h10, pn_le, pv_its, Option.bind_some, fbX5_rank_51, fbX5_rank_55, fbX5_rank_56, pn_s, pn_add2, rkk, ahd]
    grind
theorem pv_rank {F : Nat} {M : M2} {J : J2} {n c : Nat} (hF : 1000 ≤ F) (hn : n ≤ 5) (h10 : M 1 10 = Int32.ofNat n) (hc : c < 5) : fX5_rank F M J (Int32.ofNat c) = some (Int32.ofNat (rkk (M 1) c n)) :=
  pv_rankL (F := F) (J := J) hn h10 hc n 0 F (by omega) (by omega)
/-- the stage of a compressor: its place in the order -/
def stg (s : M1) (c : Nat) : Nat := if s 56 = Int32.ofNat c then 0 else if s 57 = Int32.ofNat c then 1 else if s 58 = Int32.ofNat c then 2 else if s 59 = Int32.ofNat c then 3 else 4
/-- the order is a permutation of the first n -/
def Prm (n : Nat) (s : M1) : Prop := (∀ c, c < n → stg s c < n ∧ s (56 + stg s c) = Int32.ofNat c) ∧ ∀ k, k < n → ∃ c, c < n ∧ s (56 + k) = Int32.ofNat c ∧ stg s c = k
theorem Prm.at_ {n : Nat} {s : M1} (h : Prm n s) : ∀ c, c < n → stg s c < n ∧ s (56 + stg s c) = Int32.ofNat c := h.1
theorem Prm.of_ {n : Nat} {s : M1} (h : Prm n s) : ∀ k, k < n → ∃ c, c < n ∧ s (56 + k) = Int32.ofNat c ∧ stg s c = k := h.2
theorem stg_min {s : M1} {c k : Nat} (h : k < stg s c) : s (56 + k) ≠ Int32.ofNat c := by
  unfold stg at h
  match k with
  | 0 => grind
  | 1 => grind
  | 2 => grind
  | 3 => grind
  | k + 4 => grind
theorem pv_stageL {F : Nat} {M : M2} {J : J2} {c : Nat} (h5 : stg (M 1) c < 5) (h : M 1 (56 + stg (M 1) c) = Int32.ofNat c) : ∀ d k m, k + d = stg (M 1) c → d < m → fbX5_stage_2 F M J m (Int32.ofNat c) (Int32.ofNat k) = some (Int32.ofNat (stg (M 1) c)) := by
  intro d
  induction d with
  | zero =>
    intro k m hk hm
    obtain ⟨m, rfl⟩ := fu hm
    show fsX5_stage_2 F M J _ _ _ = _
    unfold fsX5_stage_2
    have hk : k = stg (M 1) c := by omega
    rw [← hk] at h
    simp (disch := omega) only [pn_add1, chk_b, pn_in]
    rw [if_pos h, hk]
  | succ d ih =>
    intro k m hk hm
    obtain ⟨m, rfl⟩ := fu hm
    show fsX5_stage_2 F M J (fbX5_stage_2 F M J m) _ _ = _
    unfold fsX5_stage_2
    simp (disch := omega) only [pn_add1, chk_b, pn_in]
    rw [if_neg (stg_min (by omega)), pn_s]
    exact ih (k + 1) m (by omega) (by omega)
theorem pv_stage {F : Nat} {M : M2} {J : J2} {n c : Nat} (hF : 1000 ≤ F) (hn : n ≤ 5) (hp : Prm n (M 1)) (hc : c < n) : fX5_stage F M J (Int32.ofNat c) = some (Int32.ofNat (stg (M 1) c)) := by
  obtain ⟨h1, h2⟩ := hp.at_ c hc
  exact pv_stageL (F := F) (J := J) (by omega) h2 (stg (M 1) c) 0 F (by omega) (by omega)
def lbel (s : M1) (c : Nat) : Int32 := s 2 - (Int32.ofNat (stg s c) + 1) * s 3
def uabv (s : M1) (c : Nat) : Int32 := s 2 + (s 10 - Int32.ofNat (stg s c)) * s 3
theorem pv_lb {F : Nat} {M : M2} {J : J2} {n c : Nat} (hF : 1000 ≤ F) (hn : n ≤ 5) (hp : Prm n (M 1)) (hc : c < n) : fX5_loadsBelow F M J (Int32.ofNat c) = some (lbel (M 1) c) := by
  unfold fX5_loadsBelow
  rw [pv_stage hF hn hp hc]; rfl
theorem pv_ua {F : Nat} {M : M2} {J : J2} {n c : Nat} (hF : 1000 ≤ F) (hn : n ≤ 5) (hp : Prm n (M 1)) (hc : c < n) : fX5_unloadsAbove F M J (Int32.ofNat c) = some (uabv (M 1) c) := by
  unfold fX5_unloadsAbove
  rw [pv_stage hF hn hp hc]; rfl
/-- how many of the first k are in a mode -/
def cntk (s : M1) (x : Int32) : Nat → Int32
  | 0 => 0
  | k + 1 => cntk s x k + if s (21 + 7 * k + 1) = x then 1 else 0
theorem pv_countL {F : Nat} {M : M2} {J : J2} {n : Nat} {x : Int32} (hn : n ≤ 5) (h10 : M 1 10 = Int32.ofNat n) : ∀ d k m, k + d = n → d < m → fbX5_countOf_4 F M J m x (cntk (M 1) x k) (Int32.ofNat k) = some (cntk (M 1) x n) := by
  intro d
  induction d with
  | zero =>
    intro k m hk hm
    obtain ⟨m, rfl⟩ := fu hm
    show fsX5_countOf_4 F M J _ _ _ _ = _
    unfold fsX5_countOf_4
    rw [h10, if_pos ((pn_le (by omega) (by omega)).mpr (by omega)), show k = n by omega]
  | succ d ih =>
    intro k m hk hm
    obtain ⟨m, rfl⟩ := fu hm
    show fsX5_countOf_4 F M J (fbX5_countOf_4 F M J m) _ _ _ = _
    unfold fsX5_countOf_4
    rw [← ih (k + 1) m (by omega) (by omega)]
    simp (disch := omega) only [h10, pn_le, pv_its, Option.bind_some, fbX5_countOf_31, pn_s, cntk]
    grind
theorem pv_count {F : Nat} {M : M2} {J : J2} {n : Nat} {x : Int32} (hF : 1000 ≤ F) (hn : n ≤ 5) (h10 : M 1 10 = Int32.ofNat n) : fX5_countOf F M J x = some (cntk (M 1) x n) :=
  pv_countL (F := F) (J := J) hn h10 n 0 F (by omega) (by omega)
/-- the capacities of the loaded, of those that are not tripped -/
def cpk (s : M1) (l : Bool) : Nat → Int32
  | 0 => 0
  | k + 1 => cpk s l k + if (if l then s (21 + 7 * k + 1) = 1 else s (21 + 7 * k + 1) ≠ 3) then s (21 + 7 * k) else 0
theorem pv_capL {F : Nat} {M : M2} {J : J2} {n : Nat} {l : Bool} (hn : n ≤ 5) (h10 : M 1 10 = Int32.ofNat n) : ∀ d k m, k + d = n → d < m → fbX5_capacities_4 F M J m (if l then 1 else 0) (cpk (M 1) l k) (Int32.ofNat k) = some (cpk (M 1) l n) := by
  intro d
  induction d with
  | zero =>
    intro k m hk hm
    obtain ⟨m, rfl⟩ := fu hm
    show fsX5_capacities_4 F M J _ _ _ _ = _
    unfold fsX5_capacities_4
    rw [h10, if_pos ((pn_le (by omega) (by omega)).mpr (by omega)), show k = n by omega]
  | succ d ih =>
    intro k m hk hm
    obtain ⟨m, rfl⟩ := fu hm
    show fsX5_capacities_4 F M J (fbX5_capacities_4 F M J m) _ _ _ = _
    unfold fsX5_capacities_4
    rw [← ih (k + 1) m (by omega) (by omega)]
    simp (disch := omega) only [h10, pn_le, pv_its, Option.bind_some, fbX5_capacities_52, fbX5_capacities_70, pn_s, cpk]
    cases l <;> grind
theorem pv_cap {F : Nat} {M : M2} {J : J2} {n : Nat} (l : Bool) (hF : 1000 ≤ F) (hn : n ≤ 5) (h10 : M 1 10 = Int32.ofNat n) : fX5_capacities F M J (if l then 1 else 0) = some (cpk (M 1) l n) :=
  pv_capL (F := F) (J := J) hn h10 n 0 F (by omega) (by omega)
