def RC (M : M2) (s : M1) (c : Nat) : Prop := M (5 + c) 0 = s (21 + 7 * c) ∧ M (5 + c) 1 = s (21 + 7 * c + 1) ∧ M (5 + c) 2 = Int32.ofNat (stg s c) ∧ M (5 + c) 3 = s (21 + 7 * c + 2) ∧ M (5 + c) 4 = s (21 + 7 * c + 3) ∧ M (5 + c) 5 = s (21 + 7 * c + 4) ∧ M (5 + c) 6 = s (21 + 7 * c + 5) ∧ M (5 + c) 7 = s (21 + 7 * c + 6)
def RO (M : M2) (s : M1) : Prop := M 0 0 = s 0 ∧ M 0 1 = s 1 ∧ M 0 2 = s 11 ∧ M 0 3 = s 12 ∧ M 0 4 = s 13 ∧ M 0 5 = s 10 ∧ M 0 6 = s 14
def Rep (n : Nat) (M : M2) (J : J2) (s : M1) (b : J1) : Prop := RO M s ∧ (∀ k, k < 8 → M 1 k = s (2 + k)) ∧ (∀ k, k < 6 → J 2 k = b k) ∧ (∀ c, c < n → RC M s c) ∧ ∀ r : Nat, r ≤ 6 → s 14 = Int32.ofNat r → ∀ k, k < r → M 3 k = s (15 + (r - 1 - k))
theorem Rep.o {n : Nat} {M : M2} {J : J2} {s : M1} {b : J1} (h : Rep n M J s b) : RO M s := h.1
theorem Rep.st {n : Nat} {M : M2} {J : J2} {s : M1} {b : J1} (h : Rep n M J s b) : ∀ k, k < 8 → M 1 k = s (2 + k) := h.2.1
theorem Rep.am {n : Nat} {M : M2} {J : J2} {s : M1} {b : J1} (h : Rep n M J s b) : ∀ k, k < 6 → J 2 k = b k := h.2.2.1
theorem Rep.c {n : Nat} {M : M2} {J : J2} {s : M1} {b : J1} (h : Rep n M J s b) : ∀ c, c < n → RC M s c := h.2.2.2.1
theorem Rep.r {n : Nat} {M : M2} {J : J2} {s : M1} {b : J1} (h : Rep n M J s b) : ∀ r : Nat, r ≤ 6 → s 14 = Int32.ofNat r → ∀ k, k < r → M 3 k = s (15 + (r - 1 - k)) := h.2.2.2.2
theorem pc_num {M : M2} {J : J2} {n i : Nat} (hn : n ≤ 5) (h : M 0 5 = Int32.ofNat n) (hi : i < 2147483648) : fX3_numbered M J (Int32.ofNat i) = some (if i < n then some (5 + i) else none) := by
  unfold fX3_numbered
  have z : ¬ Int32.ofNat i < 0 := by rw [show (0 : Int32) = Int32.ofNat 0 from rfl, pn_lt hi (by omega)]; omega
  rw [if_neg z, h]
  by_cases h1 : i < n
  · rw [if_neg (fun h => by have := (pn_le (by omega) hi).mp h; omega), if_pos ((pn_lt2 hi (by decide)).mpr (by omega)), chk_b (by omega) hi, pn_in hi, if_pos h1]
  · rw [if_pos ((pn_le (by omega) hi).mpr (by omega)), if_neg h1]
/-- any number: one of ours, or none -/
theorem pc_numx {M : M2} {J : J2} {n : Nat} {x : Int32} (hn : n ≤ 5) (h : M 0 5 = Int32.ofNat n) : fX3_numbered M J x = some (if 0 ≤ x.toInt ∧ x.toInt < n then some (5 + x.toInt.toNat) else none) := by
  by_cases hx : 0 ≤ x.toInt
  · have h3 := x.toInt_lt
    have e := pn_of hx
    rw [e, pc_num hn h (by omega), pn_ti (by omega)]
    by_cases h1 : x.toInt.toNat < n
    · rw [if_pos h1, if_pos (by omega)]; congr 2
    · rw [if_neg h1, if_neg (by omega)]
  · unfold fX3_numbered
    rw [if_pos (by rw [Int32.lt_iff_toInt_lt]; show _ < (0 : Int); omega), if_neg (by omega)]
theorem pc_isC {c : Nat} (h : c < 5) : isC (5 + c) := ⟨by omega, by omega⟩
theorem pc_countL {F : Nat} {M : M2} {J : J2} {s : M1} {n : Nat} {x : Int32} (hn : n ≤ 5) (h10 : M 0 5 = Int32.ofNat n) (hm : ∀ c, c < n → M (5 + c) 1 = s (21 + 7 * c + 1)) : ∀ d k m, k + d = 5 → d < m → fbX3_countOf_4 F M J m x (cntk s x (if k < n then k else n)) (Int32.ofNat k) = some (cntk s x n) := by
  intro d
  induction d with
  | zero =>
    intro k m hk hm
    obtain ⟨m, rfl⟩ := fu hm
    show fsX3_countOf_4 F M J _ _ _ _ = _
    unfold fsX3_countOf_4
    rw [if_pos ((pn_le1 (by decide) (by omega)).mpr (by show 5 ≤ k; omega)), if_neg (by omega)]
  | succ d ih =>
    intro k m hk hmm
    obtain ⟨m, rfl⟩ := fu hmm
    show fsX3_countOf_4 F M J (fbX3_countOf_4 F M J m) _ _ _ = _
    unfold fsX3_countOf_4
    rw [← ih (k + 1) m (by omega) (by omega), if_neg (fun h => by have := (pn_le1 (by decide) (by omega)).mp h; have : 5 ≤ k := this; omega), pc_num hn h10 (by omega)]
    simp only [Option.bind_some, fbX3_countOf_33, pn_s]
    by_cases h : k < n
    · simp only [if_pos h, oc_ss]
      rw [chk_t (pc_isC (by omega)), hm k h]
      have e : (if k + 1 < n then k + 1 else n) = k + 1 := by split <;> omega
      rw [e]
      simp only [cntk]
      grind
    · simp only [if_neg h, oc_ns]
      rw [if_neg (by omega)]
theorem pc_count {F : Nat} {M : M2} {J : J2} {s : M1} {n : Nat} {x : Int32} (hF : 1000 ≤ F) (hn : n ≤ 5) (h10 : M 0 5 = Int32.ofNat n) (hm : ∀ c, c < n → M (5 + c) 1 = s (21 + 7 * c + 1)) : fX3_countOf F M J x = some (cntk s x n) := by
  have h := pc_countL (F := F) (J := J) (x := x) hn h10 hm 5 0 F (by omega) (by omega)
  have e : (if 0 < n then 0 else n) = 0 := by split <;> omega
  rw [e] at h
  exact h
/-- the capacities of those in one mode -/
def cmk (s : M1) (x : Int32) : Nat → Int32
  | 0 => 0
  | k + 1 => cmk s x k + if s (21 + 7 * k + 1) = x then s (21 + 7 * k) else 0
theorem pc_capL {F : Nat} {M : M2} {J : J2} {s : M1} {n : Nat} {x : Int32} (hn : n ≤ 5) (h10 : M 0 5 = Int32.ofNat n) (hm : ∀ c, c < n → RC M s c) : ∀ d k m, k + d = 5 → d < m → fbX3_capacityOf_4 F M J m x (cmk s x (if k < n then k else n)) (Int32.ofNat k) = some (cmk s x n) := by
  intro d
  induction d with
  | zero =>
    intro k m hk hm
    obtain ⟨m, rfl⟩ := fu hm
    show fsX3_capacityOf_4 F M J _ _ _ _ = _
    unfold fsX3_capacityOf_4
    rw [if_pos ((pn_le1 (by decide) (by omega)).mpr (by show 5 ≤ k; omega)), if_neg (by omega)]
  | succ d ih =>
    intro k m hk hmm
    obtain ⟨m, rfl⟩ := fu hmm
    show fsX3_capacityOf_4 F M J (fbX3_capacityOf_4 F M J m) _ _ _ = _
    unfold fsX3_capacityOf_4
    rw [← ih (k + 1) m (by omega) (by omega), if_neg (fun h => by have := (pn_le1 (by decide) (by omega)).mp h; have : 5 ≤ k := this; omega), pc_num hn h10 (by omega)]
    simp only [Option.bind_some, fbX3_capacityOf_38, pn_s]
    by_cases h : k < n
    · simp only [if_pos h, oc_ss]
      obtain ⟨e0, e1, -⟩ := hm k h
      rw [chk_t (pc_isC (by omega)), e0, e1]
      have e : (if k + 1 < n then k + 1 else n) = k + 1 := by split <;> omega
      rw [e]
      simp only [cmk]
      grind
    · simp only [if_neg h, oc_ns]
      rw [if_neg (by omega)]
theorem pc_cap {F : Nat} {M : M2} {J : J2} {s : M1} {n : Nat} {x : Int32} (hF : 1000 ≤ F) (hn : n ≤ 5) (h10 : M 0 5 = Int32.ofNat n) (hm : ∀ c, c < n → RC M s c) : fX3_capacityOf F M J x = some (cmk s x n) := by
  have h := pc_capL (F := F) (J := J) (x := x) hn h10 hm 5 0 F (by omega) (by omega)
  have e : (if 0 < n then 0 else n) = 0 := by split <;> omega
  rw [e] at h
  exact h
theorem cmk_1 {s : M1} {k : Nat} : cmk s 1 k = cpk s true k := by
  induction k with
  | zero => rfl
  | succ k ih => simp only [cmk, cpk]; rw [ih]; simp
theorem cmk_3 {s : M1} {k : Nat} (h : ∀ c, c < k → s (21 + 7 * c + 1) = 0 ∨ s (21 + 7 * c + 1) = 1 ∨ s (21 + 7 * c + 1) = 2 ∨ s (21 + 7 * c + 1) = 3) : cmk s 0 k + cmk s 1 k + cmk s 2 k = cpk s false k := by
  induction k with
  | zero => rfl
  | succ k ih =>
    simp only [cmk, cpk]
    rw [← ih (fun c hc => h c (by omega))]
    rcases h k (by omega) with e | e | e | e <;> simp [e] <;> ac_rfl
/-- the loaded minutes by their capacities -/
def lmk (s : M1) : Nat → Int64
  | 0 => 0
  | k + 1 => lmk s k + (s (21 + 7 * k)).toInt64 * (s (21 + 7 * k + 2)).toInt64
theorem pc_atsL {F : Nat} {M : M2} {J : J2} {s : M1} {n t c : Nat} (hn : n ≤ 5) (h10 : M 0 5 = Int32.ofNat n) (hm : ∀ c, c < n → M (5 + c) 2 = Int32.ofNat (stg s c)) (hp : Prm n s) (hc : c < n) (ht : stg s c = t) : ∀ d k m, k + d = c → d < m → fbX3_numberAtStage_2 F M J m (Int32.ofNat t) (Int32.ofNat k) = some (Int32.ofNat c) := by
  intro d
  induction d with
  | zero =>
    intro k m hk hmm
    obtain ⟨m, rfl⟩ := fu hmm
    show fsX3_numberAtStage_2 F M J _ _ _ = _
    unfold fsX3_numberAtStage_2
    rw [if_neg (fun h => by have := (pn_le1 (by decide) (by omega)).mp h; have : 5 ≤ k := this; omega), pc_num hn h10 (by omega)]
    simp only [Option.bind_some, if_pos (show k < n by omega), oc_ss]
    rw [chk_t (pc_isC (by omega)), hm k (by omega), show k = c by omega, ht]
    simp
  | succ d ih =>
    intro k m hk hmm
    obtain ⟨m, rfl⟩ := fu hmm
    show fsX3_numberAtStage_2 F M J (fbX3_numberAtStage_2 F M J m) _ _ = _
    unfold fsX3_numberAtStage_2
    rw [← ih (k + 1) m (by omega) (by omega), if_neg (fun h => by have := (pn_le1 (by decide) (by omega)).mp h; have : 5 ≤ k := this; omega), pc_num hn h10 (by omega)]
    simp only [Option.bind_some, if_pos (show k < n by omega), oc_ss, fbX3_numberAtStage_27, pn_s]
    obtain ⟨h1, h2⟩ := hp.at_ k (by omega)
    obtain ⟨h3, h4⟩ := hp.at_ c hc
    rw [chk_t (pc_isC (by omega)), hm k (by omega), if_pos]
    rw [pn_eq (by omega) (by omega)]
    intro h
    rw [h, ← ht, h4, pn_eq (by omega) (by omega)] at h2
    omega
theorem pc_ats {F : Nat} {M : M2} {J : J2} {s : M1} {n k : Nat} (hF : 1000 ≤ F) (hn : n ≤ 5) (h10 : M 0 5 = Int32.ofNat n) (hm : ∀ c, c < n → M (5 + c) 2 = Int32.ofNat (stg s c)) (hp : Prm n s) (hk : k < n) : fX3_numberAtStage F M J (Int32.ofNat k) = some (s (56 + k)) := by
  obtain ⟨c, h1, h2, h3⟩ := hp.of_ k hk
  rw [h2]
  exact pc_atsL (F := F) (J := J) hn h10 hm hp h1 h3 c 0 F (by omega) (by omega)
