/-- the hash -/
def dgi (f : Nat → Int64) (h : Int64) : Nat → Int64
  | 0 => h
  | k + 1 => 31 * dgi f h k + f k
def dgo (s : M1) (h : Int64) (c : Nat) : Int64 := 31 * dgi (fun k => (tld s c k).toInt64) h 10 + (nxt s c (prs s)).toInt64
def dgc (s : M1) (h : Int64) : Nat → Int64
  | 0 => h
  | c + 1 => dgo s (dgc s h c) c
def dgr (s : M1) (r : Nat) (h : Int64) : Nat → Int64 := dgi (fun k => (s (15 + (r - 1 - k))).toInt64) h
def dgA (s : M1) (n t : Nat) : Int64 := dgi (fun k => (vlu s n k).toInt64) (112561 + (Int32.ofNat t).toInt64) 12
def dgB (s : M1) (n t : Nat) : Int64 := dgi (fun k => (s (2 + k)).toInt64) (dgA s n t) 8
def dgC (s : M1) (b : J1) (n t : Nat) : Int64 := dgi b (dgB s n t) 6
def dgD (s : M1) (b : J1) (n t : Nat) : Int64 := dgc s (dgC s b n t) n
def dgE (s : M1) (b : J1) (n t r : Nat) : Int64 := dgr s r (dgD s b n t) r
theorem le_k {a k : Nat} (ha : (OfNat.ofNat a : Nat) < 2147483648) (hk : k < 2147483648) (h : k < (OfNat.ofNat a : Nat)) : ¬ (no_index (OfNat.ofNat a : Int32)) ≤ Int32.ofNat k := fun e => by have h2 := (pn_le1 ha hk).mp e; omega
theorem pc_dg133 {F : Nat} {G : M3} {K : J3} {n r p : Nat} {s : M1} {b : J1} {h : Int64} (hR : Rep n (G 0) (K 0) s b) (hr : r ≤ 6) (h14 : s 14 = Int32.ofNat r) (hp : G 6 1 0 = Int32.ofNat p) : ∀ d k m, k + d = r → d < m → fbX4_digest_133 F G K m (dgr s r h k) (Int32.ofNat k) = some (31 * dgr s r h r + (Int32.ofNat p).toInt64) := by
  have o6 : G 0 0 6 = Int32.ofNat r := by rw [hR.o.2.2.2.2.2.2, h14]
  intro d
  induction d with
  | zero =>
    intro k m hk hm
    obtain ⟨m, rfl⟩ := fu hm
    obtain rfl : k = r := by omega
    rw [show fbX4_digest_133 F G K (m + 1) = fsX4_digest_133 F G K (fbX4_digest_133 F G K m) from rfl]
    unfold fsX4_digest_133 fbX4_digest_173
    rw [o6, if_pos ((pn_le (by omega) (by omega)).mpr (by omega)), hp]
  | succ d ih =>
    intro k m hk hm
    obtain ⟨m, rfl⟩ := fu hm
    rw [← ih (k + 1) m (by omega) (by omega)]
    rw [show fbX4_digest_133 F G K (m + 1) = fsX4_digest_133 F G K (fbX4_digest_133 F G K m) from rfl]
    unfold fsX4_digest_133
    rw [o6, if_neg (fun h => by have := (pn_le (by omega) (by omega)).mp h; omega), if_neg (le_k (by decide) (by omega) (by show k < 6; omega)), chk_b (by omega) (by omega), pn_in (by omega), hR.r r hr h14 k (by omega), pn_s]
    rfl
theorem pc_dgw {F : Nat} {G : M3} {K : J3} {n c : Nat} {s : M1} {b : J1} {h : Int64} (hR : Rep n (G 0) (K 0) s b) (hv : 0 < s 0) (hc : c < n) (hk : Cok s c) : ∀ d k m, k + d = 10 → d < m → fbX4_digestWith_12 F G K m (5 + c) (dgi (fun k => (tld s c k).toInt64) h k) (Int32.ofNat k) = some (dgo s h c) := by
  intro d
  induction d with
  | zero =>
    intro k m hk2 hm
    obtain ⟨m, rfl⟩ := fu hm
    obtain rfl : k = 10 := by omega
    rw [show fbX4_digestWith_12 F G K (m + 1) = fsX4_digestWith_12 F G K (fbX4_digestWith_12 F G K m) from rfl]
    unfold fsX4_digestWith_12
    rw [if_pos (by decide), pc_press hv hR, Option.bind_some, pc_doing hR hc hk]
    rfl
  | succ d ih =>
    intro k m hk2 hm
    obtain ⟨m, rfl⟩ := fu hm
    rw [← ih (k + 1) m (by omega) (by omega)]
    rw [show fbX4_digestWith_12 F G K (m + 1) = fsX4_digestWith_12 F G K (fbX4_digestWith_12 F G K m) from rfl]
    unfold fsX4_digestWith_12
    rw [if_neg (le_k (by decide) (by omega) (by show k < 10; omega)), pc_about hR hc hk (by omega), pn_s]
    rfl
theorem pc_dg106 {F : Nat} {G : M3} {K : J3} {U A T : Int} {n r p : Nat} {s : M1} {b : J1} {h : Int64} (hF : 1000 ≤ F) (hI : Inv U A T n s b) (hR : Rep n (G 0) (K 0) s b) (hr : r ≤ 6) (h14 : s 14 = Int32.ofNat r) (hp : G 6 1 0 = Int32.ofNat p) : ∀ d k m, k + d = 5 → d < m → fbX4_digest_106 F G K m (dgc s h (if k < n then k else n)) (Int32.ofNat k) = some (31 * dgr s r (dgc s h n) r + (Int32.ofNat p).toInt64) := by
  have hn := hI.n5
  have h10 : G 0 0 5 = Int32.ofNat n := by rw [hR.o.2.2.2.2.2.1, hI.cnt]
  intro d
  induction d with
  | zero =>
    intro k m hk hm
    obtain ⟨m, rfl⟩ := fu hm
    obtain rfl : k = 5 := by omega
    rw [show fbX4_digest_106 F G K (m + 1) = fsX4_digest_106 F G K (fbX4_digest_106 F G K m) from rfl]
    unfold fsX4_digest_106
    rw [if_pos (by decide), if_neg (by omega)]
    exact pc_dg133 (F := F) (h := dgc s h n) hR hr h14 hp r 0 F (by omega) (by omega)
  | succ d ih =>
    intro k m hk hm
    obtain ⟨m, rfl⟩ := fu hm
    rw [← ih (k + 1) m (by omega) (by omega)]
    rw [show fbX4_digest_106 F G K (m + 1) = fsX4_digest_106 F G K (fbX4_digest_106 F G K m) from rfl]
    unfold fsX4_digest_106
    rw [if_neg (pc_lt5 (by omega)), pc_num hn h10 (by omega), Option.bind_some]
    by_cases hkn : k < n
    · simp only [if_pos hkn, oc_ss]
      rw [chk_t (pc_isC (by omega))]
      unfold fX4_digestWith
      rw [oc_ss, chk_t (pc_isC (by omega))]
      have e := pc_dgw (F := F) (G := G) (K := K) (h := dgc s h k) hR (Inv_v0 hI).1 hkn (hI.cmp k hkn) 10 0 F (by omega) (by omega)
      have e2 : fbX4_digestWith_12 F G K F (5 + k) (dgc s h k) 0 = some (dgo s (dgc s h k) k) := e
      rw [e2, Option.bind_some, pn_s]
      have e3 : (if k + 1 < n then k + 1 else n) = k + 1 := by split <;> omega
      rw [e3]
      rfl
    · simp only [if_neg hkn, oc_ns]
      unfold fX4_digestWith
      rw [oc_ns, Option.bind_some, pn_s, if_neg (by omega)]
theorem pc_dg76 {F : Nat} {G : M3} {K : J3} {U A T : Int} {n r p : Nat} {s : M1} {b : J1} {h : Int64} (hF : 1000 ≤ F) (hI : Inv U A T n s b) (hR : Rep n (G 0) (K 0) s b) (hr : r ≤ 6) (h14 : s 14 = Int32.ofNat r) (hp : G 6 1 0 = Int32.ofNat p) : ∀ d k m, k + d = 6 → d < m → fbX4_digest_76 F G K m (dgi b h k) (Int32.ofNat k) = some (31 * dgr s r (dgc s (dgi b h 6) n) r + (Int32.ofNat p).toInt64) := by
  intro d
  induction d with
  | zero =>
    intro k m hk hm
    obtain ⟨m, rfl⟩ := fu hm
    obtain rfl : k = 6 := by omega
    rw [show fbX4_digest_76 F G K (m + 1) = fsX4_digest_76 F G K (fbX4_digest_76 F G K m) from rfl]
    unfold fsX4_digest_76
    rw [if_pos (by decide)]
    have e := pc_dg106 (F := F) (h := dgi b h 6) hF hI hR hr h14 hp 5 0 F (by omega) (by omega)
    have e1 : (if 0 < n then 0 else n) = 0 := by split <;> omega
    rw [e1] at e
    exact e
  | succ d ih =>
    intro k m hk hm
    obtain ⟨m, rfl⟩ := fu hm
    rw [← ih (k + 1) m (by omega) (by omega)]
    rw [show fbX4_digest_76 F G K (m + 1) = fsX4_digest_76 F G K (fbX4_digest_76 F G K m) from rfl]
    unfold fsX4_digest_76
    rw [if_neg (le_k (by decide) (by omega) (by show k < 6; omega)), chk_b (by omega) (by omega), pn_in (by omega), hR.am k (by omega), pn_s]
    rfl
theorem pc_dg45 {F : Nat} {G : M3} {K : J3} {U A T : Int} {n r p : Nat} {s : M1} {b : J1} {h : Int64} (hF : 1000 ≤ F) (hI : Inv U A T n s b) (hR : Rep n (G 0) (K 0) s b) (hr : r ≤ 6) (h14 : s 14 = Int32.ofNat r) (hp : G 6 1 0 = Int32.ofNat p) : ∀ d k m, k + d = 8 → d < m → fbX4_digest_45 F G K m (dgi (fun k => (s (2 + k)).toInt64) h k) (Int32.ofNat k) = some (31 * dgr s r (dgc s (dgi b (dgi (fun k => (s (2 + k)).toInt64) h 8) 6) n) r + (Int32.ofNat p).toInt64) := by
  intro d
  induction d with
  | zero =>
    intro k m hk hm
    obtain ⟨m, rfl⟩ := fu hm
    obtain rfl : k = 8 := by omega
    rw [show fbX4_digest_45 F G K (m + 1) = fsX4_digest_45 F G K (fbX4_digest_45 F G K m) from rfl]
    unfold fsX4_digest_45
    rw [if_pos (by decide)]
    exact pc_dg76 (F := F) hF hI hR hr h14 hp 6 0 F (by omega) (by omega)
  | succ d ih =>
    intro k m hk hm
    obtain ⟨m, rfl⟩ := fu hm
    rw [← ih (k + 1) m (by omega) (by omega)]
    rw [show fbX4_digest_45 F G K (m + 1) = fsX4_digest_45 F G K (fbX4_digest_45 F G K m) from rfl]
    unfold fsX4_digest_45
    rw [if_neg (le_k (by decide) (by omega) (by show k < 8; omega)), chk_b (by omega) (by omega), pn_in (by omega), hR.st k (by omega), pn_s]
    rfl
theorem pc_dg15 {F : Nat} {G : M3} {K : J3} {U A T : Int} {n r p t : Nat} {s : M1} {b : J1} (hF : 1000 ≤ F) (hI : Inv U A T n s b) (hR : Rep n (G 0) (K 0) s b) (hr : r ≤ 6) (h14 : s 14 = Int32.ofNat r) (hp : G 6 1 0 = Int32.ofNat p) : ∀ d k m, k + d = 12 → d < m → fbX4_digest_15 F G K m (dgi (fun k => (vlu s n k).toInt64) (112561 + (Int32.ofNat t).toInt64) k) (Int32.ofNat k) = some (31 * dgE s b n t r + (Int32.ofNat p).toInt64) := by
  intro d
  induction d with
  | zero =>
    intro k m hk hm
    obtain ⟨m, rfl⟩ := fu hm
    obtain rfl : k = 12 := by omega
    rw [show fbX4_digest_15 F G K (m + 1) = fsX4_digest_15 F G K (fbX4_digest_15 F G K m) from rfl]
    unfold fsX4_digest_15
    rw [if_pos (by decide)]
    exact pc_dg45 (F := F) hF hI hR hr h14 hp 8 0 F (by omega) (by omega)
  | succ d ih =>
    intro k m hk hm
    obtain ⟨m, rfl⟩ := fu hm
    rw [← ih (k + 1) m (by omega) (by omega)]
    rw [show fbX4_digest_15 F G K (m + 1) = fsX4_digest_15 F G K (fbX4_digest_15 F G K m) from rfl]
    unfold fsX4_digest_15
    rw [if_neg (le_k (by decide) (by omega) (by show k < 12; omega)), pc_value hF hI.n5 hI.cnt (Inv_v0 hI).1 hR (by omega), Option.bind_some, pn_s]
    rfl
