/-- the hash -/
def dgi (f : Nat → Int64) (h : Int64) : Nat → Int64
  | 0 => h
  | k + 1 => 31 * dgi f h k + f k
def dgo (s : M1) (h : Int64) (c : Nat) : Int64 := 31 * dgi (fun k => (tld s c k).toInt64) h 10 + (nxt s c (prs s)).toInt64
def dgc (s : M1) (h : Int64) : Nat → Int64
  | 0 => h
  | c + 1 => dgo s (dgc s h c) c
def dgr (s : M1) (r : Nat) (h : Int64) : Nat → Int64 := dgi (fun k => (s (15 + (r - 1 - k))).toInt64) h
def dgA (s : M1) (n t : Nat) : Int64 := dgi (fun k => (vlu s n k).toInt64) (112561 + (Int32.ofNat t).toInt64) 12
def dgB (s : M1) (n t : Nat) : Int64 := dgi (fun k => (s (2 + k)).toInt64) (dgA s n t) 8
def dgC (s : M1) (b : J1) (n t : Nat) : Int64 := dgi b (dgB s n t) 6
def dgD (s : M1) (b : J1) (n t : Nat) : Int64 := dgc s (dgC s b n t) n
def dgE (s : M1) (b : J1) (n t r : Nat) : Int64 := dgr s r (dgD s b n t) r
theorem le_k {a k : Nat} (ha : (OfNat.ofNat a : Nat) < 2147483648) (hk : k < 2147483648) (h : k < (OfNat.ofNat a : Nat)) : ¬ (no_index (OfNat.ofNat a : Int32)) ≤ Int32.ofNat k := fun e => by have h2 := (pn_le1 ha hk).mp e; omega
theorem pc_dg133 {F : Nat} {G : M3} {K : J3} {n r p : Nat} {s : M1} {b : J1} {h : Int64} (hR : Rep n (G 0) (K 0) s b) (hr : r ≤ 6) (h14 : s 14 = Int32.ofNat r) (hp : G 6 1 0 = Int32.ofNat p) : ∀ d k m, k + d = r → d < m → fbX4_digest_133 F G K m (dgr s r h k) (Int32.ofNat k) = some (31 * dgr s r h r + (Int32.ofNat p).toInt64) := by
  have o6 : G 0 0 6 = Int32.ofNat r := by rw [hR.o.2.2.2.2.2.2, h14]
  intro d
  induction d with
  | zero =>
    intro k m hk hm
    obtain ⟨m, rfl⟩ := fu hm
    obtain rfl : k = r := by omega
    rw [show fbX4_digest_133 F G K (m + 1) = fsX4_digest_133 F G K (fbX4_digest_133 F G K m) from rfl]
    unfold fsX4_digest_133 fbX4_digest_173
    rw [o6, if_pos ((pn_le (by omega) (by omega)).mpr (by omega)), hp]
  | succ d ih =>
    intro k m hk hm
    obtain ⟨m, rfl⟩ := fu hm
    rw [← ih (k + 1) m (by omega) (by omega)]
    rw [show fbX4_digest_133 F G K (m + 1) = fsX4_digest_133 F G K (fbX4_digest_133 F G K m) from rfl]
    unfold fsX4_digest_133
    rw [o6, if_neg (fun h => by have := (pn_le (by omega) (by omega)).mp h; omega), if_neg (le_k (by decide) (by omega) (by show k < 6; omega)), chk_b (by omega) (by omega), pn_in (by omega), hR.r r hr h14 k (by omega), pn_s]
    rfl
theorem pc_dgw {F : Nat} {G : M3} {K : J3} {n c : Nat} {s : M1} {b : J1} {h : Int64} (hR : Rep n (G 0) (K 0) s b) (hv : 0 < s 0) (hc : c < n) (hk : Cok s c) : ∀ d k m, k + d = 10 → d < m → fbX4_digestWith_12 F G K m (5 + c) (dgi (fun k => (tld s c k).toInt64) h k) (Int32.ofNat k) = some (dgo s h c) := by
  intro d
  induction d with
  | zero =>
    intro k m hk2 hm
    obtain ⟨m, rfl⟩ := fu hm
    obtain rfl : k = 10 := by omega
    rw [show fbX4_digestWith_12 F G K (m + 1) = fsX4_digestWith_12 F G K (fbX4_digestWith_12 F G K m) from rfl]
    unfold fsX4_digestWith_12
    rw [if_pos (by decide), pc_press hv hR, Option.bind_some, pc_doing hR hc hk]
    rfl
  | succ d ih =>
    intro k m hk2 hm
    obtain ⟨m, rfl⟩ := fu hm
    rw [← ih (k + 1) m (by omega) (by omega)]
    rw [show fbX4_digestWith_12 F G K (m + 1) = fsX4_digestWith_12 F G K (fbX4_digestWith_12 F G K m) from rfl]
    unfold fsX4_digestWith_12
    rw [if_neg (le_k (by decide) (by omega) (by show k < 10; omega)), pc_about hR hc hk (by omega), pn_s]
    rfl
theorem pc_dg106 {F : Nat} {G : M3} {K : J3} {U A T : Int} {n r p : Nat} {s : M1} {b : J1} {h : Int64} (hF : 1000 ≤ F) (hI : Inv U A T n s b) (hR : Rep n (G 0) (K 0) s b) (hr : r ≤ 6) (h14 : s 14 = Int32.ofNat r) (hp : G 6 1 0 = Int32.ofNat p) : ∀ d k m, k + d = 5 → d < m → fbX4_digest_106 F G K m (dgc s h (if k < n then k else n)) (Int32.ofNat k) = some (31 * dgr s r (dgc s h n) r + (Int32.ofNat p).toInt64) := by
  have hn := hI.n5
  have h10 : G 0 0 5 = Int32.ofNat n := by rw [hR.o.2.2.2.2.2.1, hI.cnt]
  intro d
  induction d with
  | zero =>
    intro k m hk hm
    obtain ⟨m, rfl⟩ := fu hm
    obtain rfl : k = 5 := by omega
    rw [show fbX4_digest_106 F G K (m + 1) = fsX4_digest_106 F G K (fbX4_digest_106 F G K m) from rfl]
    unfold fsX4_digest_106
    rw [if_pos (by decide), if_neg (by omega)]
    exact pc_dg133 (F := F) (h := dgc s h n) hR hr h14 hp r 0 F (by omega) (by omega)
  | succ d ih =>
    intro k m hk hm
    obtain ⟨m, rfl⟩ := fu hm
    rw [← ih (k + 1) m (by omega) (by omega)]
    rw [show fbX4_digest_106 F G K (m + 1) = fsX4_digest_106 F G K (fbX4_digest_106 F G K m) from rfl]
    unfold fsX4_digest_106
    rw [if_neg (pc_lt5 (by omega)), pc_num hn h10 (by omega), Option.bind_some]
    by_cases hkn : k < n
    · simp only [if_pos hkn, oc_ss]
      rw [chk_t (pc_isC (by omega))]
      unfold fX4_digestWith
      rw [oc_ss, chk_t (pc_isC (by omega))]
      have e := pc_dgw (F := F) (G := G) (K := K) (h := dgc s h k) hR (Inv_v0 hI).1 hkn (hI.cmp k hkn) 10 0 F (by omega) (by omega)
      have e2 : fbX4_digestWith_12 F G K F (5 + k) (dgc s h k) 0 = some (dgo s (dgc s h k) k) := e
      rw [e2, Option.bind_some, pn_s]
      have e3 : (if k + 1 < n then k + 1 else n) = k + 1 := by split <;> omega
      rw [e3]
      rfl
    · simp only [if_neg hkn, oc_ns]
      unfold fX4_digestWith
      rw [oc_ns, Option.bind_some, pn_s, if_neg (by omega)]
theorem pc_dg76 {F : Nat} {G : M3} {K : J3} {U A T : Int} {n r p : Nat} {s : M1} {b : J1} {h : Int64} (hF : 1000 ≤ F) (hI : Inv U A T n s b) (hR : Rep n (G 0) (K 0) s b) (hr : r ≤ 6) (h14 : s 14 = Int32.ofNat r) (hp : G 6 1 0 = Int32.ofNat p) : ∀ d k m, k + d = 6 → d < m → fbX4_digest_76 F G K m (dgi b h k) (Int32.ofNat k) = some (31 * dgr s r (dgc s (dgi b h 6) n) r + (Int32.ofNat p).toInt64) := by
  intro d
  induction d with
  | zero =>
    intro k m hk hm
    obtain ⟨m, rfl⟩ := fu hm
    obtain rfl : k = 6 := by omega
    rw [show fbX4_digest_76 F G K (m + 1) = fsX4_digest_76 F G K (fbX4_digest_76 F G K m) from rfl]
    unfold fsX4_digest_76
    rw [if_pos (by decide)]
    have e := pc_dg106 (F := F) (h := dgi b h 6) hF hI hR hr h14 hp 5 0 F (by omega) (by omega)
    have e1 : (if 0 < n then 0 else n) = 0 := by split <;> omega
    rw [e1] at e
    exact e
  | succ d ih =>
    intro k m hk hm
    obtain ⟨m, rfl⟩ := fu hm
    rw [← ih (k + 1) m (by omega) (by omega)]
    rw [show fbX4_digest_76 F G K (m + 1) = fsX4_digest_76 F G K (fbX4_digest_76 F G K m) from rfl]
    unfold fsX4_digest_76
    rw [if_neg (le_k (by decide) (by omega) (by show k < 6; omega)), chk_b (by omega) (by omega), pn_in (by omega), hR.am k (by omega), pn_s]
    rfl
theorem pc_dg45 {F : Nat} {G : M3} {K : J3} {U A T : Int} {n r p : Nat} {s : M1} {b : J1} {h : Int64} (hF : 1000 ≤ F) (hI : Inv U A T n s b) (hR : Rep n (G 0) (K 0) s b) (hr : r ≤ 6) (h14 : s 14 = Int32.ofNat r) (hp : G 6 1 0 = Int32.ofNat p) : ∀ d k m, k + d = 8 → d < m → fbX4_digest_45 F G K m (dgi (fun k => (s (2 + k)).toInt64) h k) (Int32.ofNat k) = some (31 * dgr s r (dgc s (dgi b (dgi (fun k => (s (2 + k)).toInt64) h 8) 6) n) r + (Int32.ofNat p).toInt64) := by
  intro d
  induction d with
  | zero =>
    intro k m hk hm
    obtain ⟨m, rfl⟩ := fu hm
    obtain rfl : k = 8 := by omega
    rw [show fbX4_digest_45 F G K (m + 1) = fsX4_digest_45 F G K (fbX4_digest_45 F G K m) from rfl]
    unfold fsX4_digest_45
    rw [if_pos (by decide)]
    exact pc_dg76 (F := F) hF hI hR hr h14 hp 6 0 F (by omega) (by omega)
  | succ d ih =>
    intro k m hk hm
    obtain ⟨m, rfl⟩ := fu hm
    rw [← ih (k + 1) m (by omega) (by omega)]
    rw [show fbX4_digest_45 F G K (m + 1) = fsX4_digest_45 F G K (fbX4_digest_45 F G K m) from rfl]
    unfold fsX4_digest_45
    rw [if_neg (le_k (by decide) (by omega) (by show k < 8; omega)), chk_b (by omega) (by omega), pn_in (by omega), hR.st k (by omega), pn_s]
    rfl
theorem pc_dg15 {F : Nat} {G : M3} {K : J3} {U A T : Int} {n r p t : Nat} {s : M1} {b : J1} (hF : 1000 ≤ F) (hI : Inv U A T n s b) (hR : Rep n (G 0) (K 0) s b) (hr : r ≤ 6) (h14 : s 14 = Int32.ofNat r) (hp : G 6 1 0 = Int32.ofNat p) : ∀ d k m, k + d = 12 → d < m → fbX4_digest_15 F G K m (dgi (fun k => (vlu s n k).toInt64) (112561 + (Int32.ofNat t).toInt64) k) (Int32.ofNat k) = some (31 * dgE s b n t r + (Int32.ofNat p).toInt64) := by
  intro d
  induction d with
  | zero =>
    intro k m hk hm
    obtain ⟨m, rfl⟩ := fu hm
    obtain rfl : k = 12 := by omega
    rw [show fbX4_digest_15 F G K (m + 1) = fsX4_digest_15 F G K (fbX4_digest_15 F G K m) from rfl]
    unfold fsX4_digest_15
    rw [if_pos (by decide)]
    exact pc_dg45 (F := F) hF hI hR hr h14 hp 8 0 F (by omega) (by omega)
  | succ d ih =>
    intro k m hk hm
    obtain ⟨m, rfl⟩ := fu hm
    rw [← ih (k + 1) m (by omega) (by omega)]
    rw [show fbX4_digest_15 F G K (m + 1) = fsX4_digest_15 F G K (fbX4_digest_15 F G K m) from rfl]
    unfold fsX4_digest_15
    rw [if_neg (le_k (by decide) (by omega) (by show k < 12; omega)), pc_value hF hI.n5 hI.cnt (Inv_v0 hI).1 hR (by omega), Option.bind_some, pn_s]
    rfl
theorem pv_dg176 {F : Nat} {M : M2} {J : J2} {r p : Nat} {h : Int64} (hr : r ≤ 6) (hp : M 0 8 = Int32.ofNat p) : ∀ d k m, k + d = r → d < m → fbX5_digest_176 F m (dgr (M 1) r h k) (Int32.ofNat d - 1) M J = some (31 * dgr (M 1) r h r + (Int32.ofNat p).toInt64, M, J) := by
  intro d
  induction d with
  | zero =>
    intro k m hk hm
    obtain ⟨m, rfl⟩ := fu hm
    obtain rfl : k = r := by omega
    rw [show fbX5_digest_176 F (m + 1) = fsX5_digest_176 F (fbX5_digest_176 F m) from rfl]
    unfold fsX5_digest_176
    rw [if_pos (by decide), hp]
  | succ d ih =>
    intro k m hk hm
    obtain ⟨m, rfl⟩ := fu hm
    rw [← ih (k + 1) m (by omega) (by omega)]
    rw [show fbX5_digest_176 F (m + 1) = fsX5_digest_176 F (fbX5_digest_176 F m) from rfl]
    unfold fsX5_digest_176
    have e1 : Int32.ofNat (d + 1) - 1 = Int32.ofNat d := pn_sub2 (b := 1) (by show 1 ≤ d + 1; omega)
    have e2 : Int32.ofNat d + -1 = Int32.ofNat d - 1 := (Int32.sub_eq_add_neg _ _).symm
    rw [e1, e2, if_neg (fun e => by have := (pn_lt2 (b := 0) (by omega) (by decide)).mp e; have : d < 0 := this; omega), pn_add1, chk_b (by show 15 + d < 61; omega) (by show 15 + d < _; omega), pn_in (by show 15 + d < _; omega)]
    have e3 : dgr (M 1) r h (k + 1) = 31 * dgr (M 1) r h k + (M 1 (15 + d)).toInt64 := by
      show 31 * dgr (M 1) r h k + (M 1 (15 + (r - 1 - k))).toInt64 = _
      rw [show r - 1 - k = d by omega]
    rw [e3]
theorem pv_dg115 {F : Nat} {M : M2} {J : J2} {n c : Nat} {h : Int64} {kk : Int64 → Int32 → M2 → J2 → Option (Int64 × M2 × J2)} (hF : 1000 ≤ F) (hn : n ≤ 5) (hp : Prm n (M 1)) (h0 : ¬ M 1 0 = 0) (hc : c < n) : ∀ d k m, k + d = 10 → d < m → fbX5_digest_115 F kk m (dgi (fun k => (tld (M 1) c k).toInt64) h k) (Int32.ofNat c) (Int32.ofNat k) M J = kk (dgo (M 1) h c) (Int32.ofNat (c + 1)) M J := by
  intro d
  induction d with
  | zero =>
    intro k m hk hm
    obtain ⟨m, rfl⟩ := fu hm
    obtain rfl : k = 10 := by omega
    rw [show fbX5_digest_115 F kk (m + 1) = fsX5_digest_115 F kk (fbX5_digest_115 F kk m) from rfl]
    unfold fsX5_digest_115 fX5_pressure
    rw [if_pos (by decide), chk_t h0, Option.bind_some, pv_next hF hn hp hc, Option.bind_some, pn_s]
    rfl
  | succ d ih =>
    intro k m hk hm
    obtain ⟨m, rfl⟩ := fu hm
    rw [← ih (k + 1) m (by omega) (by omega)]
    rw [show fbX5_digest_115 F kk (m + 1) = fsX5_digest_115 F kk (fbX5_digest_115 F kk m) from rfl]
    unfold fsX5_digest_115
    rw [if_neg (le_k (by decide) (by omega) (by show k < 10; omega)), pv_told hF hn hp hc (by omega), Option.bind_some, pn_s]
    rfl
theorem pv_dg101 {F : Nat} {M : M2} {J : J2} {n r p : Nat} {h : Int64} (hF : 1000 ≤ F) (hn : n ≤ 5) (h10 : M 1 10 = Int32.ofNat n) (hpm : Prm n (M 1)) (h0 : ¬ M 1 0 = 0) (hr : r ≤ 6) (h14 : M 1 14 = Int32.ofNat r) (hp : M 0 8 = Int32.ofNat p) : ∀ d k m, k + d = n → d < m → fbX5_digest_101 F m (dgc (M 1) h k) (Int32.ofNat k) M J = some (31 * dgr (M 1) r (dgc (M 1) h n) r + (Int32.ofNat p).toInt64, M, J) := by
  intro d
  induction d with
  | zero =>
    intro k m hk hm
    obtain ⟨m, rfl⟩ := fu hm
    obtain rfl : k = n := by omega
    rw [show fbX5_digest_101 F (m + 1) = fsX5_digest_101 F (fbX5_digest_101 F m) from rfl]
    unfold fsX5_digest_101
    rw [h10, if_pos ((pn_le (by omega) (by omega)).mpr (by omega)), h14]
    exact pv_dg176 (F := F) hr hp r 0 F (by omega) (by omega)
  | succ d ih =>
    intro k m hk hm
    obtain ⟨m, rfl⟩ := fu hm
    rw [← ih (k + 1) m (by omega) (by omega)]
    rw [show fbX5_digest_101 F (m + 1) = fsX5_digest_101 F (fbX5_digest_101 F m) from rfl]
    unfold fsX5_digest_101
    rw [h10, if_neg (fun h => by have := (pn_le (by omega) (by omega)).mp h; omega)]
    exact pv_dg115 (F := F) (h := dgc (M 1) h k) hF hn hpm h0 (by omega) 10 0 F (by omega) (by omega)
theorem pv_dg74 {F : Nat} {M : M2} {J : J2} {n r p : Nat} {h : Int64} (hF : 1000 ≤ F) (hn : n ≤ 5) (h10 : M 1 10 = Int32.ofNat n) (hpm : Prm n (M 1)) (h0 : ¬ M 1 0 = 0) (hr : r ≤ 6) (h14 : M 1 14 = Int32.ofNat r) (hp : M 0 8 = Int32.ofNat p) : ∀ d k m, k + d = 6 → d < m → fbX5_digest_74 F m (dgi (J 2) h k) (Int32.ofNat k) M J = some (31 * dgr (M 1) r (dgc (M 1) (dgi (J 2) h 6) n) r + (Int32.ofNat p).toInt64, M, J) := by
  intro d
  induction d with
  | zero =>
    intro k m hk hm
    obtain ⟨m, rfl⟩ := fu hm
    obtain rfl : k = 6 := by omega
    rw [show fbX5_digest_74 F (m + 1) = fsX5_digest_74 F (fbX5_digest_74 F m) from rfl]
    unfold fsX5_digest_74
    rw [if_pos (by decide)]
    exact pv_dg101 (F := F) (h := dgi (J 2) h 6) hF hn h10 hpm h0 hr h14 hp n 0 F (by omega) (by omega)
  | succ d ih =>
    intro k m hk hm
    obtain ⟨m, rfl⟩ := fu hm
    rw [← ih (k + 1) m (by omega) (by omega)]
    rw [show fbX5_digest_74 F (m + 1) = fsX5_digest_74 F (fbX5_digest_74 F m) from rfl]
    unfold fsX5_digest_74
    rw [if_neg (le_k (by decide) (by omega) (by show k < 6; omega)), chk_b (by omega) (by omega), pn_in (by omega), pn_s]
    rfl
theorem pv_dg44 {F : Nat} {M : M2} {J : J2} {n r p : Nat} {h : Int64} (hF : 1000 ≤ F) (hn : n ≤ 5) (h10 : M 1 10 = Int32.ofNat n) (hpm : Prm n (M 1)) (h0 : ¬ M 1 0 = 0) (hr : r ≤ 6) (h14 : M 1 14 = Int32.ofNat r) (hp : M 0 8 = Int32.ofNat p) : ∀ d k m, k + d = 8 → d < m → fbX5_digest_44 F m (dgi (fun k => (M 1 (2 + k)).toInt64) h k) (Int32.ofNat k) M J = some (31 * dgr (M 1) r (dgc (M 1) (dgi (J 2) (dgi (fun k => (M 1 (2 + k)).toInt64) h 8) 6) n) r + (Int32.ofNat p).toInt64, M, J) := by
  intro d
  induction d with
  | zero =>
    intro k m hk hm
    obtain ⟨m, rfl⟩ := fu hm
    obtain rfl : k = 8 := by omega
    rw [show fbX5_digest_44 F (m + 1) = fsX5_digest_44 F (fbX5_digest_44 F m) from rfl]
    unfold fsX5_digest_44
    rw [if_pos (by decide)]
    exact pv_dg74 (F := F) hF hn h10 hpm h0 hr h14 hp 6 0 F (by omega) (by omega)
  | succ d ih =>
    intro k m hk hm
    obtain ⟨m, rfl⟩ := fu hm
    rw [← ih (k + 1) m (by omega) (by omega)]
    rw [show fbX5_digest_44 F (m + 1) = fsX5_digest_44 F (fbX5_digest_44 F m) from rfl]
    unfold fsX5_digest_44
    rw [if_neg (le_k (by decide) (by omega) (by show k < 8; omega)), pn_add1, chk_b (by show 2 + k < 61; omega) (by show 2 + k < _; omega), pn_in (by show 2 + k < _; omega), pn_s]
    rfl
theorem pv_dg17 {F : Nat} {M : M2} {J : J2} {n r p t : Nat} (hF : 1000 ≤ F) (hn : n ≤ 5) (h10 : M 1 10 = Int32.ofNat n) (hpm : Prm n (M 1)) (h0 : ¬ M 1 0 = 0) (hr : r ≤ 6) (h14 : M 1 14 = Int32.ofNat r) (hp : M 0 8 = Int32.ofNat p) : ∀ d k m, k + d = 12 → d < m → fbX5_digest_17 F m (dgi (fun k => (vlu (M 1) n k).toInt64) (112561 + (Int32.ofNat t).toInt64) k) (Int32.ofNat k) M J = some (31 * dgE (M 1) (J 2) n t r + (Int32.ofNat p).toInt64, M, J) := by
  intro d
  induction d with
  | zero =>
    intro k m hk hm
    obtain ⟨m, rfl⟩ := fu hm
    obtain rfl : k = 12 := by omega
    rw [show fbX5_digest_17 F (m + 1) = fsX5_digest_17 F (fbX5_digest_17 F m) from rfl]
    unfold fsX5_digest_17
    rw [if_pos (by decide)]
    exact pv_dg44 (F := F) hF hn h10 hpm h0 hr h14 hp 8 0 F (by omega) (by omega)
  | succ d ih =>
    intro k m hk hm
    obtain ⟨m, rfl⟩ := fu hm
    rw [← ih (k + 1) m (by omega) (by omega)]
    rw [show fbX5_digest_17 F (m + 1) = fsX5_digest_17 F (fbX5_digest_17 F m) from rfl]
    unfold fsX5_digest_17
    rw [if_neg (le_k (by decide) (by omega) (by show k < 12; omega)), pv_value hF hn h10 h0 (by omega), Option.bind_some, pn_s]
    rfl
theorem c_digest {F : Nat} {G : M3} {K : J3} {nx : M3 → J3 → Option Int32} (hF : 1000 ≤ F) (h : RR G K) : CGo ((fX4_digest F G K).bind (fun vv2 => bd3 (fX5_digest F (G 8) (K 8)) (fun vv10 M4 J5 => bnd (sg G 8 M4) (fun G6 => bnd (sg K 8 J5) (fun K7 => (if (lg_cmp vv2 vv10) = 0 then nx G6 K7 else (some 0))))))) nx := by
  obtain ⟨⟨n, hI, hR⟩, ⟨h0, w, sv, bv, b1, b2, b3, b4, b5, b6, b7⟩, ⟨t, c1, c2, c3, c4⟩⟩ := id h
  obtain ⟨r, hr, h14⟩ := hI.res
  have h14 : G 8 1 14 = Int32.ofNat r := h14
  have hcn : G 8 1 10 = Int32.ofNat n := hI.cnt
  have e1 : fX4_digest F G K = some (31 * dgE (G 8 1) (K 8 2) n t r + (Int32.ofNat h0).toInt64) := by
    unfold fX4_digest
    rw [c2]
    exact pc_dg15 (F := F) hF hI hR hr h14 b3 12 0 F (by omega) (by omega)
  have q1 : up2 (G 8) 0 11 0 1 = G 8 1 := by unfold up2; exact sg_ne _ _ (by decide)
  have q8 : up2 (G 8) 0 11 0 0 8 = Int32.ofNat h0 := by rw [up2_ap, if_pos rfl, if_neg (by decide)]; exact b5
  have q10 : up2 (G 8) 0 11 0 0 10 = Int32.ofNat t := by rw [up2_ap, if_pos rfl, if_neg (by decide)]; exact c3
  have e2 : fX5_digest F (G 8) (K 8) = some (31 * dgE (G 8 1) (K 8 2) n t r + (Int32.ofNat h0).toInt64, up2 (G 8) 0 11 0, K 8) := by
    unfold fX5_digest
    rw [bnd_s, q10]
    have e := pv_dg17 (F := F) (M := up2 (G 8) 0 11 0) (J := K 8) (n := n) (r := r) (p := h0) (t := t) hF hI.n5 (by rw [q1]; exact hcn) (by rw [q1]; exact hI.prm) (by rw [q1]; exact (Inv_v0 hI).2) hr (by rw [q1]; exact h14) q8 12 0 F (by omega) (by omega)
    rw [q1] at e
    exact e
  refine ⟨_, _, RR_keep (G' := sg G 8 (up2 (G 8) 0 11 0)) (K' := sg K 8 (K 8)) h (fun g hg => ⟨sg_ne _ _ (by omega), sg_ne _ _ (by omega)⟩) ?_ ?_ ?_ ?_ ?_ ?_ ?_, ?_⟩
  rotate_right
  · rw [e1, Option.bind_some, e2, bd3_s]
    simp only [bnd_s]
    rw [lg_same, if_pos rfl]
  all_goals (intros; simp [sg_eq, up2_ap] <;> (try (unfold up2; rw [sg_ne _ _ (by decide)])))
