/-! the orders by their rank -/
def fct : Nat → Nat
  | 0 => 1
  | k + 1 => (k + 1) * fct k
def cun (u : Nat) : Nat → Nat
  | 0 => 0
  | c + 1 => cun u c + if u.testBit c then 0 else 1
def pkf (u q : Nat) : Nat → Nat
  | 0 => 0
  | c + 1 => if u.testBit c = false ∧ cun u c = q then c else pkf u q c
def ost1 (n k : Nat) (p : Nat × Nat) : Nat × Nat := (p.1 % fct (n - 1 - k), p.2 ||| 2 ^ pkf p.2 (p.1 / fct (n - 1 - k)) n)
def orl (n w : Nat) : Nat → Nat × Nat
  | 0 => (w, 0)
  | k + 1 => ost1 n k (orl n w k)
def oo (n w k : Nat) : Nat := pkf (orl n w k).2 ((orl n w k).1 / fct (n - 1 - k)) n
def fnd (f : Nat → Nat) (c : Nat) : Nat → Nat
  | 0 => 0
  | k + 1 => if f k = c then k else fnd f c k
def ost (n w c : Nat) : Nat := fnd (oo n w) c n
set_option maxRecDepth 100000 in
theorem oo_ok : ∀ n, n < 6 → ∀ w, w < fct n → ∀ k, k < n → (orl n w k).1 < 120 ∧ (orl n w k).2 < 32 ∧ (orl n w k).2.testBit (oo n w k) = false ∧ cun (orl n w k).2 (oo n w k) = (orl n w k).1 / fct (n - 1 - k) ∧ oo n w k < n ∧ ost n w (oo n w k) = k := by decide +kernel
set_option maxRecDepth 100000 in
theorem ost_ok : ∀ n, n < 6 → ∀ w, w < fct n → ∀ c, c < n → ost n w c < n ∧ oo n w (ost n w c) = c := by decide +kernel
set_option maxRecDepth 100000 in
theorem bit_ok : ∀ n, n < 6 → ∀ w, w < fct n → ∀ k, k < n → ∀ c, c < n → (orl n w k).2.testBit c = decide (ost n w c < k) := by decide +kernel
set_option maxRecDepth 100000 in
theorem bt_ok : ∀ u, u < 32 → ∀ c, c < 5 → ((((Int32.ofNat u >>> (Int32.ofNat c &&& 31)) &&& 1) = 1) ↔ u.testBit c = true) := by decide +kernel
set_option maxRecDepth 100000 in
theorem bo_ok : ∀ u, u < 32 → ∀ c, c < 5 → Int32.ofNat u ||| ((1 : Int32) <<< (Int32.ofNat c &&& 31)) = Int32.ofNat (u ||| 2 ^ c) := by decide +kernel
set_option maxRecDepth 100000 in
theorem dv_ok : ∀ l, l < 120 → ∀ k, k < 5 → Int32.ofNat l / Int32.ofNat (fct k) = Int32.ofNat (l / fct k) ∧ Int32.ofNat l - Int32.ofNat l / Int32.ofNat (fct k) * Int32.ofNat (fct k) = Int32.ofNat (l % fct k) := by decide +kernel
theorem fct_in : ∀ k, k < 6 → 1 ≤ fct k ∧ fct k ≤ 120 := by decide +kernel
theorem fct_m {q : Nat} (h : 1 ≤ q) : fct (q - 1) * q = fct q := by
  obtain ⟨p, rfl⟩ : ∃ p, q = p + 1 := ⟨q - 1, by omega⟩
  rw [show p + 1 - 1 = p by omega, Nat.mul_comm]; rfl
theorem cun_e (u c : Nat) : cun u (c + 1) = cun u c + if u.testBit c then 0 else 1 := rfl
theorem cun_le {u c d : Nat} (h : c ≤ d) : cun u c ≤ cun u d := by
  induction d with
  | zero => rw [show c = 0 by omega]; exact Nat.le_refl _
  | succ d ih =>
    by_cases e : c = d + 1
    · rw [e]; exact Nat.le_refl _
    · have := ih (by omega)
      rw [cun_e]; omega
theorem cun_le2 (u c : Nat) : cun u c ≤ c := by
  induction c with
  | zero => exact Nat.le_refl _
  | succ c ih => rw [cun_e]; split <;> omega
theorem cun_q {u c q : Nat} (hq : cun u c = q) : q ≤ c := by
  rw [← hq]; exact cun_le2 u c
/-- the reference's search of the next compressor -/
theorem pv_or67 {F : Nat} {k7 : Int32 → Int32 → Int32 → M2 → J2 → Option (M2 × J2)} {M : M2} {J : J2} {r0 s : M1} {a2 : Int32} {u k q cs : Nat} (hu : u < 32) (hcs : cs < 5) (hk : k < 5) (hb : u.testBit cs = false) (hq : cun u cs = q) : ∀ d c m, c + d = cs → d < m → fbX5_orders_67 F k7 m a2 (Int32.ofNat u) (Int32.ofNat k) (Int32.ofNat (q - cun u c)) (Int32.ofNat c) (RM M r0 s) J = k7 a2 (Int32.ofNat (u ||| 2 ^ cs)) (Int32.ofNat (k + 1)) (RM M r0 (sg s (56 + k) (Int32.ofNat cs))) J := by
  have hq5 := cun_q hq
  intro d
  induction d with
  | zero =>
    intro c m hc hm
    obtain ⟨m, rfl⟩ := fu hm
    obtain rfl : c = cs := by omega
    rw [show fbX5_orders_67 F k7 (m + 1) = fsX5_orders_67 F k7 (fbX5_orders_67 F k7 m) from rfl]
    unfold fsX5_orders_67
    rw [if_neg (fun e => by rw [(bt_ok u hu c hcs).mp e] at hb; cases hb), if_pos ((pn_le2 (b := 0) (by omega) (by decide)).mpr (by show q - cun u c ≤ 0; omega)), bo_ok u hu c hcs]
    simp (disch := omega) only [pn_add1, chk_b, pn_in, bnd_s, RM_u1, pn_s]
  | succ d ih =>
    intro c m hc hm
    obtain ⟨m, rfl⟩ := fu hm
    have ih := ih (c + 1) m (by omega) (by omega)
    have hle := cun_le (u := u) (show c + 1 ≤ cs by omega)
    rw [show fbX5_orders_67 F k7 (m + 1) = fsX5_orders_67 F k7 (fbX5_orders_67 F k7 m) from rfl]
    unfold fsX5_orders_67 fbX5_orders_82 fbX5_orders_99
    rw [cun_e] at ih hle
    by_cases hbc : u.testBit c = true
    · rw [if_pos ((bt_ok u hu c (by omega)).mpr hbc), if_neg (fun e => e ((bt_ok u hu c (by omega)).mpr hbc)), Int32.sub_zero, pn_s]
      rw [if_pos hbc, Nat.add_zero] at ih
      exact ih
    · rw [if_neg hbc] at ih hle
      rw [if_neg (fun e => hbc ((bt_ok u hu c (by omega)).mp e)), if_neg (fun e => by have := (pn_le2 (b := 0) (by omega) (by decide)).mp e; have : q - cun u c ≤ 0 := this; omega), if_pos (fun e => hbc ((bt_ok u hu c (by omega)).mp e)), pn_s]
      have e1 : Int32.ofNat (q - cun u c) - 1 = Int32.ofNat (q - (cun u c + 1)) := by
        rw [show q - (cun u c + 1) = q - cun u c - 1 by omega]
        exact pn_sub2 (b := 1) (by show 1 ≤ q - cun u c; omega)
      rw [e1]
      exact ih
theorem pv_or25 {F : Nat} {k7 : Int32 → Int32 → Int32 → M2 → J2 → Option (M2 × J2)} {M : M2} {J : J2} {a2 a3 : Int32} {n k : Nat} (hn : n ≤ 5) (hk : k < n) (h10 : M 1 10 = Int32.ofNat n) : ∀ d q m, q + d = n - k ∨ (q = 2 ∧ d = 0 ∧ n - k ≤ 2) → 2 ≤ q → d < m → fbX5_orders_25 F k7 m a2 a3 (Int32.ofNat k) (Int32.ofNat (fct (q - 1))) (Int32.ofNat q) M J = fbX5_orders_67 F k7 F (a2 - a2 / Int32.ofNat (fct (n - 1 - k)) * Int32.ofNat (fct (n - 1 - k))) a3 (Int32.ofNat k) (a2 / Int32.ofNat (fct (n - 1 - k))) (0 : Int32) M J := by
  intro d
  induction d with
  | zero =>
    intro q m hq h2 hm
    obtain ⟨m, rfl⟩ := fu hm
    rw [show fbX5_orders_25 F k7 (m + 1) = fsX5_orders_25 F k7 (fbX5_orders_25 F k7 m) from rfl]
    unfold fsX5_orders_25
    have e : fct (q - 1) = fct (n - 1 - k) := by
      by_cases h : n - k = 1
      · obtain rfl : q = 2 := by omega
        rw [show n - 1 - k = 0 by omega]; rfl
      · congr 1; omega
    have hf := fct_in (n - 1 - k) (by omega)
    have hz : ¬ Int32.ofNat (fct (n - 1 - k)) = 0 := fun e => by have := (pn_eq2 (b := 0) (by omega) (by decide)).mp e; have : fct (n - 1 - k) = 0 := this; omega
    rw [h10, pn_sub (by omega), if_pos ((pn_le (by omega) (by omega)).mpr (by omega)), e, chk_t hz, chk_t hz]
  | succ d ih =>
    intro q m hq h2 hm
    obtain ⟨m, rfl⟩ := fu hm
    rw [← ih (q + 1) m (by omega) (by omega) (by omega)]
    rw [show fbX5_orders_25 F k7 (m + 1) = fsX5_orders_25 F k7 (fbX5_orders_25 F k7 m) from rfl]
    unfold fsX5_orders_25
    rw [h10, pn_sub (by omega), if_neg (fun h => by have := (pn_le (by omega) (by omega)).mp h; omega), pn_mul, pn_s, fct_m (by omega), show q + 1 - 1 = q by omega]
/-- the order of rank w set, up to stage k -/
def sor (s : M1) (n w k : Nat) : M1 := fun i => if 56 ≤ i ∧ i < 56 + k then Int32.ofNat (oo n w (i - 56)) else s i
theorem sor_s {s : M1} {n w k : Nat} : sg (sor s n w k) (56 + k) (Int32.ofNat (oo n w k)) = sor s n w (k + 1) := by
  funext i
  rw [sg_ap]
  unfold sor
  by_cases e : i = 56 + k
  · subst e
    rw [if_pos rfl, if_pos (by omega), show 56 + k - 56 = k by omega]
  · rw [if_neg e]
    by_cases e2 : 56 ≤ i ∧ i < 56 + k
    · rw [if_pos e2, if_pos (by omega)]
    · rw [if_neg e2, if_neg (by omega)]
theorem sor_o {s : M1} {n w k i : Nat} (h : i < 56) : sor s n w k i = s i := if_neg (by omega)
theorem pv_orL {F : Nat} {M : M2} {J : J2} {r0 s : M1} {n w : Nat} (hF : 1000 ≤ F) (hn : n ≤ 5) (h10 : s 10 = Int32.ofNat n) (hw : w < fct n) : ∀ d k m, k + d = n → d < m → fbX5_orders_7 F m (Int32.ofNat (orl n w k).1) (Int32.ofNat (orl n w k).2) (Int32.ofNat k) (RM M r0 (sor s n w k)) J = some (RM M r0 (sor s n w n), J) := by
  intro d
  induction d with
  | zero =>
    intro k m hk hm
    obtain ⟨m, rfl⟩ := fu hm
    obtain rfl : k = n := by omega
    rw [show fbX5_orders_7 F (m + 1) = fsX5_orders_7 F (fbX5_orders_7 F m) from rfl]
    unfold fsX5_orders_7
    rw [RM_1, sor_o (by omega), h10, if_pos ((pn_le (by omega) (by omega)).mpr (by omega))]
  | succ d ih =>
    intro k m hk hm
    obtain ⟨m, rfl⟩ := fu hm
    rw [← ih (k + 1) m (by omega) (by omega)]
    rw [show fbX5_orders_7 F (m + 1) = fsX5_orders_7 F (fbX5_orders_7 F m) from rfl]
    unfold fsX5_orders_7
    rw [RM_1, sor_o (by omega), h10, if_neg (fun h => by have := (pn_le (by omega) (by omega)).mp h; omega)]
    obtain ⟨p1, p2, p3, p4, p5, p6⟩ := oo_ok n (by omega) w hw k (by omega)
    obtain ⟨q1, q2⟩ := dv_ok (orl n w k).1 p1 (n - 1 - k) (by omega)
    have e := pv_or25 (F := F) (k7 := fbX5_orders_7 F m) (M := RM M r0 (sor s n w k)) (J := J) (a2 := Int32.ofNat (orl n w k).1) (a3 := Int32.ofNat (orl n w k).2) hn (show k < n by omega) (by rw [RM_1, sor_o (by omega), h10]) (n - k - 2) 2 F (by omega) (by omega) (by omega)
    refine Eq.trans e ?_
    rw [q2, q1]
    have e2 := pv_or67 (F := F) (k7 := fbX5_orders_7 F m) (M := M) (J := J) (r0 := r0) (s := sor s n w k) (a2 := Int32.ofNat ((orl n w k).1 % fct (n - 1 - k))) (k := k) p2 (show oo n w k < 5 by omega) (by omega) p3 p4 (oo n w k) 0 F (by omega) (by omega)
    refine Eq.trans e2 ?_
    rw [sor_s]
    rfl
theorem pv_orders {F : Nat} {M : M2} {J : J2} {r0 s : M1} {n w : Nat} (hF : 1000 ≤ F) (hn : n ≤ 5) (h10 : s 10 = Int32.ofNat n) (hw : w < fct n) : fX5_orders F (Int32.ofNat w) (RM M r0 s) J = some (RM M r0 (sor s n w n), J) := by
  have e := pv_orL (F := F) (M := M) (J := J) (r0 := r0) (s := s) hF hn h10 hw n 0 F (by omega) (by omega)
  have e0 : sor s n w 0 = s := by funext i; unfold sor; rw [if_neg (by omega)]
  rw [e0] at e
  exact e
theorem sor_prm {s : M1} {n w : Nat} (hn : n ≤ 5) (hw : w < fct n) : Prm n (sor s n w n) ∧ ∀ c, c < n → stg (sor s n w n) c = ost n w c := by
  have h := ost_ok n (by omega) w hw
  refine Prm.of hn (ost n w) (fun c hc => (h c hc).1) (fun c d hc hd e => ?_) (fun c hc => ?_)
  · rw [← (h c hc).2, ← (h d hd).2, e]
  · have h1 := h c hc
    unfold sor
    rw [if_pos (by omega), show 56 + ost n w c - 56 = ost n w c by omega, h1.2]
theorem Inv_sor {U A T : Int} {n w : Nat} {s : M1} {b : J1} (h : Inv U A T n s b) (hw : w < fct n) : Inv U A T n (sor s n w n) b := by
  have hn := h.n5
  have e : ∀ i, i < 56 → sor s n w n i = s i := fun i hi => sor_o hi
  refine ⟨hn, ?_, ?_, ?_, ?_, ?_, ?_, ?_, ?_, ?_, fun c hc => (h.cmp c hc).congr (fun f hf _ _ _ => e (21 + 7 * c + f) (by omega)), (sor_prm hn hw).1, ?_⟩
  · rw [e 10 (by omega)]; exact h.cnt
  · rw [e 0 (by omega)]; exact h.vol
  · rw [e 1 (by omega)]; exact h.air
  · rw [e 4 (by omega)]; exact h.rel
  · rw [e 6 (by omega)]; exact h.rst
  · rw [e 7 (by omega)]; exact h.lek
  · rw [e 8 (by omega)]; exact h.dem
  · rw [e 11 (by omega)]; exact h.tim
  · rw [e 11 (by omega)]; exact h.unm
  · rw [e 14 (by omega)]; exact h.res
/-- the class: the number of orders -/
theorem pc_ord {F : Nat} {t : Nat} (ht : t ≤ 5) : ∀ d k m, k + d = t + 1 ∨ (k = 2 ∧ d = 0 ∧ t ≤ 1) → 2 ≤ k → d < m → fbX4_ordersOf_4 F m (Int32.ofNat t) (Int32.ofNat (fct (k - 1))) (Int32.ofNat k) = some (Int32.ofNat (fct t)) := by
  intro d
  induction d with
  | zero =>
    intro k m hk h2 hm
    obtain ⟨m, rfl⟩ := fu hm
    rw [show fbX4_ordersOf_4 F (m + 1) = fsX4_ordersOf_4 F (fbX4_ordersOf_4 F m) from rfl]
    unfold fsX4_ordersOf_4
    have e : fct (k - 1) = fct t := by
      by_cases h : t = 0
      · subst h
        obtain rfl : k = 2 := by omega
        rfl
      · congr 1; omega
    rw [if_pos ((pn_lt (by omega) (by omega)).mpr (by omega)), e]
  | succ d ih =>
    intro k m hk h2 hm
    obtain ⟨m, rfl⟩ := fu hm
    rw [← ih (k + 1) m (by omega) (by omega) (by omega)]
    rw [show fbX4_ordersOf_4 F (m + 1) = fsX4_ordersOf_4 F (fbX4_ordersOf_4 F m) from rfl]
    unfold fsX4_ordersOf_4
    rw [if_neg (fun h => by have := (pn_lt (by omega) (by omega)).mp h; omega), if_neg (fun h => by have h2 := (pn_lt1 (a := 5) (by decide) (by omega)).mp h; have : 5 < k := h2; omega), pn_mul, pn_s, fct_m (by omega), show k + 1 - 1 = k by omega]
theorem pc_orders {F t : Nat} (hF : 1000 ≤ F) (ht : t ≤ 5) : fX4_ordersOf F (Int32.ofNat t) = some (Int32.ofNat (fct t)) :=
  pc_ord (F := F) ht (t - 1) 2 F (by omega) (by omega) (by omega)
/-- its stages taken away, then set up to k -/
def om0 (M : M2) (n i : Nat) : M2 := fun r j => if j = 2 ∧ 5 ≤ r ∧ r < 5 + i ∧ r < 5 + n then -1 else M r j
def omk (M : M2) (n w k : Nat) : M2 := fun r j => if j = 2 ∧ 5 ≤ r ∧ r < 5 + n then (if ost n w (r - 5) < k then Int32.ofNat (ost n w (r - 5)) else -1) else M r j
theorem omk_o {M : M2} {n w k r j : Nat} (h : j ≠ 2 ∨ r < 5 ∨ 5 + n ≤ r) : omk M n w k r j = M r j := if_neg (by omega)
theorem omk_i {M : M2} {n w k c : Nat} (h : c < n) : omk M n w k (5 + c) 2 = if ost n w c < k then Int32.ofNat (ost n w c) else -1 := by
  unfold omk
  rw [if_pos (by omega), show 5 + c - 5 = c by omega]
theorem omk_s {M : M2} {n w k : Nat} (hn : n ≤ 5) (hw : w < fct n) (hk : k < n) : up2 (omk M n w k) (5 + oo n w k) 2 (Int32.ofNat k) = omk M n w (k + 1) := by
  obtain ⟨-, -, -, -, p5, p6⟩ := oo_ok n (by omega) w hw k hk
  funext r j
  rw [up2_ap]
  by_cases hr : r = 5 + oo n w k
  · subst hr
    rw [if_pos rfl]
    by_cases hj : j = 2
    · subst hj
      rw [if_pos rfl, omk_i p5, p6, if_pos (by omega)]
    · rw [if_neg hj, omk_o (Or.inl hj), omk_o (Or.inl hj)]
  · rw [if_neg hr]
    by_cases h2 : j = 2 ∧ 5 ≤ r ∧ r < 5 + n
    · obtain ⟨rfl, h3, h4⟩ := h2
      obtain ⟨c, rfl⟩ : ∃ c, r = 5 + c := ⟨r - 5, by omega⟩
      rw [omk_i (by omega), omk_i (by omega)]
      have h5 : ost n w c ≠ k := fun e => by
        have h6 := (ost_ok n (by omega) w hw c (by omega)).2
        rw [e] at h6
        omega
      by_cases h7 : ost n w c < k
      · rw [if_pos h7, if_pos (by omega)]
      · rw [if_neg h7, if_neg (by omega)]
    · rw [omk_o (by omega), omk_o (by omega)]
theorem of_m1 {a : Nat} (h : a < 2147483648) : ¬ Int32.ofNat a = -1 := fun e => by
  have h2 := pn_ti h
  rw [e] at h2
  have : (-1 : Int32).toInt = -1 := by decide
  omega
theorem pc_pla {F : Nat} {M : M2} {J : J2} {n w k q : Nat} (hn : n ≤ 5) (h10 : M 0 5 = Int32.ofNat n) (hw : w < fct n) (hk : k < n) (hq : (orl n w k).1 / fct (n - 1 - k) = q) : ∀ d c m, c + d = oo n w k → d < m → fbX3_placeAfter_5 F m (Int32.ofNat k) (Int32.ofNat (q - cun (orl n w k).2 c)) (Int32.ofNat c) (omk M n w k) J = some (omk M n w (k + 1), J) := by
  obtain ⟨p1, p2, p3, p4, p5, p6⟩ := oo_ok n (by omega) w hw k hk
  have hb := bit_ok n (by omega) w hw k hk
  rw [hq] at p4
  have hq5 := cun_q p4
  have h10' : omk M n w k 0 5 = Int32.ofNat n := by rw [omk_o (by omega)]; exact h10
  intro d
  induction d with
  | zero =>
    intro c m hc hm
    obtain ⟨m, rfl⟩ := fu hm
    obtain rfl : c = oo n w k := by omega
    rw [show fbX3_placeAfter_5 F (m + 1) = fsX3_placeAfter_5 F (fbX3_placeAfter_5 F m) from rfl]
    unfold fsX3_placeAfter_5
    rw [if_neg (pc_lt5 (by omega)), pc_num hn h10' (by omega)]
    simp only [Option.bind_some, if_pos p5, oc_ss]
    rw [chk_t (pc_isC (by omega)), omk_i p5, p6, if_neg (show ¬ k < k by omega), if_neg (fun e => e rfl), p4, if_neg (fun e => e (by rw [Nat.sub_self]; rfl)), bnd_s, omk_s hn hw hk]
  | succ d ih =>
    intro c m hc hm
    obtain ⟨m, rfl⟩ := fu hm
    have ih := ih (c + 1) m (by omega) (by omega)
    have hle := cun_le (u := (orl n w k).2) (show c + 1 ≤ oo n w k by omega)
    rw [show fbX3_placeAfter_5 F (m + 1) = fsX3_placeAfter_5 F (fbX3_placeAfter_5 F m) from rfl]
    unfold fsX3_placeAfter_5 fbX3_placeAfter_47
    rw [if_neg (pc_lt5 (by omega)), pc_num hn h10' (by omega)]
    simp only [Option.bind_some, if_pos (show c < n by omega), oc_ss, pn_s]
    rw [chk_t (pc_isC (by omega)), omk_i (by omega)]
    rw [cun_e] at ih hle
    rw [hb c (by omega)] at ih hle
    by_cases hbc : ost n w c < k
    · have h5 := (ost_ok n (by omega) w hw c (by omega)).1
      rw [if_pos hbc, if_pos (of_m1 (by omega))]
      rw [decide_eq_true hbc, if_pos rfl, Nat.add_zero] at ih
      exact ih
    · rw [decide_eq_false hbc, if_neg Bool.false_ne_true] at ih hle
      rw [if_neg hbc, if_neg (fun e => e rfl), if_pos (fun e => by have := (pn_eq2 (b := 0) (by omega) (by decide)).mp e; have : q - cun (orl n w k).2 c = 0 := this; omega)]
      have e1 : Int32.ofNat (q - cun (orl n w k).2 c) + -1 = Int32.ofNat (q - (cun (orl n w k).2 c + 1)) := by
        rw [pn_m1 (by omega)]
        congr 1
      rw [e1]
      exact ih
theorem pc_ob32 {F : Nat} {M : M2} {J : J2} {n w : Nat} (hF : 1000 ≤ F) (hn : n ≤ 5) (h10 : M 0 5 = Int32.ofNat n) (hw : w < fct n) : ∀ d k m, k + d = n → d < m → fbX3_orderByRank_32 F m (Int32.ofNat (orl n w k).1) (Int32.ofNat k) (omk M n w k) J = some (omk M n w n, J) := by
  intro d
  induction d with
  | zero =>
    intro k m hk hm
    obtain ⟨m, rfl⟩ := fu hm
    obtain rfl : k = n := by omega
    rw [show fbX3_orderByRank_32 F (m + 1) = fsX3_orderByRank_32 F (fbX3_orderByRank_32 F m) from rfl]
    unfold fsX3_orderByRank_32
    rw [omk_o (by omega), h10, if_pos ((pn_le (by omega) (by omega)).mpr (by omega))]
  | succ d ih =>
    intro k m hk hm
    obtain ⟨m, rfl⟩ := fu hm
    rw [← ih (k + 1) m (by omega) (by omega)]
    rw [show fbX3_orderByRank_32 F (m + 1) = fsX3_orderByRank_32 F (fbX3_orderByRank_32 F m) from rfl]
    unfold fsX3_orderByRank_32 fbX3_orderByRank_72
    obtain ⟨p1, p2, p3, p4, p5, p6⟩ := oo_ok n (by omega) w hw k (by omega)
    obtain ⟨q1, q2⟩ := dv_ok (orl n w k).1 p1 (n - 1 - k) (by omega)
    have hf := fct_in (n - 1 - k) (by omega)
    have hz : ¬ Int32.ofNat (fct (n - 1 - k)) = 0 := fun e => by have := (pn_eq2 (b := 0) (by omega) (by decide)).mp e; have : fct (n - 1 - k) = 0 := this; omega
    have e1 : Int32.ofNat n - 1 = Int32.ofNat (n - 1) := pn_sub2 (b := 1) (by show 1 ≤ n; omega)
    have e2 := pc_pla (F := F) (M := M) (J := J) (n := n) (w := w) (k := k) hn h10 hw (by omega) rfl (oo n w k) 0 F (by omega) (by omega)
    rw [omk_o (by omega), h10, if_neg (fun h => by have := (pn_le (by omega) (by omega)).mp h; omega), e1, pn_sub (by omega), pc_orders hF (by omega), Option.bind_some, if_neg (fun e => by have := (pn_le2 (b := 0) (by omega) (by decide)).mp e; have : fct (n - 1 - k) ≤ 0 := this; omega), chk_t hz, q1, ← q1, q2, q1]
    have e3 : fX3_placeAfter F (Int32.ofNat ((orl n w k).1 / fct (n - 1 - k))) (Int32.ofNat k) (omk M n w k) J = some (omk M n w (k + 1), J) := e2
    rw [e3, bd2_s, chk_t hz, pn_s]
    rfl
theorem pc_ob2 {F : Nat} {M : M2} {J : J2} {n : Nat} {x : Int32} (hn : n ≤ 5) (h10 : M 0 5 = Int32.ofNat n) : ∀ d k m, k + d = 5 → d < m → fbX3_orderByRank_2 F m x (Int32.ofNat k) (om0 M n k) J = fbX3_orderByRank_32 F F x 0 (om0 M n 5) J := by
  intro d
  induction d with
  | zero =>
    intro k m hk hm
    obtain ⟨m, rfl⟩ := fu hm
    obtain rfl : k = 5 := by omega
    rw [show fbX3_orderByRank_2 F (m + 1) = fsX3_orderByRank_2 F (fbX3_orderByRank_2 F m) from rfl]
    unfold fsX3_orderByRank_2
    rw [if_pos (by decide)]
  | succ d ih =>
    intro k m hk hm
    obtain ⟨m, rfl⟩ := fu hm
    rw [← ih (k + 1) m (by omega) (by omega)]
    rw [show fbX3_orderByRank_2 F (m + 1) = fsX3_orderByRank_2 F (fbX3_orderByRank_2 F m) from rfl]
    unfold fsX3_orderByRank_2 fbX3_orderByRank_22
    have h0 : om0 M n k 0 5 = Int32.ofNat n := by unfold om0; rw [if_neg (by omega)]; exact h10
    rw [if_neg (pc_lt5 (by omega)), pc_num hn h0 (by omega)]
    by_cases hkn : k < n
    · simp only [Option.bind_some, if_pos hkn, oc_ss]
      rw [chk_t (pc_isC (by omega)), bnd_s, pn_s]
      congr 1
      funext r j
      rw [up2_ap]
      unfold om0
      by_cases hr : r = 5 + k
      · subst hr
        rw [if_pos rfl]
        by_cases hj : j = 2
        · subst hj; rw [if_pos rfl, if_pos (by omega)]
        · rw [if_neg hj, if_neg (by omega), if_neg (by omega)]
      · rw [if_neg hr]
        by_cases h2 : j = 2 ∧ 5 ≤ r ∧ r < 5 + k ∧ r < 5 + n
        · rw [if_pos h2, if_pos (by omega)]
        · rw [if_neg h2, if_neg (by omega)]
    · simp only [Option.bind_some, if_neg hkn, oc_ns, pn_s]
      congr 1
      funext r j
      unfold om0
      by_cases h2 : j = 2 ∧ 5 ≤ r ∧ r < 5 + k ∧ r < 5 + n
      · rw [if_pos h2, if_pos (by omega)]
      · rw [if_neg h2, if_neg (by omega)]
theorem pc_rank2 {F : Nat} {M : M2} {J : J2} {n w : Nat} (hF : 1000 ≤ F) (hn : n ≤ 5) (h10 : M 0 5 = Int32.ofNat n) (hw : w < fct n) : fX3_orderByRank F (Int32.ofNat w) M J = some (omk M n w n, J) := by
  have e := pc_ob2 (F := F) (M := M) (J := J) (x := Int32.ofNat w) hn h10 5 0 F (by omega) (by omega)
  have e0 : om0 M n 0 = M := by funext r j; unfold om0; rw [if_neg (by omega)]
  have e5 : om0 M n 5 = omk M n w 0 := by
    funext r j
    unfold om0 omk
    by_cases h2 : j = 2 ∧ 5 ≤ r ∧ r < 5 + n
    · rw [if_pos (by omega), if_pos h2, if_neg (by omega)]
    · rw [if_neg (by omega), if_neg h2]
  rw [e0, e5] at e
  refine Eq.trans e ?_
  exact pc_ob32 (F := F) (M := M) (J := J) (n := n) (w := w) hF hn h10 hw n 0 F (by omega) (by omega)
theorem Rep_sor {n w : Nat} {M : M2} {J : J2} {s : M1} {b : J1} (h : Rep n M J s b) (hn : n ≤ 5) (hw : w < fct n) : Rep n (omk M n w n) J (sor s n w n) b := by
  have hs := sor_prm (s := s) hn hw
  have e : ∀ i, i < 56 → sor s n w n i = s i := fun i hi => sor_o hi
  refine ⟨?_, fun k hk => ?_, h.am, fun c hc => ?_, fun r hr h14 k hk => ?_⟩
  · have h2 := h.o
    unfold RO at *
    rw [e 0 (by omega), e 1 (by omega), e 11 (by omega), e 12 (by omega), e 13 (by omega), e 10 (by omega), e 14 (by omega), omk_o (by omega), omk_o (by omega), omk_o (by omega), omk_o (by omega), omk_o (by omega), omk_o (by omega), omk_o (by omega)]
    exact h2
  · rw [omk_o (by omega), e _ (by omega)]; exact h.st k hk
  · obtain ⟨e0, e1, e2, e3, e4, e5, e6, e7⟩ := h.c c hc
    unfold RC
    rw [hs.2 c hc, omk_i hc, if_pos (ost_ok n (by omega) w hw c hc).1, omk_o (by omega), omk_o (by omega), omk_o (by omega), omk_o (by omega), omk_o (by omega), omk_o (by omega), omk_o (by omega)]
    rw [e (21 + 7 * c) (by omega), e (21 + 7 * c + 1) (by omega), e (21 + 7 * c + 2) (by omega), e (21 + 7 * c + 3) (by omega), e (21 + 7 * c + 4) (by omega), e (21 + 7 * c + 5) (by omega), e (21 + 7 * c + 6) (by omega)]
    exact ⟨e0, e1, rfl, e3, e4, e5, e6, e7⟩
  · rw [e 14 (by omega)] at h14
    rw [omk_o (by omega), e _ (by omega)]; exact h.r r hr h14 k hk
