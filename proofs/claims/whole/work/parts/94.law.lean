/-! the law: every case goes on, both sides alike -/
theorem law_c0 {F : Nat} {k23 : Int32 → M3 → J3 → Option Int32} {xs : Nat → Int32} {L : Nat} {a4 : Int32} {G : M3} {K : J3} (hF : 1000 ≤ F) (h : RR G K) (h1 : inb (a4 + 1) L) (h2 : inb (a4 + 2) L) : CGo (fbL_law_156 F k23 xs L a4 G K) (k23 (a4 + 3)) := by
  unfold fbL_law_156 fbL_law_209 fbL_law_1418
  simp only [chk_t h1]
  exact Agr.go (nx := k23 (a4 + 3)) (c_setVolume hF h)
theorem law_c1 {F : Nat} {k23 : Int32 → M3 → J3 → Option Int32} {xs : Nat → Int32} {L : Nat} {a4 : Int32} {G : M3} {K : J3} (hF : 1000 ≤ F) (h : RR G K) (h1 : inb (a4 + 1) L) (h2 : inb (a4 + 2) L) : CGo (fbL_law_212 F k23 xs L a4 G K) (k23 (a4 + 3)) := by
  unfold fbL_law_212 fbL_law_277 fbL_law_1418
  simp only [chk_t h1, chk_t h2]
  exact Agr.go (nx := k23 (a4 + 3)) (c_set hF h)
theorem law_c2 {F : Nat} {k23 : Int32 → M3 → J3 → Option Int32} {xs : Nat → Int32} {L : Nat} {a4 : Int32} {G : M3} {K : J3} (hF : 1000 ≤ F) (h : RR G K) (h1 : inb (a4 + 1) L) (h2 : inb (a4 + 2) L) : CGo (fbL_law_280 F k23 xs L a4 G K) (k23 (a4 + 3)) := by
  unfold fbL_law_280 fbL_law_333 fbL_law_1418
  simp only [chk_t h1]
  exact Agr.go (nx := k23 (a4 + 3)) (c_add hF h)
theorem law_c3 {F : Nat} {k23 : Int32 → M3 → J3 → Option Int32} {xs : Nat → Int32} {L : Nat} {a4 : Int32} {G : M3} {K : J3} (hF : 1000 ≤ F) (h : RR G K) (h1 : inb (a4 + 1) L) (h2 : inb (a4 + 2) L) : CGo (fbL_law_336 F k23 xs L a4 G K) (k23 (a4 + 3)) := by
  unfold fbL_law_336 fbL_law_389 fbL_law_1418
  simp only [chk_t h1]
  exact Agr.go (nx := k23 (a4 + 3)) (c_trip hF h)
theorem law_c4 {F : Nat} {k23 : Int32 → M3 → J3 → Option Int32} {xs : Nat → Int32} {L : Nat} {a4 : Int32} {G : M3} {K : J3} (hF : 1000 ≤ F) (h : RR G K) (h1 : inb (a4 + 1) L) (h2 : inb (a4 + 2) L) : CGo (fbL_law_392 F k23 xs L a4 G K) (k23 (a4 + 3)) := by
  unfold fbL_law_392 fbL_law_445 fbL_law_1418
  simp only [chk_t h1]
  exact Agr.go (nx := k23 (a4 + 3)) (c_clear hF h)
theorem law_c5 {F : Nat} {k23 : Int32 → M3 → J3 → Option Int32} {xs : Nat → Int32} {L : Nat} {a4 : Int32} {G : M3} {K : J3} (hF : 1000 ≤ F) (h : RR G K) (h1 : inb (a4 + 1) L) (h2 : inb (a4 + 2) L) : CGo (fbL_law_448 F k23 xs L a4 G K) (k23 (a4 + 3)) := by
  unfold fbL_law_448 fbL_law_1418
  exact Agd.go (nx := k23 (a4 + 3)) (c_rotate hF h)
theorem law_c6 {F : Nat} {k23 : Int32 → M3 → J3 → Option Int32} {xs : Nat → Int32} {L : Nat} {a4 : Int32} {G : M3} {K : J3} (hF : 1000 ≤ F) (h : RR G K) (h1 : inb (a4 + 1) L) (h2 : inb (a4 + 2) L) : CGo (fbL_law_461 F k23 xs L a4 G K) (k23 (a4 + 3)) := by
  unfold fbL_law_461 fbL_law_514 fbL_law_1418
  simp only [chk_t h1]
  exact Agr.go (nx := k23 (a4 + 3)) (c_pass hF h)
theorem law_c7 {F : Nat} {k23 : Int32 → M3 → J3 → Option Int32} {xs : Nat → Int32} {L : Nat} {a4 : Int32} {G : M3} {K : J3} (hF : 1000 ≤ F) (h : RR G K) (h1 : inb (a4 + 1) L) (h2 : inb (a4 + 2) L) : CGo (fbL_law_517 F k23 xs L a4 G K) (k23 (a4 + 3)) := by
  unfold fbL_law_517 fbL_law_570 fbL_law_1418
  simp only [chk_t h1]
  exact Agr.go (nx := k23 (a4 + 3)) (c_leak hF h)
theorem law_c8 {F : Nat} {k23 : Int32 → M3 → J3 → Option Int32} {xs : Nat → Int32} {L : Nat} {a4 : Int32} {G : M3} {K : J3} (hF : 1000 ≤ F) (h : RR G K) (h1 : inb (a4 + 1) L) (h2 : inb (a4 + 2) L) : CGo (fbL_law_573 F k23 xs L a4 G K) (k23 (a4 + 3)) := by
  unfold fbL_law_573 fbL_law_638 fbL_law_1418
  simp only [chk_t h1, chk_t h2]
  exact Agr.go (nx := k23 (a4 + 3)) (c_comp hF h)
theorem law_c9 {F : Nat} {k23 : Int32 → M3 → J3 → Option Int32} {xs : Nat → Int32} {L : Nat} {a4 : Int32} {G : M3} {K : J3} (hF : 1000 ≤ F) (h : RR G K) (h1 : inb (a4 + 1) L) (h2 : inb (a4 + 2) L) : CGo (fbL_law_641 F k23 xs L a4 G K) (k23 (a4 + 3)) := by
  unfold fbL_law_641 fbL_law_694 fbL_law_1418
  simp only [chk_t h1]
  exact Agr.go (nx := k23 (a4 + 3)) (c_ats hF h)
theorem law_c10 {F : Nat} {k23 : Int32 → M3 → J3 → Option Int32} {xs : Nat → Int32} {L : Nat} {a4 : Int32} {G : M3} {K : J3} (hF : 1000 ≤ F) (h : RR G K) (h1 : inb (a4 + 1) L) (h2 : inb (a4 + 2) L) : CGo (fbL_law_697 F k23 xs L a4 G K) (k23 (a4 + 3)) := by
  unfold fbL_law_697 fbL_law_750 fbL_law_1418
  simp only [chk_t h1]
  exact Agr.go (nx := k23 (a4 + 3)) (c_value hF h)
theorem law_c11 {F : Nat} {k23 : Int32 → M3 → J3 → Option Int32} {xs : Nat → Int32} {L : Nat} {a4 : Int32} {G : M3} {K : J3} (hF : 1000 ≤ F) (h : RR G K) (h1 : inb (a4 + 1) L) (h2 : inb (a4 + 2) L) : CGo (fbL_law_753 F k23 xs L a4 G K) (k23 (a4 + 3)) := by
  unfold fbL_law_753 fbL_law_806 fbL_law_1418
  simp only [chk_t h1]
  exact Agr.go (nx := k23 (a4 + 3)) (c_setting h)
theorem law_c12 {F : Nat} {k23 : Int32 → M3 → J3 → Option Int32} {xs : Nat → Int32} {L : Nat} {a4 : Int32} {G : M3} {K : J3} (hF : 1000 ≤ F) (h : RR G K) (h1 : inb (a4 + 1) L) (h2 : inb (a4 + 2) L) : CGo (fbL_law_809 F k23 xs L a4 G K) (k23 (a4 + 3)) := by
  unfold fbL_law_809 fbL_law_861 fbL_law_1418
  simp only [chk_t h1]
  exact c_booked (nx := k23 (a4 + 3)) h
theorem law_c13 {F : Nat} {k23 : Int32 → M3 → J3 → Option Int32} {xs : Nat → Int32} {L : Nat} {a4 : Int32} {G : M3} {K : J3} (hF : 1000 ≤ F) (h : RR G K) (h1 : inb (a4 + 1) L) (h2 : inb (a4 + 2) L) : CGo (fbL_law_864 F k23 xs L a4 G K) (k23 (a4 + 3)) := by
  unfold fbL_law_864 fbL_law_917 fbL_law_1418
  simp only [chk_t h1]
  exact Agr.go (nx := k23 (a4 + 3)) (c_result h)
theorem law_c14 {F : Nat} {k23 : Int32 → M3 → J3 → Option Int32} {xs : Nat → Int32} {L : Nat} {a4 : Int32} {G : M3} {K : J3} (hF : 1000 ≤ F) (h : RR G K) (h1 : inb (a4 + 1) L) (h2 : inb (a4 + 2) L) : CGo (fbL_law_920 F k23 xs L a4 G K) (k23 (a4 + 3)) := by
  unfold fbL_law_920 fbL_law_973 fbL_law_1418
  simp only [chk_t h1]
  exact Agr.go (nx := k23 (a4 + 3)) (c_next hF h)
theorem law_c15 {F : Nat} {k23 : Int32 → M3 → J3 → Option Int32} {xs : Nat → Int32} {L : Nat} {a4 : Int32} {G : M3} {K : J3} (hF : 1000 ≤ F) (h : RR G K) (h1 : inb (a4 + 1) L) (h2 : inb (a4 + 2) L) : CGo (fbL_law_976 F k23 xs L a4 G K) (k23 (a4 + 3)) := by
  unfold fbL_law_976 fbL_law_1029 fbL_law_1418
  simp only [chk_t h1]
  exact Agr.go (nx := k23 (a4 + 3)) (c_press hF h)
theorem law_c16 {F : Nat} {k23 : Int32 → M3 → J3 → Option Int32} {xs : Nat → Int32} {L : Nat} {a4 : Int32} {G : M3} {K : J3} (hF : 1000 ≤ F) (h : RR G K) (h1 : inb (a4 + 1) L) (h2 : inb (a4 + 2) L) : CGo (fbL_law_1032 F k23 xs L a4 G K) (k23 (a4 + 3)) := by
  unfold fbL_law_1032 fbL_law_1418
  exact Agd.go (nx := k23 (a4 + 3)) (c_mload hF h)
theorem law_c17 {F : Nat} {k23 : Int32 → M3 → J3 → Option Int32} {xs : Nat → Int32} {L : Nat} {a4 : Int32} {G : M3} {K : J3} (hF : 1000 ≤ F) (h : RR G K) (h1 : inb (a4 + 1) L) (h2 : inb (a4 + 2) L) : CGo (fbL_law_1045 F k23 xs L a4 G K) (k23 (a4 + 3)) := by
  unfold fbL_law_1045 fbL_law_1098 fbL_law_1418
  simp only [chk_t h1]
  exact Agr.go (nx := k23 (a4 + 3)) (c_can hF h)
theorem law_c18 {F : Nat} {k23 : Int32 → M3 → J3 → Option Int32} {xs : Nat → Int32} {L : Nat} {a4 : Int32} {G : M3} {K : J3} (hF : 1000 ≤ F) (h : RR G K) (h1 : inb (a4 + 1) L) (h2 : inb (a4 + 2) L) : CGo (fbL_law_1101 F k23 xs L a4 G K) (k23 (a4 + 3)) := by
  unfold fbL_law_1101 fbL_law_1166 fbL_law_1418
  simp only [chk_t h1, chk_t h2]
  exact Agr.go (nx := k23 (a4 + 3)) (c_energy hF h)
theorem law_c19 {F : Nat} {k23 : Int32 → M3 → J3 → Option Int32} {xs : Nat → Int32} {L : Nat} {a4 : Int32} {G : M3} {K : J3} (hF : 1000 ≤ F) (h : RR G K) (h1 : inb (a4 + 1) L) (h2 : inb (a4 + 2) L) : CGo (fbL_law_1169 F k23 xs L a4 G K) (k23 (a4 + 3)) := by
  unfold fbL_law_1169 fbL_law_1234 fbL_law_1418
  simp only [chk_t h1, chk_t h2]
  exact Agr.go (nx := k23 (a4 + 3)) (c_best hF h)
theorem law_c20 {F : Nat} {k23 : Int32 → M3 → J3 → Option Int32} {xs : Nat → Int32} {L : Nat} {a4 : Int32} {G : M3} {K : J3} (hF : 1000 ≤ F) (h : RR G K) (h1 : inb (a4 + 1) L) (h2 : inb (a4 + 2) L) : CGo (fbL_law_1237 F k23 xs L a4 G K) (k23 (a4 + 3)) := by
  unfold fbL_law_1237 fbL_law_1275 fbL_law_1418
  exact c_share (nx := k23 (a4 + 3)) hF h
theorem law_c21 {F : Nat} {k23 : Int32 → M3 → J3 → Option Int32} {xs : Nat → Int32} {L : Nat} {a4 : Int32} {G : M3} {K : J3} (hF : 1000 ≤ F) (h : RR G K) (h1 : inb (a4 + 1) L) (h2 : inb (a4 + 2) L) : CGo (fbL_law_1278 F k23 xs L a4 G K) (k23 (a4 + 3)) := by
  unfold fbL_law_1278 fbL_law_1331 fbL_law_1418
  simp only [chk_t h1]
  exact Agr.go (nx := k23 (a4 + 3)) (c_append h)
theorem law_c22 {F : Nat} {k23 : Int32 → M3 → J3 → Option Int32} {xs : Nat → Int32} {L : Nat} {a4 : Int32} {G : M3} {K : J3} (hF : 1000 ≤ F) (h : RR G K) (h1 : inb (a4 + 1) L) (h2 : inb (a4 + 2) L) : CGo (fbL_law_1334 F k23 xs L a4 G K) (k23 (a4 + 3)) := by
  unfold fbL_law_1334 fbL_law_1418
  exact Agd.go (nx := k23 (a4 + 3)) (c_clt h)
theorem law_c23 {F : Nat} {k23 : Int32 → M3 → J3 → Option Int32} {xs : Nat → Int32} {L : Nat} {a4 : Int32} {G : M3} {K : J3} (hF : 1000 ≤ F) (h : RR G K) (h1 : inb (a4 + 1) L) (h2 : inb (a4 + 2) L) : CGo (fbL_law_1347 F k23 xs L a4 G K) (k23 (a4 + 3)) := by
  unfold fbL_law_1347 fbL_law_1418
  exact Agd.go (nx := k23 (a4 + 3)) (c_carry hF h)
theorem law_c24 {F : Nat} {k23 : Int32 → M3 → J3 → Option Int32} {xs : Nat → Int32} {L : Nat} {a4 : Int32} {G : M3} {K : J3} (hF : 1000 ≤ F) (h : RR G K) (h1 : inb (a4 + 1) L) (h2 : inb (a4 + 2) L) : CGo (fbL_law_1360 F k23 xs L a4 G K) (k23 (a4 + 3)) := by
  unfold fbL_law_1360 fbL_law_1401 fbL_law_1418
  exact Agr.go (nx := k23 (a4 + 3)) (c_undo hF h)
theorem law_c25 {F : Nat} {k23 : Int32 → M3 → J3 → Option Int32} {xs : Nat → Int32} {L : Nat} {a4 : Int32} {G : M3} {K : J3} (hF : 1000 ≤ F) (h : RR G K) (h1 : inb (a4 + 1) L) (h2 : inb (a4 + 2) L) : CGo (fbL_law_1404 F k23 xs L a4 G K) (k23 (a4 + 3)) := by
  unfold fbL_law_1404 fbL_law_1418
  exact c_digest (nx := k23 (a4 + 3)) hF h
theorem law_step {F : Nat} {k23 : Int32 → M3 → J3 → Option Int32} {xs : Nat → Int32} {L : Nat} {a4 : Int32} {G : M3} {K : J3} (hF : 1000 ≤ F) (h : RR G K) (h0 : inb a4 L) (h1 : inb (a4 + 1) L) (h2 : inb (a4 + 2) L) (hc : ¬ Int32.ofNat L - 3 < a4) : CGo (fsL_law_23 F k23 xs L a4 G K) (k23 (a4 + 3)) := by
  unfold fsL_law_23
  rw [if_neg hc, chk_t h0]
  by_cases e0 : xs a4.toNatClampNeg &&& 31 = 0
  · rw [if_pos e0]; exact law_c0 hF h h1 h2
  rw [if_neg e0]
  by_cases e1 : xs a4.toNatClampNeg &&& 31 = 1
  · rw [if_pos e1]; exact law_c1 hF h h1 h2
  rw [if_neg e1]
  by_cases e2 : xs a4.toNatClampNeg &&& 31 = 2
  · rw [if_pos e2]; exact law_c2 hF h h1 h2
  rw [if_neg e2]
  by_cases e3 : xs a4.toNatClampNeg &&& 31 = 3
  · rw [if_pos e3]; exact law_c3 hF h h1 h2
  rw [if_neg e3]
  by_cases e4 : xs a4.toNatClampNeg &&& 31 = 4
  · rw [if_pos e4]; exact law_c4 hF h h1 h2
  rw [if_neg e4]
  by_cases e5 : xs a4.toNatClampNeg &&& 31 = 5
  · rw [if_pos e5]; exact law_c5 hF h h1 h2
  rw [if_neg e5]
  by_cases e6 : xs a4.toNatClampNeg &&& 31 = 6
  · rw [if_pos e6]; exact law_c6 hF h h1 h2
  rw [if_neg e6]
  by_cases e7 : xs a4.toNatClampNeg &&& 31 = 7
  · rw [if_pos e7]; exact law_c7 hF h h1 h2
  rw [if_neg e7]
  by_cases e8 : xs a4.toNatClampNeg &&& 31 = 8
  · rw [if_pos e8]; exact law_c8 hF h h1 h2
  rw [if_neg e8]
  by_cases e9 : xs a4.toNatClampNeg &&& 31 = 9
  · rw [if_pos e9]; exact law_c9 hF h h1 h2
  rw [if_neg e9]
  by_cases e10 : xs a4.toNatClampNeg &&& 31 = 10
  · rw [if_pos e10]; exact law_c10 hF h h1 h2
  rw [if_neg e10]
  by_cases e11 : xs a4.toNatClampNeg &&& 31 = 11
  · rw [if_pos e11]; exact law_c11 hF h h1 h2
  rw [if_neg e11]
  by_cases e12 : xs a4.toNatClampNeg &&& 31 = 12
  · rw [if_pos e12]; exact law_c12 hF h h1 h2
  rw [if_neg e12]
  by_cases e13 : xs a4.toNatClampNeg &&& 31 = 13
  · rw [if_pos e13]; exact law_c13 hF h h1 h2
  rw [if_neg e13]
  by_cases e14 : xs a4.toNatClampNeg &&& 31 = 14
  · rw [if_pos e14]; exact law_c14 hF h h1 h2
  rw [if_neg e14]
  by_cases e15 : xs a4.toNatClampNeg &&& 31 = 15
  · rw [if_pos e15]; exact law_c15 hF h h1 h2
  rw [if_neg e15]
  by_cases e16 : xs a4.toNatClampNeg &&& 31 = 16
  · rw [if_pos e16]; exact law_c16 hF h h1 h2
  rw [if_neg e16]
  by_cases e17 : xs a4.toNatClampNeg &&& 31 = 17
  · rw [if_pos e17]; exact law_c17 hF h h1 h2
  rw [if_neg e17]
  by_cases e18 : xs a4.toNatClampNeg &&& 31 = 18
  · rw [if_pos e18]; exact law_c18 hF h h1 h2
  rw [if_neg e18]
  by_cases e19 : xs a4.toNatClampNeg &&& 31 = 19
  · rw [if_pos e19]; exact law_c19 hF h h1 h2
  rw [if_neg e19]
  by_cases e20 : xs a4.toNatClampNeg &&& 31 = 20
  · rw [if_pos e20]; exact law_c20 hF h h1 h2
  rw [if_neg e20]
  by_cases e21 : xs a4.toNatClampNeg &&& 31 = 21
  · rw [if_pos e21]; exact law_c21 hF h h1 h2
  rw [if_neg e21]
  by_cases e22 : xs a4.toNatClampNeg &&& 31 = 22
  · rw [if_pos e22]; exact law_c22 hF h h1 h2
  rw [if_neg e22]
  by_cases e23 : xs a4.toNatClampNeg &&& 31 = 23
  · rw [if_pos e23]; exact law_c23 hF h h1 h2
  rw [if_neg e23]
  by_cases e24 : xs a4.toNatClampNeg &&& 31 = 24
  · rw [if_pos e24]; exact law_c24 hF h h1 h2
  rw [if_neg e24]
  by_cases e25 : xs a4.toNatClampNeg &&& 31 = 25
  · rw [if_pos e25]; exact law_c25 hF h h1 h2
  rw [if_neg e25]
  exact ⟨G, K, h, rfl⟩
theorem law_L {F : Nat} {xs : Nat → Int32} {L : Nat} (hF : 1000 ≤ F) (hL : L ≤ 1536) : ∀ d i n (G : M3) (K : J3), RR G K → L ≤ i + 3 * d → i ≤ 2000 → d < n → fbL_law_23 F xs L n (Int32.ofNat i) G K = some 1 := by
  have o : (3 : Int32).toInt = 3 := by decide
  have e3 : (Int32.ofNat L - 3).toInt = (L : Int) - 3 := by
    rw [pi_sub (by rw [pn_ti (by omega), o]; omega) (by rw [pn_ti (by omega), o]; omega), pn_ti (by omega), o]
  have done : ∀ i n (G : M3) (K : J3), L < i + 3 → i ≤ 2000 → fbL_law_23 F xs L (n + 1) (Int32.ofNat i) G K = some 1 := by
    intro i n G K h1 h2
    show fsL_law_23 F (fbL_law_23 F xs L n) xs L (Int32.ofNat i) G K = some 1
    unfold fsL_law_23
    rw [if_pos (by rw [Int32.lt_iff_toInt_lt, e3, pn_ti (by omega)]; omega)]
  intro d
  induction d with
  | zero =>
    intro i n G K h h1 h2 h3
    obtain ⟨n, rfl⟩ := fu h3
    exact done i n G K (by omega) h2
  | succ d ih =>
    intro i n G K h h1 h2 h3
    obtain ⟨n, rfl⟩ := fu h3
    by_cases h4 : L < i + 3
    · exact done i n G K h4 h2
    · have e1 : Int32.ofNat i + 1 = Int32.ofNat (i + 1) := pn_s i
      have e2 : Int32.ofNat i + 2 = Int32.ofNat (i + 2) := pn_add2 i 2
      have e4 : Int32.ofNat i + 3 = Int32.ofNat (i + 3) := pn_add2 i 3
      obtain ⟨G', K', g1, g2⟩ := law_step (F := F) (k23 := fbL_law_23 F xs L n) (xs := xs) (L := L) (a4 := Int32.ofNat i) hF h (pn_inb (by omega) (by omega)) (by rw [e1]; exact pn_inb (by omega) (by omega)) (by rw [e2]; exact pn_inb (by omega) (by omega)) (by rw [Int32.lt_iff_toInt_lt, e3, pn_ti (by omega)]; omega)
      refine Eq.trans g2 ?_
      rw [e4]
      exact ih (i + 3) n G' K' g1 (by omega) (by omega) (by omega)
theorem RR_0 : RR G0 K0 := by
  have s1 : G0 8 1 = rowS0 := rfl
  refine ⟨⟨0, ?_, ?_⟩, ⟨0, 0, fun _ => rowS0, fun _ _ => 0, by decide, by decide, rfl, rfl, rfl, fun i hi => absurd hi (Nat.not_lt_zero _), fun i hi => absurd hi (Nat.not_lt_zero _)⟩, ⟨0, by decide, rfl, rfl, fun k hk => absurd hk (Nat.not_lt_zero _)⟩⟩
  · show Inv 0 80010 100000 0 rowS0 (fun _ => 0)
    refine ⟨by decide, by decide, by decide, by decide, by decide, by decide, by decide, by decide, by decide, by decide, fun c hc => absurd hc (Nat.not_lt_zero _), ⟨fun c hc => absurd hc (Nat.not_lt_zero _), fun c hc => absurd hc (Nat.not_lt_zero _)⟩, ⟨0, by decide, by decide⟩⟩
  · refine ⟨⟨rfl, rfl, rfl, rfl, rfl, rfl, rfl⟩, fun k hk => ?_, fun k _ => rfl, fun c hc => absurd hc (Nat.not_lt_zero _), fun r hr h14 k hk => ?_⟩
    · show rowFirst k = rowS0 (2 + k)
      match k, hk with
      | 0, _ => rfl
      | 1, _ => rfl
      | 2, _ => rfl
      | 3, _ => rfl
      | 4, _ => rfl
      | 5, _ => rfl
      | 6, _ => rfl
      | 7, _ => rfl
      | k + 8, h => omega
    · rw [show G0 8 1 14 = Int32.ofNat 0 from rfl, pn_eq (by omega) (by omega)] at h14
      omega
theorem law_all {xs : Nat → Int32} {L : Nat} (hL : L ≤ 1536) : fbL_law_23 1000 xs L 600 0 G0 K0 = some 1 :=
  law_L (F := 1000) (Nat.le_refl _) hL 512 0 600 G0 K0 RR_0 (by omega) (by omega) (by omega)
theorem whole_start {p : Program} {e : Env} {s : State} {m : MethodId} {below : List Frame} {meth : Method} {c : Code} (l : Launch) (hflags : l.flags = flags0) {b L : Nat} {xs : Nat → Int32} (hL : L ≤ 1536) (C0 : lw_At p s m meth c b L xs) : W p l e room_1 s m #[Value.ref b] below meth c s.heap [] 0 0 (lw_Z below #[Value.ref b] s) (entryFrame m ([Value.ref b] : List Value).toArray 9) :=
  st_walk l hflags (law_all hL) C0
