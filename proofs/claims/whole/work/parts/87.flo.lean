/-! a quotient of longs made doubles is no NaN -/
theorem fl_T : FP.Core.b64.tails = 4503599627370496 := by decide +kernel
theorem fl_E : FP.Core.b64.exps = 2048 := by decide +kernel
theorem fl_P : 2 ^ FP.Core.b64.p = 9007199254740992 := by decide +kernel
theorem fl_qn : FP.Core.b64.qmin = -1074 := by decide +kernel
theorem fl_qx : FP.Core.b64.qmax = 971 := by decide +kernel
theorem fl_p : ((FP.Core.b64.p : Nat) : Int) = 53 := rfl
def fl_ok : FP.Core.Datum → Prop
  | .nan => False
  | .inf _ => True
  | .fin _ c q => c < 9007199254740992 ∧ -1074 ≤ q ∧ q ≤ 971
theorem fl_enc {d : FP.Core.Datum} (h : fl_ok d) : FP.Core.encode FP.Core.b64 d < 18446744073709551616 ∧ FP.Core.encode FP.Core.b64 d % 9223372036854775808 ≤ 9218868437227405312 := by
  cases d with
  | nan => exact h.elim
  | inf s =>
    unfold FP.Core.encode FP.Core.assemble
    rw [fl_T, fl_E]
    cases s <;> decide
  | fin s c q =>
    obtain ⟨h1, h2, h3⟩ := h
    unfold FP.Core.encode FP.Core.assemble
    rw [fl_T, fl_E, fl_qn]
    have hs : s.toNat = 0 ∨ s.toNat = 1 := by cases s <;> simp
    dsimp only
    split
    · rcases hs with e | e <;> rw [e] <;> omega
    · rcases hs with e | e <;> rw [e] <;> omega
theorem fl_bd {s : Bool} {c : Nat} {q : Int} (h : c < 9007199254740992) (hq : -1074 ≤ q) : fl_ok (FP.Core.bound FP.Core.b64 s c q) := by
  unfold FP.Core.bound
  rw [fl_qx]
  split
  · exact ⟨h, hq, by assumption⟩
  · exact True.intro
theorem fl_rr {s : Bool} {num den : Nat} {e : Int} : fl_ok (FP.Core.roundRatio FP.Core.b64 s num den e) := by
  unfold FP.Core.roundRatio
  split
  · rw [fl_qn]; exact ⟨by omega, by omega, by omega⟩
  · have hq : -1074 ≤ FP.Core.quantum FP.Core.b64 num den e := by
      unfold FP.Core.quantum
      rw [fl_qn]; exact Int.le_max_left _ _
    unfold FP.Core.roundAt FP.Core.settle
    rw [fl_P, fl_T]
    split
    · exact fl_bd (by assumption) hq
    · exact fl_bd (by omega) (by omega)
theorem fl_nn {r : Nat} (h : r < 18446744073709551616) (h2 : r % 9223372036854775808 ≤ 9218868437227405312) : nNaN (UInt64.ofNat r) := by
  have e1 : (0x7fffffffffffffff : UInt64).toNat = 2 ^ 63 - 1 := by decide
  have e2 : (0x7ff0000000000000 : UInt64).toNat = 9218868437227405312 := by decide
  show _ ≤ _
  rw [UInt64.le_iff_toNat_le, UInt64.toNat_and, e1, e2, Nat.and_two_pow_sub_one_eq_mod, UInt64.toNat_ofNat_of_lt' (by show r < 2 ^ 64; omega)]
  exact h2
theorem fl_small {s : Bool} {m : Nat} (hm : m ≤ 9223372036854775808) : ∃ c q, FP.Core.roundRatio FP.Core.b64 s m 1 0 = .fin s c q ∧ c < 9007199254740992 ∧ -1074 ≤ q ∧ q ≤ 970 ∧ (m ≠ 0 → c ≠ 0) := by
  unfold FP.Core.roundRatio
  by_cases h0 : m = 0
  · rw [if_pos h0, fl_qn]; exact ⟨0, -1074, rfl, by omega, by omega, by omega, fun h => absurd h0 h⟩
  · rw [if_neg h0]
    have l1 : 2 ^ m.log2 ≤ m := Nat.log2_self_le h0
    have l2 : m.log2 ≤ 63 := by
      have : 2 ^ m.log2 ≤ 2 ^ 63 := Nat.le_trans l1 (by omega)
      exact (Nat.pow_le_pow_iff_right (by decide : 1 < 2)).mp this
    have hl : FP.Core.leading m 1 ≤ (m.log2 : Int) := by
      unfold FP.Core.leading
      have : Nat.log2 1 = 0 := by decide
      rw [this]
      dsimp only
      split <;> omega
    have hq1 : -1074 ≤ FP.Core.quantum FP.Core.b64 m 1 0 := by
      unfold FP.Core.quantum
      rw [fl_qn]; exact Int.le_max_left _ _
    have hq2 : FP.Core.quantum FP.Core.b64 m 1 0 ≤ 11 ∧ (0 < FP.Core.quantum FP.Core.b64 m 1 0 → FP.Core.quantum FP.Core.b64 m 1 0 ≤ (m.log2 : Int)) := by
      unfold FP.Core.quantum
      rw [fl_qn, fl_p]
      omega
    generalize FP.Core.quantum FP.Core.b64 m 1 0 = q at hq1 hq2
    obtain ⟨hq2, hq3⟩ := hq2
    have hn : ∀ a b : Nat, 0 < b → b ≤ a → FP.Core.nearest a b ≠ 0 := by
      intro a b hb hab
      have := Nat.div_pos hab hb
      unfold FP.Core.nearest
      split
      · omega
      · split <;> omega
    have hc : FP.Core.nearest (FP.Core.unitsNum m 0 q) (FP.Core.unitsDen 1 0 q) ≠ 0 := by
      unfold FP.Core.unitsNum FP.Core.unitsDen
      refine hn _ _ (by have := Nat.two_pow_pos (q - 0).toNat; omega) ?_
      by_cases h1 : 0 < q
      · rw [show (0 - q).toNat = 0 by omega, Nat.one_mul, Nat.pow_zero, Nat.mul_one]
        exact Nat.le_trans (Nat.pow_le_pow_right (by decide) (by have := hq3 h1; omega)) l1
      · rw [show (q - 0).toNat = 0 by omega]
        have := Nat.two_pow_pos (0 - q).toNat
        have h5 : 1 * 1 ≤ m * 2 ^ (0 - q).toNat := Nat.mul_le_mul (by omega) (by omega)
        simpa using h5
    unfold FP.Core.roundAt FP.Core.settle FP.Core.bound
    rw [fl_P, fl_T, fl_qx]
    generalize FP.Core.nearest (FP.Core.unitsNum m 0 q) (FP.Core.unitsDen 1 0 q) = c at hc
    split
    · rw [if_pos (by omega)]
      exact ⟨c, q, rfl, by assumption, hq1, by omega, fun _ => hc⟩
    · rw [if_pos (by omega)]
      exact ⟨4503599627370496, q + 1, rfl, by omega, by omega, by omega, fun _ => by omega⟩
theorem fl_dec {s : Bool} {c : Nat} {q : Int} (hc : c < 9007199254740992) (hq1 : -1074 ≤ q) (hq2 : q ≤ 970) : ∃ q', FP.Core.decode FP.Core.b64 (FP.Core.encode FP.Core.b64 (.fin s c q)) = .fin s c q' := by
  have key : ∀ e t : Nat, e < 2047 → t < 4503599627370496 → FP.Core.fieldE FP.Core.b64 (FP.Core.assemble FP.Core.b64 s e t) = e ∧ FP.Core.fieldT FP.Core.b64 (FP.Core.assemble FP.Core.b64 s e t) = t ∧ FP.Core.fieldS FP.Core.b64 (FP.Core.assemble FP.Core.b64 s e t) = s := by
    intro e t he ht
    unfold FP.Core.fieldE FP.Core.fieldT FP.Core.fieldS FP.Core.assemble
    rw [fl_T, fl_E]
    cases s
    · refine ⟨?_, ?_, ?_⟩
      · simp only [Bool.toNat_false]; omega
      · simp only [Bool.toNat_false]; omega
      · have : ((false.toNat * 2048 + e) * 4503599627370496 + t) / 4503599627370496 / 2048 % 2 = 0 := by simp only [Bool.toNat_false]; omega
        rw [this]; rfl
    · refine ⟨?_, ?_, ?_⟩
      · simp only [Bool.toNat_true]; omega
      · simp only [Bool.toNat_true]; omega
      · have : ((true.toNat * 2048 + e) * 4503599627370496 + t) / 4503599627370496 / 2048 % 2 = 1 := by simp only [Bool.toNat_true]; omega
        rw [this]; rfl
  unfold FP.Core.encode
  dsimp only
  rw [fl_T, fl_qn]
  by_cases h : c < 4503599627370496
  · rw [if_pos h]
    obtain ⟨k1, k2, k3⟩ := key 0 c (by omega) h
    refine ⟨-1074, ?_⟩
    unfold FP.Core.decode
    rw [k1, k2, k3, fl_E, fl_qn, if_neg (by omega), if_pos rfl]
  · rw [if_neg h]
    obtain ⟨k1, k2, k3⟩ := key ((q - -1074).toNat + 1) (c - 4503599627370496) (by omega) (by omega)
    refine ⟨FP.Core.b64.qmin + ((((q - -1074).toNat + 1 : Nat) : Int) - 1), ?_⟩
    unfold FP.Core.decode
    rw [k1, k2, k3, fl_E, fl_T, if_neg (by omega), if_neg (by omega), show 4503599627370496 + (c - 4503599627370496) = c by omega]
theorem fl_l2d (v : Int64) : ∃ s c q, FP.Core.decode FP.Core.b64 (FP.l2d v).toNat = .fin s c q ∧ (v ≠ 0 → c ≠ 0) := by
  have h1 := v.toInt_lt
  have h2 := v.le_toInt
  have e : (FP.l2d v).toNat = FP.Core.encode FP.Core.b64 (FP.Core.roundRatio FP.Core.b64 (decide (v.toInt < 0)) v.toInt.natAbs 1 0) := by
    show (UInt64.ofNat (FP.Core.encode FP.Core.b64 (FP.Core.roundRatio FP.Core.b64 (decide (v.toInt < 0)) v.toInt.natAbs 1 0))).toNat = _
    exact UInt64.toNat_ofNat_of_lt' (fl_enc fl_rr).1
  obtain ⟨c, q, g1, g2, g3, g4, g5⟩ := fl_small (s := decide (v.toInt < 0)) (m := v.toInt.natAbs) (by omega)
  obtain ⟨q', g6⟩ := fl_dec (s := decide (v.toInt < 0)) g2 g3 g4
  refine ⟨_, c, q', by rw [e, g1]; exact g6, fun h => g5 (fun h3 => h ?_)⟩
  rw [← Int64.toInt_inj]
  show v.toInt = 0
  omega
theorem fl_div (x y : Int64) (h : y ≠ 0) : nNaN (FP.ddiv (FP.l2d x) (FP.l2d y)) := by
  obtain ⟨s, c, q, g1, -⟩ := fl_l2d x
  obtain ⟨t, d, r, k1, k2⟩ := fl_l2d y
  have hd := k2 h
  have e : FP.Core.quotient FP.Core.b64 (FP.Core.decode FP.Core.b64 (FP.l2d x).toNat) (FP.Core.decode FP.Core.b64 (FP.l2d y).toNat) = FP.Core.roundRatio FP.Core.b64 (s != t) c d (q - r) := by
    rw [g1, k1]
    unfold FP.Core.quotient
    exact if_neg hd
  have o := fl_enc (d := FP.Core.quotient FP.Core.b64 (FP.Core.decode FP.Core.b64 (FP.l2d x).toNat) (FP.Core.decode FP.Core.b64 (FP.l2d y).toNat)) (by rw [e]; exact fl_rr)
  exact fl_nn o.1 o.2
theorem pv_shareL {F : Nat} {M : M2} {J : J2} {n : Nat} (hn : n ≤ 5) (h10 : M 1 10 = Int32.ofNat n) : ∀ d k m, k + d = n → d < m → fbX5_loadedShare_9 F m (lmk (M 1) k) (Int32.ofNat k) M J = (if ¬ (lg_cmp (J 2 5) (0 : Int64)) = 0 then (chk (nNaN (FP.ddiv (FP.l2d ((10 : Int64) * lmk (M 1) n)) (FP.l2d (J 2 5)))) (some ((FP.ddiv (FP.l2d ((10 : Int64) * lmk (M 1) n)) (FP.l2d (J 2 5))), M, J))) else (some ((0 : UInt64), M, J))) := by
  intro d
  induction d with
  | zero =>
    intro k m hk hm
    obtain ⟨m, rfl⟩ := fu hm
    obtain rfl : k = n := by omega
    rw [show fbX5_loadedShare_9 F (m + 1) = fsX5_loadedShare_9 F (fbX5_loadedShare_9 F m) from rfl]
    unfold fsX5_loadedShare_9
    rw [h10, if_pos ((pn_le (by omega) (by omega)).mpr (by omega))]
  | succ d ih =>
    intro k m hk hm
    obtain ⟨m, rfl⟩ := fu hm
    rw [← ih (k + 1) m (by omega) (by omega)]
    rw [show fbX5_loadedShare_9 F (m + 1) = fsX5_loadedShare_9 F (fbX5_loadedShare_9 F m) from rfl]
    unfold fsX5_loadedShare_9
    rw [h10, if_neg (fun h => by have := (pn_le (by omega) (by omega)).mp h; omega), pv_its (by show 21 + 7 * k + 0 < 61; omega), pv_its (by show 21 + 7 * k + 2 < 61; omega)]
    simp only [Option.bind_some, pn_s]
    rfl
theorem c_share {F : Nat} {G : M3} {K : J3} {nx : M3 → J3 → Option Int32} (hF : 1000 ≤ F) (h : RR G K) : CGo ((fX4_loadedShare F G K).bind (fun vv2 => bd3 (fX5_loadedShare F (G 8) (K 8)) (fun vv10 M4 J5 => bnd (sg G 8 M4) (fun G6 => bnd (sg K 8 J5) (fun K7 => (if (Op.cmpValue (FP.dcmp vv2 vv10) .l) = 0 then nx G6 K7 else ((if (Op.cmpValue (FP.dcmp vv2 vv2) .l) = 0 then (some 0) else ((if ¬ (Op.cmpValue (FP.dcmp vv10 vv10) .l) = 0 then nx G6 K7 else (some 0))))))))))) nx := by
  obtain ⟨n, hI, hR⟩ := h.1
  have hn := hI.n5
  have hcn : G 8 1 10 = Int32.ofNat n := hI.cnt
  have h10 : G 0 0 5 = Int32.ofNat n := by rw [hR.o.2.2.2.2.2.1, hcn]
  have a5 := hR.am 5 (by omega)
  obtain ⟨v, e1, e2⟩ : ∃ v, fX4_loadedShare F G K = some v ∧ fX5_loadedShare F (G 8) (K 8) = some (v, up2 (G 8) 0 11 0, K 8) := by
    have q : up2 (G 8) 0 11 0 1 = G 8 1 := by unfold up2; exact sg_ne _ _ (by decide)
    have e := pv_shareL (F := F) (M := up2 (G 8) 0 11 0) (J := K 8) (n := n) hn (by rw [q]; exact hcn) n 0 F (by omega) (by omega)
    rw [q] at e
    unfold fX4_loadedShare fX5_loadedShare
    rw [a5, bnd_s]
    by_cases hz : lg_cmp (K 8 2 5) 0 = 0
    · refine ⟨0, if_neg (fun h => h hz), ?_⟩
      refine Eq.trans e ?_
      exact if_neg (fun h => h hz)
    · have hne : K 8 2 5 ≠ 0 := fun h0 => by rw [h0, lg_same] at hz; exact hz rfl
      have hnn := fl_div (10 * lmk (G 8 1) n) (K 8 2 5) hne
      refine ⟨FP.ddiv (FP.l2d (10 * lmk (G 8 1) n)) (FP.l2d (K 8 2 5)), ?_, ?_⟩
      · rw [if_pos hz, pc_len (s := G 8 1) hF hn h10 hR.c, Option.bind_some, chk_t hnn]
      · refine Eq.trans e ?_
        rw [if_pos hz, chk_t hnn]
  refine ⟨_, _, RR_keep (G' := sg G 8 (up2 (G 8) 0 11 0)) (K' := sg K 8 (K 8)) h (fun g hg => ⟨sg_ne _ _ (by omega), sg_ne _ _ (by omega)⟩) ?_ ?_ ?_ ?_ ?_ ?_ ?_, ?_⟩
  rotate_right
  · rw [e1, Option.bind_some, e2, bd3_s]
    simp only [bnd_s]
    by_cases hc : Op.cmpValue (FP.dcmp v v) .l = 0
    · rw [if_pos hc]
    · rw [if_neg hc, if_neg hc, if_pos hc]
  all_goals (intros; simp [sg_eq, up2_ap] <;> (try (unfold up2; rw [sg_ne _ _ (by decide)])))
