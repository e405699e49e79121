/-! the script's numbers -/
theorem and_max (x : Int32) : ∃ v : Nat, v < 2147483648 ∧ x &&& 2147483647 = Int32.ofNat v := by
  have e : (x &&& (2147483647 : Int32)).toBitVec.toNat = x.toBitVec.toNat % 2147483648 := by
    rw [Int32.toBitVec_and, BitVec.toNat_and, show (2147483647 : Int32).toBitVec.toNat = 2 ^ 31 - 1 from by decide, Nat.and_two_pow_sub_one_eq_mod]
  have h2 : x.toBitVec.toNat % 2147483648 < 2147483648 := Nat.mod_lt _ (by decide)
  refine ⟨x.toBitVec.toNat % 2147483648, h2, ?_⟩
  rw [← Int32.toInt_inj, pn_ti h2, ← Int32.toInt_toBitVec, BitVec.toInt_eq_toNat_of_lt (by rw [e]; omega), e]
theorem cell_of {L k : Nat} {xs : Nat → Int32} (hL : L ≤ 260) (hk : k ≤ 100) : ∃ v : Nat, v < 2147483648 ∧ fL_cell L xs (Int32.ofNat k) = some (Int32.ofNat v) := by
  unfold fL_cell
  by_cases h : L ≤ k
  · rw [if_pos ((pn_le (by omega) (by omega)).mpr h)]
    obtain ⟨v, h1, h2⟩ := and_max (40503 * (Int32.ofNat k + 3))
    exact ⟨v, h1, congrArg some h2⟩
  · rw [if_neg (fun e => h ((pn_le (by omega) (by omega)).mp e)), chk_b (by omega) (by omega)]
    obtain ⟨v, h1, h2⟩ := and_max (xs (Int32.ofNat k).toNatClampNeg)
    exact ⟨v, h1, congrArg some h2⟩
theorem pn_div {a b : Nat} (ha : a < 2147483648) (hb : 0 < b) (hb2 : b < 2147483648) : Int32.ofNat a / Int32.ofNat b = Int32.ofNat (a / b) := by
  have h1 : a / b ≤ a := Nat.div_le_self a b
  rw [← Int32.toInt_inj, pi_div (by rw [pn_ti ha]; omega) (by rw [pn_ti hb2]; omega), pn_ti ha, pn_ti hb2, pn_ti (by omega)]
  exact (Int.natCast_ediv a b).symm
theorem pn_mod {a b : Nat} (ha : a < 2147483648) (hb : 0 < b) (hb2 : b < 2147483648) : Int32.ofNat a - Int32.ofNat a / Int32.ofNat b * Int32.ofNat b = Int32.ofNat (a % b) := by
  have h1 : a / b * b ≤ a := Nat.div_mul_le_self a b
  rw [pn_div ha hb hb2, pn_mul, pn_sub h1]
  congr 1
  have := Nat.div_add_mod a b
  rw [Nat.mul_comm] at this
  omega
/-- air is the pressure, for the volume is 1000 -/
theorem prs_air {n : Nat} {s : M1} {b : J1} (hI : Iv 100000 n (s, b)) (p : Pq n (s, b)) : 0 ≤ (prs s).toInt ∧ (prs s).toInt ≤ 10000 := by
  obtain ⟨⟨h0, -, -⟩, ha, -⟩ := p
  have h0 : s 0 = 1000 := h0
  have ha : 0 ≤ (s 1).toInt ∧ (s 1).toInt ≤ 10000 := ha
  obtain ⟨e, -, -⟩ := prs_in (s := s) (A := 80010) hI.air (by decide) hI.vol.1
  rw [e, h0, show (1000 : Int32).toInt = 1000 by decide]
  omega
theorem nn_ge {x : Int32} (h : 0 ≤ x.toInt) : ¬ x < 0 := fun e => by rw [Int32.lt_iff_toInt_lt] at e; have : x.toInt < 0 := e; omega
theorem mvk_le {s : M1} {n k : Nat} : mvk s n k ≤ k := by
  induction k with
  | zero => exact Nat.le_refl _
  | succ k ih => unfold mvk; split <;> omega
/-- after a leak test none is loaded -/
theorem cntk_0 {s : M1} {n : Nat} (h : ∀ c, c < n → ¬ s (21 + 7 * c + 1) = 1) : cntk s 1 n = 0 := by
  induction n with
  | zero => rfl
  | succ n ih => unfold cntk; rw [ih (fun c hc => h c (by omega)), if_neg (h n (by omega))]; rfl
theorem ulk_md {s : M1} {k c : Nat} (hc : c < k) : ¬ ulk s k (21 + 7 * c + 1) = 1 := by
  induction k with
  | zero => omega
  | succ k ih =>
    unfold ulk
    by_cases e : c = k
    · subst e
      unfold ulb
      split
      · rw [sg_ne _ _ (by omega), sg_eq]; decide
      · assumption
    · rw [ulb_at (by omega) (by omega)]; exact ih (by omega)
theorem blw_at {q : M1 × J1} {i : Nat} (h : i ≠ 1) : (blw q).1 i = q.1 i := by
  unfold blw
  split
  · rfl
  · exact sg_ne _ _ h
theorem tst_md {n c : Nat} {q : M1 × J1} (hn : n ≤ 5) (hc : c < n) : (tst n q).1 (21 + 7 * c + 1) = q.1 (21 + 7 * c + 1) := by
  unfold tst tik
  dsimp only
  rw [sg_ne _ _ (by omega), sg_ne _ _ (by omega), blw_at (by omega), lkd_at (by omega), flk_md (by omega), mrot_lt (by omega) (by omega) (by omega)]
theorem tsk_md {n c k : Nat} {q : M1 × J1} (hn : n ≤ 5) (hc : c < n) : (tsk n q k).1 (21 + 7 * c + 1) = q.1 (21 + 7 * c + 1) := by
  induction k with
  | zero => rfl
  | succ k ih => exact (tst_md hn hc).trans ih
/-- the order by loaded minutes -/
theorem rot_ahd {s : M1} {n a c : Nat} (ha : a < n) (hc : c < n) (h : rkk s a n < rkk s c n) : ahd s c a := by
  by_cases h2 : ahd s c a
  · exact h2
  · exfalso
    have h3 : ahd s a c := by
      unfold ahd at *
      have hne : a ≠ c := fun e => by rw [e] at h; omega
      have q := Int32.lt_iff_toInt_lt (x := s (21 + 7 * a + 2)) (y := s (21 + 7 * c + 2))
      have q2 := Int32.lt_iff_toInt_lt (x := s (21 + 7 * c + 2)) (y := s (21 + 7 * a + 2))
      have q3 := Int32.toInt_inj (x := s (21 + 7 * a + 2)) (y := s (21 + 7 * c + 2))
      rw [q2, eq_comm (a := s (21 + 7 * c + 2)), ← q3]
      rw [q, ← q3] at h2
      omega
    have h4 := rkk_mono (k := n) h3
    rw [if_pos hc] at h4
    omega
