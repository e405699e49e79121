/-! the text and its orders -/
def bt (t : M1) (L p : Nat) : Int32 := if p < L then t p else -1
/-- the program's place and error; the reference's place and number -/
def PM (M : M2) (p : Nat) (e : Int32) : M2 := up2 (up2 M 0 2 (Int32.ofNat p)) 0 3 e
def RA (r0 : M1) (p : Nat) (v : Int32) : M1 := sg (sg r0 14 (Int32.ofNat p)) 15 v
theorem PM_2 {M : M2} {p : Nat} {e : Int32} : PM M p e 0 2 = Int32.ofNat p := by unfold PM; simp [up2_ap]
theorem PM_3 {M : M2} {p : Nat} {e : Int32} : PM M p e 0 3 = e := by unfold PM; simp [up2_ap]
theorem PM_r {M : M2} {p r : Nat} {e : Int32} (h : r ≠ 0) : PM M p e r = M r := by unfold PM up2; rw [sg_ne _ _ h, sg_ne _ _ h]
theorem PM_0 {M : M2} {p j : Nat} {e : Int32} (h : j ≠ 2) (h3 : j ≠ 3) : PM M p e 0 j = M 0 j := by unfold PM; simp [up2_ap, h, h3]
theorem PM_u2 {M : M2} {p q : Nat} {e : Int32} : up2 (PM M p e) 0 2 (Int32.ofNat q) = PM M q e := by
  funext r j
  unfold PM
  simp only [up2_ap]
  grind
theorem PM_u3 {M : M2} {p : Nat} {e e' : Int32} : up2 (PM M p e) 0 3 e' = PM M p e' := by
  funext r j
  unfold PM
  simp only [up2_ap]
  grind
theorem RA_14 {r0 : M1} {p : Nat} {v : Int32} : RA r0 p v 14 = Int32.ofNat p := by unfold RA; rw [sg_ne _ _ (by decide), sg_eq]
theorem RA_15 {r0 : M1} {p : Nat} {v : Int32} : RA r0 p v 15 = v := by unfold RA; rw [sg_eq]
theorem RA_o {r0 : M1} {p i : Nat} {v : Int32} (h : i ≠ 14) (h2 : i ≠ 15) : RA r0 p v i = r0 i := by unfold RA; rw [sg_ne _ _ h2, sg_ne _ _ h]
theorem RA_s14 {r0 : M1} {p q : Nat} {v : Int32} : sg (RA r0 p v) 14 (Int32.ofNat q) = RA r0 q v := by
  funext i
  unfold RA
  simp only [sg_ap]
  grind
theorem RA_s15 {r0 : M1} {p : Nat} {v v' : Int32} : sg (RA r0 p v) 15 v' = RA r0 p v' := by
  funext i
  unfold RA
  simp only [sg_ap]
  grind
theorem RA_self {r0 : M1} {p : Nat} (h : r0 14 = Int32.ofNat p) : RA r0 p (r0 15) = r0 := by
  unfold RA
  rw [← h, sg_self, sg_self]
/-- what holds of the text on both sides -/
def TXc (M : M2) (t : M1) (L : Nat) : Prop := L ≤ 100 ∧ M 0 0 = Int32.ofNat L ∧ ∀ k, k < L → M 1 k = t k
theorem TXc.pm {M : M2} {t : M1} {L p : Nat} {e : Int32} (h : TXc M t L) : TXc (PM M p e) t L :=
  ⟨h.1, by rw [PM_0 (by decide) (by decide)]; exact h.2.1, fun k hk => by rw [PM_r (by decide)]; exact h.2.2 k hk⟩
theorem pc_bt {M : M2} {J : J2} {t : M1} {L p : Nat} (h : TXc M t L) (hp : p < 1000) : fX2_byteAt M J (Int32.ofNat p) = some (bt t L p) := by
  obtain ⟨hL, h0, h1⟩ := h
  unfold fX2_byteAt bt
  rw [if_neg (fun e => by have := (pn_lt2 (b := 0) (by omega) (by decide)).mp e; have : p < 0 := this; omega), h0]
  by_cases hpl : p < L
  · rw [if_neg (fun e => by have := (pn_le (by omega) (by omega)).mp e; omega), if_neg (fun e => by have := (pn_le1 (a := 100) (by decide) (by omega)).mp e; have : 100 ≤ p := this; omega), chk_b (by omega) (by omega), pn_in (by omega), if_pos hpl, h1 p hpl]
  · rw [if_pos ((pn_le (by omega) (by omega)).mpr (by omega)), if_neg hpl]
theorem pv_bt {M : M2} {J : J2} {r0 s : M1} {L p : Nat} (hL : L ≤ 100) (h10 : r0 10 = Int32.ofNat L) (h14 : r0 14 = Int32.ofNat p) (hp : p < 1000) : fX5_byteAt (RM M r0 s) J = some (bt (M 9) L p) := by
  unfold fX5_byteAt bt
  rw [RM_0, h10, h14]
  by_cases hpl : p < L
  · rw [if_neg (fun e => by have := (pn_le (by omega) (by omega)).mp e; omega), chk_b (by omega) (by omega), pn_in (by omega), if_pos hpl, RM_o _ _ _ (by decide) (by decide)]
  · rw [if_pos ((pn_le (by omega) (by omega)).mpr (by omega)), if_neg hpl]
/-- a number read -/
noncomputable def rdn (t : M1) (L : Nat) : Nat → Nat → Int32 → Nat × Int32
  | 0, p, v => (p, v)
  | d + 1, p, v => if fX5_in (bt t L p) 48 57 = 0 then (p, v) else rdn t L d (p + 1) (((10 * v) + bt t L p) - 48)
noncomputable def rde (t : M1) (L st : Nat) (q : Nat × Int32) (lo hi : Int32) : Int32 := if q.1 = st then Int32.ofNat q.1 else if fX5_in (bt t L q.1) 48 57 = 0 then (if fX5_in q.2 lo hi = 0 then Int32.ofNat st else -1) else Int32.ofNat q.1
theorem rdn_in {t : M1} {L d p : Nat} {v : Int32} : p ≤ (rdn t L d p v).1 ∧ (rdn t L d p v).1 ≤ p + d := by
  induction d generalizing p v with
  | zero => exact ⟨Nat.le_refl _, Nat.le_refl _⟩
  | succ d ih =>
    unfold rdn
    split
    · exact ⟨Nat.le_refl _, by dsimp only; omega⟩
    · have h := ih (p := p + 1) (v := ((10 * v) + bt t L p) - 48)
      omega
theorem rde_ok {t : M1} {L st : Nat} {q : Nat × Int32} {lo hi : Int32} (h1 : st < 1000) (h2 : q.1 < 1000) (h : rde t L st q lo hi = -1) : ¬ fX5_in q.2 lo hi = 0 := by
  unfold rde at h
  split at h
  · exact absurd h (of_m1 (by omega))
  · split at h
    · split at h
      · exact absurd h (of_m1 (by omega))
      · assumption
    · exact absurd h (of_m1 (by omega))
theorem pc_rd9 {F : Nat} {M : M2} {J : J2} {t : M1} {L st D : Nat} {lo hi : Int32} (h : TXc M t L) (hst : st + D < 1000) : ∀ d p v m, p + d = st + D → d < m → fbX2_readNumber_9 F m (Int32.ofNat D) lo hi (Int32.ofNat st) v (PM M p (-1)) J = fbX2_readNumber_66 F lo hi (Int32.ofNat st) (rdn t L d p v).2 (PM M (rdn t L d p v).1 (-1)) J := by
  intro d
  induction d with
  | zero =>
    intro p v m hp hm
    obtain ⟨m, rfl⟩ := fu hm
    rw [show fbX2_readNumber_9 F (m + 1) = fsX2_readNumber_9 F (fbX2_readNumber_9 F m) from rfl]
    unfold fsX2_readNumber_9
    rw [PM_2, pn_add, if_pos ((pn_le (by omega) (by omega)).mpr (by omega))]
    rfl
  | succ d ih =>
    intro p v m hp hm
    obtain ⟨m, rfl⟩ := fu hm
    rw [show fbX2_readNumber_9 F (m + 1) = fsX2_readNumber_9 F (fbX2_readNumber_9 F m) from rfl]
    unfold fsX2_readNumber_9 rdn
    rw [PM_2, pn_add, if_neg (fun e => by have := (pn_le (by omega) (by omega)).mp e; omega), pc_bt h.pm (by omega), Option.bind_some, Option.bind_some]
    by_cases hd : fX5_in (bt t L p) 48 57 = 0
    · rw [if_pos (show fX2_isDigit (bt t L p) = 0 from hd), if_pos hd]
    · rw [if_neg (show ¬ fX2_isDigit (bt t L p) = 0 from hd), if_neg hd, bnd_s, pn_s, PM_u2]
      exact ih (p + 1) _ m (by omega) (by omega)
theorem pc_rd66 {F : Nat} {M : M2} {J : J2} {t : M1} {L st q : Nat} {v lo hi : Int32} (h : TXc M t L) (hst : st < 1000) (hq : q < 1000) : fbX2_readNumber_66 F lo hi (Int32.ofNat st) v (PM M q (-1)) J = some (v, PM M q (rde t L st (q, v) lo hi), J) := by
  unfold fbX2_readNumber_66 fbX2_readNumber_89 rde
  rw [PM_2]
  by_cases h1 : q = st
  · rw [if_pos (by rw [h1]), bnd_s, PM_u3, if_pos h1]
  · rw [if_neg (fun e => h1 ((pn_eq (by omega) (by omega)).mp e)), pc_bt h.pm hq, Option.bind_some, if_neg h1]
    dsimp only
    by_cases hd : fX5_in (bt t L q) 48 57 = 0
    · rw [if_pos (show fX2_isDigit (bt t L q) = 0 from hd), if_pos hd]
      by_cases hw : fX5_in v lo hi = 0
      · rw [if_neg (fun e => e (show fX4_isWithin v lo hi = 0 from hw)), if_pos hw, bnd_s, PM_u3]
      · rw [if_pos (show ¬ fX4_isWithin v lo hi = 0 from hw), if_neg hw]
    · rw [if_neg (show ¬ fX2_isDigit (bt t L q) = 0 from hd), if_neg hd, bnd_s, PM_u3]
theorem pc_rdn {F : Nat} {M : M2} {J : J2} {t : M1} {L p D : Nat} {lo hi : Int32} (hF : 1000 ≤ F) (h : TXc M t L) (hp : p + D < 1000) : fX2_readNumber F (Int32.ofNat D) lo hi (PM M p (-1)) J = some ((rdn t L D p 0).2, PM M (rdn t L D p 0).1 (rde t L p (rdn t L D p 0) lo hi), J) := by
  unfold fX2_readNumber
  rw [PM_2, pc_rd9 h hp D p 0 F rfl (by omega), pc_rd66 h (by omega) (by have := rdn_in (t := t) (L := L) (d := D) (p := p) (v := 0); omega)]
theorem pv_rd11 {F : Nat} {M : M2} {J : J2} {r0 s : M1} {L st D : Nat} {lo hi : Int32} (hL : L ≤ 100) (h10 : r0 10 = Int32.ofNat L) (hst : st + D < 1000) : ∀ d p v m, p + d = st + D → d < m → fbX5_reads_11 F m (Int32.ofNat D) lo hi (Int32.ofNat st) (RM M (RA r0 p v) s) J = fbX5_reads_68 F lo hi (Int32.ofNat st) (RM M (RA r0 (rdn (M 9) L d p v).1 (rdn (M 9) L d p v).2) s) J := by
  intro d
  induction d with
  | zero =>
    intro p v m hp hm
    obtain ⟨m, rfl⟩ := fu hm
    rw [show fbX5_reads_11 F (m + 1) = fsX5_reads_11 F (fbX5_reads_11 F m) from rfl]
    unfold fsX5_reads_11
    rw [RM_0, RA_14, pn_add, if_pos ((pn_le (by omega) (by omega)).mpr (by omega))]
    rfl
  | succ d ih =>
    intro p v m hp hm
    obtain ⟨m, rfl⟩ := fu hm
    rw [show fbX5_reads_11 F (m + 1) = fsX5_reads_11 F (fbX5_reads_11 F m) from rfl]
    unfold fsX5_reads_11 rdn
    rw [RM_0, RA_14, pn_add, if_neg (fun e => by have := (pn_le (by omega) (by omega)).mp e; omega), pv_bt hL (by rw [RA_o (by decide) (by decide)]; exact h10) RA_14 (by omega), Option.bind_some, Option.bind_some]
    by_cases hd : fX5_in (bt (M 9) L p) 48 57 = 0
    · rw [if_pos hd, if_pos hd]
    · rw [if_neg hd, if_neg hd]
      simp only [bnd_s, RM_u0, RM_0, RA_15, RA_s15, RA_14, pn_s, RA_s14]
      exact ih (p + 1) _ m (by omega) (by omega)
theorem pv_rd68 {F : Nat} {M : M2} {J : J2} {r0 s : M1} {L st q : Nat} {v lo hi : Int32} (hL : L ≤ 100) (h10 : r0 10 = Int32.ofNat L) (hst : st < 1000) (hq : q < 1000) : fbX5_reads_68 F lo hi (Int32.ofNat st) (RM M (RA r0 q v) s) J = some (rde (M 9) L st (q, v) lo hi, RM M (RA r0 q v) s, J) := by
  unfold fbX5_reads_68 rde
  rw [RM_0, RA_14, RA_15]
  by_cases h1 : q = st
  · rw [if_pos (by rw [h1]), if_pos h1]
  · rw [if_neg (fun e => h1 ((pn_eq (by omega) (by omega)).mp e)), pv_bt hL (by rw [RA_o (by decide) (by decide)]; exact h10) RA_14 hq, Option.bind_some, if_neg h1]
    dsimp only
    by_cases hd : fX5_in (bt (M 9) L q) 48 57 = 0
    · rw [if_pos hd, if_pos hd]
      by_cases hw : fX5_in v lo hi = 0
      · rw [if_pos hw, if_pos hw]
      · rw [if_neg hw, if_neg hw]
    · rw [if_neg hd, if_neg hd]
theorem pv_rdn {F : Nat} {M : M2} {J : J2} {r0 s : M1} {L p D : Nat} {v lo hi : Int32} (hF : 1000 ≤ F) (hL : L ≤ 100) (h10 : r0 10 = Int32.ofNat L) (hp : p + D < 1000) : fX5_reads F (Int32.ofNat D) lo hi (RM M (RA r0 p v) s) J = some (rde (M 9) L p (rdn (M 9) L D p 0) lo hi, RM M (RA r0 (rdn (M 9) L D p 0).1 (rdn (M 9) L D p 0).2) s, J) := by
  unfold fX5_reads
  rw [bnd_s, RM_u0, RA_s15, RM_0, RA_14, pv_rd11 hL h10 hp D p 0 F rfl (by omega), pv_rd68 hL h10 (by omega) (by have := rdn_in (t := M 9) (L := L) (d := D) (p := p) (v := 0); omega)]
/-- the end of an order; an order: its error (-1: none), the place behind it, its number -/
def ofi (t : M1) (L : Nat) (e : Int32) (q : Nat) (v : Int32) : Int32 × Nat × Int32 := if e = -1 then (if bt t L q = 59 then (-1, q + 1, v) else (Int32.ofNat q, q, v)) else (e, q, v)
noncomputable def osp (t : M1) (L p : Nat) : Int32 × Nat × Int32 :=
  if bt t L p = 100 then ofi t L (rde t L (p + 1) (rdn t L 4 (p + 1) 0) 0 3000) (rdn t L 4 (p + 1) 0).1 (rdn t L 4 (p + 1) 0).2
  else if bt t L p = 109 then ofi t L (rde t L (p + 1) (rdn t L 3 (p + 1) 0) 1 600) (rdn t L 3 (p + 1) 0).1 (rdn t L 3 (p + 1) 0).2
  else if bt t L p = 114 then ofi t L (-1) (p + 1) 0
  else if bt t L p = 116 ∨ bt t L p = 99 then ofi t L (if fX5_in (bt t L (p + 1)) 48 52 = 0 then Int32.ofNat (p + 1) else -1) (p + 2) (bt t L (p + 1) - 48)
  else (Int32.ofNat p, p, 0)
theorem ofi_ok {t : M1} {L q : Nat} {e v : Int32} (hq : q < 1000) (h : (ofi t L e q v).1 = -1) : e = -1 ∧ bt t L q = 59 ∧ (ofi t L e q v).2.1 = q + 1 ∧ (ofi t L e q v).2.2 = v := by
  unfold ofi at *
  by_cases h1 : e = -1
  · rw [if_pos h1] at h ⊢
    by_cases h2 : bt t L q = 59
    · rw [if_pos h2]; exact ⟨h1, h2, rfl, rfl⟩
    · rw [if_neg h2] at h
      exact absurd h (of_m1 (by omega))
  · rw [if_neg h1] at h
    exact absurd h h1
theorem pc_semi {M : M2} {J : J2} {t : M1} {L q : Nat} {e v : Int32} (h : TXc M t L) (hq : q < 1000) : fX2_readSemicolon (PM M q e) J = some (PM M (q + 1) (ofi t L e q v).1, J) := by
  unfold fX2_readSemicolon fbX2_readSemicolon_29 ofi
  rw [PM_3]
  by_cases h1 : e = -1
  · rw [if_neg (fun h => h h1), PM_2, pc_bt h.pm hq, Option.bind_some, if_pos h1]
    by_cases h2 : bt t L q = 59
    · rw [if_pos h2, if_pos h2, bnd_s, pn_s, PM_u2, h1]
    · rw [if_neg h2, if_neg h2, bnd_s, PM_u3, PM_2, bnd_s, pn_s, PM_u2]
  · rw [if_pos h1, if_neg h1, PM_2, bnd_s, pn_s, PM_u2]
theorem bt_in {t : M1} {L p : Nat} (ht : ∀ k, k < L → 0 ≤ (t k).toInt ∧ (t k).toInt ≤ 127) : -1 ≤ (bt t L p).toInt ∧ (bt t L p).toInt ≤ 127 := by
  unfold bt
  split
  · have := ht p (by assumption); omega
  · decide
theorem cmp_in {x : Int32} (h : -1 ≤ x.toInt ∧ x.toInt ≤ 127) : fX4_isWithin (x - 48) 0 4 = 0 ↔ fX5_in x 48 52 = 0 := by
  rw [wi_iff, in_iff, Int32.le_iff_toInt_le, Int32.le_iff_toInt_le, Int32.le_iff_toInt_le, Int32.le_iff_toInt_le]
  have a : (48 : Int32).toInt = 48 := by decide
  have b : (52 : Int32).toInt = 52 := by decide
  have c : (0 : Int32).toInt = 0 := by decide
  have d : (4 : Int32).toInt = 4 := by decide
  rw [pi_sub (by omega) (by omega), a, b, c, d]
  omega
theorem pc_order {F : Nat} {M : M2} {J : J2} {t : M1} {L p : Nat} (hF : 1000 ≤ F) (h : TXc M t L) (ht : ∀ k, k < L → 0 ≤ (t k).toInt ∧ (t k).toInt ≤ 127) (hp : p ≤ 200) : ∃ v q, fX2_readOrder F (bt t L p) (PM M p (-1)) J = some (v, PM M q (osp t L p).1, J) ∧ ((osp t L p).1 = -1 → q = (osp t L p).2.1 ∧ v = (osp t L p).2.2) := by
  have key : ∀ (q : Nat) (e v : Int32), q < 1000 → fbX2_readOrder_113 F v (PM M q e) J = some (v, PM M (q + 1) (ofi t L e q v).1, J) := by
    intro q e v hq
    unfold fbX2_readOrder_113
    rw [pc_semi (v := v) h hq, bd2_s]
  have fin : ∀ (q : Nat) (e v : Int32), q < 1000 → osp t L p = ofi t L e q v → ∃ v' q', (some (v, PM M (q + 1) (ofi t L e q v).1, J) : Option (Int32 × M2 × J2)) = some (v', PM M q' (osp t L p).1, J) ∧ ((osp t L p).1 = -1 → q' = (osp t L p).2.1 ∧ v' = (osp t L p).2.2) := by
    intro q e v hq ho
    rw [ho]
    refine ⟨v, q + 1, rfl, fun h1 => ?_⟩
    obtain ⟨-, -, a3, a4⟩ := ofi_ok hq h1
    exact ⟨a3.symm, a4.symm⟩
  have l6 : rowMost 6 = 3000 := by decide
  unfold fX2_readOrder
  rw [PM_2, pn_s, bnd_s, PM_u2]
  have comp : (bt t L p = 116 ∨ bt t L p = 99) → bd3 (fX2_readCompressor (PM M (p + 1) (-1)) J) (fun vv11 M9 J10 => fbX2_readOrder_113 F vv11 M9 J10) = some (bt t L (p + 1) - 48, PM M (p + 2 + 1) (ofi t L (if fX5_in (bt t L (p + 1)) 48 52 = 0 then Int32.ofNat (p + 1) else -1) (p + 2) (bt t L (p + 1) - 48)).1, J) := by
    intro _
    unfold fX2_readCompressor fbX2_readCompressor_29
    rw [PM_2, pc_bt h.pm (by omega), Option.bind_some]
    have hc := cmp_in (bt_in (L := L) (p := p + 1) ht)
    by_cases h1 : fX5_in (bt t L (p + 1)) 48 52 = 0
    · rw [if_neg (fun e => e (hc.mpr h1)), if_pos h1, bnd_s, PM_u3, PM_2, bnd_s, pn_s, PM_u2, bd3_s, key _ _ _ (by omega)]
    · rw [if_pos (fun e => h1 (hc.mp e)), if_neg h1, bnd_s, pn_s, PM_u2, bd3_s, key _ _ _ (by omega)]
  by_cases k1 : bt t L p = 99
  · rw [if_pos k1, comp (Or.inr k1)]
    refine fin _ _ _ (by omega) ?_
    unfold osp
    rw [if_neg (by rw [k1]; decide), if_neg (by rw [k1]; decide), if_neg (by rw [k1]; decide), if_pos (Or.inr k1)]
  rw [if_neg k1]
  by_cases k2 : bt t L p = 100
  · have hr := rdn_in (t := t) (L := L) (d := 4) (p := p + 1) (v := 0)
    rw [if_pos k2, l6, show (4 : Int32) = Int32.ofNat 4 from rfl, pc_rdn hF h (by omega), bd3_s, key _ _ _ (by omega)]
    refine fin _ _ _ (by omega) ?_
    unfold osp
    rw [if_pos k2]
  rw [if_neg k2]
  by_cases k3 : bt t L p = 109
  · have hr := rdn_in (t := t) (L := L) (d := 3) (p := p + 1) (v := 0)
    rw [if_pos k3, show (3 : Int32) = Int32.ofNat 3 from rfl, pc_rdn hF h (by omega), bd3_s, key _ _ _ (by omega)]
    refine fin _ _ _ (by omega) ?_
    unfold osp
    rw [if_neg k2, if_pos k3]
  rw [if_neg k3]
  by_cases k4 : bt t L p = 114
  · rw [if_pos k4, key _ _ _ (by omega)]
    refine fin _ _ _ (by omega) ?_
    unfold osp
    rw [if_neg k2, if_neg k3, if_pos k4]
  rw [if_neg k4]
  by_cases k5 : bt t L p = 116
  · rw [if_pos k5, comp (Or.inl k5)]
    refine fin _ _ _ (by omega) ?_
    unfold osp
    rw [if_neg k2, if_neg k3, if_neg k4, if_pos (Or.inl k5)]
  rw [if_neg k5, bnd_s, PM_u3, key _ _ _ (by omega)]
  have ho : osp t L p = (Int32.ofNat p, p, 0) := by
    unfold osp
    rw [if_neg k2, if_neg k3, if_neg k4, if_neg (fun e => e.elim k5 k1)]
  rw [ho]
  have h1 : (ofi t L (Int32.ofNat p) (p + 1) 0).1 = Int32.ofNat p := by unfold ofi; rw [if_neg (of_m1 (by omega))]
  rw [h1]
  exact ⟨_, _, rfl, fun h => absurd h (of_m1 (by omega))⟩
theorem pv_149 {F : Nat} {M : M2} {J : J2} {r0 s : M1} {L q : Nat} {e v : Int32} (hL : L ≤ 100) (h10 : r0 10 = Int32.ofNat L) (hq : q < 1000) : fbX5_order_149 F e (RM M (RA r0 q v) s) J = some ((ofi (M 9) L e q v).1, RM M (RA r0 (ofi (M 9) L e q v).2.1 v) s, J) := by
  unfold fbX5_order_149 fbX5_order_163 ofi
  by_cases h1 : e = -1
  · rw [if_neg (fun h => h h1), pv_bt hL (by rw [RA_o (by decide) (by decide)]; exact h10) RA_14 hq, Option.bind_some, if_pos h1]
    by_cases h2 : bt (M 9) L q = 59
    · rw [if_pos h2, if_pos h2, bnd_s, RM_0, RA_14, pn_s, RM_u0, RA_s14]
    · rw [if_neg h2, if_neg h2, if_neg (fun h => h h1), RM_0, RA_14]
  · rw [if_pos h1, if_pos h1, if_neg h1]
theorem pv_order {F : Nat} {M : M2} {J : J2} {r0 s : M1} {L p : Nat} {v : Int32} (hF : 1000 ≤ F) (hL : L ≤ 100) (h10 : r0 10 = Int32.ofNat L) (hp : p ≤ 200) : ∃ q' v', fX5_order F (RM M (RA r0 p v) s) J = some ((osp (M 9) L p).1, RM M (RA r0 q' v') s, J) ∧ ((osp (M 9) L p).1 = -1 → q' = (osp (M 9) L p).2.1 ∧ (¬ bt (M 9) L p = 114 → v' = (osp (M 9) L p).2.2)) := by
  have fin : ∀ (q : Nat) (e v : Int32), q < 1000 → osp (M 9) L p = ofi (M 9) L e q v → ∃ q' v', (some ((ofi (M 9) L e q v).1, RM M (RA r0 (ofi (M 9) L e q v).2.1 v) s, J) : Option (Int32 × M2 × J2)) = some ((osp (M 9) L p).1, RM M (RA r0 q' v') s, J) ∧ ((osp (M 9) L p).1 = -1 → q' = (osp (M 9) L p).2.1 ∧ (¬ bt (M 9) L p = 114 → v' = (osp (M 9) L p).2.2)) := by
    intro q e v hq ho
    rw [ho]
    refine ⟨_, v, rfl, fun h1 => ?_⟩
    obtain ⟨-, -, a3, a4⟩ := ofi_ok hq h1
    exact ⟨rfl, fun _ => a4.symm⟩
  have comp : (bt (M 9) L p = 116 ∨ bt (M 9) L p = 99) → ∃ q' v', fbX5_order_40 F (bt (M 9) L p) (RM M (RA r0 p v) s) J = some ((osp (M 9) L p).1, RM M (RA r0 q' v') s, J) ∧ ((osp (M 9) L p).1 = -1 → q' = (osp (M 9) L p).2.1 ∧ (¬ bt (M 9) L p = 114 → v' = (osp (M 9) L p).2.2)) := by
    intro hk
    have n1 : ¬ bt (M 9) L p = 100 := by rcases hk with h | h <;> rw [h] <;> decide
    have n2 : ¬ bt (M 9) L p = 109 := by rcases hk with h | h <;> rw [h] <;> decide
    have n3 : ¬ bt (M 9) L p = 114 := by rcases hk with h | h <;> rw [h] <;> decide
    unfold fbX5_order_40
    rw [RM_0, RA_14, pn_s, bnd_s, RM_u0, RA_s14, if_pos n1, if_pos n2, if_neg n3, pv_bt hL (by rw [RA_o (by decide) (by decide)]; exact h10) RA_14 (by omega), Option.bind_some, RM_0, RA_14]
    have ho : osp (M 9) L p = ofi (M 9) L (if fX5_in (bt (M 9) L (p + 1)) 48 52 = 0 then Int32.ofNat (p + 1) else -1) (p + 2) (bt (M 9) L (p + 1) - 48) := by
      unfold osp
      rw [if_neg n1, if_neg n2, if_neg n3, if_pos hk]
    unfold fbX5_order_118 fbX5_order_145
    rw [pv_bt hL (by rw [RA_o (by decide) (by decide)]; exact h10) RA_14 (by omega), Option.bind_some, Option.bind_some]
    simp only [bnd_s, RM_u0, RM_0, RA_s15, RA_14]
    by_cases h1 : fX5_in (bt (M 9) L (p + 1)) 48 52 = 0
    · rw [if_pos h1] at ho
      have o1 : ofi (M 9) L (Int32.ofNat (p + 1)) (p + 2) (bt (M 9) L (p + 1) - 48) = (Int32.ofNat (p + 1), p + 2, bt (M 9) L (p + 1) - 48) := by unfold ofi; rw [if_neg (of_m1 (by omega))]
      rw [o1] at ho
      rw [if_pos h1, if_pos (of_m1 (by omega)), Int32.add_zero, RA_s14, pv_149 hL h10 (by omega), ho]
      have o2 : (ofi (M 9) L (Int32.ofNat (p + 1)) (p + 1) (bt (M 9) L (p + 1) - 48)).1 = Int32.ofNat (p + 1) := by unfold ofi; rw [if_neg (of_m1 (by omega))]
      rw [o2]
      exact ⟨_, _, rfl, fun h => absurd h (of_m1 (by omega))⟩
    · rw [if_neg h1] at ho
      rw [if_neg h1, if_neg (fun h => h trivial), pn_s, RA_s14, pv_149 hL h10 (by omega)]
      exact fin _ _ _ (by omega) ho
  unfold fX5_order
  rw [pv_bt hL (by rw [RA_o (by decide) (by decide)]; exact h10) RA_14 (by omega), Option.bind_some]
  by_cases k2 : bt (M 9) L p = 100
  · have hr := rdn_in (t := M 9) (L := L) (d := 4) (p := p + 1) (v := 0)
    rw [if_pos k2]
    unfold fbX5_order_40
    rw [RM_0, RA_14, pn_s, bnd_s, RM_u0, RA_s14, if_neg (fun h => h k2), show (4 : Int32) = Int32.ofNat 4 from rfl, pv_rdn hF hL h10 (by omega), bd3_s, pv_149 hL h10 (by omega)]
    refine fin _ _ _ (by omega) ?_
    unfold osp
    rw [if_pos k2]
  rw [if_neg k2]
  by_cases k3 : bt (M 9) L p = 109
  · have hr := rdn_in (t := M 9) (L := L) (d := 3) (p := p + 1) (v := 0)
    rw [if_pos k3]
    unfold fbX5_order_40
    rw [RM_0, RA_14, pn_s, bnd_s, RM_u0, RA_s14, if_pos k2, if_neg (fun h => h k3), show (3 : Int32) = Int32.ofNat 3 from rfl, pv_rdn hF hL h10 (by omega), bd3_s, pv_149 hL h10 (by omega)]
    refine fin _ _ _ (by omega) ?_
    unfold osp
    rw [if_neg k2, if_pos k3]
  rw [if_neg k3]
  by_cases k5 : bt (M 9) L p = 116
  · rw [if_pos k5]; exact comp (Or.inl k5)
  rw [if_neg k5]
  by_cases k1 : bt (M 9) L p = 99
  · rw [if_pos k1]; exact comp (Or.inr k1)
  rw [if_neg k1]
  by_cases k4 : bt (M 9) L p = 114
  · rw [if_pos k4]
    unfold fbX5_order_40
    rw [RM_0, RA_14, pn_s, bnd_s, RM_u0, RA_s14, if_pos k2, if_pos k3, if_pos k4, pv_149 hL h10 (by omega)]
    have ho : osp (M 9) L p = ofi (M 9) L (-1) (p + 1) 0 := by
      unfold osp
      rw [if_neg k2, if_neg k3, if_pos k4]
    have o1 : (ofi (M 9) L (-1) (p + 1) v).1 = (osp (M 9) L p).1 ∧ (ofi (M 9) L (-1) (p + 1) v).2.1 = (osp (M 9) L p).2.1 := by
      rw [ho]
      unfold ofi
      rw [if_pos rfl, if_pos rfl]
      split <;> exact ⟨rfl, rfl⟩
    rw [o1.1, o1.2]
    exact ⟨_, _, rfl, fun _ => ⟨rfl, fun h => absurd k4 h⟩⟩
  rw [if_neg k4, RM_0, RA_14]
  have ho : osp (M 9) L p = (Int32.ofNat p, p, 0) := by
    unfold osp
    rw [if_neg k2, if_neg k3, if_neg k4, if_neg (fun e => e.elim k5 k1)]
  rw [ho]
  exact ⟨_, _, rfl, fun h => absurd h (of_m1 (by omega))⟩
/-- what an order without an error is -/
theorem osp_ok {t : M1} {L p : Nat} (hL : L ≤ 100) (hp : p ≤ 200) (h : (osp t L p).1 = -1) : p < L ∧ p + 1 ≤ (osp t L p).2.1 ∧ (osp t L p).2.1 ≤ L ∧ (bt t L p = 100 → 0 ≤ (osp t L p).2.2 ∧ (osp t L p).2.2 ≤ 3000) ∧ (bt t L p = 109 → 1 ≤ (osp t L p).2.2 ∧ (osp t L p).2.2 ≤ 600) ∧ (bt t L p = 99 ∨ bt t L p = 100 ∨ bt t L p = 109 ∨ bt t L p = 116 ∨ bt t L p = 114) := by
  have pl : ∀ x : Int32, ¬ x = -1 → bt t L p = x → p < L := by
    intro x hx hb
    unfold bt at hb
    by_cases h1 : p < L
    · exact h1
    · rw [if_neg h1] at hb; exact absurd hb.symm hx
  have ql : ∀ q, bt t L q = 59 → q < L := by
    intro q hb
    unfold bt at hb
    by_cases h1 : q < L
    · exact h1
    · rw [if_neg h1] at hb; exact absurd hb (by decide)
  have nin : ∀ {x lo hi : Int32}, ¬ fX5_in x lo hi = 0 → lo ≤ x ∧ x ≤ hi := fun {x lo hi} h => Decidable.not_not.mp (fun h2 => h (in_iff.mpr h2))
  by_cases k2 : bt t L p = 100
  · have hr := rdn_in (t := t) (L := L) (d := 4) (p := p + 1) (v := 0)
    have ho : osp t L p = ofi t L (rde t L (p + 1) (rdn t L 4 (p + 1) 0) 0 3000) (rdn t L 4 (p + 1) 0).1 (rdn t L 4 (p + 1) 0).2 := by unfold osp; rw [if_pos k2]
    rw [ho] at h ⊢
    obtain ⟨a1, a2, a3, a4⟩ := ofi_ok (by omega) h
    have h5 := ql _ a2
    rw [a3, a4]
    refine ⟨pl _ (by decide) k2, by omega, by omega, fun _ => nin (rde_ok (by omega) (by omega) a1), fun e => ?_, Or.inr (Or.inl k2)⟩
    rw [k2] at e; exact absurd e (by decide)
  by_cases k3 : bt t L p = 109
  · have hr := rdn_in (t := t) (L := L) (d := 3) (p := p + 1) (v := 0)
    have ho : osp t L p = ofi t L (rde t L (p + 1) (rdn t L 3 (p + 1) 0) 1 600) (rdn t L 3 (p + 1) 0).1 (rdn t L 3 (p + 1) 0).2 := by unfold osp; rw [if_neg k2, if_pos k3]
    rw [ho] at h ⊢
    obtain ⟨a1, a2, a3, a4⟩ := ofi_ok (by omega) h
    have h5 := ql _ a2
    rw [a3, a4]
    exact ⟨pl _ (by decide) k3, by omega, by omega, fun e => absurd e k2, fun _ => nin (rde_ok (by omega) (by omega) a1), Or.inr (Or.inr (Or.inl k3))⟩
  by_cases k4 : bt t L p = 114
  · have ho : osp t L p = ofi t L (-1) (p + 1) 0 := by unfold osp; rw [if_neg k2, if_neg k3, if_pos k4]
    rw [ho] at h ⊢
    obtain ⟨a1, a2, a3, a4⟩ := ofi_ok (by omega) h
    have h5 := ql _ a2
    rw [a3, a4]
    exact ⟨pl _ (by decide) k4, by omega, by omega, fun e => absurd e k2, fun e => absurd e k3, Or.inr (Or.inr (Or.inr (Or.inr k4)))⟩
  by_cases k5 : bt t L p = 116 ∨ bt t L p = 99
  · have ho : osp t L p = ofi t L (if fX5_in (bt t L (p + 1)) 48 52 = 0 then Int32.ofNat (p + 1) else -1) (p + 2) (bt t L (p + 1) - 48) := by unfold osp; rw [if_neg k2, if_neg k3, if_neg k4, if_pos k5]
    rw [ho] at h ⊢
    obtain ⟨a1, a2, a3, a4⟩ := ofi_ok (by omega) h
    have h5 := ql _ a2
    rw [a3, a4]
    refine ⟨k5.elim (pl _ (by decide)) (pl _ (by decide)), by omega, by omega, fun e => absurd e k2, fun e => absurd e k3, ?_⟩
    exact k5.elim (fun e => Or.inr (Or.inr (Or.inr (Or.inl e)))) Or.inl
  · have ho : osp t L p = (Int32.ofNat p, p, 0) := by unfold osp; rw [if_neg k2, if_neg k3, if_neg k4, if_neg k5]
    rw [ho] at h
    exact absurd h (of_m1 (by omega))
