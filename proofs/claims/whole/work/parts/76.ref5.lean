/-- a copying loop: k elements, from row r at g, to row d at f -/
def cpr {α : Type} (d r : Nat) (f g : Nat → Nat) (M : Nat → Nat → α) : Nat → (Nat → Nat → α)
  | 0 => M
  | k + 1 => up2 (cpr d r f g M k) d (f k) (cpr d r f g M k r (g k))
theorem cpr_o {α : Type} {d r : Nat} {f g : Nat → Nat} {M : Nat → Nat → α} {k x : Nat} (h : x ≠ d) : cpr d r f g M k x = M x := by
  induction k with
  | zero => rfl
  | succ k ih => unfold cpr up2; rw [sg_ne _ _ h, ih]
theorem cpr_out {α : Type} {d r : Nat} {f g : Nat → Nat} {M : Nat → Nat → α} {k i : Nat} (h : ∀ j, j < k → f j ≠ i) : cpr d r f g M k d i = M d i := by
  induction k with
  | zero => rfl
  | succ k ih =>
    unfold cpr
    rw [up2_ap, if_pos rfl, if_neg (fun e => h k (by omega) e.symm), ih (fun j hj => h j (by omega))]
theorem cpr_in {α : Type} {d r : Nat} {f g : Nat → Nat} {M : Nat → Nat → α} {k j : Nat} (h : j < k) (hf : ∀ i, i < k → i ≠ j → f i ≠ f j) (hg : r = d → ∀ i, i < k → i ≤ j → f i ≠ g j ∨ i = j) : cpr d r f g M k d (f j) = M r (g j) := by
  induction k with
  | zero => omega
  | succ k ih =>
    unfold cpr
    rw [up2_ap, if_pos rfl]
    by_cases e : k = j
    · subst e
      rw [if_pos rfl]
      by_cases hr : r = d
      · subst hr
        exact cpr_out (fun i hi => by rcases hg rfl i (by omega) (by omega) with h | h <;> omega)
      · rw [cpr_o hr]
    · rw [if_neg (fun h2 => hf k (by omega) e h2.symm), ih (by omega) (fun i hi hij => hf i (by omega) hij) (fun hr i hi hij => hg hr i (by omega) hij)]
theorem pl_holds2 {F : Nat} {M : M2} {J : J2} : ∀ d k m, k + d = 6 → d < m → fbX5_holds_28 F m (Int32.ofNat k) M (cpr 8 2 (fun i => i) (fun i => i) J k) = some (M, (cpr 8 2 (fun i => i) (fun i => i) J 6)) := by
  intro d
  induction d with
  | zero =>
    intro k m hk hm
    obtain ⟨m, rfl⟩ := fu hm
    obtain rfl : k = 6 := by omega
    rw [show fbX5_holds_28 F (m + 1) = fsX5_holds_28 F (fbX5_holds_28 F m) from rfl]
    unfold fsX5_holds_28
    rw [if_pos (by decide)]
    try rfl
  | succ d ih =>
    intro k m hk hm
    obtain ⟨m, rfl⟩ := fu hm
    rw [← ih (k + 1) m (by omega) (by omega)]
    rw [show fbX5_holds_28 F (m + 1) = fsX5_holds_28 F (fbX5_holds_28 F m) from rfl]
    unfold fsX5_holds_28
    rw [if_neg (fun h => by have h2 := (pn_le1 (by decide) (by omega)).mp h; have : 6 ≤ k := h2; omega)]
    simp (disch := omega) only [pn_add2, pn_mul1, pn_mul2, pn_add, chk_b, pn_in, bnd_s, pn_s]
    rfl
theorem pl_holds1 {F : Nat} {M : M2} {J : J2} : ∀ d k m, k + d = 61 → d < m → fbX5_holds_2 F m (Int32.ofNat k) (cpr 7 1 (fun i => i) (fun i => i) M k) J = fbX5_holds_28 F F 0 (cpr 7 1 (fun i => i) (fun i => i) M 61) J := by
  intro d
  induction d with
  | zero =>
    intro k m hk hm
    obtain ⟨m, rfl⟩ := fu hm
    obtain rfl : k = 61 := by omega
    rw [show fbX5_holds_2 F (m + 1) = fsX5_holds_2 F (fbX5_holds_2 F m) from rfl]
    unfold fsX5_holds_2
    rw [if_pos (by decide)]
    try rfl
  | succ d ih =>
    intro k m hk hm
    obtain ⟨m, rfl⟩ := fu hm
    rw [← ih (k + 1) m (by omega) (by omega)]
    rw [show fbX5_holds_2 F (m + 1) = fsX5_holds_2 F (fbX5_holds_2 F m) from rfl]
    unfold fsX5_holds_2
    rw [if_neg (fun h => by have h2 := (pn_le1 (by decide) (by omega)).mp h; have : 61 ≤ k := h2; omega)]
    simp (disch := omega) only [pn_add2, pn_mul1, pn_mul2, pn_add, chk_b, pn_in, bnd_s, pn_s]
    rfl
theorem pv_holds {F : Nat} {M : M2} {J : J2} (hF : 1000 ≤ F) : fX5_holds F M J = some (cpr 7 1 (fun i => i) (fun i => i) M 61, cpr 8 2 (fun i => i) (fun i => i) J 6) := by
  unfold fX5_holds
  rw [show (0 : Int32) = Int32.ofNat 0 from rfl]
  refine (pl_holds1 (F := F) (M := M) (J := J) 61 0 F (by omega) (by omega)).trans ?_
  rw [show (0 : Int32) = Int32.ofNat 0 from rfl]
  exact pl_holds2 (F := F) (M := cpr 7 1 (fun i => i) (fun i => i) M 61) (J := J) 6 0 F (by omega) (by omega)
theorem pl_lays2 {F : Nat} {M : M2} {J : J2} : ∀ d k m, k + d = 6 → d < m → fbX5_lays_28 F m (Int32.ofNat k) M (cpr 6 2 (fun i => i) (fun i => i) J k) = some (M, (cpr 6 2 (fun i => i) (fun i => i) J 6)) := by
  intro d
  induction d with
  | zero =>
    intro k m hk hm
    obtain ⟨m, rfl⟩ := fu hm
    obtain rfl : k = 6 := by omega
    rw [show fbX5_lays_28 F (m + 1) = fsX5_lays_28 F (fbX5_lays_28 F m) from rfl]
    unfold fsX5_lays_28
    rw [if_pos (by decide)]
    try rfl
  | succ d ih =>
    intro k m hk hm
    obtain ⟨m, rfl⟩ := fu hm
    rw [← ih (k + 1) m (by omega) (by omega)]
    rw [show fbX5_lays_28 F (m + 1) = fsX5_lays_28 F (fbX5_lays_28 F m) from rfl]
    unfold fsX5_lays_28
    rw [if_neg (fun h => by have h2 := (pn_le1 (by decide) (by omega)).mp h; have : 6 ≤ k := h2; omega)]
    simp (disch := omega) only [pn_add2, pn_mul1, pn_mul2, pn_add, chk_b, pn_in, bnd_s, pn_s]
    rfl
theorem pl_lays1 {F : Nat} {M : M2} {J : J2} : ∀ d k m, k + d = 61 → d < m → fbX5_lays_2 F m (Int32.ofNat k) (cpr 5 1 (fun i => i) (fun i => i) M k) J = fbX5_lays_28 F F 0 (cpr 5 1 (fun i => i) (fun i => i) M 61) J := by
  intro d
  induction d with
  | zero =>
    intro k m hk hm
    obtain ⟨m, rfl⟩ := fu hm
    obtain rfl : k = 61 := by omega
    rw [show fbX5_lays_2 F (m + 1) = fsX5_lays_2 F (fbX5_lays_2 F m) from rfl]
    unfold fsX5_lays_2
    rw [if_pos (by decide)]
    try rfl
  | succ d ih =>
    intro k m hk hm
    obtain ⟨m, rfl⟩ := fu hm
    rw [← ih (k + 1) m (by omega) (by omega)]
    rw [show fbX5_lays_2 F (m + 1) = fsX5_lays_2 F (fbX5_lays_2 F m) from rfl]
    unfold fsX5_lays_2
    rw [if_neg (fun h => by have h2 := (pn_le1 (by decide) (by omega)).mp h; have : 61 ≤ k := h2; omega)]
    simp (disch := omega) only [pn_add2, pn_mul1, pn_mul2, pn_add, chk_b, pn_in, bnd_s, pn_s]
    rfl
theorem pv_lays {F : Nat} {M : M2} {J : J2} (hF : 1000 ≤ F) : fX5_lays F M J = some (cpr 5 1 (fun i => i) (fun i => i) M 61, cpr 6 2 (fun i => i) (fun i => i) J 6) := by
  unfold fX5_lays
  rw [show (0 : Int32) = Int32.ofNat 0 from rfl]
  refine (pl_lays1 (F := F) (M := M) (J := J) 61 0 F (by omega) (by omega)).trans ?_
  rw [show (0 : Int32) = Int32.ofNat 0 from rfl]
  exact pl_lays2 (F := F) (M := cpr 5 1 (fun i => i) (fun i => i) M 61) (J := J) 6 0 F (by omega) (by omega)
theorem pl_restores2 {F : Nat} {M : M2} {J : J2} : ∀ d k m, k + d = 6 → d < m → fbX5_restores_28 F m (Int32.ofNat k) M (cpr 2 6 (fun i => i) (fun i => i) J k) = some (M, (cpr 2 6 (fun i => i) (fun i => i) J 6)) := by
  intro d
  induction d with
  | zero =>
    intro k m hk hm
    obtain ⟨m, rfl⟩ := fu hm
    obtain rfl : k = 6 := by omega
    rw [show fbX5_restores_28 F (m + 1) = fsX5_restores_28 F (fbX5_restores_28 F m) from rfl]
    unfold fsX5_restores_28
    rw [if_pos (by decide)]
    try rfl
  | succ d ih =>
    intro k m hk hm
    obtain ⟨m, rfl⟩ := fu hm
    rw [← ih (k + 1) m (by omega) (by omega)]
    rw [show fbX5_restores_28 F (m + 1) = fsX5_restores_28 F (fbX5_restores_28 F m) from rfl]
    unfold fsX5_restores_28
    rw [if_neg (fun h => by have h2 := (pn_le1 (by decide) (by omega)).mp h; have : 6 ≤ k := h2; omega)]
    simp (disch := omega) only [pn_add2, pn_mul1, pn_mul2, pn_add, chk_b, pn_in, bnd_s, pn_s]
    rfl
theorem pl_restores1 {F : Nat} {M : M2} {J : J2} : ∀ d k m, k + d = 61 → d < m → fbX5_restores_2 F m (Int32.ofNat k) (cpr 1 5 (fun i => i) (fun i => i) M k) J = fbX5_restores_28 F F 0 (cpr 1 5 (fun i => i) (fun i => i) M 61) J := by
  intro d
  induction d with
  | zero =>
    intro k m hk hm
    obtain ⟨m, rfl⟩ := fu hm
    obtain rfl : k = 61 := by omega
    rw [show fbX5_restores_2 F (m + 1) = fsX5_restores_2 F (fbX5_restores_2 F m) from rfl]
    unfold fsX5_restores_2
    rw [if_pos (by decide)]
    try rfl
  | succ d ih =>
    intro k m hk hm
    obtain ⟨m, rfl⟩ := fu hm
    rw [← ih (k + 1) m (by omega) (by omega)]
    rw [show fbX5_restores_2 F (m + 1) = fsX5_restores_2 F (fbX5_restores_2 F m) from rfl]
    unfold fsX5_restores_2
    rw [if_neg (fun h => by have h2 := (pn_le1 (by decide) (by omega)).mp h; have : 61 ≤ k := h2; omega)]
    simp (disch := omega) only [pn_add2, pn_mul1, pn_mul2, pn_add, chk_b, pn_in, bnd_s, pn_s]
    rfl
theorem pv_restores {F : Nat} {M : M2} {J : J2} (hF : 1000 ≤ F) : fX5_restores F M J = some (cpr 1 5 (fun i => i) (fun i => i) M 61, cpr 2 6 (fun i => i) (fun i => i) J 6) := by
  unfold fX5_restores
  rw [show (0 : Int32) = Int32.ofNat 0 from rfl]
  refine (pl_restores1 (F := F) (M := M) (J := J) 61 0 F (by omega) (by omega)).trans ?_
  rw [show (0 : Int32) = Int32.ofNat 0 from rfl]
  exact pl_restores2 (F := F) (M := cpr 1 5 (fun i => i) (fun i => i) M 61) (J := J) 6 0 F (by omega) (by omega)
theorem pl_saves113 {F : Nat} {M : M2} {J : J2} {p : Nat} (hp : p < 4) (h8 : M 0 8 = Int32.ofNat p) : ∀ d k m, k + d = 6 → d < m → fbX5_saves_113 F m (Int32.ofNat k) M (cpr 4 8 (fun i => 6 * p + i) (fun i => i) J k) = some (up2 M 0 8 (M 0 8 + 1), (cpr 4 8 (fun i => 6 * p + i) (fun i => i) J 6)) := by
  intro d
  induction d with
  | zero =>
    intro k m hk hm
    obtain ⟨m, rfl⟩ := fu hm
    obtain rfl : k = 6 := by omega
    rw [show fbX5_saves_113 F (m + 1) = fsX5_saves_113 F (fbX5_saves_113 F m) from rfl]
    unfold fsX5_saves_113
    rw [if_pos (by decide)]
    try rfl
  | succ d ih =>
    intro k m hk hm
    obtain ⟨m, rfl⟩ := fu hm
    rw [← ih (k + 1) m (by omega) (by omega)]
    rw [show fbX5_saves_113 F (m + 1) = fsX5_saves_113 F (fbX5_saves_113 F m) from rfl]
    unfold fsX5_saves_113
    rw [if_neg (fun h => by have h2 := (pn_le1 (by decide) (by omega)).mp h; have : 6 ≤ k := h2; omega)]
    rw [h8]
    simp (disch := omega) only [pn_add2, pn_mul1, pn_mul2, pn_add, chk_b, pn_in, bnd_s, pn_s]
    rfl
theorem pl_saves79 {F : Nat} {M : M2} {J : J2} {p : Nat} (hp : p < 4) (h8 : M 0 8 = Int32.ofNat p) : ∀ d k m, k + d = 61 → d < m → fbX5_saves_79 F m (Int32.ofNat k) (cpr 3 7 (fun i => 61 * p + i) (fun i => i) M k) J = fbX5_saves_113 F F 0 (cpr 3 7 (fun i => 61 * p + i) (fun i => i) M 61) J := by
  intro d
  induction d with
  | zero =>
    intro k m hk hm
    obtain ⟨m, rfl⟩ := fu hm
    obtain rfl : k = 61 := by omega
    rw [show fbX5_saves_79 F (m + 1) = fsX5_saves_79 F (fbX5_saves_79 F m) from rfl]
    unfold fsX5_saves_79
    rw [if_pos (by decide)]
    try rfl
  | succ d ih =>
    intro k m hk hm
    obtain ⟨m, rfl⟩ := fu hm
    rw [← ih (k + 1) m (by omega) (by omega)]
    rw [show fbX5_saves_79 F (m + 1) = fsX5_saves_79 F (fbX5_saves_79 F m) from rfl]
    unfold fsX5_saves_79
    rw [if_neg (fun h => by have h2 := (pn_le1 (by decide) (by omega)).mp h; have : 61 ≤ k := h2; omega)]
    rw [cpr_o (by decide), h8]
    simp (disch := omega) only [pn_add2, pn_mul1, pn_mul2, pn_add, chk_b, pn_in, bnd_s, pn_s]
    rfl
theorem pl_saves40 {F : Nat} {M : M2} {J : J2} : ∀ d k m, k + d = 18 → d < m → fbX5_saves_40 F m (Int32.ofNat k) M (cpr 4 4 (fun i => i) (fun i => i + 6) J k) = fbX5_saves_77 F (up2 M 0 8 (M 0 8 - 1)) (cpr 4 4 (fun i => i) (fun i => i + 6) J 18) := by
  intro d
  induction d with
  | zero =>
    intro k m hk hm
    obtain ⟨m, rfl⟩ := fu hm
    obtain rfl : k = 18 := by omega
    rw [show fbX5_saves_40 F (m + 1) = fsX5_saves_40 F (fbX5_saves_40 F m) from rfl]
    unfold fsX5_saves_40
    rw [if_pos (by decide)]
    try rfl
  | succ d ih =>
    intro k m hk hm
    obtain ⟨m, rfl⟩ := fu hm
    rw [← ih (k + 1) m (by omega) (by omega)]
    rw [show fbX5_saves_40 F (m + 1) = fsX5_saves_40 F (fbX5_saves_40 F m) from rfl]
    unfold fsX5_saves_40
    rw [if_neg (fun h => by have h2 := (pn_le1 (by decide) (by omega)).mp h; have : 18 ≤ k := h2; omega)]
    simp (disch := omega) only [pn_add2, pn_mul1, pn_mul2, pn_add, chk_b, pn_in, bnd_s, pn_s]
    rfl
theorem pl_saves10 {F : Nat} {M : M2} {J : J2} : ∀ d k m, k + d = 183 → d < m → fbX5_saves_10 F m (Int32.ofNat k) (cpr 3 3 (fun i => i) (fun i => i + 61) M k) J = fbX5_saves_40 F F 0 (cpr 3 3 (fun i => i) (fun i => i + 61) M 183) J := by
  intro d
  induction d with
  | zero =>
    intro k m hk hm
    obtain ⟨m, rfl⟩ := fu hm
    obtain rfl : k = 183 := by omega
    rw [show fbX5_saves_10 F (m + 1) = fsX5_saves_10 F (fbX5_saves_10 F m) from rfl]
    unfold fsX5_saves_10
    rw [if_pos (by decide)]
    try rfl
  | succ d ih =>
    intro k m hk hm
    obtain ⟨m, rfl⟩ := fu hm
    rw [← ih (k + 1) m (by omega) (by omega)]
    rw [show fbX5_saves_10 F (m + 1) = fsX5_saves_10 F (fbX5_saves_10 F m) from rfl]
    unfold fsX5_saves_10
    rw [if_neg (fun h => by have h2 := (pn_le1 (by decide) (by omega)).mp h; have : 183 ≤ k := h2; omega)]
    simp (disch := omega) only [pn_add2, pn_mul1, pn_mul2, pn_add, chk_b, pn_in, bnd_s, pn_s]
    rfl
theorem pl_undo59 {F : Nat} {M : M2} {J : J2} {p : Nat} (hp : p < 4) (h8 : M 0 8 = Int32.ofNat p) : ∀ d k m, k + d = 6 → d < m → fbX5_undo_59 F m (Int32.ofNat k) M (cpr 2 4 (fun i => i) (fun i => 6 * p + i) J k) = bd3 (fX5_tells (M 0 8) M (cpr 2 4 (fun i => i) (fun i => 6 * p + i) J 6)) (fun vv5 M3 J3 => some (vv5, M3, J3)) := by
  intro d
  induction d with
  | zero =>
    intro k m hk hm
    obtain ⟨m, rfl⟩ := fu hm
    obtain rfl : k = 6 := by omega
    rw [show fbX5_undo_59 F (m + 1) = fsX5_undo_59 F (fbX5_undo_59 F m) from rfl]
    unfold fsX5_undo_59
    rw [if_pos (by decide)]
    try rfl
  | succ d ih =>
    intro k m hk hm
    obtain ⟨m, rfl⟩ := fu hm
    rw [← ih (k + 1) m (by omega) (by omega)]
    rw [show fbX5_undo_59 F (m + 1) = fsX5_undo_59 F (fbX5_undo_59 F m) from rfl]
    unfold fsX5_undo_59
    rw [if_neg (fun h => by have h2 := (pn_le1 (by decide) (by omega)).mp h; have : 6 ≤ k := h2; omega)]
    rw [h8]
    simp (disch := omega) only [pn_add2, pn_mul1, pn_mul2, pn_add, chk_b, pn_in, bnd_s, pn_s]
    rfl
theorem pl_undo25 {F : Nat} {M : M2} {J : J2} {p : Nat} (hp : p < 4) (h8 : M 0 8 = Int32.ofNat p) : ∀ d k m, k + d = 61 → d < m → fbX5_undo_25 F m (Int32.ofNat k) (cpr 1 3 (fun i => i) (fun i => 61 * p + i) M k) J = fbX5_undo_59 F F 0 (cpr 1 3 (fun i => i) (fun i => 61 * p + i) M 61) J := by
  intro d
  induction d with
  | zero =>
    intro k m hk hm
    obtain ⟨m, rfl⟩ := fu hm
    obtain rfl : k = 61 := by omega
    rw [show fbX5_undo_25 F (m + 1) = fsX5_undo_25 F (fbX5_undo_25 F m) from rfl]
    unfold fsX5_undo_25
    rw [if_pos (by decide)]
    try rfl
  | succ d ih =>
    intro k m hk hm
    obtain ⟨m, rfl⟩ := fu hm
    rw [← ih (k + 1) m (by omega) (by omega)]
    rw [show fbX5_undo_25 F (m + 1) = fsX5_undo_25 F (fbX5_undo_25 F m) from rfl]
    unfold fsX5_undo_25
    rw [if_neg (fun h => by have h2 := (pn_le1 (by decide) (by omega)).mp h; have : 61 ≤ k := h2; omega)]
    rw [cpr_o (by decide), h8]
    simp (disch := omega) only [pn_add2, pn_mul1, pn_mul2, pn_add, chk_b, pn_in, bnd_s, pn_s]
    rfl
