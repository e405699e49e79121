theorem up2_ap {α : Type} (M : Nat → Nat → α) (r k r' j : Nat) (v : α) : up2 M r k v r' j = if r' = r then (if j = k then v else M r j) else M r' j := by
  unfold up2
  by_cases h : r' = r
  · subst h; rw [sg_eq, if_pos rfl]; rfl
  · rw [sg_ne _ _ h, if_neg h]
theorem pc_lt5 {k : Nat} (h : k < 5) : ¬ (5 : Int32) ≤ Int32.ofNat k := fun h2 => by have h3 := (pn_le1 (by decide) (by omega)).mp h2; have : 5 ≤ k := h3; omega
theorem pc_ge5 {k : Nat} (h : k = 5) : (5 : Int32) ≤ Int32.ofNat k := by subst h; decide
theorem pc_rankL {F : Nat} {M : M2} {J : J2} {s : M1} {n c : Nat} (hn : n ≤ 5) (h10 : M 0 5 = Int32.ofNat n) (hm : ∀ c, c < n → M (5 + c) 3 = s (21 + 7 * c + 2)) (hc : c < 5) : ∀ d k m, k + d = 5 → d < m → fbX3_stageByMinutes_5 F M J m (Int32.ofNat c) (s (21 + 7 * c + 2)) (Int32.ofNat (rkk s c (if k < n then k else n))) (Int32.ofNat k) = some (Int32.ofNat (rkk s c n)) := by
  intro d
  induction d with
  | zero =>
    intro k m hk hmm
    obtain ⟨m, rfl⟩ := fu hmm
    show fsX3_stageByMinutes_5 F M J _ _ _ _ _ = _
    unfold fsX3_stageByMinutes_5
    rw [if_pos (pc_ge5 (by omega)), if_neg (by omega)]
  | succ d ih =>
    intro k m hk hmm
    obtain ⟨m, rfl⟩ := fu hmm
    show fsX3_stageByMinutes_5 F M J (fbX3_stageByMinutes_5 F M J m) _ _ _ _ = _
    unfold fsX3_stageByMinutes_5
    rw [← ih (k + 1) m (by omega) (by omega), if_neg (pc_lt5 (by omega)), pc_num hn h10 (by omega)]
    simp only [Option.bind_some, fbX3_stageByMinutes_51, fbX3_stageByMinutes_48, pn_s]
    by_cases h : k < n
    · simp only [if_pos h, oc_ss]
      rw [chk_t (pc_isC (by omega)), hm k h]
      have e : (if k + 1 < n then k + 1 else n) = k + 1 := by split <;> omega
      rw [e]
      simp (disch := omega) only [rkk, pn_le]
      grind
    · simp only [if_neg h, oc_ns]
      rw [if_neg (by omega)]
theorem pc_rank {F : Nat} {M : M2} {J : J2} {s : M1} {n c : Nat} (hF : 1000 ≤ F) (hn : n ≤ 5) (h10 : M 0 5 = Int32.ofNat n) (hm : ∀ c, c < n → M (5 + c) 3 = s (21 + 7 * c + 2)) (hc : c < 5) : fX3_stageByMinutes F M J (Int32.ofNat c) (s (21 + 7 * c + 2)) = some (Int32.ofNat (rkk s c n)) := by
  have h := pc_rankL (F := F) (J := J) hn h10 hm hc 5 0 F (by omega) (by omega)
  have e : (if 0 < n then 0 else n) = 0 := by split <;> omega
  rw [e] at h
  exact h
/-- the stages of the first k written over -/
def rst (M : M2) (s : M1) (n k : Nat) : M2 := fun r j => if j = 2 ∧ 5 ≤ r ∧ r < 5 + k ∧ r < 5 + n then Int32.ofNat (rkk s (r - 5) n) else M r j
theorem rst_o {M : M2} {s : M1} {n k r j : Nat} (h : j ≠ 2 ∨ r < 5 ∨ 5 + k ≤ r ∨ 5 + n ≤ r) : rst M s n k r j = M r j := if_neg (by omega)
theorem rst_in {M : M2} {s : M1} {n k c : Nat} (h : c < k) (h2 : c < n) : rst M s n k (5 + c) 2 = Int32.ofNat (rkk s c n) := by
  unfold rst
  rw [if_pos (by omega), show 5 + c - 5 = c by omega]
theorem rst_s {M : M2} {s : M1} {n k : Nat} (h : k < n) : up2 (rst M s n k) (5 + k) 2 (Int32.ofNat (rkk s k n)) = rst M s n (k + 1) := by
  funext r j
  rw [up2_ap]
  by_cases hr : r = 5 + k
  · subst hr
    rw [if_pos rfl]
    by_cases hj : j = 2
    · subst hj; rw [if_pos rfl, rst_in (by omega) h]
    · rw [if_neg hj, rst_o (Or.inl hj), rst_o (Or.inl hj)]
  · rw [if_neg hr]
    unfold rst
    by_cases h2 : j = 2 ∧ 5 ≤ r ∧ r < 5 + k ∧ r < 5 + n
    · rw [if_pos h2, if_pos (by omega)]
    · rw [if_neg h2, if_neg (by omega)]
theorem rst_n {M : M2} {s : M1} {n k : Nat} (h : n ≤ k) : rst M s n (k + 1) = rst M s n k := by
  funext r j
  unfold rst
  by_cases h2 : j = 2 ∧ 5 ≤ r ∧ r < 5 + k ∧ r < 5 + n
  · rw [if_pos h2, if_pos (by omega)]
  · rw [if_neg h2, if_neg (by omega)]
theorem pc_rotL {F : Nat} {M : M2} {J : J2} {s : M1} {n : Nat} (hF : 1000 ≤ F) (hn : n ≤ 5) (h10 : M 0 5 = Int32.ofNat n) (hm : ∀ c, c < n → RC M s c) (hp : Prm n s) : ∀ d k m, k + d = 5 → d < m → fbX3_reorder_4 F m (Int32.ofNat (mvk s n (if k < n then k else n))) (Int32.ofNat k) (rst M s n k) J = some (Int32.ofNat (mvk s n n), up2 (up2 (rst M s n 5) 0 4 (M 0 4 + 1)) 0 3 0, J) := by
  intro d
  induction d with
  | zero =>
    intro k m hk hmm
    obtain ⟨m, rfl⟩ := fu hmm
    show fsX3_reorder_4 F _ _ _ _ _ = _
    unfold fsX3_reorder_4
    rw [if_pos (pc_ge5 (by omega)), if_neg (by omega), rst_o (by omega), show k = 5 by omega]
    rfl
  | succ d ih =>
    intro k m hk hmm
    obtain ⟨m, rfl⟩ := fu hmm
    show fsX3_reorder_4 F (fbX3_reorder_4 F m) _ _ _ _ = _
    unfold fsX3_reorder_4
    rw [← ih (k + 1) m (by omega) (by omega), if_neg (pc_lt5 (by omega)), pc_num hn (by rw [rst_o (by omega)]; exact h10) (by omega)]
    simp only [Option.bind_some, fbX3_reorder_48, fbX3_reorder_42, pn_s]
    by_cases h : k < n
    · simp only [if_pos h, oc_ss]
      obtain ⟨e0, e1, e2, e3, -⟩ := hm k h
      rw [chk_t (pc_isC (by omega)), rst_o (by omega), rst_o (by omega), e3, e2]
      rw [pc_rank hF hn (by rw [rst_o (by omega)]; exact h10) (fun c hc => by rw [rst_o (by omega)]; exact (hm c hc).2.2.2.1) (by omega)]
      have e : (if k + 1 < n then k + 1 else n) = k + 1 := by split <;> omega
      have l1 := rkk_lt (s := s) (c := k) (k := n) h
      have l2 := (hp.at_ k h).1
      rw [e]
      simp (disch := omega) only [Option.bind_some, bnd_s, rst_s h, pn_eq, mvk]
      split <;> rfl
    · simp only [if_neg h, oc_ns]
      rw [if_neg (by omega), rst_n (by omega)]
theorem pc_rot {F : Nat} {M : M2} {J : J2} {s : M1} {b : J1} {n : Nat} (hF : 1000 ≤ F) (hn : n ≤ 5) (hc : s 10 = Int32.ofNat n) (hp : Prm n s) (h : Rep n M J s b) : ∃ M', fX3_reorder F M J = some (Int32.ofNat (mvk s n n), M', J) ∧ Rep n M' J (rots s n) b := by
  have h10 : M 0 5 = Int32.ofNat n := by rw [h.o.2.2.2.2.2.1, hc]
  refine ⟨up2 (up2 (rst M s n 5) 0 4 (M 0 4 + 1)) 0 3 0, ?_, ?_⟩
  · have e := pc_rotL (F := F) (J := J) hF hn h10 h.c hp 5 0 F (by omega) (by omega)
    have e1 : (if 0 < n then 0 else n) = 0 := by split <;> omega
    have e2 : rst M s n 0 = M := by funext r j; exact rst_o (by omega)
    rw [e1, e2] at e
    exact e
  · obtain ⟨o0, o1, o2, o3, o4, o5, o6⟩ := h.o
    have ro : ∀ i, i < 56 → i ≠ 12 → i ≠ 13 → rots s n i = s i := fun i h1 h2 h3 => rots_at h1 h2 h3
    have r12 : rots s n 12 = 0 := by unfold rots; rw [sg_ne _ _ (by decide), sg_eq]
    have r13 : rots s n 13 = s 13 + 1 := by unfold rots; rw [sg_eq]
    have mo : ∀ r j, r ≠ 0 → up2 (up2 (rst M s n 5) 0 4 (M 0 4 + 1)) 0 3 0 r j = rst M s n 5 r j := fun r j hr => by
      unfold up2; rw [sg_ne _ _ hr, sg_ne _ _ hr]
    have m0 : ∀ j, up2 (up2 (rst M s n 5) 0 4 (M 0 4 + 1)) 0 3 0 0 j = if j = 3 then 0 else if j = 4 then M 0 4 + 1 else M 0 j := fun j => by
      simp only [up2_ap]; simp
      rw [rst_o (by omega)]
    refine ⟨?_, fun k hk => ?_, h.am, fun c hc => ?_, fun r hr h14 k hk => ?_⟩
    · unfold RO
      simp only [m0]
      rw [ro 0 (by omega) (by omega) (by omega), ro 1 (by omega) (by omega) (by omega), ro 11 (by omega) (by omega) (by omega), ro 10 (by omega) (by omega) (by omega), ro 14 (by omega) (by omega) (by omega), r12, r13]
      simp [o0, o1, o2, o4, o5, o6]
    · rw [mo _ _ (by omega), rst_o (by omega), ro _ (by omega) (by omega) (by omega)]; exact h.st k hk
    · obtain ⟨e0, e1, e2, e3, e4, e5, e6, e7⟩ := h.c c hc
      unfold RC
      rw [(rots_prm hn).2 c hc, mo _ _ (by omega), mo _ _ (by omega), mo _ _ (by omega), mo _ _ (by omega), mo _ _ (by omega), mo _ _ (by omega), mo _ _ (by omega), mo _ _ (by omega), rst_in (by omega) hc, rst_o (by omega), rst_o (by omega), rst_o (by omega), rst_o (by omega), rst_o (by omega), rst_o (by omega), rst_o (by omega)]
      rw [ro _ (by omega) (by omega) (by omega), ro _ (by omega) (by omega) (by omega), ro _ (by omega) (by omega) (by omega), ro _ (by omega) (by omega) (by omega), ro _ (by omega) (by omega) (by omega), ro _ (by omega) (by omega) (by omega), ro _ (by omega) (by omega) (by omega)]
      exact ⟨e0, e1, rfl, e3, e4, e5, e6, e7⟩
    · rw [ro 14 (by omega) (by omega) (by omega)] at h14
      rw [mo _ _ (by omega), rst_o (by omega), ro _ (by omega) (by omega) (by omega)]
      exact h.r r hr h14 k hk
