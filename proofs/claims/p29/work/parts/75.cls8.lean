theorem up3_sg {α : Type} (G : Nat → Nat → Nat → α) (g : Nat) (M : Nat → Nat → α) (r k : Nat) (v : α) : up3 (sg G g M) g r k v = sg G g (up2 M r k v) := by
  unfold up3; rw [sg_eq, sg_sg]
/-- a state's scalars, then rows, taken over from another's -/
def tk0 (M N : M2) : M2 := up2 (up2 (up2 (up2 (up2 (up2 (up2 M 0 0 (N 0 0)) 0 1 (N 0 1)) 0 2 (N 0 2)) 0 3 (N 0 3)) 0 4 (N 0 4)) 0 5 (N 0 5)) 0 6 (N 0 6)
def tk1 (M N : M2) : M2 := sg (sg (tk0 M N) 1 (cpy (N 1) (tk0 M N 1) 8)) 3 (cpy (N 3) (tk0 M N 3) 6)
def tkq (M N : M2) (q : Nat) : M2 := up2 (up2 (up2 (up2 (up2 (up2 (up2 (up2 M q 0 (N q 0)) q 1 (N q 1)) q 2 (N q 2)) q 3 (N q 3)) q 4 (N q 4)) q 5 (N q 5)) q 6 (N q 6)) q 7 (N q 7)
def tkk (M N : M2) (n : Nat) : Nat → M2
  | 0 => tk1 M N
  | k + 1 => if k < n then tkq (tkk M N n k) N (5 + k) else tkk M N n k
theorem tkq_o {M N : M2} {q r : Nat} (h : r ≠ q) : tkq M N q r = M r := by
  unfold tkq
  funext j
  simp only [up2_ap]
  simp [h]
theorem tkq_in {M N : M2} {q j : Nat} (h : j < 8) : tkq M N q q j = N q j := by
  unfold tkq
  simp only [up2_ap]
  simp
  grind
theorem tkk_o {M N : M2} {n k r : Nat} (h : r < 5) : tkk M N n k r = tk1 M N r := by
  induction k with
  | zero => rfl
  | succ k ih =>
    unfold tkk
    split
    · rw [tkq_o (by omega), ih]
    · exact ih
theorem tkk_in {M N : M2} {n k c j : Nat} (h : c < k) (hn : c < n) (hj : j < 8) : tkk M N n k (5 + c) j = N (5 + c) j := by
  induction k with
  | zero => omega
  | succ k ih =>
    unfold tkk
    by_cases e : c = k
    · subst e; rw [if_pos hn, tkq_in hj]
    · split
      · rw [tkq_o (by omega), ih (by omega)]
      · exact ih (by omega)
theorem tk0_0 {M N : M2} {j : Nat} (h : j < 7) : tk0 M N 0 j = N 0 j := by
  unfold tk0
  simp only [up2_ap]
  simp
  grind
theorem tk0_o {M N : M2} {r : Nat} (h : r ≠ 0) : tk0 M N r = M r := by
  unfold tk0
  funext j
  simp only [up2_ap]
  simp [h]
theorem tk1_0 {M N : M2} {j : Nat} (h : j < 7) : tk1 M N 0 j = N 0 j := by
  unfold tk1
  rw [sg_ne _ _ (by decide), sg_ne _ _ (by decide), tk0_0 h]
theorem pc_tkL {F : Nat} {G : M3} {K : J3} {J' : J2} {g g' n : Nat} (hg : g' ≠ g) (hn : n ≤ 5) (h10 : G g' 0 5 = Int32.ofNat n) : ∀ d k m, k + d = 5 → d < m → fbX3_takeOver_103 F g g' m (Int32.ofNat k) (sg G g (tkk (G g) (G g') n k)) (sg K g J') = some (sg G g (tkk (G g) (G g') n 5), sg K g J') := by
  intro d
  induction d with
  | zero =>
    intro k m hk hm
    obtain ⟨m, rfl⟩ := fu hm
    rw [show fbX3_takeOver_103 F g g' (m + 1) = fsX3_takeOver_103 F g g' (fbX3_takeOver_103 F g g' m) from rfl]
    unfold fsX3_takeOver_103
    rw [if_pos (pc_ge5 (k := k) (by omega)), show k = 5 by omega]
  | succ d ih =>
    intro k m hk hm
    obtain ⟨m, rfl⟩ := fu hm
    rw [← ih (k + 1) m (by omega) (by omega)]
    rw [show fbX3_takeOver_103 F g g' (m + 1) = fsX3_takeOver_103 F g g' (fbX3_takeOver_103 F g g' m) from rfl]
    unfold fsX3_takeOver_103
    rw [if_neg (pc_lt5 (k := k) (by omega)), sg_eq, sg_ne _ _ hg, pc_num hn (by rw [tkk_o (by omega), tk1_0 (by omega)]; exact h10) (by omega), pc_num hn h10 (by omega)]
    simp only [Option.bind_some, fbX3_takeOver_136, pn_s]
    by_cases h : k < n
    · simp only [if_pos h, oc_ss]
      rw [chk_t (pc_isC (by omega)), chk_t (pc_isC (by omega))]
      have e : fX0_takeOver g (5 + k) g' (5 + k) (sg G g (tkk (G g) (G g') n k)) (sg K g J') = some (sg G g (tkk (G g) (G g') n (k + 1)), sg K g J') := by
        unfold fX0_takeOver
        simp only [bnd_s, up3_sg, sg_ne _ _ hg]
        rw [show tkk (G g) (G g') n (k + 1) = tkq (tkk (G g) (G g') n k) (G g') (5 + k) from if_pos h]
        rfl
      rw [e, bd2_s]
    · simp only [if_neg h, oc_ns]
      rw [show tkk (G g) (G g') n (k + 1) = tkk (G g) (G g') n k from if_neg h]
theorem pc_tk {F : Nat} {G : M3} {K : J3} {g g' n : Nat} {s : M1} {b : J1} (hF : 1000 ≤ F) (hg : g' ≠ g) (hn : n ≤ 5) (hc : s 10 = Int32.ofNat n) (h : Rep n (G g') (K g') s b) : ∃ M' J', fX3_takeOver F g g' G K = some (sg G g M', sg K g J') ∧ Rep n M' J' s b := by
  have h10 : G g' 0 5 = Int32.ofNat n := by rw [h.o.2.2.2.2.2.1, hc]
  refine ⟨tkk (G g) (G g') n 5, sg (K g) 2 (cpy (K g' 2) (K g 2) 6), ?_, ?_⟩
  · have e := pc_tkL (F := F) (K := K) (J' := sg (K g) 2 (cpy (K g' 2) (K g 2) 6)) hg hn h10 5 0 F (by omega) (by omega)
    refine Eq.trans ?_ e
    unfold fX3_takeOver
    conv => lhs; rw [← sg_self G g]
    simp only [bnd_s, up3_sg, sg_ne _ _ hg, sg_eq, sg_sg]
    rfl
  · refine ⟨?_, fun k hk => ?_, fun k hk => ?_, fun c hcn => ?_, fun r hr h14 k hk => ?_⟩
    · have h2 := h.o
      unfold RO at *
      rw [tkk_o (by omega), tk1_0 (by omega), tk1_0 (by omega), tk1_0 (by omega), tk1_0 (by omega), tk1_0 (by omega), tk1_0 (by omega), tk1_0 (by omega)]
      exact h2
    · rw [tkk_o (by omega)]
      unfold tk1
      rw [sg_ne _ _ (by decide), sg_eq]
      unfold cpy
      rw [if_pos hk]; exact h.st k hk
    · rw [sg_eq]
      unfold cpy
      rw [if_pos hk]; exact h.am k hk
    · have h2 := h.c c hcn
      unfold RC at *
      rw [tkk_in (by omega) hcn (by omega), tkk_in (by omega) hcn (by omega), tkk_in (by omega) hcn (by omega), tkk_in (by omega) hcn (by omega), tkk_in (by omega) hcn (by omega), tkk_in (by omega) hcn (by omega), tkk_in (by omega) hcn (by omega), tkk_in (by omega) hcn (by omega)]
      exact h2
    · rw [tkk_o (by omega)]
      unfold tk1
      rw [sg_eq]
      unfold cpy
      rw [if_pos (by omega)]; exact h.r r hr h14 k hk
theorem Rep_cg {n : Nat} {M : M2} {J : J2} {s t : M1} {b c : J1} (h : Rep n M J s b) (hn : n ≤ 5) (hs : ∀ i, i < 61 → t i = s i) (hb : ∀ k, k < 6 → c k = b k) : Rep n M J t c := by
  refine ⟨?_, fun k hk => ?_, fun k hk => ?_, fun d hd => ?_, fun r hr h14 k hk => ?_⟩
  · have h2 := h.o
    unfold RO at *
    rw [hs 0 (by omega), hs 1 (by omega), hs 11 (by omega), hs 12 (by omega), hs 13 (by omega), hs 10 (by omega), hs 14 (by omega)]
    exact h2
  · rw [hs _ (by omega)]; exact h.st k hk
  · rw [hb k hk]; exact h.am k hk
  · have h2 := h.c d hd
    have e : stg t d = stg s d := by unfold stg; rw [hs 56 (by omega), hs 57 (by omega), hs 58 (by omega), hs 59 (by omega)]
    unfold RC at *
    rw [e, hs (21 + 7 * d) (by omega), hs (21 + 7 * d + 1) (by omega), hs (21 + 7 * d + 2) (by omega), hs (21 + 7 * d + 3) (by omega), hs (21 + 7 * d + 4) (by omega), hs (21 + 7 * d + 5) (by omega), hs (21 + 7 * d + 6) (by omega)]
    exact h2
  · rw [hs 14 (by omega)] at h14
    rw [hs _ (by omega)]; exact h.r r hr h14 k hk
theorem Inv_cg {U A T : Int} {n : Nat} {s t : M1} {b c : J1} (h : Inv U A T n s b) (hs : ∀ i, i < 61 → t i = s i) (hb : ∀ k, k < 6 → c k = b k) : Inv U A T n t c := by
  have hn := h.n5
  have e : ∀ d, stg t d = stg s d := fun d => by unfold stg; rw [hs 56 (by omega), hs 57 (by omega), hs 58 (by omega), hs 59 (by omega)]
  refine ⟨hn, ?_, ?_, ?_, ?_, ?_, ?_, ?_, ?_, ?_, fun d hd => (h.cmp d hd).congr (fun f hf _ _ _ => hs (21 + 7 * d + f) (by omega)), ⟨fun d hd => ?_, fun k hk => ?_⟩, ?_⟩
  · rw [hs 10 (by omega)]; exact h.cnt
  · rw [hs 0 (by omega)]; exact h.vol
  · rw [hs 1 (by omega)]; exact h.air
  · rw [hs 4 (by omega)]; exact h.rel
  · rw [hs 6 (by omega)]; exact h.rst
  · rw [hs 7 (by omega)]; exact h.lek
  · rw [hs 8 (by omega)]; exact h.dem
  · rw [hs 11 (by omega)]; exact h.tim
  · rw [hs 11 (by omega), hb 3 (by omega)]; exact h.unm
  · have h2 := h.prm.at_ d hd
    rw [e, hs _ (by omega)]; exact h2
  · obtain ⟨d, h1, h2, h3⟩ := h.prm.of_ k hk
    exact ⟨d, h1, by rw [hs _ (by omega)]; exact h2, by rw [e]; exact h3⟩
  · rw [hs 14 (by omega)]; exact h.res
