/-! holds() answers true where the property stands -/
theorem nxt_ne {s : M1} {c : Nat} {p : Int32} (h : s (21 + 7 * c + 1) = 0 ∨ s (21 + 7 * c + 1) = 1 ∨ s (21 + 7 * c + 1) = 2) : ¬ nxt s c p = 0 := by
  unfold nxt
  rcases h with h | h | h <;> rw [h] <;> (repeat' split) <;> first | decide | contradiction
theorem nxt_3 {s : M1} {c : Nat} {p : Int32} (h : s (21 + 7 * c + 1) = 3) : nxt s c p = 0 := by
  unfold nxt
  rw [if_pos h]
theorem chk_T {α : Type} [inst : Decidable True] {t : Option α} : chk True t = t := if_pos trivial
section H
variable {F n : Nat} {G : M3} {K : J3} {s : M1} {b : J1}
theorem ho_363 (h : Q0 F n G K s b) (hE : b 5 = en s n) : ∀ d k m, 1 ≤ k → k ≤ 6 → n ≤ k + d → d < m → fbL_holds_363 F m (Int32.ofNat n) (cntk s 1 n) (cntk s 2 n) (cntk s 3 n) (cpk s true n) (en s n) (Int32.ofNat k) G K = some (1, G, K) := by
  have hn := h.2.1.n5
  have hp : Prm n s := h.2.1.prm
  intro d
  induction d with
  | zero =>
    intro k m h1 h6 h2 hm
    obtain ⟨m, rfl⟩ := fu hm
    show fsL_holds_363 F (fbL_holds_363 F m) _ _ _ _ _ _ _ _ _ = _
    unfold fsL_holds_363
    rw [if_pos ((pn_le (by omega) (by omega)).mpr (by omega))]
    simp only [q_v4 h, q_v5 h, q_v6 h, q_v10 h, q_b5 h, bdz_s, chk_T]
    rw [hE, chk_t (lg_same _)]
  | succ d ih =>
    intro k m h1 h6 h2 hm
    obtain ⟨m, rfl⟩ := fu hm
    show fsL_holds_363 F (fbL_holds_363 F m) _ _ _ _ _ _ _ _ _ = _
    unfold fsL_holds_363
    by_cases hk : n ≤ k
    · rw [if_pos ((pn_le (by omega) (by omega)).mpr hk)]
      simp only [q_v4 h, q_v5 h, q_v6 h, q_v10 h, q_b5 h, bdz_s, chk_T]
      rw [hE, chk_t (lg_same _)]
    · rw [if_neg (fun e => hk ((pn_le (by omega) (by omega)).mp e))]
      obtain ⟨a, a1, a2, a3⟩ := hp.of_ (k - 1) (by omega)
      obtain ⟨c, c1, c2, c3⟩ := hp.of_ k (by omega)
      rw [pn_sub2 (b := 1) (by exact h1), q_ats (k := k - OfNat.ofNat 1) h (by show k - 1 < n; omega), bdz_s, q_ats h (by omega), bdz_s, show 56 + (k - OfNat.ofNat 1) = 56 + (k - 1) from rfl, a2, c2]
      simp only [q_c8 h a1, q_c8 h c1, q_c9 h a1, q_c9 h c1, q_s1 h, bdz_s]
      have e : Int32.ofNat k = Int32.ofNat (k - 1) + 1 := by rw [pn_s]; congr 1; omega
      rw [chk_t (show lbel s a - lbel s c = s 3 by unfold lbel; rw [a3, c3, e]; grind), chk_t (show uabv s a - uabv s c = s 3 by unfold uabv; rw [a3, c3, e]; grind), pn_s]
      exact ih (k + 1) m (by omega) (by omega) (by omega) (by omega)
theorem ho_108 (h : Q0 F n G K s b) (hE : b 5 = en s n) : ∀ d k m, k + d = n → d < m → fbL_holds_108 F m (Int32.ofNat n) (cntk s 1 k) (cntk s 2 k) (cntk s 3 k) (cpk s true k) (en s k) (Int32.ofNat k) G K = some (1, G, K) := by
  have hF := h.1
  have hn := h.2.1.n5
  have hp : Prm n s := h.2.1.prm
  have hcn : s 10 = Int32.ofNat n := h.2.1.cnt
  intro d
  induction d with
  | zero =>
    intro k m hk hm
    obtain ⟨m, rfl⟩ := fu hm
    obtain rfl : k = n := by omega
    show fsL_holds_108 F (fbL_holds_108 F m) _ _ _ _ _ _ _ _ _ = _
    unfold fsL_holds_108
    rw [if_pos (Int32.le_refl _)]
    exact ho_363 h hE 5 1 F (by omega) (by omega) (by omega) (by omega)
  | succ d ih =>
    intro k m hk hm
    obtain ⟨m, rfl⟩ := fu hm
    have hkn : k < n := by omega
    have IH := ih (k + 1) m (by omega) (by omega)
    show fsL_holds_108 F (fbL_holds_108 F m) _ _ _ _ _ _ _ _ _ = _
    unfold fsL_holds_108
    rw [if_neg (fun e => by have := (pn_le (by omega) (by omega)).mp e; omega)]
    obtain ⟨-, hm4, -, h5, h6⟩ := h.2.1.cmp k hkn
    have hm4 : s (21 + 7 * k + 1) = 0 ∨ s (21 + 7 * k + 1) = 1 ∨ s (21 + 7 * k + 1) = 2 ∨ s (21 + 7 * k + 1) = 3 := hm4
    obtain ⟨g1, g2⟩ := hp.at_ k hkn
    have e1 : uabv s k - lbel s k = (Int32.ofNat n + 1) * s 3 := by unfold uabv lbel; rw [hcn]; grind
    have e2 : en s k + ((10 : Int64) * (s (21 + 7 * k)).toInt64 * (s (21 + 7 * k + 2)).toInt64 + (3 : Int64) * (s (21 + 7 * k)).toInt64 * (s (21 + 7 * k + 3)).toInt64) = en s (k + 1) := rfl
    have c1 : cntk s 1 (k + 1) = cntk s 1 k + if s (21 + 7 * k + 1) = 1 then 1 else 0 := rfl
    have c2 : cntk s 2 (k + 1) = cntk s 2 k + if s (21 + 7 * k + 1) = 2 then 1 else 0 := rfl
    have c3 : cntk s 3 (k + 1) = cntk s 3 k + if s (21 + 7 * k + 1) = 3 then 1 else 0 := rfl
    have c4 : cpk s true (k + 1) = cpk s true k + if s (21 + 7 * k + 1) = 1 then s (21 + 7 * k) else 0 := rfl
    rw [c1, c2, c3, c4] at IH
    rw [q_c1 h hkn, bdz_s]
    have q5 := q_c5 h hkn
    have q6 := q_c6 h hkn
    rcases hm4 with hm | hm | hm | hm
    · rw [hm] at IH q5 q6 ⊢
      rw [if_neg (by decide), if_neg (by decide), if_neg (by decide), if_neg (by decide)] at IH
      rw [if_neg (by decide)] at q5
      rw [if_pos (by decide)] at q6
      rw [if_pos (by decide)]
      unfold fbL_holds_140
      rw [if_pos (by decide)]
      unfold fbL_holds_154
      rw [if_pos (by decide)]
      unfold fbL_holds_169
      rw [if_pos (by decide)]
      unfold fbL_holds_191
      simp only [q_c0 h hkn, q_c2 h hkn, q_c3 h hkn, q_c4 h hkn, q_c8 h hkn, q_c9 h hkn, q_s1 h, q_ats h g1, bdz_s]
      rw [chk_t (show s (56 + stg s k) = Int32.ofNat k from g2), chk_t e1, e2, if_neg (by decide)]
      rw [q5, bdz_s, chk_t rfl]
      unfold fbL_holds_303
      rw [if_pos (by decide)]
      unfold fbL_holds_319
      rw [if_pos (by decide)]
      unfold fbL_holds_330
      rw [q_next h hkn, bdz_s]
      rw [if_pos (nxt_ne (by exact Or.inl hm))]
      unfold fbL_holds_344
      rw [chk_t rfl, pn_s]
      exact IH
    · rw [hm] at IH q5 q6 ⊢
      rw [if_pos (by decide), if_neg (by decide), if_neg (by decide), if_pos (by decide)] at IH
      rw [if_neg (by decide)] at q5
      rw [if_neg (by decide)] at q6
      rw [if_neg (by decide)]
      unfold fbL_holds_140
      rw [if_pos (by decide)]
      unfold fbL_holds_154
      rw [if_pos (by decide)]
      unfold fbL_holds_169
      rw [if_neg (by decide)]
      unfold fbL_holds_191
      simp only [q_c0 h hkn, q_c2 h hkn, q_c3 h hkn, q_c4 h hkn, q_c8 h hkn, q_c9 h hkn, q_s1 h, q_ats h g1, bdz_s]
      rw [chk_t (show s (56 + stg s k) = Int32.ofNat k from g2), chk_t e1, e2, if_neg (by decide)]
      rw [q5, bdz_s, chk_t rfl]
      unfold fbL_holds_303
      rw [if_neg (by decide)]
      rw [q6, bdz_s, chk_t rfl]
      unfold fbL_holds_319
      rw [if_pos (by decide)]
      unfold fbL_holds_330
      rw [q_next h hkn, bdz_s]
      rw [if_pos (nxt_ne (by exact Or.inr (Or.inl hm)))]
      unfold fbL_holds_344
      rw [chk_t rfl, pn_s]
      exact IH
    · rw [hm] at IH q5 q6 ⊢
      rw [if_neg (by decide), if_pos (by decide), if_neg (by decide), if_neg (by decide)] at IH
      rw [if_pos (by decide)] at q5
      rw [if_neg (by decide)] at q6
      rw [if_pos (by decide)]
      unfold fbL_holds_140
      rw [if_neg (by decide)]
      unfold fbL_holds_154
      rw [if_pos (by decide)]
      unfold fbL_holds_169
      rw [if_pos (by decide)]
      unfold fbL_holds_191
      simp only [q_c0 h hkn, q_c2 h hkn, q_c3 h hkn, q_c4 h hkn, q_c8 h hkn, q_c9 h hkn, q_s1 h, q_ats h g1, bdz_s]
      rw [chk_t (show s (56 + stg s k) = Int32.ofNat k from g2), chk_t e1, e2, if_pos (by decide)]
      unfold fbL_holds_303
      rw [if_neg (by decide)]
      rw [q6, bdz_s, chk_t rfl]
      unfold fbL_holds_319
      rw [if_pos (by decide)]
      unfold fbL_holds_330
      rw [q_next h hkn, bdz_s]
      rw [if_pos (nxt_ne (by exact Or.inr (Or.inr hm)))]
      unfold fbL_holds_344
      rw [chk_t rfl, pn_s]
      exact IH
    · rw [hm] at IH q5 q6 ⊢
      rw [if_neg (by decide), if_neg (by decide), if_pos (by decide), if_neg (by decide)] at IH
      rw [if_neg (by decide)] at q5
      rw [if_neg (by decide)] at q6
      rw [if_pos (by decide)]
      unfold fbL_holds_140
      rw [if_pos (by decide)]
      unfold fbL_holds_154
      rw [if_neg (by decide)]
      unfold fbL_holds_169
      rw [if_pos (by decide)]
      unfold fbL_holds_191
      simp only [q_c0 h hkn, q_c2 h hkn, q_c3 h hkn, q_c4 h hkn, q_c8 h hkn, q_c9 h hkn, q_s1 h, q_ats h g1, bdz_s]
      rw [chk_t (show s (56 + stg s k) = Int32.ofNat k from g2), chk_t e1, e2, if_neg (by decide)]
      rw [q5, bdz_s, chk_t rfl]
      unfold fbL_holds_303
      rw [if_neg (by decide)]
      rw [q6, bdz_s, chk_t rfl]
      unfold fbL_holds_319
      rw [if_neg (by decide)]
      unfold fbL_holds_330
      rw [q_next h hkn, bdz_s]
      rw [if_neg (fun e => e (nxt_3 hm))]
      unfold fbL_holds_344
      rw [chk_t rfl, pn_s]
      exact IH
end H
theorem bdz_p {α β γ δ : Type} (a : α) (b : β) (c : γ) (f : α → β → γ → Option δ) : bdz (some (0, a, b, c)) f = f a b c := Eq.trans (bdz_s a b c f) (Eq.refl _)
theorem w_holds {F n : Nat} {G : M3} {K : J3} {s : M1} {b : J1} (h : Q0 F n G K s b) (p : Pq n (s, b)) : fL_holds F G K = some (1, G, K) := by
  have hF := h.1
  have hI := h.2.1
  have hcn : s 10 = Int32.ofNat n := hI.cnt
  obtain ⟨-, -, -, hA, hE⟩ := p
  have hA : (s 1).toInt64 + b 1 + b 2 + b 4 - b 0 = 6000 := hA
  have hE : b 5 = en s n := hE
  obtain ⟨r, hr, h14⟩ := hI.res
  have h14 : s 14 = Int32.ofNat r := h14
  have ha : 0 ≤ (s 1).toInt := hI.air.1
  unfold fL_holds
  simp only [q_v3 h, q_v1 h, q_v2 h, q_v0 h, q_v11 h, q_b0 h, q_b1 h, q_b2 h, q_b4 h, bdz_p]
  have ha2 : ¬ s 1 < 0 := fun e => by rw [Int32.lt_iff_toInt_lt] at e; have : (s 1).toInt < 0 := e; omega
  have hk2 : ¬ (6 : Int32) < s 14 := fun e => by rw [h14] at e; have := (pn_lt1 (a := 6) (by decide) (by omega)).mp e; have : 6 < r := this; omega
  have hp2 : prs s = s 1 * 1000 / s 0 := rfl
  rw [hA, chk_t (lg_same _), chk_t (Inv_v0 hI).2, chk_t hp2, chk_t ha2, chk_t hk2, hcn]
  exact ho_108 h hE n 0 F (by omega) (by have := hI.n5; omega)
