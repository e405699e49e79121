theorem min_alt {a l : Int32} : (if a < l then a else l) = if l ≤ a then l else a := by
  have h1 := Int32.le_iff_toInt_le (x := l) (y := a)
  have h2 := Int32.lt_iff_toInt_lt (x := a) (y := l)
  by_cases h : l ≤ a
  · rw [if_neg (fun h3 => by rw [h2] at h3; rw [h1] at h; omega), if_pos h]
  · rw [if_pos (by rw [h2]; rw [h1] at h; omega), if_neg h]
theorem pc_flows {F : Nat} {n : Nat} {M : M2} {J : J2} {s : M1} {b : J1} {p : Int32} (t : Bool) (hF : 1000 ≤ F) (hn : n ≤ 5) (h10 : s 10 = Int32.ofNat n) (h : Rep n M J s b) (hv : 0 < s 0) (ha : ¬ (lkd (flk s b n) p).1 1 < 0) : ∃ M' J', fX3_runFlows F p (if t then 0 else s 8) M J = some (lkg (flk s b n).1 p, M', J') ∧ Rep n M' J' (tik (blw (if t then lkd (flk s b n) p else tkd (lkd (flk s b n) p)))).1 (tik (blw (if t then lkd (flk s b n) p else tkd (lkd (flk s b n) p)))).2 := by
  obtain ⟨M2, J2, h1, h2⟩ := pc_flow hF hn h10 h
  have e8 : (flk s b n).1 8 = s 8 := flk_at (by omega) (by omega) hn
  have e0 : (flk s b n).1 0 = s 0 := flk_0
  unfold fX3_runFlows
  rw [h1, bd2_s]
  rw [← e8]
  rw [← e0] at hv
  generalize flk s b n = q at h2 ha hv ⊢
  obtain ⟨s1, b1⟩ := q
  dsimp only at *
  have s5 := h2.st 5 (by omega)
  have o1 := h2.o.2.1
  have a1 := h2.am 1 (by omega)
  have a2 := h2.am 2 (by omega)
  have a3 := h2.am 3 (by omega)
  have el : (if M2 0 1 < fX3_leakAt M2 J2 p then M2 0 1 else fX3_leakAt M2 J2 p) = lkg s1 p := by
    unfold fX3_leakAt lkg
    rw [o1, s5, min_alt]
  rw [el]
  have r1 := Rep_am (k0 := 1) (b1 1 + (lkg s1 p).toInt64) (Rep_o1 (s1 1 - lkg s1 p) h2 hn) (by omega)
  have key : ∀ q : M1 × J1, ∀ M J, Rep n M J q.1 q.2 → q.1 0 = s1 0 → ∃ M' J', (bd2 (fX3_blowOff M J) fun M15 J16 => bnd (up2 M15 0 2 (M15 0 2 + 1)) fun M17 => bnd (up2 M17 0 3 (M17 0 3 + 1)) fun M19 => some (lkg s1 p, M19, J16)) = some (lkg s1 p, M', J') ∧ Rep n M' J' (tik (blw q)).1 (tik (blw q)).2 := by
    intro q M J h3 h4
    obtain ⟨M', J', g1, g2⟩ := pc_blow hn (by rw [h4]; exact hv) h3
    rw [g1, bd2_s]
    have o2 := g2.o.2.2.1
    have o3 := g2.o.2.2.2.1
    have g3 := Rep_o3 ((blw q).1 12 + 1) (Rep_o2 ((blw q).1 11 + 1) g2 hn) hn
    refine ⟨_, _, rfl, ?_⟩
    unfold tik
    simp only [up2_ap]
    rw [o2]
    simp
    rw [o3]
    exact g3
  simp only [bnd_s]
  have x1 : up2 M2 0 1 (M2 0 1 - lkg s1 p) 0 1 = s1 1 - lkg s1 p := by rw [up2_ap]; simp [o1]
  rw [x1, min_alt, o1, a1]
  have y2 : up2 J2 2 1 (b1 1 + (lkg s1 p).toInt64) 2 2 = b1 2 := by rw [up2_ap]; simp [a2]
  have y3 : ∀ x, up2 (up2 J2 2 1 (b1 1 + (lkg s1 p).toInt64)) 2 2 x 2 3 = b1 3 := by intro x; simp [up2_ap, a3]
  rw [y2, y3]
  cases t with
  | false =>
    simp only [Bool.false_eq_true, if_false]
    have ex : (if s1 8 ≤ s1 1 - lkg s1 p then s1 8 else s1 1 - lkg s1 p) = tkn (sg s1 1 (s1 1 - lkg s1 p)) := by
      unfold tkn; simp [sg_ap]
    rw [ex]
    generalize hz : tkn (sg s1 1 (s1 1 - lkg s1 p)) = z
    have r2 := Rep_am (k0 := 3) (b1 3 + (s1 8 - z).toInt64) (Rep_am (k0 := 2) (b1 2 + z.toInt64) (Rep_o1 (s1 1 - lkg s1 p - z) r1 hn) (by omega)) (by omega)
    refine key (tkd (lkd (s1, b1) p)) _ _ ?_ ?_
    · unfold tkd lkd
      dsimp only
      rw [hz]
      simpa [sg_ap] using r2
    · unfold tkd lkd; simp [sg_ap]
  | true =>
    simp only [if_true]
    have ex : (if (0 : Int32) ≤ s1 1 - lkg s1 p then 0 else s1 1 - lkg s1 p) = 0 := by
      rw [if_pos]
      unfold lkd at ha
      dsimp only at ha
      rw [sg_eq, Int32.lt_iff_toInt_lt] at ha
      rw [Int32.le_iff_toInt_le]; omega
    rw [ex]
    have r2 := Rep_am (k0 := 3) (b1 3) (Rep_am (k0 := 2) (b1 2) (Rep_o1 (s1 1 - lkg s1 p) r1 hn) (by omega)) (by omega)
    have z1 : (0 : Int32).toInt64 = 0 := by decide
    have z2 : ((0 : Int32) - 0).toInt64 = 0 := by decide
    rw [z1, z2]
    simp only [Int64.add_zero, Int32.sub_zero]
    refine key (lkd (s1, b1) p) _ _ ?_ ?_
    · unfold lkd
      dsimp only
      have q2 : sg (sg (sg b1 1 (b1 1 + (lkg s1 p).toInt64)) 2 (b1 2)) 3 (b1 3) = sg b1 1 (b1 1 + (lkg s1 p).toInt64) := by
        funext i; simp only [sg_ap]; grind
      rw [q2, sg_sg] at r2
      exact r2
    · unfold lkd; simp [sg_ap]
