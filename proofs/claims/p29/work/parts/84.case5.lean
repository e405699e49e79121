theorem Inv_T {U A T T' : Int} {n : Nat} {s : M1} {b : J1} (h : Inv U A T n s b) (ht : (s 11).toInt ≤ T') : Inv U A T' n s b :=
  ⟨h.n5, h.cnt, h.vol, h.air, h.rel, h.rst, h.lek, h.dem, ⟨h.tim.1, ht⟩, h.unm, h.cmp, h.prm, h.res⟩
theorem tm_add {U A T : Int} {n N : Nat} {s : M1} {b : J1} (h : Inv U A T n s b) (hT : T ≤ 1000000) (hN : N ≤ 600) : (s 11 + Int32.ofNat N).toInt = (s 11).toInt + N := by
  have ht := h.tim
  rw [pi_add (by rw [pn_ti (by omega)]; omega) (by rw [pn_ti (by omega)]; omega), pn_ti (by omega)]
theorem pc_time {n : Nat} {M : M2} {J : J2} {s : M1} {b : J1} {x : Int32} (h : Rep n M J s b) : fX3_hasTimeFor M J x = 0 ↔ ¬ (s 11 + x ≤ 100000) := by
  have o2 := h.o.2.2.1
  unfold fX3_hasTimeFor
  rw [o2]
  have h1 := Int32.le_iff_toInt_le (x := s 11 + x) (y := 100000)
  have h2 := Int32.lt_iff_toInt_lt (x := 100000) (y := s 11 + x)
  by_cases hc : (100000 : Int32) < s 11 + x
  · rw [if_pos hc]
    exact ⟨fun _ h => by rw [h1] at h; rw [h2] at hc; omega, fun _ => rfl⟩
  · rw [if_neg hc]
    exact ⟨fun h => absurd h (by decide), fun h => absurd (by rw [h1]; rw [h2] at hc; omega) h⟩
/-- minutes that keep within the time -/
theorem Iv_mikT {n N : Nat} {s : M1} {b : J1} (h : Iv 100000 n (s, b)) (hN : N ≤ 600) (ht : s 11 + Int32.ofNat N ≤ 100000) : Iv 100000 n (mik n (s, b) N) := by
  obtain ⟨h1, h2⟩ := Iv_mik (k := N) h (by omega)
  refine Inv_T h1 ?_
  rw [h2, ← tm_add h (by omega) hN]
  exact Int32.le_iff_toInt_le.mp ht
theorem Iv_tskT {n N : Nat} {q : M1 × J1} (h : Iv 100000 n q) (hN : N ≤ 600) (ht : q.1 11 + Int32.ofNat N ≤ 100000) : Iv 100000 n (tsk n q N) := by
  obtain ⟨h1, h2⟩ := Iv_tsk (k := N) h (by omega)
  refine Inv_T h1 ?_
  rw [h2, ← tm_add h (by omega) hN]
  exact Int32.le_iff_toInt_le.mp ht
