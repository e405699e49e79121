theorem up3_o {α : Type} {G : Nat → Nat → Nat → α} {g g' r k : Nat} {v : α} (h : g' ≠ g) : up3 G g r k v g' = G g' := by unfold up3; exact sg_ne _ _ h
theorem up3_e {α : Type} {G : Nat → Nat → Nat → α} {g r k : Nat} {v : α} : up3 G g r k v g = up2 (G g) r k v := by unfold up3; exact sg_eq _ _ _
/-- one scalar of the rows set -/
theorem Inv_sc {U A T : Int} {n i : Nat} {s : M1} {b : J1} {x : Int32} (h : Inv U A T n s b) (hi : i < 10) (h1 : i ≠ 1) (c0 : i = 0 → 100 ≤ x.toInt ∧ x.toInt ≤ 5000) (c4 : i = 4 → 2000 ≤ x.toInt ∧ x.toInt ≤ 16000) (c6 : i = 6 → 0 ≤ x.toInt ∧ x.toInt ≤ 30) (c7 : i = 7 → 0 ≤ x.toInt ∧ x.toInt ≤ 50) (c8 : i = 8 → 0 ≤ x.toInt ∧ x.toInt ≤ 3000) : Inv U A T n (sg s i x) b := by
  have hn := h.n5
  refine ⟨hn, ?_, ?_, ?_, ?_, ?_, ?_, ?_, ?_, ?_, fun d hd => (h.cmp d hd).congr (fun f hf _ _ _ => sg_ne _ _ (by omega)), h.prm.congr (fun j hj => sg_ne _ _ (by omega)), ?_⟩
  · rw [sg_ne _ _ (by omega)]; exact h.cnt
  · rw [sg_ap]; split
    · rename_i e; exact c0 e.symm
    · exact h.vol
  · rw [sg_ne _ _ (by omega)]; exact h.air
  · rw [sg_ap]; split
    · rename_i e; exact c4 e.symm
    · exact h.rel
  · rw [sg_ap]; split
    · rename_i e; exact c6 e.symm
    · exact h.rst
  · rw [sg_ap]; split
    · rename_i e; exact c7 e.symm
    · exact h.lek
  · rw [sg_ap]; split
    · rename_i e; exact c8 e.symm
    · exact h.dem
  · rw [sg_ne _ _ (by omega)]; exact h.tim
  · rw [sg_ne _ _ (by omega)]; exact h.unm
  · rw [sg_ne _ _ (by omega)]; exact h.res
