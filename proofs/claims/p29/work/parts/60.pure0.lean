theorem pn_ti {a : Nat} (h : a < 2147483648) : (Int32.ofNat a).toInt = (a : Int) := Int32.toInt_ofNat_of_lt h
theorem pn_in {a : Nat} (h : a < 2147483648) : (Int32.ofNat a).toNatClampNeg = a := Int32.toNatClampNeg_ofNat_of_lt h
theorem pn_le {a b : Nat} (ha : a < 2147483648) (hb : b < 2147483648) : (Int32.ofNat a ≤ Int32.ofNat b) ↔ a ≤ b := by
  rw [Int32.le_iff_toInt_le, pn_ti ha, pn_ti hb]; omega
theorem pn_lt {a b : Nat} (ha : a < 2147483648) (hb : b < 2147483648) : (Int32.ofNat a < Int32.ofNat b) ↔ a < b := by
  rw [Int32.lt_iff_toInt_lt, pn_ti ha, pn_ti hb]; omega
theorem pn_eq {a b : Nat} (ha : a < 2147483648) (hb : b < 2147483648) : (Int32.ofNat a = Int32.ofNat b) ↔ a = b := by
  rw [← Int32.toInt_inj, pn_ti ha, pn_ti hb]; omega
theorem pn_le1 {a b : Nat} (ha : (OfNat.ofNat a : Nat) < 2147483648) (hb : b < 2147483648) : ((no_index (OfNat.ofNat a : Int32)) ≤ Int32.ofNat b) ↔ (OfNat.ofNat a : Nat) ≤ b := pn_le ha hb
theorem pn_le2 {a b : Nat} (ha : a < 2147483648) (hb : (OfNat.ofNat b : Nat) < 2147483648) : (Int32.ofNat a ≤ (no_index (OfNat.ofNat b : Int32))) ↔ a ≤ (OfNat.ofNat b : Nat) := pn_le ha hb
theorem pn_lt1 {a b : Nat} (ha : (OfNat.ofNat a : Nat) < 2147483648) (hb : b < 2147483648) : ((no_index (OfNat.ofNat a : Int32)) < Int32.ofNat b) ↔ (OfNat.ofNat a : Nat) < b := pn_lt ha hb
theorem pn_lt2 {a b : Nat} (ha : a < 2147483648) (hb : (OfNat.ofNat b : Nat) < 2147483648) : (Int32.ofNat a < (no_index (OfNat.ofNat b : Int32))) ↔ a < (OfNat.ofNat b : Nat) := pn_lt ha hb
theorem pn_eq1 {a b : Nat} (ha : (OfNat.ofNat a : Nat) < 2147483648) (hb : b < 2147483648) : ((no_index (OfNat.ofNat a : Int32)) = Int32.ofNat b) ↔ (OfNat.ofNat a : Nat) = b := pn_eq ha hb
theorem pn_eq2 {a b : Nat} (ha : a < 2147483648) (hb : (OfNat.ofNat b : Nat) < 2147483648) : (Int32.ofNat a = (no_index (OfNat.ofNat b : Int32))) ↔ a = (OfNat.ofNat b : Nat) := pn_eq ha hb
theorem pn_s (a : Nat) : Int32.ofNat a + 1 = Int32.ofNat (a + 1) := (Int32.ofNat_add a 1).symm
theorem pn_add (a b : Nat) : Int32.ofNat a + Int32.ofNat b = Int32.ofNat (a + b) := (Int32.ofNat_add a b).symm
theorem pn_add1 (a b : Nat) : (no_index (OfNat.ofNat a : Int32)) + Int32.ofNat b = Int32.ofNat ((OfNat.ofNat a : Nat) + b) := (Int32.ofNat_add a b).symm
theorem pn_add2 (a b : Nat) : Int32.ofNat a + (no_index (OfNat.ofNat b : Int32)) = Int32.ofNat (a + (OfNat.ofNat b : Nat)) := (Int32.ofNat_add a b).symm
theorem pn_mul (a b : Nat) : Int32.ofNat a * Int32.ofNat b = Int32.ofNat (a * b) := (Int32.ofNat_mul a b).symm
theorem pn_mul1 (a b : Nat) : (no_index (OfNat.ofNat a : Int32)) * Int32.ofNat b = Int32.ofNat ((OfNat.ofNat a : Nat) * b) := (Int32.ofNat_mul a b).symm
theorem pn_mul2 (a b : Nat) : Int32.ofNat a * (no_index (OfNat.ofNat b : Int32)) = Int32.ofNat (a * (OfNat.ofNat b : Nat)) := (Int32.ofNat_mul a b).symm
theorem pn_sub {a b : Nat} (h : b ≤ a) : Int32.ofNat a - Int32.ofNat b = Int32.ofNat (a - b) := by
  have e := Int32.ofNat_add (a - b) b
  rw [Nat.sub_add_cancel h] at e
  rw [e]; simp
theorem pn_sub2 {a b : Nat} (h : (OfNat.ofNat b : Nat) ≤ a) : Int32.ofNat a - (no_index (OfNat.ofNat b : Int32)) = Int32.ofNat (a - (OfNat.ofNat b : Nat)) := pn_sub h
theorem pn_sub1 {a b : Nat} (h : b ≤ (OfNat.ofNat a : Nat)) : (no_index (OfNat.ofNat a : Int32)) - Int32.ofNat b = Int32.ofNat ((OfNat.ofNat a : Nat) - b) := pn_sub h
theorem pn_m1 {a : Nat} (h : 1 ≤ a) : Int32.ofNat a + -1 = Int32.ofNat (a - 1) := by
  rw [← pn_sub h, Int32.sub_eq_add_neg]; rfl
theorem pn_inb {a N : Nat} (h : a < N) (ha : a < 2147483648) : inb (Int32.ofNat a) N := by
  unfold inb; rw [pn_ti ha]; omega
theorem pn_of {x : Int32} (h : 0 ≤ x.toInt) : x = Int32.ofNat x.toInt.toNat := by
  have h2 := x.toInt_lt
  rw [← Int32.toInt_inj, pn_ti (by omega)]; omega
theorem itr_s {α : Type} (st : α → α) (z : α) (n : Nat) : itr st z (n + 1) = st (itr st z n) := rfl
theorem chk_t {α : Type} {c : Prop} [Decidable c] {t : Option α} (h : c) : chk c t = t := if_pos h
theorem chk_b {α : Type} {a N : Nat} {t : Option α} (h : a < N) (ha : a < 2147483648) : chk (inb (Int32.ofNat a) N) t = t := chk_t (pn_inb h ha)
theorem bd2_s {β γ δ : Type} (b : β) (c : γ) (f : β → γ → Option δ) : bd2 (some (b, c)) f = f b c := rfl
theorem bd3_s {α β γ δ : Type} (a : α) (b : β) (c : γ) (f : α → β → γ → Option δ) : bd3 (some (a, b, c)) f = f a b c := rfl
theorem bd4_s {α β γ δ : Type} (t : Nat) (a : α) (b : β) (c : γ) (f : Nat → α → β → γ → Option δ) : bd4 (some (t, a, b, c)) f = f t a b c := rfl
theorem bnd_s {α β : Type} (e : α) (f : α → β) : bnd e f = f e := rfl
theorem oc_ns {α : Type} (a : α) (b : Nat → α) : oc none a b = a := rfl
theorem oc_ss {α : Type} (a : α) (b : Nat → α) (q : Nat) : oc (some q) a b = b q := rfl
/-- the reference's memory: its object's row r0, its row s, the rest M -/
def RM (M : M2) (r0 s : M1) : M2 := sg (sg M 0 r0) 1 s
def RJ (J : J2) (b : J1) : J2 := sg J 2 b
theorem RM_1 (M : M2) (r0 s : M1) : RM M r0 s 1 = s := sg_eq _ _ _
theorem RM_0 (M : M2) (r0 s : M1) : RM M r0 s 0 = r0 := by unfold RM; rw [sg_ne _ _ (by decide), sg_eq]
theorem RM_o (M : M2) (r0 s : M1) {r : Nat} (h : r ≠ 0) (h1 : r ≠ 1) : RM M r0 s r = M r := by unfold RM; rw [sg_ne _ _ h1, sg_ne _ _ h]
theorem RJ_2 (J : J2) (b : J1) : RJ J b 2 = b := sg_eq _ _ _
theorem RJ_o (J : J2) (b : J1) {r : Nat} (h : r ≠ 2) : RJ J b r = J r := by unfold RJ; rw [sg_ne _ _ h]
theorem sg_ap {α : Type} (G : Nat → α) (g : Nat) (x : α) (j : Nat) : sg G g x j = if j = g then x else G j := rfl
theorem sg_cm {α : Type} (G : Nat → α) {g h : Nat} (x y : α) (e : g ≠ h) : sg (sg G g x) h y = sg (sg G h y) g x := by
  funext j; simp only [sg_ap]; split <;> split <;> first | rfl | (exfalso; omega)
theorem RM_u1 (M : M2) (r0 s : M1) (k : Nat) (x : Int32) : up2 (RM M r0 s) 1 k x = RM M r0 (sg s k x) := by
  unfold up2; rw [RM_1]; unfold RM; rw [sg_sg]
theorem RM_u0 (M : M2) (r0 s : M1) (k : Nat) (x : Int32) : up2 (RM M r0 s) 0 k x = RM M (sg r0 k x) s := by
  unfold up2; rw [RM_0]; unfold RM; rw [sg_cm _ _ _ (by decide : (1 : Nat) ≠ 0), sg_sg]
theorem RM_uo (M : M2) (r0 s : M1) {r : Nat} (h : r ≠ 0) (h1 : r ≠ 1) (k : Nat) (x : Int32) : up2 (RM M r0 s) r k x = RM (up2 M r k x) r0 s := by
  unfold up2; rw [RM_o _ _ _ h h1]; unfold RM; rw [sg_cm _ _ _ (Ne.symm h1), sg_cm _ _ _ (Ne.symm h)]
theorem RJ_u2 (J : J2) (b : J1) (k : Nat) (x : Int64) : up2 (RJ J b) 2 k x = RJ J (sg b k x) := by
  unfold up2; rw [RJ_2]; unfold RJ; rw [sg_sg]
theorem RJ_uo (J : J2) (b : J1) {r : Nat} (h : r ≠ 2) (k : Nat) (x : Int64) : up2 (RJ J b) r k x = RJ (up2 J r k x) b := by
  unfold up2; rw [RJ_o _ _ h]; unfold RJ; rw [sg_cm _ _ _ (Ne.symm h)]
theorem RM_self (M : M2) : RM M (M 0) (M 1) = M := by unfold RM; rw [sg_self, sg_self]
theorem RJ_self (J : J2) : RJ J (J 2) = J := by unfold RJ; rw [sg_self]
