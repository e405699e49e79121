theorem rkk_congr {s t : M1} {c k : Nat} (h : ∀ o, o < 5 → t (21 + 7 * o + 2) = s (21 + 7 * o + 2)) (hc : c < 5) (hk : k ≤ 5) : rkk t c k = rkk s c k := by
  induction k with
  | zero => rfl
  | succ k ih =>
    have h1 := h c hc
    have h2 := h k (by omega)
    have h3 : ahd t c k ↔ ahd s c k := by unfold ahd; rw [h1, h2]
    simp only [rkk, ih (by omega), h3]
theorem rkk_lt {s : M1} {c k : Nat} (h : c < k) : rkk s c k < k := by
  induction k with
  | zero => omega
  | succ k ih =>
    unfold rkk
    by_cases hc : c = k
    · subst hc
      rw [if_neg (fun h => by unfold ahd at h; grind)]
      have := rkk_le s c c
      omega
    · have := ih (by omega)
      split <;> omega
def rotk (s : M1) (n : Nat) : Nat → M1
  | 0 => s
  | k + 1 => sg (rotk s n k) (56 + rkk s k n) (Int32.ofNat k)
theorem rotk_lt {s : M1} {n k i : Nat} (h : i < 56) : rotk s n k i = s i := by
  induction k with
  | zero => rfl
  | succ k ih => unfold rotk; rw [sg_ne _ _ (by omega), ih]
def mvk (s : M1) (n : Nat) : Nat → Nat
  | 0 => 0
  | k + 1 => mvk s n k + if rkk s k n = stg s k then 0 else 1
def rots (s : M1) (n : Nat) : M1 := sg (sg (rotk s n n) 12 0) 13 (s 13 + 1)
/-- what a compressor does next, at a pressure -/
def nxt (s : M1) (c : Nat) (p : Int32) : Int32 :=
  if s (21 + 7 * c + 1) = 3 then 0 else if s (21 + 7 * c + 1) = 1 then (if p ≤ uabv s c then 3 else 4) else
  if s (21 + 7 * c + 1) = 0 ∧ 0 < s (21 + 7 * c + 5) then 1 else if p < lbel s c then 2 else
  if s (21 + 7 * c + 1) = 0 then 7 else if s (21 + 7 * c + 4) + 1 < s 5 then 5 else 6
/-- and it is done -/
def doz (s : M1) (c : Nat) (v : Int32) : M1 :=
  if v = 1 then sg s (21 + 7 * c + 5) (s (21 + 7 * c + 5) - 1)
  else if v = 2 then sg (sg (sg s (21 + 7 * c + 6) (s (21 + 7 * c + 6) + if s (21 + 7 * c + 1) = 0 then 1 else 0)) (21 + 7 * c + 1) 1) (21 + 7 * c + 4) 0
  else if v = 4 then sg (sg s (21 + 7 * c + 1) 2) (21 + 7 * c + 4) 0
  else if v = 5 then sg s (21 + 7 * c + 4) (s (21 + 7 * c + 4) + 1)
  else if v = 6 then sg (sg (sg s (21 + 7 * c + 1) 0) (21 + 7 * c + 4) 0) (21 + 7 * c + 5) (s 6)
  else s
