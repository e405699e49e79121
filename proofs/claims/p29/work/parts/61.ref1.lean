abbrev ahd (s : M1) (c o : Nat) : Prop := s (21 + 7 * o + 2) < s (21 + 7 * c + 2) ∨ (s (21 + 7 * o + 2) = s (21 + 7 * c + 2) ∧ o < c)
def rkk (s : M1) (c : Nat) : Nat → Nat
  | 0 => 0
  | k + 1 => rkk s c k + if ahd s c k then 1 else 0
theorem rkk_le (s : M1) (c k : Nat) : rkk s c k ≤ k := by
  induction k with
  | zero => exact Nat.le_refl _
  | succ k ih => unfold rkk; split <;> omega
/-- one fold of a loop: the fuel is a successor -/
theorem fu {d m : Nat} (h : d < m) : ∃ m', m = m' + 1 := ⟨m - 1, by omega⟩
/-- the stage of a compressor: its place in the order -/
def stg (s : M1) (c : Nat) : Nat := if s 56 = Int32.ofNat c then 0 else if s 57 = Int32.ofNat c then 1 else if s 58 = Int32.ofNat c then 2 else if s 59 = Int32.ofNat c then 3 else 4
/-- the order is a permutation of the first n -/
def Prm (n : Nat) (s : M1) : Prop := (∀ c, c < n → stg s c < n ∧ s (56 + stg s c) = Int32.ofNat c) ∧ ∀ k, k < n → ∃ c, c < n ∧ s (56 + k) = Int32.ofNat c ∧ stg s c = k
theorem Prm.at_ {n : Nat} {s : M1} (h : Prm n s) : ∀ c, c < n → stg s c < n ∧ s (56 + stg s c) = Int32.ofNat c := h.1
theorem Prm.of_ {n : Nat} {s : M1} (h : Prm n s) : ∀ k, k < n → ∃ c, c < n ∧ s (56 + k) = Int32.ofNat c ∧ stg s c = k := h.2
theorem stg_min {s : M1} {c k : Nat} (h : k < stg s c) : s (56 + k) ≠ Int32.ofNat c := by
  unfold stg at h
  match k with
  | 0 => grind
  | 1 => grind
  | 2 => grind
  | 3 => grind
  | k + 4 => grind
def lbel (s : M1) (c : Nat) : Int32 := s 2 - (Int32.ofNat (stg s c) + 1) * s 3
def uabv (s : M1) (c : Nat) : Int32 := s 2 + (s 10 - Int32.ofNat (stg s c)) * s 3
/-- how many of the first k are in a mode -/
def cntk (s : M1) (x : Int32) : Nat → Int32
  | 0 => 0
  | k + 1 => cntk s x k + if s (21 + 7 * k + 1) = x then 1 else 0
/-- the capacities of the loaded, of those that are not tripped -/
def cpk (s : M1) (l : Bool) : Nat → Int32
  | 0 => 0
  | k + 1 => cpk s l k + if (if l then s (21 + 7 * k + 1) = 1 else s (21 + 7 * k + 1) ≠ 3) then s (21 + 7 * k) else 0
