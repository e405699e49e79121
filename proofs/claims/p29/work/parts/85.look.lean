/-- what is told of a compressor -/
def tld (s : M1) (c k : Nat) : Int32 := match k with
  | 0 => s (21 + 7 * c)
  | 1 => s (21 + 7 * c + 1)
  | 2 => Int32.ofNat (stg s c)
  | 3 => s (21 + 7 * c + 2)
  | 4 => s (21 + 7 * c + 3)
  | 5 => if s (21 + 7 * c + 1) = 2 then s (21 + 7 * c + 4) else 0
  | 6 => if s (21 + 7 * c + 1) = 0 then s (21 + 7 * c + 5) else 0
  | 7 => s (21 + 7 * c + 6)
  | 8 => lbel s c
  | _ => uabv s c
theorem pc_about {n c k : Nat} {M : M2} {J : J2} {s : M1} {b : J1} (h : Rep n M J s b) (hc : c < n) (hk : Cok s c) (h10 : k < 10) : fX3_numberAbout M J (5 + c) (Int32.ofNat k) = tld s c k := by
  obtain ⟨e0, e1, e2, e3, e4, e5, e6, e7⟩ := h.c c hc
  obtain ⟨o0, o1, o2, o3, o4, o5, o6⟩ := h.o
  have s0 := h.st 0 (by omega)
  have s1 := h.st 1 (by omega)
  obtain ⟨-, -, -, k4, k5⟩ := hk
  unfold fX3_numberAbout
  match k, h10 with
  | 0, _ =>
    rw [if_pos (by decide)]; exact e0
  | 1, _ =>
    rw [if_neg (by decide), if_pos (by decide)]; exact e1
  | 2, _ =>
    rw [if_neg (by decide), if_neg (by decide), if_pos (by decide)]; exact e2
  | 3, _ =>
    rw [if_neg (by decide), if_neg (by decide), if_neg (by decide), if_pos (by decide)]; exact e3
  | 4, _ =>
    rw [if_neg (by decide), if_neg (by decide), if_neg (by decide), if_neg (by decide), if_pos (by decide)]; exact e4
  | 5, _ =>
    rw [if_neg (by decide), if_neg (by decide), if_neg (by decide), if_neg (by decide), if_neg (by decide), if_pos (by decide), e5]; show s (21 + 7 * c + 4) = if s (21 + 7 * c + 1) = 2 then s (21 + 7 * c + 4) else 0
    by_cases hm : s (21 + 7 * c + 1) = 2
    · rw [if_pos hm]
    · rw [if_neg hm, k5 hm]
  | 6, _ =>
    rw [if_neg (by decide), if_neg (by decide), if_neg (by decide), if_neg (by decide), if_neg (by decide), if_neg (by decide), if_pos (by decide), e6]; show s (21 + 7 * c + 5) = if s (21 + 7 * c + 1) = 0 then s (21 + 7 * c + 5) else 0
    by_cases hm : s (21 + 7 * c + 1) = 0
    · rw [if_pos hm]
    · rw [if_neg hm, k4 hm]
  | 7, _ =>
    rw [if_neg (by decide), if_neg (by decide), if_neg (by decide), if_neg (by decide), if_neg (by decide), if_neg (by decide), if_neg (by decide), if_pos (by decide)]; exact e7
  | 8, _ =>
    rw [if_neg (by decide), if_neg (by decide), if_neg (by decide), if_neg (by decide), if_neg (by decide), if_neg (by decide), if_neg (by decide), if_neg (by decide), if_pos (by decide)]; unfold fX3_limitForLoading; rw [e2, s0, s1]; rfl
  | 9, _ =>
    rw [if_neg (by decide), if_neg (by decide), if_neg (by decide), if_neg (by decide), if_neg (by decide), if_neg (by decide), if_neg (by decide), if_neg (by decide), if_neg (by decide)]; unfold fX3_limitForUnloading; rw [e2, s0, s1, o5]; rfl
  | k + 10, h => omega
/-- the station's numbers -/
def vlu (s : M1) (n k : Nat) : Int32 := match k with
  | 0 => s 0
  | 1 => s 1
  | 2 => prs s
  | 3 => s 10
  | 4 => cntk s 1 n
  | 5 => cntk s 2 n
  | 6 => cntk s 3 n
  | 7 => s 11
  | 8 => s 12
  | 9 => s 13
  | 10 => cpk s true n
  | _ => s 14
theorem pc_value {F : Nat} {M : M2} {J : J2} {s : M1} {b : J1} {n k : Nat} (hF : 1000 ≤ F) (hn : n ≤ 5) (hcn : s 10 = Int32.ofNat n) (hv : 0 < s 0) (h : Rep n M J s b) (hk : k < 12) : fX3_numberOf F M J (Int32.ofNat k) = some (vlu s n k) := by
  obtain ⟨o0, o1, o2, o3, o4, o5, o6⟩ := h.o
  have h10 : M 0 5 = Int32.ofNat n := by rw [o5, hcn]
  have hm : ∀ c, c < n → M (5 + c) 1 = s (21 + 7 * c + 1) := fun c hc => (h.c c hc).2.1
  unfold fX3_numberOf
  match k, hk with
  | 0, _ =>
    rw [if_pos (by decide)]
    rw [o0]; rfl
  | 1, _ =>
    rw [if_neg (by decide), if_pos (by decide)]
    rw [o1]; rfl
  | 2, _ =>
    rw [if_neg (by decide), if_neg (by decide), if_pos (by decide)]
    rw [pc_press hv h]; rfl
  | 3, _ =>
    rw [if_neg (by decide), if_neg (by decide), if_neg (by decide), if_pos (by decide)]
    rw [o5]; rfl
  | 4, _ =>
    rw [if_neg (by decide), if_neg (by decide), if_neg (by decide), if_neg (by decide), if_pos (by decide)]
    rw [pc_count (s := s) hF hn h10 hm]; rfl
  | 5, _ =>
    rw [if_neg (by decide), if_neg (by decide), if_neg (by decide), if_neg (by decide), if_neg (by decide), if_pos (by decide)]
    rw [pc_count (s := s) hF hn h10 hm]; rfl
  | 6, _ =>
    rw [if_neg (by decide), if_neg (by decide), if_neg (by decide), if_neg (by decide), if_neg (by decide), if_neg (by decide), if_pos (by decide)]
    rw [pc_count (s := s) hF hn h10 hm]; rfl
  | 7, _ =>
    rw [if_neg (by decide), if_neg (by decide), if_neg (by decide), if_neg (by decide), if_neg (by decide), if_neg (by decide), if_neg (by decide), if_pos (by decide)]
    rw [o2]; rfl
  | 8, _ =>
    rw [if_neg (by decide), if_neg (by decide), if_neg (by decide), if_neg (by decide), if_neg (by decide), if_neg (by decide), if_neg (by decide), if_neg (by decide), if_pos (by decide)]
    rw [o3]; rfl
  | 9, _ =>
    rw [if_neg (by decide), if_neg (by decide), if_neg (by decide), if_neg (by decide), if_neg (by decide), if_neg (by decide), if_neg (by decide), if_neg (by decide), if_neg (by decide), if_pos (by decide)]
    rw [o4]; rfl
  | 10, _ =>
    rw [if_neg (by decide), if_neg (by decide), if_neg (by decide), if_neg (by decide), if_neg (by decide), if_neg (by decide), if_neg (by decide), if_neg (by decide), if_neg (by decide), if_neg (by decide), if_pos (by decide)]
    rw [pc_cap (s := s) hF hn h10 h.c, cmk_1]; rfl
  | 11, _ =>
    rw [if_neg (by decide), if_neg (by decide), if_neg (by decide), if_neg (by decide), if_neg (by decide), if_neg (by decide), if_neg (by decide), if_neg (by decide), if_neg (by decide), if_neg (by decide), if_neg (by decide)]
    rw [o6]; rfl
  | k + 12, h => omega
