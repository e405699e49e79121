/-- the flows of one compressor -/
def flb (q : M1 × J1) (c : Nat) : M1 × J1 :=
  if q.1 (21 + 7 * c + 1) = 1 then (sg (sg q.1 1 (q.1 1 + q.1 (21 + 7 * c))) (21 + 7 * c + 2) (q.1 (21 + 7 * c + 2) + 1), sg (sg q.2 0 (q.2 0 + (q.1 (21 + 7 * c)).toInt64)) 5 (q.2 5 + (10 * q.1 (21 + 7 * c)).toInt64))
  else if q.1 (21 + 7 * c + 1) = 2 then (sg q.1 (21 + 7 * c + 3) (q.1 (21 + 7 * c + 3) + 1), sg q.2 5 (q.2 5 + (3 * q.1 (21 + 7 * c)).toInt64))
  else q
def flk (s : M1) (b : J1) : Nat → M1 × J1
  | 0 => (s, b)
  | k + 1 => flb (flk s b k) k
theorem flk_10 {s : M1} {b : J1} {k : Nat} : (flk s b k).1 10 = s 10 := by
  induction k with
  | zero => rfl
  | succ k ih =>
    unfold flk flb
    rw [← ih]
    simp only [apply_ite (fun q : M1 × J1 => q.1 10), sg_ap]
    grind
def lkg (s : M1) (p : Int32) : Int32 := if p * s 7 / 1000 ≤ s 1 then p * s 7 / 1000 else s 1
/-- what the leak takes, what the demand takes, what is blown off -/
def lkd (q : M1 × J1) (p : Int32) : M1 × J1 := (sg q.1 1 (q.1 1 - lkg q.1 p), sg q.2 1 (q.2 1 + (lkg q.1 p).toInt64))
def tkn (s : M1) : Int32 := if s 8 ≤ s 1 then s 8 else s 1
def tkd (q : M1 × J1) : M1 × J1 := (sg q.1 1 (q.1 1 - tkn q.1), sg (sg q.2 2 (q.2 2 + (tkn q.1).toInt64)) 3 (q.2 3 + (q.1 8 - tkn q.1).toInt64))
def blw (q : M1 × J1) : M1 × J1 := if q.1 1 * 1000 / q.1 0 ≤ q.1 4 then q else (sg q.1 1 (q.1 4 * q.1 0 / 1000), sg q.2 4 (q.2 4 + (q.1 1 - q.1 4 * q.1 0 / 1000).toInt64))
def tik (q : M1 × J1) : M1 × J1 := (sg (sg q.1 11 (q.1 11 + 1)) 12 (q.1 12 + 1), q.2)
def mrot (s : M1) (n : Nat) : M1 := if s 12 < s 9 then s else rots s n
def prs (s : M1) : Int32 := s 1 * 1000 / s 0
/-- a minute, a minute of a test -/
def mnt (n : Nat) (q : M1 × J1) : M1 × J1 := tik (blw (tkd (lkd (flk (dzk (mrot q.1 n) (prs (mrot q.1 n)) n) q.2 n) (prs (mrot q.1 n)))))
def tst (n : Nat) (q : M1 × J1) : M1 × J1 := tik (blw (lkd (flk (mrot q.1 n) q.2 n) (prs (mrot q.1 n))))
theorem dzk_10 {s : M1} {p : Int32} {k i : Nat} (h : i < 21) : dzk s p k i = s i := dzk_at (Or.inl h)
theorem mrot_lt {s : M1} {n i : Nat} (h : i < 56) (h2 : i ≠ 12) (h3 : i ≠ 13) : mrot s n i = s i := by
  unfold mrot rots
  split
  · rfl
  · rw [sg_ne _ _ h3, sg_ne _ _ h2, rotk_lt h]
theorem flk_0 {s : M1} {b : J1} {k : Nat} : (flk s b k).1 0 = s 0 := by
  induction k with
  | zero => rfl
  | succ k ih =>
    unfold flk flb
    rw [← ih]
    simp only [apply_ite (fun q : M1 × J1 => q.1 0), sg_ap]
    grind
