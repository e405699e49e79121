def psh {α : Type} (s : α) (sv : Nat → α) : Nat → α := fun i => if i = 0 then s else sv (i - 1)
def hup (h : Nat) : Nat := if h < 4 then h + 1 else 4
