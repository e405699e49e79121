/-! My own layer: one world of numbered cells (module g, region r) for every object of the law's run; memory is a function. -/
abbrev WE : Type := va_G × (Nat → ClassId) × (Nat → Nat → Nat)
abbrev ad (E : WE) (g r : Nat) : Nat := E.2.2 g r
def sg {α : Type} (G : Nat → α) (g : Nat) (x : α) : Nat → α := fun j => if j = g then x else G j
theorem sg_eq {α : Type} (G : Nat → α) (g : Nat) (x : α) : sg G g x g = x := if_pos rfl
theorem sg_ne {α : Type} (G : Nat → α) {g j : Nat} (x : α) (h : j ≠ g) : sg G g x j = G j := if_neg h
theorem sg_self {α : Type} (G : Nat → α) (g : Nat) : sg G g (G g) = G := by
  funext j
  by_cases h : j = g
  · rw [h, sg_eq]
  · rw [sg_ne _ _ h]
theorem sg_sg {α : Type} (G : Nat → α) (g : Nat) (x y : α) : sg (sg G g x) g y = sg G g y := by
  funext j
  by_cases h : j = g
  · rw [h, sg_eq, sg_eq]
  · rw [sg_ne _ _ h, sg_ne _ _ h, sg_ne _ _ h]
abbrev M1 : Type := Nat → Int32
abbrev J1 : Type := Nat → Int64
abbrev M2 : Type := Nat → M1
abbrev J2 : Type := Nat → J1
abbrev M3 : Type := Nat → M2
abbrev J3 : Type := Nat → J2
def up2 {α : Type} (M : Nat → Nat → α) (r k : Nat) (v : α) : Nat → Nat → α := sg M r (sg (M r) k v)
def up3 {α : Type} (G : Nat → Nat → Nat → α) (g r k : Nat) (v : α) : Nat → Nat → Nat → α := sg G g (up2 (G g) r k v)
/-- the cells of a station's state, of the station and its history, of a program, of the reference; the answers' row -/
def celS (E : WE) (g r : Nat) (x : M1) (y : J1) : va_E := match r with
  | 0 => .inr (3, [.int (x 0), .int (x 1), .int (x 2), .int (x 3), .int (x 4), .int (x 5), .int (x 6), .ref (ad E g 1), .ref (ad E g 2), .ref (ad E g 3), .ref (ad E g 4)])
  | 1 => .inl (E.2.1 0, 8, .inl x)
  | 2 => .inl (E.2.1 1, 6, .inr (.inl y))
  | 3 => .inl (E.2.1 0, 6, .inl x)
  | 4 => .inl (E.2.1 2, 5, .inr (.inr (.inr (.inr (fun i => if i < 5 then some (ad E g (5 + i)) else none)))))
  | _ => .inr (0, [.int (x 0), .int (x 1), .int (x 2), .int (x 3), .int (x 4), .int (x 5), .int (x 6), .int (x 7)])
def cel6 (E : WE) (r : Nat) (x : M1) (_ : J1) : va_E := match r with
  | 0 => .inr (4, [.ref (ad E 0 0), .ref (ad E 1 0), .ref (ad E 6 1), .ref (ad E 7 0)])
  | 1 => .inr (1, [.int (x 0), .int (x 1), .ref (ad E 6 2)])
  | _ => .inl (E.2.1 3, 4, .inr (.inr (.inr (.inr (fun i => if i < 4 then some (ad E (2 + i) 0) else none)))))
def cel7 (E : WE) (r : Nat) (x : M1) (_ : J1) : va_E := match r with
  | 0 => .inr (2, [.int (x 0), .int (x 1), .int (x 2), .int (x 3), .ref (ad E 7 1), .ref (ad E 7 2), .ref (ad E 7 3)])
  | _ => .inl (E.2.1 0, 100, .inl x)
def cel (E : WE) (g r : Nat) (x : M1) (y : J1) : va_E :=
  if g < 6 then celS E g r x y else if g = 6 then cel6 E r x y else cel7 E r x y
theorem cel_S {E : WE} {g r : Nat} {x : M1} {y : J1} (h : g < 6) : cel E g r x y = celS E g r x y := if_pos h
theorem cel_C {E : WE} {g r : Nat} {x : M1} {y : J1} (h : g < 6) (hr : 5 ≤ r) : cel E g r x y = .inr (0, [.int (x 0), .int (x 1), .int (x 2), .int (x 3), .int (x 4), .int (x 5), .int (x 6), .int (x 7)]) := by
  rw [cel_S h]
  obtain ⟨n, rfl⟩ : ∃ n, r = n + 5 := ⟨r - 5, by omega⟩
  rfl
theorem cel_6 {E : WE} {r : Nat} {x : M1} {y : J1} : cel E 6 r x y = cel6 E r x y := rfl
theorem cel_7 {E : WE} {r : Nat} {x : M1} {y : J1} : cel E 7 r x y = cel7 E r x y := rfl
def ixs : List (Nat × Nat) := [(0,0),(0,1),(0,2),(0,3),(0,4),(0,5),(0,6),(0,7),(0,8),(0,9),(1,0),(1,1),(1,2),(1,3),(1,4),(1,5),(1,6),(1,7),(1,8),(1,9),(2,0),(2,1),(2,2),(2,3),(2,4),(2,5),(2,6),(2,7),(2,8),(2,9),(3,0),(3,1),(3,2),(3,3),(3,4),(3,5),(3,6),(3,7),(3,8),(3,9),(4,0),(4,1),(4,2),(4,3),(4,4),(4,5),(4,6),(4,7),(4,8),(4,9),(5,0),(5,1),(5,2),(5,3),(5,4),(5,5),(5,6),(5,7),(5,8),(5,9),(6,0),(6,1),(6,2),(7,0),(7,1),(7,2),(7,3)]
def vld (g r : Nat) : Prop := (g < 6 ∧ r < 10) ∨ (g = 6 ∧ r < 3) ∨ (g = 7 ∧ r < 4)
def pl (g r : Nat) : Nat := if g < 6 then 10 * g + r else if g = 6 then 60 + r else 63 + r
set_option maxRecDepth 10000 in
theorem ix_in : ∀ k, k < 67 → ∃ q, ixs[k]? = some q ∧ pl q.1 q.2 = k ∧ ((q.1 < 6 ∧ q.2 < 10) ∨ (q.1 = 6 ∧ q.2 < 3) ∨ (q.1 = 7 ∧ q.2 < 4)) := by
  intro k hk
  obtain ⟨q, h⟩ : ∃ q, ixs[k]? = some q := ⟨_, List.getElem?_eq_getElem (show k < ixs.length from hk)⟩
  have H : ∀ k : Fin 67, (match ixs[k.val]? with | some q => decide (pl q.1 q.2 = k.val) && decide ((q.1 < 6 ∧ q.2 < 10) ∨ (q.1 = 6 ∧ q.2 < 3) ∨ (q.1 = 7 ∧ q.2 < 4)) | none => false) = true := by decide +kernel
  have h2 := H ⟨k, hk⟩
  simp only [h, Bool.and_eq_true, decide_eq_true_eq] at h2
  exact ⟨q, h, h2.1, h2.2⟩
theorem pl_lt {g r : Nat} (h : vld g r) : pl g r < 67 := by
  unfold pl
  unfold vld at h
  split
  · omega
  · split <;> omega
theorem pl_inj {g r g' r' : Nat} (h : vld g r) (h' : vld g' r') (e : pl g r = pl g' r') : g = g' ∧ r = r' := by
  unfold pl at e
  unfold vld at h h'
  split at e <;> split at e <;> (repeat' split at e) <;> omega
theorem ix_of {g r : Nat} (h : vld g r) : ixs[pl g r]? = some (g, r) := by
  obtain ⟨q, h1, h2, h3⟩ := ix_in _ (pl_lt h)
  obtain ⟨e1, e2⟩ := pl_inj h3 h h2
  rw [h1, ← e1, ← e2]
def Wl (E : WE) (G : M3) (K : J3) : va_W := ixs.map (fun q => (ad E q.1 q.2, cel E q.1 q.2 (G q.1 q.2) (K q.1 q.2)))
theorem Wl_get {E : WE} {G : M3} {K : J3} {g r : Nat} (h : vld g r) : (Wl E G K)[pl g r]? = some (ad E g r, cel E g r (G g r) (K g r)) := by
  rw [Wl, List.getElem?_map, ix_of h]
  rfl
theorem Wl_ix {E : WE} {G : M3} {K : J3} {k : Nat} {q : Nat × va_E} (h : (Wl E G K)[k]? = some q) : ∃ g r, vld g r ∧ pl g r = k ∧ q = (ad E g r, cel E g r (G g r) (K g r)) := by
  rw [Wl, List.getElem?_map] at h
  cases hk : ixs[k]? with
  | none => rw [hk] at h; cases h
  | some p =>
    rw [hk] at h
    have hl : k < 67 := (List.getElem?_eq_some_iff.mp hk).1
    obtain ⟨p', h1, h2, h3⟩ := ix_in k hl
    rw [hk] at h1
    cases h1
    exact ⟨p.1, p.2, h3, h2, (Option.some.inj h).symm⟩
theorem Wl_set {E : WE} {G : M3} {K : J3} {g r : Nat} (h : vld g r) (x : M1) (y : J1) : (Wl E G K).set (pl g r) (ad E g r, cel E g r x y) = Wl E (sg G g (sg (G g) r x)) (sg K g (sg (K g) r y)) := by
  apply List.ext_getElem?
  intro k
  by_cases hk : k = pl g r
  · subst hk
    rw [Wl_get h, sg_eq, sg_eq, sg_eq, sg_eq, List.getElem?_set_self]
    rw [Wl, List.length_map]
    exact pl_lt h
  · rw [List.getElem?_set_ne (Ne.symm hk), Wl, Wl, List.getElem?_map, List.getElem?_map]
    cases hq : ixs[k]? with
    | none => rfl
    | some p =>
      have hl : k < 67 := (List.getElem?_eq_some_iff.mp hq).1
      obtain ⟨p', h1, h2, h3⟩ := ix_in k hl
      rw [hq] at h1
      cases h1
      have e : ∀ {α : Type} (G : Nat → Nat → α) (x : α), sg G g (sg (G g) r x) p.1 p.2 = G p.1 p.2 := by
        intro α G x
        by_cases e1 : p.1 = g
        · rw [e1, sg_eq, sg_ne]
          intro e2
          exact hk (by rw [← h2, e1, e2])
        · rw [sg_ne _ _ e1]
      show some (ad E p.1 p.2, cel E p.1 p.2 (G p.1 p.2) (K p.1 p.2)) = some (ad E p.1 p.2, cel E p.1 p.2 (sg G g (sg (G g) r x) p.1 p.2) (sg K g (sg (K g) r y) p.1 p.2))
      rw [e, e]
theorem Wl_setI {E : WE} {G : M3} {K : J3} {g r : Nat} (h : vld g r) (x : M1) : (Wl E G K).set (pl g r) (ad E g r, cel E g r x (K g r)) = Wl E (sg G g (sg (G g) r x)) K := by
  rw [Wl_set h, sg_self, sg_self]
theorem Wl_setJ {E : WE} {G : M3} {K : J3} {g r : Nat} (h : vld g r) (y : J1) : (Wl E G K).set (pl g r) (ad E g r, cel E g r (G g r) y) = Wl E G (sg K g (sg (K g) r y)) := by
  rw [Wl_set h, sg_self, sg_self]
/-- which addresses are ours, and those that come -/
def AA (E : WE) (sz : Nat) : Nat → Prop := fun q => (∃ g r, vld g r ∧ ad E g r = q) ∨ sz ≤ q
def Inj (E : WE) : Prop := ∀ g r g' r', vld g r → vld g' r' → ad E g r = ad E g' r' → g = g' ∧ r = r'
theorem Wl_D {E : WE} {A : Nat → Prop} (hI : Inj E) (hA : ∀ g r, vld g r → A (ad E g r)) (G : M3) (K : J3) : va_D A (Wl E G K) := by
  refine ⟨fun i j p q hi hj h => ?_, fun k q hk => ?_⟩
  · obtain ⟨g, r, v1, e1, rfl⟩ := Wl_ix hi
    obtain ⟨g', r', v2, e2, rfl⟩ := Wl_ix hj
    obtain ⟨rfl, rfl⟩ := hI g r g' r' v1 v2 h
    rw [← e1, ← e2]
  · obtain ⟨g, r, v1, -, rfl⟩ := Wl_ix hk
    exact hA g r v1
theorem Wl_A {E : WE} {G : M3} {K : J3} {sz q : Nat} (h : va_A (Wl E G K) sz q) : AA E sz q := by
  rcases h with ⟨k, e, h⟩ | h
  · obtain ⟨g, r, v1, -, h2⟩ := Wl_ix h
    exact Or.inl ⟨g, r, v1, (congrArg Prod.fst h2).symm⟩
  · exact Or.inr h
/-! what stays: the tables' words that no list of good words holds, the static rows, the texts -/
def nestW : List Cond := [.methodLinkNest "AirStation$State" 72 yX4_pressureOf "AirStation",
  .castable "java/lang/IllegalArgumentException" "java/lang/IllegalArgumentException", .castable "java/lang/IllegalStateException" "java/lang/IllegalStateException", .castable "java/lang/IndexOutOfBoundsException" "java/lang/IndexOutOfBoundsException",
  .declares (Bundle.initS "java/lang/RuntimeException"), .declares (Bundle.initS "java/lang/Exception"), .declares (Bundle.initS "java/lang/Throwable")]
def txtW : List (Nat × String) := [(72, "there is no such setting"), (80, "the value is out of range"), (82, "the capacity is out of range"), (87, "there are as many compressors as there can be"), (99, "there is no such compressor"), (107, "the compressor is tripped"), (112, "the compressor is not tripped"), (124, "the minutes are out of range"), (130, "the time would be too great"), (138, "there is no such number of a compressor"), (144, "there are not so many stages"), (149, "there is no such number"), (154, "there is no such amount"), (230, "there is no saved state")]
def ncW : List (String × String) := []
def rowZ (n : String) (f : Nat → Int32) (A : Nat → Prop) (U : State) (H : Heap) : Prop := ∃ b, va_Z "AirStation" n "[I" (.ref b) A U H ∧ va_X b 8 f U H ∧ b < H.size ∧ ¬ A b
def lsF (l : List Int32) : Nat → Int32 := fun i => l.getD i 0
def rowFirst : Nat → Int32 := lsF [6500, 200, 10000, 5, 3, 2, 100, 480]
def rowLeast : Nat → Int32 := lsF [1000, 10, 2000, 1, 0, 0, 0, 10]
def rowMost : Nat → Int32 := lsF [12000, 500, 16000, 60, 30, 50, 3000, 5000]
def SS (A : Nat → Prop) (U : State) (H : Heap) : Prop :=
  rowZ "LEAST_SETTINGS" rowLeast A U H ∧ rowZ "GREATEST_SETTINGS" rowMost A U H ∧
  vx_Zq Bundle.tN "UNASSIGNED_STACK" Bundle.steD A U H ∧ vx_Zq Bundle.tN "SUPPRESSED_SENTINEL" Bundle.listD A U H
abbrev tyW (E : WE) : List (ClassId × FieldType) := [(E.2.1 0, .int), (E.2.1 1, .long), (E.2.1 2, .object "AirStation$Compressor"), (E.2.1 3, .object "AirStation$State")]
def KK (E : WE) (A : Nat → Prop) (U : State) (H : Heap) : Prop :=
  va_K E.1 vwCl (tyW E) U ∧ Inj E ∧ (∀ w ∈ nestW, va_Nw w U) ∧ SS A U H ∧ (∀ q ∈ txtW, ∃ a, vk_R "AirStation" q.1 q.2 a U) ∧ (∀ q ∈ ncW, va_Nc q.1 q.2 U)
theorem rowZ.mv {n : String} {f : Nat → Int32} {A B : Nat → Prop} {s U : State} {H H1 : Heap} (h : rowZ n f A s H) (hvm : s.vm.Alike U.vm) (hq : ∀ a : Nat, a < H.size → ¬ A a → H1[a]? = H[a]?) (hz : H.size ≤ H1.size) (hB : ∀ q, B q → A q) : rowZ n f B U H1 := by
  obtain ⟨b, h1, h2, h3, h4⟩ := h
  exact ⟨b, va_Z.narrow (va_Z.moved hvm (h1.kept hq)) hB, va_X.moved hvm (h2.kept (hq b h3 h4)), Nat.lt_of_lt_of_le h3 hz, fun h => h4 (hB b h)⟩
theorem KK.mv {E : WE} {A B : Nat → Prop} {s U : State} {H : Heap} {locs : List Loc} (h : KK E A s s.heap) (hS : va_S A s.heap H locs) (hW : s.WarmedH U.vm) (hH : U.heap = H) (hB : ∀ q, B q → A q) : KK E B U U.heap := by
  obtain ⟨h1, h2, h3, ⟨h4, h5, h6, h7⟩, h11, h12⟩ := h
  rw [hH]
  refine ⟨va_K.moved hW.alike h1, h2, ?_, ⟨h4.mv hW.alike hS.2.1 hS.1 hB, h5.mv hW.alike hS.2.1 hS.1 hB, (vx_Zq.moved hW.alike (h6.kept hS.2.1)).narrow hB, (vx_Zq.moved hW.alike (h7.kept hS.2.1)).narrow hB⟩, fun q hq => ?_, fun q hq => (h12 q hq).moved hW.alike⟩
  · intro w hw
    have h8 := h3 w hw
    simp only [nestW, List.mem_cons, List.not_mem_nil, or_false] at hw
    rcases hw with rfl | rfl | rfl | rfl | rfl | rfl | rfl
    · exact va_Nw.warmM hW h8
    · exact va_Nw.warmC hW h8
    · exact va_Nw.warmC hW h8
    · exact va_Nw.warmC hW h8
    · exact va_Nw.warmD hW h8
    · exact va_Nw.warmD hW h8
    · exact va_Nw.warmD hW h8
  · obtain ⟨a, ha⟩ := h11 q hq
    exact ⟨a, vk_R.warm hW ha⟩
/-- a contract's start: the whole world, of a heap of size sz -/
def PreM (E : WE) (G : M3) (K : J3) (sz : Nat) (U : State) : Prop := U.heap.size = sz ∧ va_P E.1 vwCl (Wl E G K) U.heap ∧ KK E (AA E sz) U U.heap
def PosM (E : WE) (G : M3) (K : J3) (t : State) : Prop := va_P E.1 vwCl (Wl E G K) t.heap
theorem PreM.blind {E : WE} {G : M3} {K : J3} {sz : Nat} {a : List Value} : FrameBlind (va_Pc a (PreM E G K sz)) := by
  rintro b U g mk ⟨h1, h2, h3, h4, h5, h6, ⟨h7, h8, h9, h10⟩, h11, h12⟩
  have hA : U.vm.Alike (U.calling g mk b).vm := Vm.Alike.refl U.vm
  refine ⟨h1, h2, h3, va_K.moved (u := U) (U := U.calling g mk b) hA h4, h5, fun w hw => ?_, ⟨h7.mv hA (fun _ _ _ => rfl) (Nat.le_refl _) (fun _ h => h), h8.mv hA (fun _ _ _ => rfl) (Nat.le_refl _) (fun _ h => h), vx_Zq.moved hA h9, vx_Zq.moved hA h10⟩, fun q hq => ?_, fun q hq => (h12 q hq).moved hA⟩
  · have h8 := h6 w hw
    simp only [nestW, List.mem_cons, List.not_mem_nil, or_false] at hw
    rcases hw with rfl | rfl | rfl | rfl | rfl | rfl | rfl <;> exact va_Nw.same rfl (u := U) (U := U.calling g mk b) rfl h8
  · obtain ⟨a, ha⟩ := h11 q hq
    exact ⟨a, vk_R.same (u := U) (U := U.calling g mk b) rfl ha⟩
/-- the room of a method, and the words: its code first, then all good words of the law -/
abbrev wsM (w0 : Cond) : List Cond := w0 :: wsL_law
/-- an effect contract by the kind of answer -/
abbrev MtI (l : Launch) (y : MethodName) (w0 : Cond) (rm : Room) (E : WE) (as : List Value) (G : M3) (K : J3) (r : Int32) (G' : M3) (K' : J3) : Prop := ∀ sz, Met l y (wsM w0) rm (va_Pc as (PreM E G K sz)) (va_Qi (fun (r1 : Int32) (_ : Unit) => r1 = r) (fun _ t => PosM E G' K' t) (AA E sz)) 0 0 (AA E sz)
abbrev MtL (l : Launch) (y : MethodName) (w0 : Cond) (rm : Room) (E : WE) (as : List Value) (G : M3) (K : J3) (r : Int64) (G' : M3) (K' : J3) : Prop := ∀ sz, Met l y (wsM w0) rm (va_Pc as (PreM E G K sz)) (va_Ql (fun (r1 : Int64) (_ : Unit) => r1 = r) (fun _ t => PosM E G' K' t) (AA E sz)) 0 0 (AA E sz)
abbrev MtD (l : Launch) (y : MethodName) (w0 : Cond) (rm : Room) (E : WE) (as : List Value) (G : M3) (K : J3) (r : UInt64) (G' : M3) (K' : J3) : Prop := ∀ sz, Met l y (wsM w0) rm (va_Pc as (PreM E G K sz)) (va_Qd (fun (r1 : UInt64) (_ : Unit) => r1 = r) (fun _ t => PosM E G' K' t) (AA E sz)) 0 0 (AA E sz)
abbrev MtV (l : Launch) (y : MethodName) (w0 : Cond) (rm : Room) (E : WE) (as : List Value) (G : M3) (K : J3) (G' : M3) (K' : J3) : Prop := ∀ sz, Met l y (wsM w0) rm (va_Pc as (PreM E G K sz)) (va_Qv (fun (_ : Unit) => True) (fun _ t => PosM E G' K' t) (AA E sz)) 0 0 (AA E sz)
abbrev MtQ (l : Launch) (y : MethodName) (w0 : Cond) (rm : Room) (E : WE) (as : List Value) (G : M3) (K : J3) (r : Option Nat) (G' : M3) (K' : J3) : Prop := ∀ sz, Met l y (wsM w0) rm (va_Pc as (PreM E G K sz)) (va_Qq (fun (r1 : Option Nat) (_ : Unit) => r1 = r) (fun _ t => PosM E G' K' t) (AA E sz)) 0 0 (AA E sz)
/-- what a walk has at hand and keeps -/
def Cx (E : WE) (A : Nat → Prop) (p : Program) (s : State) (m : MethodId) (args : Array Value) (meth : Method) (c : Code) (w0 : Cond) (cc : ByteArray) (nL : Nat) (ret : Option FieldType) (own : String) : Prop :=
  p.tables.exec = Jvm.exec ∧ c.code = cc ∧ meth.sig.returnType = ret ∧ c.maxLocals = nL ∧ s.vm.findClass own = some m.cls ∧ (∀ w ∈ wsM w0, w.before args s = true) ∧ meth.locks = false ∧ KK E A s s.heap ∧ (∀ q, s.heap.size ≤ q → A q) ∧ (∀ g r, vld g r → A (ad E g r))
/-- what a walk has at hand and changes -/
def Wd (E : WE) (A : Nat → Prop) (s : State) (G : M3) (K : J3) (H : Heap) (locs : List Loc) : Prop := va_P E.1 vwCl (Wl E G K) H ∧ va_S A s.heap H locs
theorem Wd.ofS {E : WE} {A : Nat → Prop} {s : State} {G : M3} {K : J3} {H : Heap} {locs : List Loc} (g : Nat) (h : Wd E A s G K H locs) : Wd E A s (sg G g (G g)) (sg K g (K g)) H locs := by
  rw [sg_self, sg_self]; exact h
/-- the checks of the functions that I read off the code -/
abbrev inb (i : Int32) (n : Nat) : Prop := 0 ≤ i.toInt ∧ i.toInt < (n : Int)
theorem inb_in {i : Int32} {n : Nat} (h : inb i n) : vp_in i n := vp_in_iff.mpr h
def chk {α : Type} (c : Prop) [Decidable c] (t : Option α) : Option α := if c then t else none
theorem chk_of {α : Type} {c : Prop} [Decidable c] {t : Option α} {r : α} (h : chk c t = some r) : c ∧ t = some r := by
  unfold chk at h
  split at h
  · exact ⟨by assumption, h⟩
  · cases h
def bnd {α β : Type} (e : α) (f : α → β) : β := f e
theorem bnd_of {α β : Type} {e x : α} {f : α → β} {r : β} (h : bnd e f = r) (hx : x = e) : f x = r := by subst hx; exact h
theorem bind_of {α β : Type} {o : Option α} {f : α → Option β} {r : β} (h : o.bind f = some r) : ∃ x, o = some x ∧ f x = some r := by
  cases o with
  | none => cases h
  | some x => exact ⟨x, rfl, h⟩
def oc {α : Type} (q : Option Nat) (a : α) (b : Nat → α) : α := match q with
  | none => a
  | some r => b r
theorem oc_n {α : Type} {a : α} {b : Nat → α} {r : α} (h : oc none a b = r) : a = r := h
theorem oc_s {α : Type} {a : α} {b : Nat → α} {r : α} {q : Nat} (h : oc (some q) a b = r) : b q = r := h
theorem ite_t {α : Type} {c : Prop} [Decidable c] {a b r : α} (h : (if c then a else b) = r) (hc : c) : a = r := by rw [if_pos hc] at h; exact h
theorem ite_f {α : Type} {c : Prop} [Decidable c] {a b r : α} (h : (if c then a else b) = r) (hc : ¬ c) : b = r := by rw [if_neg hc] at h; exact h
def itr {α : Type} (st : α → α) (z : α) : Nat → α
  | 0 => z
  | n + 1 => st (itr st z n)
abbrev isC (q : Nat) : Prop := 5 ≤ q ∧ q < 10
abbrev isS (g : Nat) : Prop := g < 6
theorem vS {g : Nat} (h : g < 6) {r : Nat} (hr : r < 10) : vld g r := Or.inl ⟨h, hr⟩
theorem vC {g q : Nat} (h : g < 6) (hq : isC q) : vld g q := Or.inl ⟨h, hq.2⟩
theorem v6 {r : Nat} (hr : r < 3) : vld 6 r := Or.inr (Or.inl ⟨rfl, hr⟩)
theorem v7 {r : Nat} (hr : r < 4) : vld 7 r := Or.inr (Or.inr ⟨rfl, hr⟩)
abbrev QI (E : WE) (A : Nat → Prop) (below : List Frame) (args : Array Value) (s : State) (r : Int32) (G' : M3) (K' : J3) : State → Prop := MQ below (va_Qi (fun (r1 : Int32) (_ : Unit) => r1 = r) (fun _ t => PosM E G' K' t) A) args s 0 0 A
abbrev QL (E : WE) (A : Nat → Prop) (below : List Frame) (args : Array Value) (s : State) (r : Int64) (G' : M3) (K' : J3) : State → Prop := MQ below (va_Ql (fun (r1 : Int64) (_ : Unit) => r1 = r) (fun _ t => PosM E G' K' t) A) args s 0 0 A
abbrev QD (E : WE) (A : Nat → Prop) (below : List Frame) (args : Array Value) (s : State) (r : UInt64) (G' : M3) (K' : J3) : State → Prop := MQ below (va_Qd (fun (r1 : UInt64) (_ : Unit) => r1 = r) (fun _ t => PosM E G' K' t) A) args s 0 0 A
abbrev QV (E : WE) (A : Nat → Prop) (below : List Frame) (args : Array Value) (s : State) (G' : M3) (K' : J3) : State → Prop := MQ below (va_Qv (fun (_ : Unit) => True) (fun _ t => PosM E G' K' t) A) args s 0 0 A
abbrev QQ (E : WE) (A : Nat → Prop) (below : List Frame) (args : Array Value) (s : State) (r : Option Nat) (G' : M3) (K' : J3) : State → Prop := MQ below (va_Qq (fun (r1 : Option Nat) (_ : Unit) => r1 = r) (fun _ t => PosM E G' K' t) A) args s 0 0 A
