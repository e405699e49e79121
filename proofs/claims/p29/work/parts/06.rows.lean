section XR
variable {E : WE} {A : Nat → Prop} {p : Program} {l : Launch} {e : Env} {R : Room} {s : State} {m : MethodId} {args : Array Value} {below : List Frame} {meth : Method} {c : Code} {H : Heap} {locs : List Loc} {cells slots : Nat} {Q : State → Prop}
variable {w0 : Cond} {cc : ByteArray} {nL : Nat} {ret : Option FieldType} {own : String} {pc index : Nat} {ls : Array Slot} {rest : List Value} {G : M3} {K : J3}
theorem x_hts (C : Cx E A p s m args meth c w0 cc nL ret own) {w : Cond} (h : w ∈ wsL_law) : w.before args s = true := C.2.2.2.2.2.1 _ (List.mem_cons_of_mem _ h)
theorem x_D (C : Cx E A p s m args meth c w0 cc nL ret own) : va_D A (Wl E G K) := Wl_D C.2.2.2.2.2.2.2.1.2.1 C.2.2.2.2.2.2.2.2.2 G K
theorem x_get {ci N k g r : Nat} {T : u_T} {Cn : String} {fs : List Value} {v : Value} (C : Cx E A p s m args meth c w0 cc nL ret own) (w : Wd E A s G K H locs) (hv : vld g r) (hc : cel E g r (G g r) (K g r) = .inr (ci, fs)) (hcl : vwCl[ci]? = some (Cn, T, N)) (hin : ∀ w ∈ u_ws Cn T N, w ∈ wsL_law) (hk : k < N) (hw : Cond.fieldLink own index (T k).1 (T k).2.1 (T k).2.2.1 ∈ wsL_law) (hf : fs[k]? = some v) (hd : decode cc pc = .ok (.getfield index, 3))
    (kk : W p l e R s m args below meth c H locs cells slots Q (F0 m (pc + 3) ls (v :: rest))) : W p l e R s m args below meth c H locs cells slots Q (F0 m pc ls (.ref (ad E g r) :: rest)) := by
  obtain ⟨hx, hb, -, -, hown, hts, -, hKK, -, -⟩ := id C
  have he := Wl_get (E := E) (G := G) (K := K) hv
  rw [hc] at he
  exact va_get (D := E.1) hx hb hts (fun w h => List.mem_cons_of_mem _ (hin w h)) hown hKK.1 w.1 (pl g r) he hcl k hk (x_hts C hw) (fun _ h => h) hf hd kk
theorem x_put {ci N k g r : Nat} {T : u_T} {Cn : String} {fs : M1 → List Value} {x : Int32} {ty : FieldType} {ty0 : Nat → FieldType} (C : Cx E A p s m args meth c w0 cc nL ret own) (w : Wd E A s G K H locs) (hv : vld g r) (hc : ∀ x y, cel E g r x y = .inr (ci, fs x)) (hcl : vwCl[ci]? = some (Cn, T, N)) (hin : ∀ w ∈ u_ws Cn T N, w ∈ wsL_law) (hk : k < N) (hw : Cond.fieldLink own index (T k).1 (T k).2.1 (T k).2.2.1 ∈ wsL_law) (hty : ∀ k, k < N → parseFieldDescriptor (T k).2.2.1 = some (ty0 k)) (hnm : ∀ a, a < N → ∀ b, b < N → a ≠ b → (T a).2.1 ≠ (T b).2.1) (hfin : (T k).2.2.2 = false) (hdd : parseFieldDescriptor (T k).2.2.1 = some ty) (hn : narrow ty (.int x) = .int x) (hfit : fits ty (.int x) = true) (hl : k < (fs (G g r)).length) (hs : fs (sg (G g r) k x) = (fs (G g r)).set k (.int x)) (hd : decode cc pc = .ok (.putfield index, 3))
    (kk : ∀ (H1 : Heap) (locs1 : List Loc), Wd E A s (up3 G g r k x) K H1 locs1 → W p l e R s m args below meth c H1 locs1 cells slots Q (F0 m (pc + 3) ls rest)) : W p l e R s m args below meth c H locs cells slots Q (F0 m pc ls (.int x :: .ref (ad E g r) :: rest)) := by
  obtain ⟨hx, hb, -, -, hown, hts, -, hKK, -, -⟩ := id C
  have he := Wl_get (E := E) (G := G) (K := K) hv
  rw [hc] at he
  refine va_put (D := E.1) hx hb hts (fun w h => List.mem_cons_of_mem _ (hin w h)) ty0 hty hnm hown hKK.1 w.1 (x_D C) w.2 (pl g r) he hcl k hk (x_hts C hw) (fun _ h => h) hfin hdd hn hfit hl hd (fun H1 locs1 hP _ hS => kk H1 locs1 ⟨?_, hS⟩)
  rw [← hs, ← hc (sg (G g r) k x) (K g r), Wl_setI hv] at hP
  exact hP
theorem x_aldI {n g r ki : Nat} {i : Int32} (C : Cx E A p s m args meth c w0 cc nL ret own) (w : Wd E A s G K H locs) (hv : vld g r) (hc : ∀ x y, cel E g r x y = .inl (E.2.1 0, n, .inl x)) (hi : inb i n) (hk : i.toNatClampNeg = ki) (hd : decode cc pc = .ok (.iaload, 1))
    (kk : W p l e R s m args below meth c H locs cells slots Q (F0 m (pc + 1) ls (.int (G g r ki) :: rest))) : W p l e R s m args below meth c H locs cells slots Q (F0 m pc ls (.int i :: .ref (ad E g r) :: rest)) := by
  obtain ⟨hx, hb, -, -, hown, hts, -, hKK, -, -⟩ := id C
  have he := Wl_get (E := E) (G := G) (K := K) hv
  rw [hc] at he
  subst hk
  exact va_iald (D := E.1) hx hb hKK.1 w.1 (pl g r) 0 he rfl (inb_in hi) hd kk
theorem x_aldJ {n g r ki : Nat} {i : Int32} (C : Cx E A p s m args meth c w0 cc nL ret own) (w : Wd E A s G K H locs) (hv : vld g r) (hc : ∀ x y, cel E g r x y = .inl (E.2.1 1, n, .inr (.inl y))) (hi : inb i n) (hk : i.toNatClampNeg = ki) (hd : decode cc pc = .ok (.laload, 1))
    (kk : W p l e R s m args below meth c H locs cells slots Q (F0 m (pc + 1) ls (.long (K g r ki) :: rest))) : W p l e R s m args below meth c H locs cells slots Q (F0 m pc ls (.int i :: .ref (ad E g r) :: rest)) := by
  obtain ⟨hx, hb, -, -, hown, hts, -, hKK, -, -⟩ := id C
  have he := Wl_get (E := E) (G := G) (K := K) hv
  rw [hc] at he
  subst hk
  exact va_lald (D := E.1) hx hb hKK.1 w.1 (pl g r) 1 he rfl (inb_in hi) hd kk
theorem x_astI {n g r ki : Nat} {i x : Int32} (C : Cx E A p s m args meth c w0 cc nL ret own) (w : Wd E A s G K H locs) (hv : vld g r) (hc : ∀ x y, cel E g r x y = .inl (E.2.1 0, n, .inl x)) (hi : inb i n) (hk : i.toNatClampNeg = ki) (hd : decode cc pc = .ok (.iastore, 1))
    (kk : ∀ (H1 : Heap) (locs1 : List Loc), Wd E A s (up3 G g r ki x) K H1 locs1 → W p l e R s m args below meth c H1 locs1 cells slots Q (F0 m (pc + 1) ls rest)) : W p l e R s m args below meth c H locs cells slots Q (F0 m pc ls (.int x :: .int i :: .ref (ad E g r) :: rest)) := by
  obtain ⟨hx, hb, -, -, hown, hts, -, hKK, -, -⟩ := id C
  have he := Wl_get (E := E) (G := G) (K := K) hv
  rw [hc] at he
  subst hk
  refine va_iast (D := E.1) hx hb hKK.1 w.1 (x_D C) w.2 (pl g r) 0 he rfl (inb_in hi) hd (fun H1 locs1 hP _ hS => kk H1 locs1 ⟨?_, hS⟩)
  rw [show upd (G g r) i.toNatClampNeg x = sg (G g r) i.toNatClampNeg x from rfl, ← hc (sg (G g r) i.toNatClampNeg x) (K g r), Wl_setI hv] at hP
  exact hP
theorem x_astJ {n g r ki : Nat} {i : Int32} {x : Int64} (C : Cx E A p s m args meth c w0 cc nL ret own) (w : Wd E A s G K H locs) (hv : vld g r) (hc : ∀ x y, cel E g r x y = .inl (E.2.1 1, n, .inr (.inl y))) (hi : inb i n) (hk : i.toNatClampNeg = ki) (hd : decode cc pc = .ok (.lastore, 1))
    (kk : ∀ (H1 : Heap) (locs1 : List Loc), Wd E A s G (up3 K g r ki x) H1 locs1 → W p l e R s m args below meth c H1 locs1 cells slots Q (F0 m (pc + 1) ls rest)) : W p l e R s m args below meth c H locs cells slots Q (F0 m pc ls (.long x :: .int i :: .ref (ad E g r) :: rest)) := by
  obtain ⟨hx, hb, -, -, hown, hts, -, hKK, -, -⟩ := id C
  have he := Wl_get (E := E) (G := G) (K := K) hv
  rw [hc] at he
  subst hk
  refine va_last (D := E.1) hx hb hKK.1 w.1 (x_D C) w.2 (pl g r) 1 he rfl (inb_in hi) hd (fun H1 locs1 hP _ hS => kk H1 locs1 ⟨?_, hS⟩)
  rw [show vp_updL (K g r) i.toNatClampNeg x = sg (K g r) i.toNatClampNeg x from rfl, ← hc (G g r) (sg (K g r) i.toNatClampNeg x), Wl_setJ hv] at hP
  exact hP
theorem x_alen {n g r : Nat} {v : Int32} {ty : FieldType} {t0 : Nat} {X : ClassId} {Y : (Nat → Int32) ⊕ _} (C : Cx E A p s m args meth c w0 cc nL ret own) (w : Wd E A s G K H locs) (hv : vld g r) (hc : cel E g r (G g r) (K g r) = .inl (X, n, Y)) (ht : (tyW E)[t0]? = some (X, ty)) (hvv : Int32.ofNat n = v) (hd : decode cc pc = .ok (.arraylength, 1))
    (kk : W p l e R s m args below meth c H locs cells slots Q (F0 m (pc + 1) ls (.int v :: rest))) : W p l e R s m args below meth c H locs cells slots Q (F0 m pc ls (.ref (ad E g r) :: rest)) := by
  obtain ⟨hx, hb, -, -, hown, hts, -, hKK, -, -⟩ := id C
  have he := Wl_get (E := E) (G := G) (K := K) hv
  rw [hc] at he
  exact va_alen (D := E.1) hx hb hKK.1 w.1 (pl g r) t0 he ht hvv hd kk
theorem inb_lt {i : Int32} {n : Nat} (h : inb i n) : i.toNatClampNeg < n := by
  obtain ⟨h1, h2⟩ := h
  show i.toInt.toNat < n
  omega
/-- a compressor out of its row; a saved state out of its row -/
theorem x_aldC {g : Nat} {i : Int32} (C : Cx E A p s m args meth c w0 cc nL ret own) (w : Wd E A s G K H locs) (hg : g < 6) (hi : inb i 5) (hd : decode cc pc = .ok (.aaload, 1))
    (kk : W p l e R s m args below meth c H locs cells slots Q (F0 m (pc + 1) ls (.ref (ad E g (5 + i.toNatClampNeg)) :: rest))) : W p l e R s m args below meth c H locs cells slots Q (F0 m pc ls (.int i :: .ref (ad E g 4) :: rest)) := by
  obtain ⟨hx, hb, -, -, hown, hts, -, hKK, -, -⟩ := id C
  have he := Wl_get (E := E) (G := G) (K := K) (vS hg (show 4 < 10 by omega))
  rw [cel_S hg] at he
  refine va_aldq (D := E.1) hx hb hKK.1 w.1 (pl g 4) 2 he rfl (inb_in hi) hd ?_
  rw [if_pos (inb_lt hi)]
  exact kk
theorem x_aldS {i : Int32} (C : Cx E A p s m args meth c w0 cc nL ret own) (w : Wd E A s G K H locs) (hi : inb i 4) (hd : decode cc pc = .ok (.aaload, 1))
    (kk : W p l e R s m args below meth c H locs cells slots Q (F0 m (pc + 1) ls (.ref (ad E (2 + i.toNatClampNeg) 0) :: rest))) : W p l e R s m args below meth c H locs cells slots Q (F0 m pc ls (.int i :: .ref (ad E 6 2) :: rest)) := by
  obtain ⟨hx, hb, -, -, hown, hts, -, hKK, -, -⟩ := id C
  have he := Wl_get (E := E) (G := G) (K := K) (v6 (show 2 < 3 by omega))
  refine va_aldq (D := E.1) hx hb hKK.1 w.1 (pl 6 2) 3 he rfl (inb_in hi) hd ?_
  rw [if_pos (inb_lt hi)]
  exact kk
/-- a static row: its address, then a place of it -/
theorem x_srow {n : String} {f : Nat → Int32} (C : Cx E A p s m args meth c w0 cc nL ret own) (w : Wd E A s G K H locs) (hZ : rowZ n f A s s.heap) (hw : Cond.fieldLink own index "AirStation" n "[I" ∈ wsL_law) (hd : decode cc pc = .ok (.getstatic index, 3))
    (kk : ∀ b : Nat, va_X b 8 f s s.heap → b < s.heap.size → ¬ A b → W p l e R s m args below meth c H locs cells slots Q (F0 m (pc + 3) ls (.ref b :: rest))) : W p l e R s m args below meth c H locs cells slots Q (F0 m pc ls rest) := by
  obtain ⟨hx, hb, -, -, hown, hts, -, hKK, -, -⟩ := id C
  obtain ⟨b, h1, h2, h3, h4⟩ := hZ
  exact va_gets hx hb h1 w.2 hown (x_hts C hw) (fun _ h => h) hd (kk b h2 h3 h4)
theorem x_srowN {n : String} {f : Nat → Int32} {host : String} (C : Cx E A p s m args meth c w0 cc nL ret own) (w : Wd E A s G K H locs) (hZ : rowZ n f A s s.heap) (hw : Cond.fieldLinkNest own index "AirStation" n "[I" host ∈ nestW) (hd : decode cc pc = .ok (.getstatic index, 3))
    (kk : ∀ b : Nat, va_X b 8 f s s.heap → b < s.heap.size → ¬ A b → W p l e R s m args below meth c H locs cells slots Q (F0 m (pc + 3) ls (.ref b :: rest))) : W p l e R s m args below meth c H locs cells slots Q (F0 m pc ls rest) := by
  obtain ⟨hx, hb, -, -, hown, hts, -, hKK, -, -⟩ := id C
  obtain ⟨b, h1, h2, h3, h4⟩ := hZ
  exact va_getsN hx hb h1 w.2 hown (va_Nw.use rfl (hKK.2.2.1 _ hw)) (fun _ h => h) hd (kk b h2 h3 h4)
theorem x_sld {b ki : Nat} {f : Nat → Int32} {i : Int32} (C : Cx E A p s m args meth c w0 cc nL ret own) (w : Wd E A s G K H locs) (hX : va_X b 8 f s s.heap) (hbl : b < s.heap.size) (hbA : ¬ A b) (hi : inb i 8) (hk : i.toNatClampNeg = ki) (hd : decode cc pc = .ok (.iaload, 1))
    (kk : W p l e R s m args below meth c H locs cells slots Q (F0 m (pc + 1) ls (.int (f ki) :: rest))) : W p l e R s m args below meth c H locs cells slots Q (F0 m pc ls (.int i :: .ref b :: rest)) := by
  subst hk
  exact va_sld C.1 C.2.1 hX hbl hbA w.2 (inb_in hi) hd kk
theorem x_min {x y : Int32} (C : Cx E A p s m args meth c w0 cc nL ret own) (hl : ls.size = nL) (q1 : Cond.methodLink own index Lib.Math.min.name ∈ wsL_law) (q2 : Cond.static Lib.Math.min.name ∈ wsL_law) (q3 : Cond.initialized "java/lang/Math" ∈ wsL_law) (q4 : Cond.code Lib.Math.min.name Lib.Math.min.code 2 (some .int) ∈ wsL_law) (hf : 1 ≤ R.frames) (hlo : (rest.map fun v => v.category).sum + 13 ≤ R.locals) (hc : cells ≤ R.cells) (hs : slots ≤ R.slots) (hd : decode cc pc = .ok (.invokestatic index, 3))
    (kk : W p l e R s m args below meth c H locs cells slots Q (F0 m (pc + 3) ls (.int (if y < x then y else x) :: rest))) : W p l e R s m args below meth c H locs cells slots Q (F0 m pc ls (.int y :: .int x :: rest)) := by
  obtain ⟨hx, hb, -, hml, hown, hts, -, hKK, -, -⟩ := id C
  exact va_mmin hx hb (hml.trans hl.symm) hown (x_hts C q1) (x_hts C q2) (x_hts C q3) (x_hts C q4) hf hlo hc hs hd kk
theorem x_max {x y : Int32} (C : Cx E A p s m args meth c w0 cc nL ret own) (hl : ls.size = nL) (q1 : Cond.methodLink own index Lib.Math.max.name ∈ wsL_law) (q2 : Cond.static Lib.Math.max.name ∈ wsL_law) (q3 : Cond.initialized "java/lang/Math" ∈ wsL_law) (q4 : Cond.code Lib.Math.max.name Lib.Math.max.code 2 (some .int) ∈ wsL_law) (hf : 1 ≤ R.frames) (hlo : (rest.map fun v => v.category).sum + 13 ≤ R.locals) (hc : cells ≤ R.cells) (hs : slots ≤ R.slots) (hd : decode cc pc = .ok (.invokestatic index, 3))
    (kk : W p l e R s m args below meth c H locs cells slots Q (F0 m (pc + 3) ls (.int (if x < y then y else x) :: rest))) : W p l e R s m args below meth c H locs cells slots Q (F0 m pc ls (.int y :: .int x :: rest)) := by
  obtain ⟨hx, hb, -, hml, hown, hts, -, hKK, -, -⟩ := id C
  exact va_mmax hx hb (hml.trans hl.symm) hown (x_hts C q1) (x_hts C q2) (x_hts C q3) (x_hts C q4) hf hlo hc hs hd kk
/-- System.arraycopy(row, 0, row, 0, n) between two rows of the world -/
def cpy {α : Type} (f g : Nat → α) (n : Nat) : Nat → α := fun i => if i < n then f i else g i
theorem cpy_va {α : Type} (f g : Nat → α) (n : Nat) : va_cpy f g 0 0 n = cpy f g n := by
  funext i
  simp [va_cpy, cpy]
theorem x_cpyI {n0 n1 g r g' r' kn : Nat} {n : Int32} (C : Cx E A p s m args meth c w0 cc nL ret own) (w : Wd E A s G K H locs) (hl : ls.size = nL) (hv' : vld g' r') (hv : vld g r) (hc' : ∀ x y, cel E g' r' x y = .inl (E.2.1 0, n0, .inl x)) (hc : ∀ x y, cel E g r x y = .inl (E.2.1 0, n1, .inl x)) (hn : ¬ n < 0) (hk : n.toNatClampNeg = kn) (h4 : kn ≤ n0) (h5 : kn ≤ n1)
    (q1 : Cond.methodLink own index arraycopyName ∈ wsL_law) (q2 : Cond.native arraycopyName ∈ wsL_law) (q3 : Cond.static arraycopyName ∈ wsL_law) (q4 : Cond.initialized "java/lang/System" ∈ wsL_law) (hf : 1 ≤ R.frames) (hlo : (rest.map fun v => v.category).sum + (nativeFrameWords "java/lang/System" "arraycopy" 5 + 11) ≤ R.locals) (hd : decode cc pc = .ok (.invokestatic index, 3))
    (kk : ∀ (H1 : Heap) (locs1 : List Loc), Wd E A s (sg G g (sg (G g) r (cpy (G g' r') (G g r) kn))) K H1 locs1 → W p l e R s m args below meth c H1 locs1 cells slots Q (F0 m (pc + 3) ls rest)) : W p l e R s m args below meth c H locs cells slots Q (F0 m pc ls (.int n :: .int 0 :: .ref (ad E g r) :: .int 0 :: .ref (ad E g' r') :: rest)) := by
  obtain ⟨hx, hb, -, hml, hown, hts, -, hKK, -, -⟩ := id C
  have he := Wl_get (E := E) (G := G) (K := K) hv
  have he' := Wl_get (E := E) (G := G) (K := K) hv'
  rw [hc] at he
  rw [hc'] at he'
  subst hk
  have z0 : (0 : Int32).toNatClampNeg = 0 := by decide
  refine va_copyi (D := E.1) hx hb (hml.trans hl.symm) hown (x_hts C q1) (x_hts C q2) (x_hts C q3) (x_hts C q4) hKK.1 w.1 (x_D C) w.2 (pl g' r') (pl g r) 0 0 he' he rfl rfl rfl (by decide) (by decide) hn (by rw [z0]; omega) (by rw [z0]; omega) (fun i _ => rfl) hf hlo hd (fun H1 locs1 hP _ hS => kk H1 locs1 ⟨?_, hS⟩)
  rw [z0, cpy_va, ← hc (cpy (G g' r') (G g r) n.toNatClampNeg) (K g r), Wl_setI hv] at hP
  exact hP
theorem x_cpyJ {n0 n1 g r g' r' kn : Nat} {n : Int32} (C : Cx E A p s m args meth c w0 cc nL ret own) (w : Wd E A s G K H locs) (hl : ls.size = nL) (hv' : vld g' r') (hv : vld g r) (hc' : ∀ x y, cel E g' r' x y = .inl (E.2.1 1, n0, .inr (.inl y))) (hc : ∀ x y, cel E g r x y = .inl (E.2.1 1, n1, .inr (.inl y))) (hn : ¬ n < 0) (hk : n.toNatClampNeg = kn) (h4 : kn ≤ n0) (h5 : kn ≤ n1)
    (q1 : Cond.methodLink own index arraycopyName ∈ wsL_law) (q2 : Cond.native arraycopyName ∈ wsL_law) (q3 : Cond.static arraycopyName ∈ wsL_law) (q4 : Cond.initialized "java/lang/System" ∈ wsL_law) (hf : 1 ≤ R.frames) (hlo : (rest.map fun v => v.category).sum + (nativeFrameWords "java/lang/System" "arraycopy" 5 + 11) ≤ R.locals) (hd : decode cc pc = .ok (.invokestatic index, 3))
    (kk : ∀ (H1 : Heap) (locs1 : List Loc), Wd E A s G (sg K g (sg (K g) r (cpy (K g' r') (K g r) kn))) H1 locs1 → W p l e R s m args below meth c H1 locs1 cells slots Q (F0 m (pc + 3) ls rest)) : W p l e R s m args below meth c H locs cells slots Q (F0 m pc ls (.int n :: .int 0 :: .ref (ad E g r) :: .int 0 :: .ref (ad E g' r') :: rest)) := by
  obtain ⟨hx, hb, -, hml, hown, hts, -, hKK, -, -⟩ := id C
  have he := Wl_get (E := E) (G := G) (K := K) hv
  have he' := Wl_get (E := E) (G := G) (K := K) hv'
  rw [hc] at he
  rw [hc'] at he'
  subst hk
  have z0 : (0 : Int32).toNatClampNeg = 0 := by decide
  refine va_copyl (D := E.1) hx hb (hml.trans hl.symm) hown (x_hts C q1) (x_hts C q2) (x_hts C q3) (x_hts C q4) hKK.1 w.1 (x_D C) w.2 (pl g' r') (pl g r) 1 1 he' he rfl rfl rfl (by decide) (by decide) hn (by rw [z0]; omega) (by rw [z0]; omega) (fun i _ => rfl) hf hlo hd (fun H1 locs1 hP _ hS => kk H1 locs1 ⟨?_, hS⟩)
  rw [z0, cpy_va, ← hc (G g r) (cpy (K g' r') (K g r) n.toNatClampNeg), Wl_setJ hv] at hP
  exact hP
/-! ends -/
theorem x_fr (C : Cx E A p s m args meth c w0 cc nL ret own) (w : Wd E A s G K H locs) {t : State} (ht : t.heap = H) : PosM E G K t ∧ va_F A s t := ⟨by rw [PosM, ht]; exact w.1, w.2.F ht⟩

theorem x_ri {G' : M3} {K' : J3} {v r : Int32} (C : Cx E A p s m args meth c w0 cc nL (some .int) own) (w : Wd E A s G K H locs) (hv : v = r) (hG : G = G') (hK : K = K') (hd : decode cc pc = .ok (.ireturn, 1)) : W p l e R s m args below meth c H locs cells slots (MQ below (va_Qi (fun (r1 : Int32) (_ : Unit) => r1 = r) (fun _ t => PosM E G' K' t) A) args s cells slots A) (F0 m pc ls [.int v]) := by
  obtain ⟨hx, hb, hr, -, -, -, hlocks, -, -, -⟩ := id C
  subst hG hK
  exact W.iret hx hb hr (fun t ht _ => ⟨⟨v, (), rfl, hv, (x_fr C w ht).1⟩, (x_fr C w ht).2⟩) w.2.2.2 hd

theorem x_rl {G' : M3} {K' : J3} {v r : Int64} (C : Cx E A p s m args meth c w0 cc nL (some .long) own) (w : Wd E A s G K H locs) (hv : v = r) (hG : G = G') (hK : K = K') (hd : decode cc pc = .ok (.lreturn, 1)) : W p l e R s m args below meth c H locs cells slots (MQ below (va_Ql (fun (r1 : Int64) (_ : Unit) => r1 = r) (fun _ t => PosM E G' K' t) A) args s cells slots A) (F0 m pc ls [.long v]) := by
  obtain ⟨hx, hb, hr, -, -, -, hlocks, -, -, -⟩ := id C
  subst hG hK
  exact W.lret hx hb hr (fun t ht _ => ⟨⟨v, (), rfl, hv, (x_fr C w ht).1⟩, (x_fr C w ht).2⟩) w.2.2.2 hd

theorem x_rd {G' : M3} {K' : J3} {v r : UInt64} (C : Cx E A p s m args meth c w0 cc nL (some .double) own) (w : Wd E A s G K H locs) (hv : v = r) (hG : G = G') (hK : K = K') (hd : decode cc pc = .ok (.dreturn, 1)) : W p l e R s m args below meth c H locs cells slots (MQ below (va_Qd (fun (r1 : UInt64) (_ : Unit) => r1 = r) (fun _ t => PosM E G' K' t) A) args s cells slots A) (F0 m pc ls [.double v]) := by
  obtain ⟨hx, hb, hr, -, -, -, hlocks, -, -, -⟩ := id C
  subst hG hK
  exact W.dret hx hb hr (fun t ht _ => ⟨⟨v, (), rfl, hv, (x_fr C w ht).1⟩, (x_fr C w ht).2⟩) w.2.2.2 hd

theorem x_rz {G' : M3} {K' : J3} {v r : Int32} (C : Cx E A p s m args meth c w0 cc nL (some .boolean) own) (w : Wd E A s G K H locs) (hz : v = 0 ∨ v = 1) (hv : v = r) (hG : G = G') (hK : K = K') (hd : decode cc pc = .ok (.ireturn, 1)) : W p l e R s m args below meth c H locs cells slots (MQ below (va_Qi (fun (r1 : Int32) (_ : Unit) => r1 = r) (fun _ t => PosM E G' K' t) A) args s cells slots A) (F0 m pc ls [.int v]) := by
  obtain ⟨hx, hb, hr, -, -, -, hlocks, -, -, -⟩ := id C
  subst hG hK
  exact W.zret hx hb hr (by rcases hz with rfl | rfl <;> rfl) (fun t ht _ => ⟨⟨v, (), rfl, hv, (x_fr C w ht).1⟩, (x_fr C w ht).2⟩) w.2.2.2 hd
theorem x_rv {G' : M3} {K' : J3} (C : Cx E A p s m args meth c w0 cc nL none own) (w : Wd E A s G K H locs) (hG : G = G') (hK : K = K') (hd : decode cc pc = .ok (.return_, 1)) : W p l e R s m args below meth c H locs cells slots (MQ below (va_Qv (fun (_ : Unit) => True) (fun _ t => PosM E G' K' t) A) args s cells slots A) (F0 m pc ls []) := by
  obtain ⟨hx, hb, hr, -, -, -, hlocks, -, -, -⟩ := id C
  subst hG hK
  exact W.vret hx hb hr (fun t ht _ => ⟨⟨(), rfl, trivial, (x_fr C w ht).1⟩, (x_fr C w ht).2⟩) w.2.2.2 hd
theorem x_rq {G' : M3} {K' : J3} {v r : Option Nat} {cn : String} (C : Cx E A p s m args meth c w0 cc nL (some (.object cn)) own) (w : Wd E A s G K H locs) {x : Value} (hx1 : x = va_rf v) (hv : v = r) (hG : G = G') (hK : K = K') (hd : decode cc pc = .ok (.areturn, 1)) : W p l e R s m args below meth c H locs cells slots (MQ below (va_Qq (fun (r1 : Option Nat) (_ : Unit) => r1 = r) (fun _ t => PosM E G' K' t) A) args s cells slots A) (F0 m pc ls [x]) := by
  obtain ⟨hx, hb, hr, -, -, -, hlocks, -, -, -⟩ := id C
  subst hG hK hx1
  exact W.aret hx hb hr (Or.inl ⟨_, rfl⟩) (by cases v with | none => exact Or.inl rfl | some a => exact Or.inr ⟨a, rfl⟩) (fun t ht _ => ⟨⟨v, (), rfl, hv, (x_fr C w ht).1⟩, (x_fr C w ht).2⟩) w.2.2.2 hd

/-! calls -/
theorem x_goodAll : wsL_law.all goodWord = true := by decide +kernel
theorem x_good {w1 w2 : Cond} (h : w2 ∈ wsL_law) : GoodIn (wsM w1) (wsM w2) := by
  intro w hw
  have h2 : w ∈ wsL_law := by
    rcases List.mem_cons.mp hw with rfl | h3
    · exact h
    · exact h3
  exact ⟨List.mem_cons_of_mem _ h2, good_of_word (List.all_eq_true.mp x_goodAll w h2)⟩
theorem x_goodV {w1 w2 : Cond} {idx : Nat} {Cn : String} {y : MethodName} (h : w2 ∈ wsL_law) (q1 : Cond.methodLink own idx y ∈ wsL_law) (q2 : Cond.instanceMethod y ∈ wsL_law) (q3 : Cond.selects Cn y y ∈ wsL_law) (q4 : Cond.initialized Cn ∈ wsL_law) : GoodIn (wsM w1) (wsV own idx Cn y (wsM w2)) := by
  refine goodIn_app (fun w hw => ?_) (x_good h)
  have h2 : w ∈ wsL_law := by
    simp only [List.mem_cons, List.not_mem_nil, or_false] at hw
    rcases hw with rfl | rfl | rfl | rfl <;> assumption
  exact ⟨List.mem_cons_of_mem _ h2, good_of_word (List.all_eq_true.mp x_goodAll w h2)⟩
theorem x_goodS {w1 w2 : Cond} {idx : Nat} {y : MethodName} (h : w2 ∈ wsL_law) (q1 : Cond.methodLink own idx y ∈ wsL_law) (q2 : Cond.static y ∈ wsL_law) (q4 : Cond.initialized own ∈ wsL_law) : GoodIn (wsM w1) (wsS own idx y (wsM w2)) := by
  refine goodIn_app (fun w hw => ?_) (x_good h)
  have h2 : w ∈ wsL_law := by
    simp only [List.mem_cons, List.not_mem_nil, or_false] at hw
    rcases hw with rfl | rfl | rfl <;> assumption
  exact ⟨List.mem_cons_of_mem _ h2, good_of_word (List.all_eq_true.mp x_goodAll w h2)⟩
theorem x_pre (C : Cx E A p s m args meth c w0 cc nL ret own) (w : Wd E A s G K H locs) {U : State} (hU : U.heap = H) (hW : s.WarmedH U.vm) : PreM E G K H.size U := by
  obtain ⟨-, -, -, -, -, -, -, hKK, hA1, hA2⟩ := id C
  refine ⟨by rw [hU], by rw [hU]; exact w.1, KK.mv hKK w.2 hW hU (fun q h => ?_)⟩
  rcases h with ⟨g, r, hv, rfl⟩ | h
  · exact hA2 g r hv
  · exact hA1 q (Nat.le_trans w.2.1 h)
theorem x_sub (C : Cx E A p s m args meth c w0 cc nL ret own) (w : Wd E A s G K H locs) : ∀ q, AA E H.size q → A q := by
  obtain ⟨-, -, -, -, -, -, -, -, hA1, hA2⟩ := id C
  rintro q (⟨g, r, hv, rfl⟩ | h)
  · exact hA2 g r hv
  · exact hA1 q (Nat.le_trans w.2.1 h)

theorem x_cVi {y : MethodName} {cc2 : ByteArray} {n2 : Nat} {ret2 : Option FieldType} {rm2 : Room} {g r ci N : Nat} {fs : List Value} {Cn : String} {T : u_T} {st As : List Value} {v : Int32} {G' : M3} {K' : J3} (C : Cx E A p s m args meth c w0 cc nL ret own) (w : Wd E A s G K H locs) (hvl : vld g r) (hc : cel E g r (G g r) (K g r) = .inr (ci, fs)) (hcl : vwCl[ci]? = some (Cn, T, N))
    (hM : MtI l y (Cond.code y cc2 n2 ret2) rm2 E (.ref (ad E g r) :: As) G K v G' K') (q1 : Cond.methodLink own index y ∈ wsL_law) (q2 : Cond.instanceMethod y ∈ wsL_law) (q3 : Cond.selects Cn y y ∈ wsL_law) (q4 : Cond.initialized Cn ∈ wsL_law) (q5 : Cond.code y cc2 n2 ret2 ∈ wsL_law)
    (hd1 : y.cls = Cn ∧ y.cls ≠ "java/lang/invoke/MethodHandle" ∧ y.cls ≠ "java/lang/invoke/VarHandle" ∧ (parseMethodDescriptor y.desc).map (fun d => d.parameters.length) = some As.length) (h00 : rm2.cells = 0 ∧ rm2.slots = 0) (hR : rm2.frames + 1 ≤ R.frames ∧ 8 + (n2 + 11) + rm2.locals ≤ R.locals) (hcs : cells ≤ R.cells ∧ slots ≤ R.slots) (hl : ls.size = nL) (hst : (rest.map fun v => v.category).sum ≤ 8) (hst2 : st = As.reverse ++ .ref (ad E g r) :: rest) (hd : decode cc pc = .ok (.invokevirtual index, 3))
    (kk : ∀ (H1 : Heap) (locs1 : List Loc), Wd E A s G' K' H1 locs1 → W p l e R s m args below meth c H1 locs1 cells slots Q (F0 m (pc + 3) ls (.int v :: rest))) : W p l e R s m args below meth c H locs cells slots Q (F0 m pc ls st) := by
  obtain ⟨hx, hb, -, hml, hown, hts, -, hKK, -, -⟩ := id C
  have he := Wl_get (E := E) (G := G) (K := K) hvl
  rw [hc] at he
  refine va_calli (va_runV (As := As) (rest := rest) ⟨hx, hb, hml, hown, hts⟩ (hM H.size) (cwV As.length hts (x_goodV q5 q1 q2 q3 q4) rfl h00.1 h00.2 hd1 hR) ⟨PreM.blind, va_recv hKK.1 w.1 hcl he, fun U hU hW => ⟨rfl, x_pre C w hU hW⟩⟩ rfl rfl hl hst2 (lv_room hst) hd hcs) w.2 (fun q _ h => x_sub C w q h) (x_sub C w) (fun r u t H1 locs1 ht _ hw hB _ _ hS => by subst hw; exact kk H1 locs1 ⟨by rw [← ht]; exact hB, hS⟩)
theorem x_cSi {y : MethodName} {cc2 : ByteArray} {n2 : Nat} {ret2 : Option FieldType} {rm2 : Room} {st As : List Value} {v : Int32} {G' : M3} {K' : J3} (C : Cx E A p s m args meth c w0 cc nL ret own) (w : Wd E A s G K H locs)
    (hM : MtI l y (Cond.code y cc2 n2 ret2) rm2 E As G K v G' K') (q1 : Cond.methodLink own index y ∈ wsL_law) (q2 : Cond.static y ∈ wsL_law) (q4 : Cond.initialized own ∈ wsL_law) (q5 : Cond.code y cc2 n2 ret2 ∈ wsL_law)
    (hd1 : y.cls = own ∧ y.cls ≠ "java/lang/invoke/MethodHandle" ∧ y.cls ≠ "java/lang/invoke/VarHandle" ∧ (parseMethodDescriptor y.desc).map (fun d => d.parameters.length) = some As.length) (h00 : rm2.cells = 0 ∧ rm2.slots = 0) (hR : rm2.frames + 1 ≤ R.frames ∧ 8 + (n2 + 11) + rm2.locals ≤ R.locals) (hcs : cells ≤ R.cells ∧ slots ≤ R.slots) (hl : ls.size = nL) (hst : (rest.map fun v => v.category).sum ≤ 8) (hst2 : st = As.reverse ++ rest) (hd : decode cc pc = .ok (.invokestatic index, 3))
    (kk : ∀ (H1 : Heap) (locs1 : List Loc), Wd E A s G' K' H1 locs1 → W p l e R s m args below meth c H1 locs1 cells slots Q (F0 m (pc + 3) ls (.int v :: rest))) : W p l e R s m args below meth c H locs cells slots Q (F0 m pc ls st) := by
  obtain ⟨hx, hb, -, hml, hown, hts, -, hKK, -, -⟩ := id C
  refine va_calli (va_runS (As := As) (rest := rest) ⟨hx, hb, hml, hown, hts⟩ (hM H.size) (cwS As.length hts (x_goodS q5 q1 q2 q4) rfl h00.1 h00.2 hd1 hR) ⟨PreM.blind, fun U hU hW => ⟨rfl, x_pre C w hU hW⟩⟩ rfl rfl hl hst2 (lv_room hst) hd hcs) w.2 (fun q _ h => x_sub C w q h) (x_sub C w) (fun r u t H1 locs1 ht _ hw hB _ _ hS => by subst hw; exact kk H1 locs1 ⟨by rw [← ht]; exact hB, hS⟩)

theorem x_cVl {y : MethodName} {cc2 : ByteArray} {n2 : Nat} {ret2 : Option FieldType} {rm2 : Room} {g r ci N : Nat} {fs : List Value} {Cn : String} {T : u_T} {st As : List Value} {v : Int64} {G' : M3} {K' : J3} (C : Cx E A p s m args meth c w0 cc nL ret own) (w : Wd E A s G K H locs) (hvl : vld g r) (hc : cel E g r (G g r) (K g r) = .inr (ci, fs)) (hcl : vwCl[ci]? = some (Cn, T, N))
    (hM : MtL l y (Cond.code y cc2 n2 ret2) rm2 E (.ref (ad E g r) :: As) G K v G' K') (q1 : Cond.methodLink own index y ∈ wsL_law) (q2 : Cond.instanceMethod y ∈ wsL_law) (q3 : Cond.selects Cn y y ∈ wsL_law) (q4 : Cond.initialized Cn ∈ wsL_law) (q5 : Cond.code y cc2 n2 ret2 ∈ wsL_law)
    (hd1 : y.cls = Cn ∧ y.cls ≠ "java/lang/invoke/MethodHandle" ∧ y.cls ≠ "java/lang/invoke/VarHandle" ∧ (parseMethodDescriptor y.desc).map (fun d => d.parameters.length) = some As.length) (h00 : rm2.cells = 0 ∧ rm2.slots = 0) (hR : rm2.frames + 1 ≤ R.frames ∧ 8 + (n2 + 11) + rm2.locals ≤ R.locals) (hcs : cells ≤ R.cells ∧ slots ≤ R.slots) (hl : ls.size = nL) (hst : (rest.map fun v => v.category).sum ≤ 8) (hst2 : st = As.reverse ++ .ref (ad E g r) :: rest) (hd : decode cc pc = .ok (.invokevirtual index, 3))
    (kk : ∀ (H1 : Heap) (locs1 : List Loc), Wd E A s G' K' H1 locs1 → W p l e R s m args below meth c H1 locs1 cells slots Q (F0 m (pc + 3) ls (.long v :: rest))) : W p l e R s m args below meth c H locs cells slots Q (F0 m pc ls st) := by
  obtain ⟨hx, hb, -, hml, hown, hts, -, hKK, -, -⟩ := id C
  have he := Wl_get (E := E) (G := G) (K := K) hvl
  rw [hc] at he
  refine va_calll (va_runV (As := As) (rest := rest) ⟨hx, hb, hml, hown, hts⟩ (hM H.size) (cwV As.length hts (x_goodV q5 q1 q2 q3 q4) rfl h00.1 h00.2 hd1 hR) ⟨PreM.blind, va_recv hKK.1 w.1 hcl he, fun U hU hW => ⟨rfl, x_pre C w hU hW⟩⟩ rfl rfl hl hst2 (lv_room hst) hd hcs) w.2 (fun q _ h => x_sub C w q h) (x_sub C w) (fun r u t H1 locs1 ht _ hw hB _ _ hS => by subst hw; exact kk H1 locs1 ⟨by rw [← ht]; exact hB, hS⟩)
theorem x_cSl {y : MethodName} {cc2 : ByteArray} {n2 : Nat} {ret2 : Option FieldType} {rm2 : Room} {st As : List Value} {v : Int64} {G' : M3} {K' : J3} (C : Cx E A p s m args meth c w0 cc nL ret own) (w : Wd E A s G K H locs)
    (hM : MtL l y (Cond.code y cc2 n2 ret2) rm2 E As G K v G' K') (q1 : Cond.methodLink own index y ∈ wsL_law) (q2 : Cond.static y ∈ wsL_law) (q4 : Cond.initialized own ∈ wsL_law) (q5 : Cond.code y cc2 n2 ret2 ∈ wsL_law)
    (hd1 : y.cls = own ∧ y.cls ≠ "java/lang/invoke/MethodHandle" ∧ y.cls ≠ "java/lang/invoke/VarHandle" ∧ (parseMethodDescriptor y.desc).map (fun d => d.parameters.length) = some As.length) (h00 : rm2.cells = 0 ∧ rm2.slots = 0) (hR : rm2.frames + 1 ≤ R.frames ∧ 8 + (n2 + 11) + rm2.locals ≤ R.locals) (hcs : cells ≤ R.cells ∧ slots ≤ R.slots) (hl : ls.size = nL) (hst : (rest.map fun v => v.category).sum ≤ 8) (hst2 : st = As.reverse ++ rest) (hd : decode cc pc = .ok (.invokestatic index, 3))
    (kk : ∀ (H1 : Heap) (locs1 : List Loc), Wd E A s G' K' H1 locs1 → W p l e R s m args below meth c H1 locs1 cells slots Q (F0 m (pc + 3) ls (.long v :: rest))) : W p l e R s m args below meth c H locs cells slots Q (F0 m pc ls st) := by
  obtain ⟨hx, hb, -, hml, hown, hts, -, hKK, -, -⟩ := id C
  refine va_calll (va_runS (As := As) (rest := rest) ⟨hx, hb, hml, hown, hts⟩ (hM H.size) (cwS As.length hts (x_goodS q5 q1 q2 q4) rfl h00.1 h00.2 hd1 hR) ⟨PreM.blind, fun U hU hW => ⟨rfl, x_pre C w hU hW⟩⟩ rfl rfl hl hst2 (lv_room hst) hd hcs) w.2 (fun q _ h => x_sub C w q h) (x_sub C w) (fun r u t H1 locs1 ht _ hw hB _ _ hS => by subst hw; exact kk H1 locs1 ⟨by rw [← ht]; exact hB, hS⟩)

theorem x_cVd {y : MethodName} {cc2 : ByteArray} {n2 : Nat} {ret2 : Option FieldType} {rm2 : Room} {g r ci N : Nat} {fs : List Value} {Cn : String} {T : u_T} {st As : List Value} {v : UInt64} {G' : M3} {K' : J3} (C : Cx E A p s m args meth c w0 cc nL ret own) (w : Wd E A s G K H locs) (hvl : vld g r) (hc : cel E g r (G g r) (K g r) = .inr (ci, fs)) (hcl : vwCl[ci]? = some (Cn, T, N))
    (hM : MtD l y (Cond.code y cc2 n2 ret2) rm2 E (.ref (ad E g r) :: As) G K v G' K') (q1 : Cond.methodLink own index y ∈ wsL_law) (q2 : Cond.instanceMethod y ∈ wsL_law) (q3 : Cond.selects Cn y y ∈ wsL_law) (q4 : Cond.initialized Cn ∈ wsL_law) (q5 : Cond.code y cc2 n2 ret2 ∈ wsL_law)
    (hd1 : y.cls = Cn ∧ y.cls ≠ "java/lang/invoke/MethodHandle" ∧ y.cls ≠ "java/lang/invoke/VarHandle" ∧ (parseMethodDescriptor y.desc).map (fun d => d.parameters.length) = some As.length) (h00 : rm2.cells = 0 ∧ rm2.slots = 0) (hR : rm2.frames + 1 ≤ R.frames ∧ 8 + (n2 + 11) + rm2.locals ≤ R.locals) (hcs : cells ≤ R.cells ∧ slots ≤ R.slots) (hl : ls.size = nL) (hst : (rest.map fun v => v.category).sum ≤ 8) (hst2 : st = As.reverse ++ .ref (ad E g r) :: rest) (hd : decode cc pc = .ok (.invokevirtual index, 3))
    (kk : ∀ (H1 : Heap) (locs1 : List Loc), Wd E A s G' K' H1 locs1 → W p l e R s m args below meth c H1 locs1 cells slots Q (F0 m (pc + 3) ls (.double v :: rest))) : W p l e R s m args below meth c H locs cells slots Q (F0 m pc ls st) := by
  obtain ⟨hx, hb, -, hml, hown, hts, -, hKK, -, -⟩ := id C
  have he := Wl_get (E := E) (G := G) (K := K) hvl
  rw [hc] at he
  refine va_calld (va_runV (As := As) (rest := rest) ⟨hx, hb, hml, hown, hts⟩ (hM H.size) (cwV As.length hts (x_goodV q5 q1 q2 q3 q4) rfl h00.1 h00.2 hd1 hR) ⟨PreM.blind, va_recv hKK.1 w.1 hcl he, fun U hU hW => ⟨rfl, x_pre C w hU hW⟩⟩ rfl rfl hl hst2 (lv_room hst) hd hcs) w.2 (fun q _ h => x_sub C w q h) (x_sub C w) (fun r u t H1 locs1 ht _ hw hB _ _ hS => by subst hw; exact kk H1 locs1 ⟨by rw [← ht]; exact hB, hS⟩)
theorem x_cSd {y : MethodName} {cc2 : ByteArray} {n2 : Nat} {ret2 : Option FieldType} {rm2 : Room} {st As : List Value} {v : UInt64} {G' : M3} {K' : J3} (C : Cx E A p s m args meth c w0 cc nL ret own) (w : Wd E A s G K H locs)
    (hM : MtD l y (Cond.code y cc2 n2 ret2) rm2 E As G K v G' K') (q1 : Cond.methodLink own index y ∈ wsL_law) (q2 : Cond.static y ∈ wsL_law) (q4 : Cond.initialized own ∈ wsL_law) (q5 : Cond.code y cc2 n2 ret2 ∈ wsL_law)
    (hd1 : y.cls = own ∧ y.cls ≠ "java/lang/invoke/MethodHandle" ∧ y.cls ≠ "java/lang/invoke/VarHandle" ∧ (parseMethodDescriptor y.desc).map (fun d => d.parameters.length) = some As.length) (h00 : rm2.cells = 0 ∧ rm2.slots = 0) (hR : rm2.frames + 1 ≤ R.frames ∧ 8 + (n2 + 11) + rm2.locals ≤ R.locals) (hcs : cells ≤ R.cells ∧ slots ≤ R.slots) (hl : ls.size = nL) (hst : (rest.map fun v => v.category).sum ≤ 8) (hst2 : st = As.reverse ++ rest) (hd : decode cc pc = .ok (.invokestatic index, 3))
    (kk : ∀ (H1 : Heap) (locs1 : List Loc), Wd E A s G' K' H1 locs1 → W p l e R s m args below meth c H1 locs1 cells slots Q (F0 m (pc + 3) ls (.double v :: rest))) : W p l e R s m args below meth c H locs cells slots Q (F0 m pc ls st) := by
  obtain ⟨hx, hb, -, hml, hown, hts, -, hKK, -, -⟩ := id C
  refine va_calld (va_runS (As := As) (rest := rest) ⟨hx, hb, hml, hown, hts⟩ (hM H.size) (cwS As.length hts (x_goodS q5 q1 q2 q4) rfl h00.1 h00.2 hd1 hR) ⟨PreM.blind, fun U hU hW => ⟨rfl, x_pre C w hU hW⟩⟩ rfl rfl hl hst2 (lv_room hst) hd hcs) w.2 (fun q _ h => x_sub C w q h) (x_sub C w) (fun r u t H1 locs1 ht _ hw hB _ _ hS => by subst hw; exact kk H1 locs1 ⟨by rw [← ht]; exact hB, hS⟩)

theorem x_cVq {y : MethodName} {cc2 : ByteArray} {n2 : Nat} {ret2 : Option FieldType} {rm2 : Room} {g r ci N : Nat} {fs : List Value} {Cn : String} {T : u_T} {st As : List Value} {v : Option Nat} {G' : M3} {K' : J3} (C : Cx E A p s m args meth c w0 cc nL ret own) (w : Wd E A s G K H locs) (hvl : vld g r) (hc : cel E g r (G g r) (K g r) = .inr (ci, fs)) (hcl : vwCl[ci]? = some (Cn, T, N))
    (hM : MtQ l y (Cond.code y cc2 n2 ret2) rm2 E (.ref (ad E g r) :: As) G K v G' K') (q1 : Cond.methodLink own index y ∈ wsL_law) (q2 : Cond.instanceMethod y ∈ wsL_law) (q3 : Cond.selects Cn y y ∈ wsL_law) (q4 : Cond.initialized Cn ∈ wsL_law) (q5 : Cond.code y cc2 n2 ret2 ∈ wsL_law)
    (hd1 : y.cls = Cn ∧ y.cls ≠ "java/lang/invoke/MethodHandle" ∧ y.cls ≠ "java/lang/invoke/VarHandle" ∧ (parseMethodDescriptor y.desc).map (fun d => d.parameters.length) = some As.length) (h00 : rm2.cells = 0 ∧ rm2.slots = 0) (hR : rm2.frames + 1 ≤ R.frames ∧ 8 + (n2 + 11) + rm2.locals ≤ R.locals) (hcs : cells ≤ R.cells ∧ slots ≤ R.slots) (hl : ls.size = nL) (hst : (rest.map fun v => v.category).sum ≤ 8) (hst2 : st = As.reverse ++ .ref (ad E g r) :: rest) (hd : decode cc pc = .ok (.invokevirtual index, 3))
    (kk : ∀ (H1 : Heap) (locs1 : List Loc), Wd E A s G' K' H1 locs1 → W p l e R s m args below meth c H1 locs1 cells slots Q (F0 m (pc + 3) ls (va_rf v :: rest))) : W p l e R s m args below meth c H locs cells slots Q (F0 m pc ls st) := by
  obtain ⟨hx, hb, -, hml, hown, hts, -, hKK, -, -⟩ := id C
  have he := Wl_get (E := E) (G := G) (K := K) hvl
  rw [hc] at he
  refine va_callq (va_runV (As := As) (rest := rest) ⟨hx, hb, hml, hown, hts⟩ (hM H.size) (cwV As.length hts (x_goodV q5 q1 q2 q3 q4) rfl h00.1 h00.2 hd1 hR) ⟨PreM.blind, va_recv hKK.1 w.1 hcl he, fun U hU hW => ⟨rfl, x_pre C w hU hW⟩⟩ rfl rfl hl hst2 (lv_room hst) hd hcs) w.2 (fun q _ h => x_sub C w q h) (x_sub C w) (fun r u t H1 locs1 ht _ hw hB _ _ hS => by subst hw; exact kk H1 locs1 ⟨by rw [← ht]; exact hB, hS⟩)
theorem x_cSq {y : MethodName} {cc2 : ByteArray} {n2 : Nat} {ret2 : Option FieldType} {rm2 : Room} {st As : List Value} {v : Option Nat} {G' : M3} {K' : J3} (C : Cx E A p s m args meth c w0 cc nL ret own) (w : Wd E A s G K H locs)
    (hM : MtQ l y (Cond.code y cc2 n2 ret2) rm2 E As G K v G' K') (q1 : Cond.methodLink own index y ∈ wsL_law) (q2 : Cond.static y ∈ wsL_law) (q4 : Cond.initialized own ∈ wsL_law) (q5 : Cond.code y cc2 n2 ret2 ∈ wsL_law)
    (hd1 : y.cls = own ∧ y.cls ≠ "java/lang/invoke/MethodHandle" ∧ y.cls ≠ "java/lang/invoke/VarHandle" ∧ (parseMethodDescriptor y.desc).map (fun d => d.parameters.length) = some As.length) (h00 : rm2.cells = 0 ∧ rm2.slots = 0) (hR : rm2.frames + 1 ≤ R.frames ∧ 8 + (n2 + 11) + rm2.locals ≤ R.locals) (hcs : cells ≤ R.cells ∧ slots ≤ R.slots) (hl : ls.size = nL) (hst : (rest.map fun v => v.category).sum ≤ 8) (hst2 : st = As.reverse ++ rest) (hd : decode cc pc = .ok (.invokestatic index, 3))
    (kk : ∀ (H1 : Heap) (locs1 : List Loc), Wd E A s G' K' H1 locs1 → W p l e R s m args below meth c H1 locs1 cells slots Q (F0 m (pc + 3) ls (va_rf v :: rest))) : W p l e R s m args below meth c H locs cells slots Q (F0 m pc ls st) := by
  obtain ⟨hx, hb, -, hml, hown, hts, -, hKK, -, -⟩ := id C
  refine va_callq (va_runS (As := As) (rest := rest) ⟨hx, hb, hml, hown, hts⟩ (hM H.size) (cwS As.length hts (x_goodS q5 q1 q2 q4) rfl h00.1 h00.2 hd1 hR) ⟨PreM.blind, fun U hU hW => ⟨rfl, x_pre C w hU hW⟩⟩ rfl rfl hl hst2 (lv_room hst) hd hcs) w.2 (fun q _ h => x_sub C w q h) (x_sub C w) (fun r u t H1 locs1 ht _ hw hB _ _ hS => by subst hw; exact kk H1 locs1 ⟨by rw [← ht]; exact hB, hS⟩)

theorem x_cVv {y : MethodName} {cc2 : ByteArray} {n2 : Nat} {ret2 : Option FieldType} {rm2 : Room} {g r ci N : Nat} {fs : List Value} {Cn : String} {T : u_T} {st As : List Value} {G' : M3} {K' : J3} (C : Cx E A p s m args meth c w0 cc nL ret own) (w : Wd E A s G K H locs) (hvl : vld g r) (hc : cel E g r (G g r) (K g r) = .inr (ci, fs)) (hcl : vwCl[ci]? = some (Cn, T, N))
    (hM : MtV l y (Cond.code y cc2 n2 ret2) rm2 E (.ref (ad E g r) :: As) G K G' K') (q1 : Cond.methodLink own index y ∈ wsL_law) (q2 : Cond.instanceMethod y ∈ wsL_law) (q3 : Cond.selects Cn y y ∈ wsL_law) (q4 : Cond.initialized Cn ∈ wsL_law) (q5 : Cond.code y cc2 n2 ret2 ∈ wsL_law)
    (hd1 : y.cls = Cn ∧ y.cls ≠ "java/lang/invoke/MethodHandle" ∧ y.cls ≠ "java/lang/invoke/VarHandle" ∧ (parseMethodDescriptor y.desc).map (fun d => d.parameters.length) = some As.length) (h00 : rm2.cells = 0 ∧ rm2.slots = 0) (hR : rm2.frames + 1 ≤ R.frames ∧ 8 + (n2 + 11) + rm2.locals ≤ R.locals) (hcs : cells ≤ R.cells ∧ slots ≤ R.slots) (hl : ls.size = nL) (hst : (rest.map fun v => v.category).sum ≤ 8) (hst2 : st = As.reverse ++ .ref (ad E g r) :: rest) (hd : decode cc pc = .ok (.invokevirtual index, 3))
    (kk : ∀ (H1 : Heap) (locs1 : List Loc), Wd E A s G' K' H1 locs1 → W p l e R s m args below meth c H1 locs1 cells slots Q (F0 m (pc + 3) ls (rest))) : W p l e R s m args below meth c H locs cells slots Q (F0 m pc ls st) := by
  obtain ⟨hx, hb, -, hml, hown, hts, -, hKK, -, -⟩ := id C
  have he := Wl_get (E := E) (G := G) (K := K) hvl
  rw [hc] at he
  refine va_callv (va_runV (As := As) (rest := rest) ⟨hx, hb, hml, hown, hts⟩ (hM H.size) (cwV As.length hts (x_goodV q5 q1 q2 q3 q4) rfl h00.1 h00.2 hd1 hR) ⟨PreM.blind, va_recv hKK.1 w.1 hcl he, fun U hU hW => ⟨rfl, x_pre C w hU hW⟩⟩ rfl rfl hl hst2 (lv_room hst) hd hcs) w.2 (fun q _ h => x_sub C w q h) (x_sub C w) (fun u t H1 locs1 ht _ hw hB _ _ hS => kk H1 locs1 ⟨by rw [← ht]; exact hB, hS⟩)
theorem x_cSv {y : MethodName} {cc2 : ByteArray} {n2 : Nat} {ret2 : Option FieldType} {rm2 : Room} {st As : List Value} {G' : M3} {K' : J3} (C : Cx E A p s m args meth c w0 cc nL ret own) (w : Wd E A s G K H locs)
    (hM : MtV l y (Cond.code y cc2 n2 ret2) rm2 E As G K G' K') (q1 : Cond.methodLink own index y ∈ wsL_law) (q2 : Cond.static y ∈ wsL_law) (q4 : Cond.initialized own ∈ wsL_law) (q5 : Cond.code y cc2 n2 ret2 ∈ wsL_law)
    (hd1 : y.cls = own ∧ y.cls ≠ "java/lang/invoke/MethodHandle" ∧ y.cls ≠ "java/lang/invoke/VarHandle" ∧ (parseMethodDescriptor y.desc).map (fun d => d.parameters.length) = some As.length) (h00 : rm2.cells = 0 ∧ rm2.slots = 0) (hR : rm2.frames + 1 ≤ R.frames ∧ 8 + (n2 + 11) + rm2.locals ≤ R.locals) (hcs : cells ≤ R.cells ∧ slots ≤ R.slots) (hl : ls.size = nL) (hst : (rest.map fun v => v.category).sum ≤ 8) (hst2 : st = As.reverse ++ rest) (hd : decode cc pc = .ok (.invokestatic index, 3))
    (kk : ∀ (H1 : Heap) (locs1 : List Loc), Wd E A s G' K' H1 locs1 → W p l e R s m args below meth c H1 locs1 cells slots Q (F0 m (pc + 3) ls (rest))) : W p l e R s m args below meth c H locs cells slots Q (F0 m pc ls st) := by
  obtain ⟨hx, hb, -, hml, hown, hts, -, hKK, -, -⟩ := id C
  refine va_callv (va_runS (As := As) (rest := rest) ⟨hx, hb, hml, hown, hts⟩ (hM H.size) (cwS As.length hts (x_goodS q5 q1 q2 q4) rfl h00.1 h00.2 hd1 hR) ⟨PreM.blind, fun U hU hW => ⟨rfl, x_pre C w hU hW⟩⟩ rfl rfl hl hst2 (lv_room hst) hd hcs) w.2 (fun q _ h => x_sub C w q h) (x_sub C w) (fun u t H1 locs1 ht _ hw hB _ _ hS => kk H1 locs1 ⟨by rw [← ht]; exact hB, hS⟩)

theorem x_cNi {y : MethodName} {cc2 : ByteArray} {n2 : Nat} {ret2 : Option FieldType} {rm2 : Room} {st As : List Value} {v : Int32} {host : String} {G' : M3} {K' : J3} (C : Cx E A p s m args meth c w0 cc nL ret own) (w : Wd E A s G K H locs)
    (hM : MtI l y (Cond.code y cc2 n2 ret2) rm2 E As G K v G' K') (q1 : Cond.methodLinkNest own index y host ∈ nestW) (q2 : Cond.static y ∈ wsL_law) (q4 : Cond.initialized y.cls ∈ wsL_law) (q5 : Cond.code y cc2 n2 ret2 ∈ wsL_law)
    (hd1 : y.cls ≠ "java/lang/invoke/MethodHandle" ∧ y.cls ≠ "java/lang/invoke/VarHandle" ∧ (parseMethodDescriptor y.desc).map (fun d => d.parameters.length) = some As.length) (h00 : rm2.cells = 0 ∧ rm2.slots = 0) (hR : rm2.frames + 1 ≤ R.frames ∧ 8 + (n2 + 11) + rm2.locals ≤ R.locals) (hcs : cells ≤ R.cells ∧ slots ≤ R.slots) (hl : ls.size = nL) (hst : (rest.map fun v => v.category).sum ≤ 8) (hst2 : st = As.reverse ++ rest) (hd : decode cc pc = .ok (.invokestatic index, 3))
    (kk : ∀ (H1 : Heap) (locs1 : List Loc), Wd E A s G' K' H1 locs1 → W p l e R s m args below meth c H1 locs1 cells slots Q (F0 m (pc + 3) ls (.int v :: rest))) : W p l e R s m args below meth c H locs cells slots Q (F0 m pc ls st) := by
  obtain ⟨hx, hb, -, hml, hown, hts, -, hKK, -, -⟩ := id C
  refine va_calli (va_runSN (As := As) (rest := rest) ⟨hx, hb, hml, hown, hts⟩ (hM H.size) ⟨va_cnB As.length hts (x_good q5) rfl h00.1 h00.2 (hKK.2.2.1 _ q1) (x_hts C q4) hd1 hR, x_hts C q2, trivial⟩ ⟨PreM.blind, fun U hU hW => ⟨rfl, x_pre C w hU hW⟩⟩ rfl rfl hl hst2 (lv_room hst) hd hcs) w.2 (fun q _ h => x_sub C w q h) (x_sub C w) (fun r u t H1 locs1 ht _ hw hB _ _ hS => by subst hw; exact kk H1 locs1 ⟨by rw [← ht]; exact hB, hS⟩)
/-- a contract from a walk -/
theorem Cx.of {y : MethodName} {n : Nat} {rm : Room} {as : List Value} {s₁ : State} (B : BodyLoose p l y (headSpec (wsM w0) rm) cc n ret e s m args below meth c s₁) (hy : y.cls = own) (hml : c.maxLocals = n) {sz : Nat} (hv : va_Pc as (PreM E G K sz) args s) : args = as.toArray ∧ Cx E (AA E sz) p s m args meth c w0 cc n ret own ∧ Wd E (AA E sz) s G K s.heap [] := by
  obtain ⟨rfl, rfl, hP, hKK⟩ := hv
  refine ⟨rfl, ⟨B.exec, B.bytes, B.returns, hml, ?_, atoms_spec (ws := wsM w0) B.pre, B.notSynchronized, hKK, fun q h => Or.inr h, fun g r h => Or.inl ⟨g, r, h, rfl⟩⟩, hP, va_S.rf⟩
  rw [← hy]
  exact findClass_of_methodNamed B.named
end XR
