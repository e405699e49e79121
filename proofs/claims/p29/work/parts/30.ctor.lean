/-! constructors: the world is a list that grows -/
def nestC : List Cond := [.methodLinkNest "AirStation$State" 44 yX0_init "AirStation", .methodLinkNest "AirStation" 28 yX2_init "AirStation", .fieldLinkNest "AirStation$State" 35 "AirStation" "FIRST_SETTINGS" "[I" "AirStation"]
def KC (E : WE) (A : Nat → Prop) (U : State) (H : Heap) : Prop :=
  va_K E.1 vwCl (tyW E) U ∧ va_AO "AirStation$Compressor" U ∧ va_AO "AirStation$State" U ∧ (∀ w ∈ nestC, va_Nw w U) ∧ rowZ "FIRST_SETTINGS" rowFirst A U H
theorem KC.mv {E : WE} {A B : Nat → Prop} {s U : State} {H : Heap} {locs : List Loc} (h : KC E A s s.heap) (hS : va_S A s.heap H locs) (hW : s.WarmedH U.vm) (hH : U.heap = H) (hB : ∀ q, B q → A q) : KC E B U U.heap := by
  obtain ⟨h1, h2, h3, h4, h5⟩ := h
  rw [hH]
  refine ⟨va_K.moved hW.alike h1, va_AO.moved hW.alike h2, va_AO.moved hW.alike h3, fun w hw => ?_, h5.mv hW.alike hS.2.1 hS.1 hB⟩
  have h8 := h4 w hw
  simp only [nestC, List.mem_cons, List.not_mem_nil, or_false] at hw
  rcases hw with rfl | rfl | rfl
  · exact va_Nw.warmM hW h8
  · exact va_Nw.warmM hW h8
  · exact va_Nw.warmF hW h8
def Wc (E : WE) (A : Nat → Prop) (s : State) (ws : va_W) (H : Heap) (locs : List Loc) : Prop := va_P E.1 vwCl ws H ∧ va_D A ws ∧ va_S A s.heap H locs
def Cc (E : WE) (A : Nat → Prop) (p : Program) (s : State) (m : MethodId) (args : Array Value) (meth : Method) (c : Code) (w0 : Cond) (cc : ByteArray) (nL : Nat) (own : String) : Prop :=
  p.tables.exec = Jvm.exec ∧ c.code = cc ∧ meth.sig.returnType = none ∧ c.maxLocals = nL ∧ s.vm.findClass own = some m.cls ∧ (∀ w ∈ wsM w0, w.before args s = true) ∧ meth.locks = false ∧ meth.name = "<init>" ∧ KC E A s s.heap ∧ (∀ q, s.heap.size ≤ q → A q)
def PreC (E : WE) (ws : va_W) (sz : Nat) (U : State) : Prop := U.heap.size = sz ∧ va_P E.1 vwCl ws U.heap ∧ va_D (fun _ => True) ws ∧ KC E (va_A ws sz) U U.heap
theorem PreC.blind {E : WE} {ws : va_W} {sz : Nat} {a : List Value} : FrameBlind (va_Pc a (PreC E ws sz)) := by
  rintro b U g mk ⟨h1, h2, h3, h4, h5, h6, h7, h8, h9⟩
  have hA : U.vm.Alike (U.calling g mk b).vm := Vm.Alike.refl U.vm
  refine ⟨h1, h2, h3, h4, va_K.moved (u := U) (U := U.calling g mk b) hA h5, va_AO.moved (u := U) (U := U.calling g mk b) hA h6, va_AO.moved (u := U) (U := U.calling g mk b) hA h7, fun w hw => ?_, h9.mv hA (fun _ _ _ => rfl) (Nat.le_refl _) (fun _ h => h)⟩
  have h10 := h8 w hw
  simp only [nestC, List.mem_cons, List.not_mem_nil, or_false] at hw
  rcases hw with rfl | rfl | rfl <;> exact va_Nw.same rfl (u := U) (U := U.calling g mk b) rfl h10
/-- a constructor's contract: it lays out the world wf u, u its addresses -/
abbrev MtC (l : Launch) (y : MethodName) (w0 : Cond) (rm : Room) (E : WE) (h0 : Nat) (e0 : va_E) (wf : (Nat → Nat) → va_W) (mc ms : Nat) : Prop := ∀ sz, Met l y (wsM w0) rm (va_Pc [.ref h0] (PreC E [(h0, e0)] sz)) (va_Qv (fun (_ : Nat → Nat) => True) (fun u t => va_P E.1 vwCl (wf u) t.heap ∧ va_D (va_A [(h0, e0)] sz) (wf u)) (va_A [(h0, e0)] sz)) mc ms (va_A [(h0, e0)] sz)
section XC
variable {E : WE} {A : Nat → Prop} {p : Program} {l : Launch} {e : Env} {R : Room} {s : State} {m : MethodId} {args : Array Value} {below : List Frame} {meth : Method} {c : Code} {H : Heap} {locs : List Loc} {cells slots : Nat} {Q : State → Prop}
variable {w0 : Cond} {cc : ByteArray} {nL : Nat} {own : String} {pc index : Nat} {ls : Array Slot} {rest : List Value} {ws : va_W} {a : Nat}
theorem y_hts (C : Cc E A p s m args meth c w0 cc nL own) {w : Cond} (h : w ∈ wsL_law) : w.before args s = true := C.2.2.2.2.2.1 _ (List.mem_cons_of_mem _ h)
theorem y_new {ci N : Nat} {T : u_T} {Cn : String} {ty : Nat → FieldType} {fs : List Value} (C : Cc E A p s m args meth c w0 cc nL own) (w : Wc E A s ws H locs) (hcl : vwCl[ci]? = some (Cn, T, N)) (hin : ∀ w ∈ u_ws Cn T N, w ∈ wsL_law) (hty : ∀ k, k < N → parseFieldDescriptor (T k).2.2.1 = some (ty k)) (q1 : Cond.classLink own index Cn ∈ wsL_law) (q2 : Cond.instantiable Cn N ∈ wsL_law) (q3 : Cond.initialized Cn ∈ wsL_law) (hfs : ∀ j, j < N → defaultValue (ty j) = vp_V fs j) (hcells : cells + 1 ≤ R.cells) (hslots : slots + N ≤ R.slots) (hd : decode cc pc = .ok (.new index, 3))
    (kk : ∀ (q : Nat) (H1 : Heap), Wc E A s (ws ++ [(q, .inr (ci, fs))]) H1 locs → W p l e R s m args below meth c H1 locs (cells + 1) (slots + N) Q (F0 m (pc + 3) ls (.ref q :: rest))) : W p l e R s m args below meth c H locs cells slots Q (F0 m pc ls rest) := by
  obtain ⟨hx, hb, -, -, hown, hts, -, -, hKC, hA⟩ := id C
  exact va_new (D := E.1) hx hb hts (fun w h => List.mem_cons_of_mem _ (hin w h)) ty hty hown (y_hts C q1) (y_hts C q2) (y_hts C q3) hKC.1 w.1 w.2.1 w.2.2 hA hcl hfs hcells hslots hd (fun q H1 hP hD hS => kk q H1 ⟨hP, hD, hS⟩)
theorem y_cls {t0 : Nat} {cA cB : ClassId} {ty : FieldType} (h : va_K E.1 vwCl (tyW E ++ [(cA, ty)]) s) (ht : (tyW E)[t0]? = some (cB, ty)) : cA = cB := by
  have h1 := (h.2 4 (cA, ty) rfl).2
  have h2 := (h.2 t0 (cB, ty) (by rw [List.getElem?_append_left]; exact ht; exact (List.getElem?_eq_some_iff.mp ht).1)).2
  cases ty with
  | object Cn =>
    obtain ⟨-, -, -, -, -, e1⟩ := h1
    obtain ⟨-, -, -, -, -, e2⟩ := h2
    exact Option.some.inj (e1.symm.trans e2)
  | _ => exact Option.some.inj (Eq.trans (Eq.symm h1) h2)
theorem y_newI {n : Int32} {N' : Nat} (C : Cc E A p s m args meth c w0 cc nL own) (w : Wc E A s ws H locs) (q1 : Cond.arrayClass .int ∈ wsL_law) (hn : ¬ n < 0) (hN : n.toNatClampNeg = N') (hby : N' * 4 ≤ 536870912) (hcells : cells + 1 ≤ R.cells) (hslots : slots + N' ≤ R.slots) (hd : decode cc pc = .ok (.newarray .int, 2))
    (kk : ∀ (q : Nat) (H1 : Heap), Wc E A s (ws ++ [(q, .inl (E.2.1 0, N', .inl (fun _ => 0)))]) H1 locs → W p l e R s m args below meth c H1 locs (cells + 1) (slots + N') Q (F0 m (pc + 2) ls (.ref q :: rest))) : W p l e R s m args below meth c H locs cells slots Q (F0 m pc ls (.int n :: rest)) := by
  obtain ⟨hx, hb, -, -, hown, hts, -, -, hKC, hA⟩ := id C
  refine va_newa (D := E.1) (atype := .int) (a0 := (N', .inl (fun _ => 0))) hx hb (y_hts C q1) rfl hKC.1 w.1 w.2.1 w.2.2 hA (fun cA => rfl) hn hN hby hcells hslots hd (fun q cA H1 hK hP hD hS => ?_)
  have e1 := y_cls (t0 := 0) hK rfl
  subst e1
  exact kk q H1 ⟨hP, hD, hS⟩
theorem y_newJ {n : Int32} {N' : Nat} (C : Cc E A p s m args meth c w0 cc nL own) (w : Wc E A s ws H locs) (q1 : Cond.arrayClass .long ∈ wsL_law) (hn : ¬ n < 0) (hN : n.toNatClampNeg = N') (hby : N' * 8 ≤ 536870912) (hcells : cells + 1 ≤ R.cells) (hslots : slots + N' ≤ R.slots) (hd : decode cc pc = .ok (.newarray .long, 2))
    (kk : ∀ (q : Nat) (H1 : Heap), Wc E A s (ws ++ [(q, .inl (E.2.1 1, N', .inr (.inl (fun _ => 0))))]) H1 locs → W p l e R s m args below meth c H1 locs (cells + 1) (slots + N') Q (F0 m (pc + 2) ls (.ref q :: rest))) : W p l e R s m args below meth c H locs cells slots Q (F0 m pc ls (.int n :: rest)) := by
  obtain ⟨hx, hb, -, -, hown, hts, -, -, hKC, hA⟩ := id C
  refine va_newa (D := E.1) (atype := .long) (a0 := (N', .inr (.inl (fun _ => 0)))) hx hb (y_hts C q1) rfl hKC.1 w.1 w.2.1 w.2.2 hA (fun cA => rfl) hn hN hby hcells hslots hd (fun q cA H1 hK hP hD hS => ?_)
  have e1 := y_cls (t0 := 1) hK rfl
  subst e1
  exact kk q H1 ⟨hP, hD, hS⟩
theorem y_newQ {n : Int32} {N' t0 : Nat} {Cn : String} {cB : ClassId} (C : Cc E A p s m args meth c w0 cc nL own) (w : Wc E A s ws H locs) (q1 : Cond.classLink own index Cn ∈ wsL_law) (hover : va_AO Cn s) (ht : (tyW E)[t0]? = some (cB, .object Cn)) (hn : ¬ n < 0) (hN : n.toNatClampNeg = N') (hby : N' * 4 ≤ 536870912) (hcells : cells + 1 ≤ R.cells) (hslots : slots + N' ≤ R.slots) (hd : decode cc pc = .ok (.anewarray index, 3))
    (kk : ∀ (q : Nat) (H1 : Heap), Wc E A s (ws ++ [(q, .inl (cB, N', .inr (.inr (.inr (.inr (fun _ => none))))))]) H1 locs → W p l e R s m args below meth c H1 locs (cells + 1) (slots + N') Q (F0 m (pc + 3) ls (.ref q :: rest))) : W p l e R s m args below meth c H locs cells slots Q (F0 m pc ls (.int n :: rest)) := by
  obtain ⟨hx, hb, -, -, hown, hts, -, -, hKC, hA⟩ := id C
  refine va_newq (D := E.1) hx hb hown (y_hts C q1) hover hKC.1 w.1 w.2.1 w.2.2 hA hn hN hby hcells hslots hd (fun q cA H1 hK hP hD hS => ?_)
  have e1 := y_cls hK ht
  subst e1
  exact kk q H1 ⟨hP, hD, hS⟩
theorem y_putF {ci N k q0 : Nat} {T : u_T} {Cn : String} {fs : List Value} {v : Value} {ty : FieldType} {ty0 : Nat → FieldType} (C : Cc E A p s m args meth c w0 cc nL own) (w : Wc E A s ws H locs) (he : ws[q0]? = some (a, .inr (ci, fs))) (hcl : vwCl[ci]? = some (Cn, T, N)) (hin : ∀ w ∈ u_ws Cn T N, w ∈ wsL_law) (hty : ∀ k, k < N → parseFieldDescriptor (T k).2.2.1 = some (ty0 k)) (hnm : ∀ a, a < N → ∀ b, b < N → a ≠ b → (T a).2.1 ≠ (T b).2.1) (hk : k < N) (hw : Cond.fieldLink own index (T k).1 (T k).2.1 (T k).2.2.1 ∈ wsL_law) (hfin : (T k).2.2.2 = true) (hdecl : (T k).1 = own) (hdd : parseFieldDescriptor (T k).2.2.1 = some ty) (hn : narrow ty v = v) (hfit : fits ty v = true) (hl : k < fs.length) (hd : decode cc pc = .ok (.putfield index, 3))
    (kk : ∀ (H1 : Heap) (locs1 : List Loc), Wc E A s (ws.set q0 (a, .inr (ci, fs.set k v))) H1 locs1 → W p l e R s m args below meth c H1 locs1 cells slots Q (F0 m (pc + 3) ls rest)) : W p l e R s m args below meth c H locs cells slots Q (F0 m pc ls (v :: .ref a :: rest)) := by
  obtain ⟨hx, hb, -, -, hown, hts, -, hin0, hKC, hA⟩ := id C
  exact va_putF (D := E.1) hx hb hts (fun w h => List.mem_cons_of_mem _ (hin w h)) ty0 hty hnm hown hKC.1 w.1 w.2.1 w.2.2 q0 he hcl k hk (y_hts C hw) (fun _ h => h) hfin hin0 hdecl hdd hn hfit hl hd (fun H1 locs1 hP hD hS => kk H1 locs1 ⟨hP, hD, hS⟩)
theorem y_put {ci N k q0 : Nat} {T : u_T} {Cn : String} {fs : List Value} {v : Value} {ty : FieldType} {ty0 : Nat → FieldType} (C : Cc E A p s m args meth c w0 cc nL own) (w : Wc E A s ws H locs) (he : ws[q0]? = some (a, .inr (ci, fs))) (hcl : vwCl[ci]? = some (Cn, T, N)) (hin : ∀ w ∈ u_ws Cn T N, w ∈ wsL_law) (hty : ∀ k, k < N → parseFieldDescriptor (T k).2.2.1 = some (ty0 k)) (hnm : ∀ a, a < N → ∀ b, b < N → a ≠ b → (T a).2.1 ≠ (T b).2.1) (hk : k < N) (hw : Cond.fieldLink own index (T k).1 (T k).2.1 (T k).2.2.1 ∈ wsL_law) (hfin : (T k).2.2.2 = false) (hdd : parseFieldDescriptor (T k).2.2.1 = some ty) (hn : narrow ty v = v) (hfit : fits ty v = true) (hl : k < fs.length) (hd : decode cc pc = .ok (.putfield index, 3))
    (kk : ∀ (H1 : Heap) (locs1 : List Loc), Wc E A s (ws.set q0 (a, .inr (ci, fs.set k v))) H1 locs1 → W p l e R s m args below meth c H1 locs1 cells slots Q (F0 m (pc + 3) ls rest)) : W p l e R s m args below meth c H locs cells slots Q (F0 m pc ls (v :: .ref a :: rest)) := by
  obtain ⟨hx, hb, -, -, hown, hts, -, hin0, hKC, hA⟩ := id C
  exact va_put (D := E.1) hx hb hts (fun w h => List.mem_cons_of_mem _ (hin w h)) ty0 hty hnm hown hKC.1 w.1 w.2.1 w.2.2 q0 he hcl k hk (y_hts C hw) (fun _ h => h) hfin hdd hn hfit hl hd (fun H1 locs1 hP hD hS => kk H1 locs1 ⟨hP, hD, hS⟩)
theorem y_get {ci N k q0 : Nat} {T : u_T} {Cn : String} {fs : List Value} {v : Value} (C : Cc E A p s m args meth c w0 cc nL own) (w : Wc E A s ws H locs) (he : ws[q0]? = some (a, .inr (ci, fs))) (hcl : vwCl[ci]? = some (Cn, T, N)) (hin : ∀ w ∈ u_ws Cn T N, w ∈ wsL_law) (hk : k < N) (hw : Cond.fieldLink own index (T k).1 (T k).2.1 (T k).2.2.1 ∈ wsL_law) (hf : fs[k]? = some v) (hd : decode cc pc = .ok (.getfield index, 3))
    (kk : W p l e R s m args below meth c H locs cells slots Q (F0 m (pc + 3) ls (v :: rest))) : W p l e R s m args below meth c H locs cells slots Q (F0 m pc ls (.ref a :: rest)) := by
  obtain ⟨hx, hb, -, -, hown, hts, -, -, hKC, hA⟩ := id C
  exact va_get (D := E.1) hx hb hts (fun w h => List.mem_cons_of_mem _ (hin w h)) hown hKC.1 w.1 q0 he hcl k hk (y_hts C hw) (fun _ h => h) hf hd kk
theorem y_astI {n q0 : Nat} {i x : Int32} {f : Nat → Int32} (C : Cc E A p s m args meth c w0 cc nL own) (w : Wc E A s ws H locs) (he : ws[q0]? = some (a, .inl (E.2.1 0, n, .inl f))) (hi : inb i n) (hd : decode cc pc = .ok (.iastore, 1))
    (kk : ∀ (H1 : Heap) (locs1 : List Loc), Wc E A s (ws.set q0 (a, .inl (E.2.1 0, n, .inl (sg f i.toNatClampNeg x)))) H1 locs1 → W p l e R s m args below meth c H1 locs1 cells slots Q (F0 m (pc + 1) ls rest)) : W p l e R s m args below meth c H locs cells slots Q (F0 m pc ls (.int x :: .int i :: .ref a :: rest)) := by
  obtain ⟨hx, hb, -, -, hown, hts, -, -, hKC, hA⟩ := id C
  exact va_iast (D := E.1) hx hb hKC.1 w.1 w.2.1 w.2.2 q0 0 he rfl (inb_in hi) hd (fun H1 locs1 hP hD hS => kk H1 locs1 ⟨hP, hD, hS⟩)
theorem y_astQ {n q0 qk t0 ci v : Nat} {i : Int32} {f : Nat → Option Nat} {cB : ClassId} {r : vw_C} {vs : List Value} (C : Cc E A p s m args meth c w0 cc nL own) (w : Wc E A s ws H locs) (he : ws[q0]? = some (a, .inl (cB, n, .inr (.inr (.inr (.inr f)))))) (ht : (tyW E)[t0]? = some (cB, .object r.1)) (hv : ws[qk]? = some (v, .inr (ci, vs))) (hc : vwCl[ci]? = some r) (hi : inb i n) (hd : decode cc pc = .ok (.aastore, 1))
    (kk : ∀ (H1 : Heap) (locs1 : List Loc), Wc E A s (ws.set q0 (a, .inl (cB, n, .inr (.inr (.inr (.inr (va_up f i.toNatClampNeg (some v)))))))) H1 locs1 → W p l e R s m args below meth c H1 locs1 cells slots Q (F0 m (pc + 1) ls rest)) : W p l e R s m args below meth c H locs cells slots Q (F0 m pc ls (.ref v :: .int i :: .ref a :: rest)) := by
  obtain ⟨hx, hb, -, -, hown, hts, -, -, hKC, hA⟩ := id C
  exact va_astq (D := E.1) hx hb hKC.1 w.1 w.2.1 w.2.2 q0 t0 qk ci he ht hv hc (inb_in hi) hd (fun H1 locs1 hP hD hS => kk H1 locs1 ⟨hP, hD, hS⟩)
theorem y_srowN {n : String} {f : Nat → Int32} {host : String} (C : Cc E A p s m args meth c w0 cc nL own) (w : Wc E A s ws H locs) (hZ : rowZ n f A s s.heap) (hw : Cond.fieldLinkNest own index "AirStation" n "[I" host ∈ nestC) (hd : decode cc pc = .ok (.getstatic index, 3))
    (kk : ∀ b : Nat, va_X b 8 f s s.heap → b < s.heap.size → ¬ A b → W p l e R s m args below meth c H locs cells slots Q (F0 m (pc + 3) ls (.ref b :: rest))) : W p l e R s m args below meth c H locs cells slots Q (F0 m pc ls rest) := by
  obtain ⟨hx, hb, -, -, hown, hts, -, -, hKC, hA⟩ := id C
  obtain ⟨b, h1, h2, h3, h4⟩ := hZ
  exact va_getsN hx hb h1 w.2.2 hown (va_Nw.use rfl (hKC.2.2.2.1 _ hw)) (fun _ h => h) hd (kk b h2 h3 h4)
theorem y_cpy {b q0 : Nat} {f g : Nat → Int32} {n : Int32} {kn : Nat} (C : Cc E A p s m args meth c w0 cc nL own) (w : Wc E A s ws H locs) (hl : ls.size = nL) (hX : va_X b 8 f s s.heap) (hbl : b < s.heap.size) (hbA : ¬ A b) (he : ws[q0]? = some (a, .inl (E.2.1 0, 8, .inl g))) (hn : ¬ n < 0) (hk : n.toNatClampNeg = kn) (h4 : kn ≤ 8)
    (q1 : Cond.methodLink own index arraycopyName ∈ wsL_law) (q2 : Cond.native arraycopyName ∈ wsL_law) (q3 : Cond.static arraycopyName ∈ wsL_law) (q4 : Cond.initialized "java/lang/System" ∈ wsL_law) (hf : 1 ≤ R.frames) (hlo : (rest.map fun v => v.category).sum + (nativeFrameWords "java/lang/System" "arraycopy" 5 + 11) ≤ R.locals) (hd : decode cc pc = .ok (.invokestatic index, 3))
    (kk : ∀ (H1 : Heap) (locs1 : List Loc), Wc E A s (ws.set q0 (a, .inl (E.2.1 0, 8, .inl (cpy f g kn)))) H1 locs1 → W p l e R s m args below meth c H1 locs1 cells slots Q (F0 m (pc + 3) ls rest)) : W p l e R s m args below meth c H locs cells slots Q (F0 m pc ls (.int n :: .int 0 :: .ref a :: .int 0 :: .ref b :: rest)) := by
  obtain ⟨hx, hb, -, hml, hown, hts, -, -, hKC, hA⟩ := id C
  subst hk
  have z0 : (0 : Int32).toNatClampNeg = 0 := by decide
  refine va_copyx (D := E.1) hx hb (hml.trans hl.symm) hown (y_hts C q1) (y_hts C q2) (y_hts C q3) (y_hts C q4) hKC.1 w.1 w.2.1 w.2.2 hX hbl hbA q0 0 he rfl (by decide) (by decide) hn (by rw [z0]; omega) (by rw [z0]; omega) hf hlo hd (fun H1 locs1 hP hD hS => ?_)
  rw [z0, cpy_va] at hP hD
  exact kk H1 locs1 ⟨hP, hD, hS⟩
theorem y_obj (C : Cc E A p s m args meth c w0 cc nL own) (hl : ls.size = nL) (q1 : Cond.methodLink own index objectInit ∈ wsL_law) (q2 : Cond.instanceMethod objectInit ∈ wsL_law) (q3 : Cond.code objectInit ⟨#[0xb1]⟩ 1 none ∈ wsL_law) (hf : 1 ≤ R.frames) (hlo : (rest.map fun v => v.category).sum + 12 ≤ R.locals) (hd : decode cc pc = .ok (.invokespecial index, 3))
    (kk : W p l e R s m args below meth c H locs cells slots Q (F0 m (pc + 3) ls rest)) : W p l e R s m args below meth c H locs cells slots Q (F0 m pc ls (.ref a :: rest)) := by
  obtain ⟨hx, hb, -, hml, hown, hts, -, -, hKC, hA⟩ := id C
  refine W.objInit hx hb hown (y_hts C q1) (y_hts C q2) (y_hts C q3) rfl (hl.trans hml.symm) rfl hd hf ?_ kk
  have h0 : 2 * (F0 m pc ls (.ref a :: rest)).monitorRoom = 0 := by rfl
  rw [h0, Nat.zero_add]
  exact hlo
theorem y_ret {wf : (Nat → Nat) → va_W} {mc ms : Nat} (u : Nat → Nat) (C : Cc E A p s m args meth c w0 cc nL own) (w : Wc E A s (wf u) H locs) (hc : cells ≤ mc) (hs : slots ≤ ms) (hd : decode cc pc = .ok (.return_, 1)) : W p l e R s m args below meth c H locs cells slots (MQ below (va_Qv (fun (_ : Nat → Nat) => True) (fun u t => va_P E.1 vwCl (wf u) t.heap ∧ va_D A (wf u)) A) args s mc ms A) (F0 m pc ls []) := by
  obtain ⟨hx, hb, hr, -, -, -, hlocks, -, -, -⟩ := id C
  refine W.widen hc hs ?_
  exact W.vret hx hb hr (fun t ht _ => ⟨⟨u, rfl, trivial, by rw [ht]; exact w.1, w.2.1⟩, w.2.2.F ht⟩) w.2.2.2.2 hd
/-- a constructor called: its one cell is cut out, its world comes beside the rest -/
theorem y_call {y : MethodName} {cc2 : ByteArray} {n2 qc mc ms : Nat} {rm2 : Room} {st : List Value} {e0 : va_E} {wf : (Nat → Nat) → va_W} {wr : va_W} {isR : List Nat} (C : Cc E A p s m args meth c w0 cc nL own) (w : Wc E A s ws H locs) (hM : MtC l y (Cond.code y cc2 n2 none) rm2 E a e0 wf mc ms) (he : ws[qc]? = some (a, e0)) (hR : isR.map (fun i => ws[i]?) = wr.map some) (hnd : va_nd isR = true) (hdis : ∀ i ∈ isR, i ∉ [qc])
    (cw : CallB R s args own index y cc2 n2 none (wsM (Cond.code y cc2 n2 none)) rm2 mc ms 0 ∧ y.name = "<init>" ∧ (Cond.instanceMethod y).before args s = true) (hcs : cells + mc ≤ R.cells ∧ slots + ms ≤ R.slots) (hl : ls.size = nL) (hst : (rest.map fun v => v.category).sum ≤ 8) (hst2 : st = .ref a :: rest) (hd : decode cc pc = .ok (.invokespecial index, 3))
    (kk : ∀ (u : Nat → Nat) (H1 : Heap) (locs1 : List Loc), Wc E A s (wr ++ wf u) H1 locs1 → W p l e R s m args below meth c H1 locs1 (cells + mc) (slots + ms) Q (F0 m (pc + 3) ls rest)) : W p l e R s m args below meth c H locs cells slots Q (F0 m pc ls st) := by
  obtain ⟨hx, hb, -, hml, hown, hts, -, -, hKC, hA⟩ := id C
  have hC : [qc].map (fun i => ws[i]?) = ([(a, e0)] : va_W).map some := by simp [he]
  have hFc := va_free (wc := [(a, e0)]) w.2.1 w.2.2 hA [qc] hC
  have hPc : va_P E.1 vwCl [(a, e0)] H := w.1.sub [qc] (by simp [he])
  have hDc : va_D A [(a, e0)] := w.2.1.sub [qc] rfl hC
  refine va_callv (va_runI (As := []) (rest := rest) ⟨hx, hb, hml, hown, hts⟩ (hM H.size) cw ⟨PreC.blind, fun U hU hW => ⟨rfl, by rw [hU], by rw [hU]; exact hPc, hDc.weaken (fun _ _ _ _ => trivial), KC.mv hKC w.2.2 hW hU hFc⟩⟩ rfl rfl hl hst2 (lv_room hst) hd hcs) w.2.2 (fun q _ h => hFc q h) hFc (fun u t H1 locs1 ht _ _ hB _ hk1 hS => ?_)
  rw [ht] at hB
  obtain ⟨hP, hD⟩ := va_join w.1 w.2.1 [qc] isR hC hR hnd hdis hk1 hFc hB.1 hB.2
  exact kk u H1 locs1 ⟨hP, hD, hS⟩
/-- the same of a nest mate's constructor -/
theorem y_callN {y : MethodName} {cc2 : ByteArray} {n2 qc mc ms : Nat} {rm2 : Room} {st : List Value} {e0 : va_E} {wf : (Nat → Nat) → va_W} {wr : va_W} {isR : List Nat} {host : String} (C : Cc E A p s m args meth c w0 cc nL own) (w : Wc E A s ws H locs) (hM : MtC l y (Cond.code y cc2 n2 none) rm2 E a e0 wf mc ms) (he : ws[qc]? = some (a, e0)) (hR : isR.map (fun i => ws[i]?) = wr.map some) (hnd : va_nd isR = true) (hdis : ∀ i ∈ isR, i ∉ [qc])
    (cw : va_CN R s args own index y host cc2 n2 none (wsM (Cond.code y cc2 n2 none)) rm2 mc ms 0 ∧ y.name = "<init>" ∧ (Cond.instanceMethod y).before args s = true) (hcs : cells + mc ≤ R.cells ∧ slots + ms ≤ R.slots) (hl : ls.size = nL) (hst : (rest.map fun v => v.category).sum ≤ 8) (hst2 : st = .ref a :: rest) (hd : decode cc pc = .ok (.invokespecial index, 3))
    (kk : ∀ (u : Nat → Nat) (H1 : Heap) (locs1 : List Loc), Wc E A s (wr ++ wf u) H1 locs1 → W p l e R s m args below meth c H1 locs1 (cells + mc) (slots + ms) Q (F0 m (pc + 3) ls rest)) : W p l e R s m args below meth c H locs cells slots Q (F0 m pc ls st) := by
  obtain ⟨hx, hb, -, hml, hown, hts, -, -, hKC, hA⟩ := id C
  have hC : [qc].map (fun i => ws[i]?) = ([(a, e0)] : va_W).map some := by simp [he]
  have hFc := va_free (wc := [(a, e0)]) w.2.1 w.2.2 hA [qc] hC
  have hPc : va_P E.1 vwCl [(a, e0)] H := w.1.sub [qc] (by simp [he])
  have hDc : va_D A [(a, e0)] := w.2.1.sub [qc] rfl hC
  refine va_callv (va_runIN (As := []) (rest := rest) ⟨hx, hb, hml, hown, hts⟩ (hM H.size) cw ⟨PreC.blind, fun U hU hW => ⟨rfl, by rw [hU], by rw [hU]; exact hPc, hDc.weaken (fun _ _ _ _ => trivial), KC.mv hKC w.2.2 hW hU hFc⟩⟩ rfl rfl hl hst2 (lv_room hst) hd hcs) w.2.2 (fun q _ h => hFc q h) hFc (fun u t H1 locs1 ht _ _ hB _ hk1 hS => ?_)
  rw [ht] at hB
  obtain ⟨hP, hD⟩ := va_join w.1 w.2.1 [qc] isR hC hR hnd hdis hk1 hFc hB.1 hB.2
  exact kk u H1 locs1 ⟨hP, hD, hS⟩
theorem Cc.of {y : MethodName} {n : Nat} {rm : Room} {h0 sz : Nat} {e0 : va_E} {s₁ : State} (B : BodyLoose p l y (headSpec (wsM w0) rm) cc n none e s m args below meth c s₁) (hy : y.cls = own) (hyn : y.name = "<init>") (hml : c.maxLocals = n) (hv : va_Pc [.ref h0] (PreC E [(h0, e0)] sz) args s) : args = #[.ref h0] ∧ Cc E (va_A [(h0, e0)] sz) p s m args meth c w0 cc n own ∧ Wc E (va_A [(h0, e0)] sz) s [(h0, e0)] s.heap [] := by
  obtain ⟨rfl, rfl, hP, hD, hKC⟩ := hv
  refine ⟨rfl, ⟨B.exec, B.bytes, B.returns, hml, ?_, atoms_spec (ws := wsM w0) B.pre, B.notSynchronized, ?_, hKC, fun q h => Or.inr h⟩, hP, hD.self, va_S.rf⟩
  · rw [← hy]; exact findClass_of_methodNamed B.named
  · rw [← hyn]; exact (name_of_methodNamed B.named B.method).1
end XC
