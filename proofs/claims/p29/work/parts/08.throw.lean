/-! methods that throw; those that catch -/
def exn : Nat → String := fun k => match k with
  | 1 => "java/lang/IllegalArgumentException"
  | 2 => "java/lang/IllegalStateException"
  | _ => "java/lang/IndexOutOfBoundsException"
abbrev XC0 (E : WE) (A : Nat → Prop) (tag : Nat) (G' : M3) (K' : J3) : String → State → State → Prop := vx_X (fun (_ : Unit) => True) (fun En _ t => (tag ≠ 0 ∧ En = exn tag) ∧ PosM E G' K' t) A
def mcT (tag : Nat) : Nat := if tag = 0 then 0 else 1
def msT (tag : Nat) : Nat := if tag = 0 then 0 else 6
abbrev QTi (E : WE) (A : Nat → Prop) (below : List Frame) (args : Array Value) (s : State) (tag : Nat) (r : Int32) (G' : M3) (K' : J3) : State → Prop := vx_MQ below (va_Qi (fun (r1 : Int32) (_ : Unit) => tag = 0 ∧ r1 = r) (fun _ t => PosM E G' K' t) A) (XC0 E A tag G' K') args s (mcT tag) (msT tag) A
abbrev QTl (E : WE) (A : Nat → Prop) (below : List Frame) (args : Array Value) (s : State) (tag : Nat) (r : Int64) (G' : M3) (K' : J3) : State → Prop := vx_MQ below (va_Ql (fun (r1 : Int64) (_ : Unit) => tag = 0 ∧ r1 = r) (fun _ t => PosM E G' K' t) A) (XC0 E A tag G' K') args s (mcT tag) (msT tag) A
abbrev XtI (l : Launch) (y : MethodName) (w0 : Cond) (rm : Room) (E : WE) (as : List Value) (G : M3) (K : J3) (tag : Nat) (r : Int32) (G' : M3) (K' : J3) : Prop := ∀ sz, vx_Met l y (wsM w0) rm (va_Pc as (PreM E G K sz)) (va_Qi (fun (r1 : Int32) (_ : Unit) => tag = 0 ∧ r1 = r) (fun _ t => PosM E G' K' t) (AA E sz)) (XC0 E (AA E sz) tag G' K') (mcT tag) (msT tag) (AA E sz)
abbrev XtL (l : Launch) (y : MethodName) (w0 : Cond) (rm : Room) (E : WE) (as : List Value) (G : M3) (K : J3) (tag : Nat) (r : Int64) (G' : M3) (K' : J3) : Prop := ∀ sz, vx_Met l y (wsM w0) rm (va_Pc as (PreM E G K sz)) (va_Ql (fun (r1 : Int64) (_ : Unit) => tag = 0 ∧ r1 = r) (fun _ t => PosM E G' K' t) (AA E sz)) (XC0 E (AA E sz) tag G' K') (mcT tag) (msT tag) (AA E sz)
theorem rt4 {α β γ : Type} {a a' : Nat} {d d' : α} {b b' : β} {c c' : γ} (h : some (a, d, b, c) = some (a', d', b', c')) : a = a' ∧ d = d' ∧ b = b' ∧ c = c' := by cases h; exact ⟨rfl, rfl, rfl, rfl⟩
def bd4 {α β γ δ : Type} (o : Option (Nat × α × β × γ)) (f : Nat → α → β → γ → Option δ) : Option δ := match o with
  | none => none
  | some (t, a, b, c) => f t a b c
theorem bd4_of {α β γ δ : Type} {o : Option (Nat × α × β × γ)} {f : Nat → α → β → γ → Option δ} {r : δ} (h : bd4 o f = some r) : ∃ t a b c, o = some (t, a, b, c) ∧ f t a b c = some r := by
  cases o with
  | none => cases h
  | some x => exact ⟨x.1, x.2.1, x.2.2.1, x.2.2.2, rfl, h⟩
abbrev thrN : List String := ["java/lang/RuntimeException", "java/lang/Exception"]
set_option maxRecDepth 20000 in
theorem thr_in1 : ∀ w ∈ (vx_atS RX4 41 "java/lang/IllegalArgumentException" thrN).filter (fun w => !goodWord w), w ∈ nestW := by decide +kernel
set_option maxRecDepth 20000 in
theorem thr_in2 : ∀ w ∈ (vx_atS RX4 60 "java/lang/IllegalStateException" thrN).filter (fun w => !goodWord w), w ∈ nestW := by decide +kernel
set_option maxRecDepth 20000 in
theorem thr_in3 : ∀ w ∈ (vx_atS RX4 101 "java/lang/IndexOutOfBoundsException" thrN).filter (fun w => !goodWord w), w ∈ nestW := by decide +kernel
theorem thr_w1 : ∀ w ∈ (vx_atS RX4 41 "java/lang/IllegalArgumentException" thrN).filter goodWord, w ∈ wsL_law := fun _ h => List.mem_append_left _ (List.mem_append_left _ (List.mem_append_right _ h))
theorem thr_w2 : ∀ w ∈ (vx_atS RX4 60 "java/lang/IllegalStateException" thrN).filter goodWord, w ∈ wsL_law := fun _ h => List.mem_append_right _ h
theorem thr_w3 : ∀ w ∈ (vx_atS RX4 101 "java/lang/IndexOutOfBoundsException" thrN).filter goodWord, w ∈ wsL_law := fun _ h => List.mem_append_left _ (List.mem_append_right _ h)
set_option maxRecDepth 20000 in
theorem thr_g1 : (Cond.classLink RX4 37 "java/lang/IllegalArgumentException" :: Cond.initialized "java/lang/IllegalArgumentException" :: vx_atS RX4 41 "java/lang/IllegalArgumentException" thrN).all vx_ot = true := by decide +kernel
set_option maxRecDepth 20000 in
theorem thr_g2 : (Cond.classLink RX4 56 "java/lang/IllegalStateException" :: Cond.initialized "java/lang/IllegalStateException" :: vx_atS RX4 60 "java/lang/IllegalStateException" thrN).all vx_ot = true := by decide +kernel
set_option maxRecDepth 20000 in
theorem thr_g3 : (Cond.classLink RX4 97 "java/lang/IndexOutOfBoundsException" :: Cond.initialized "java/lang/IndexOutOfBoundsException" :: vx_atS RX4 101 "java/lang/IndexOutOfBoundsException" thrN).all vx_ot = true := by decide +kernel
section XTH
variable {E : WE} {A : Nat → Prop} {p : Program} {l : Launch} {e : Env} {R : Room} {s : State} {m : MethodId} {args : Array Value} {below : List Frame} {meth : Method} {c : Code} {H : Heap} {locs : List Loc} {cells slots : Nat} {Q : State → Prop}
variable {w0 : Cond} {cc : ByteArray} {nL : Nat} {ret : Option FieldType} {own : String} {pc index : Nat} {ls : Array Slot} {rest : List Value} {G : M3} {K : J3}
theorem nest_on : nestW.all (fun w => w.onTables) = true := by decide +kernel
theorem x_nest (C : Cx E A p s m args meth c w0 cc nL ret own) {w : Cond} (h : w ∈ nestW) : w.before args s = true := va_Nw.use (List.all_eq_true.mp nest_on w h) (C.2.2.2.2.2.2.2.1.2.2.1 w h)
theorem x_hat (C : Cx E A p s m args meth c w0 cc nL ret own) {L : List Cond} (h1 : ∀ w ∈ L.filter goodWord, w ∈ wsL_law) (h2 : ∀ w ∈ L.filter (fun w => !goodWord w), w ∈ nestW) : ∀ w ∈ L, w.before args s = true :=
  vx_hat (fun w h => x_hts C (h1 w h)) h2 (fun w h => x_nest C h)
/-- 'throw new X("text")' in the station's own methods, the world as it is -/
theorem x_thrG {Qc : Array Value → State → Outcome → State → Prop} {tag : Nat} {cls text : String} {ik is ic : Nat} {G' : M3} {K' : J3} (C : Cx E A p s m args meth c w0 cc nL ret RX4) (w : Wd E A s G K H locs) (hst : l.stackTraces = false) (hno : ∀ x ∈ c.exceptionTable.toList, False) (hl : ls.size = nL) (htag : tag ≠ 0) (hcl : cls = exn tag) (hG : G = G') (hK : K = K') (hfit : Bundle.fit cls = true)
    (q1 : Cond.classLink RX4 ik cls ∈ wsL_law) (q2 : Cond.initialized cls ∈ wsL_law) (ht : (is, text) ∈ txtW) (h1 : ∀ w ∈ (vx_atS RX4 ic cls thrN).filter goodWord, w ∈ wsL_law) (h2 : ∀ w ∈ (vx_atS RX4 ic cls thrN).filter (fun w => !goodWord w), w ∈ nestW) (hg : (Cond.classLink RX4 ik cls :: Cond.initialized cls :: vx_atS RX4 ic cls thrN).all vx_ot = true)
    (d0 : decode cc pc = .ok (.new ik, 3)) (d3 : decode cc (pc + 3) = .ok (.dup, 1)) (d4 : decode cc (pc + 4) = .ok (.ldc is, 2)) (d6 : decode cc (pc + 6) = .ok (.invokespecial ic, 3)) (d9 : decode cc (pc + 9) = .ok (.athrow, 1))
    (hRf : 5 < R.frames) (hRl : (rest.map fun v => v.category).sum + 82 ≤ R.locals) (hRc : R.cells = mcT tag) (hRs : R.slots = msT tag) (hc0 : cells = 0) (hs0 : slots = 0) :
    W p l e R s m args below meth c H locs cells slots (vx_MQ below Qc (XC0 E A tag G' K') args s (mcT tag) (msT tag) A) (F0 m pc ls rest) := by
  obtain ⟨hx, hb, hr, hml, hown, hts, hlocks, hKK, hA1, hA2⟩ := id C
  obtain ⟨sa, hsa⟩ := hKK.2.2.2.2.1 _ ht
  subst hG hK
  have hc1 : cells + 1 ≤ mcT tag := by unfold mcT; rw [if_neg htag, hc0]; exact Nat.le_refl _
  have hs1 : slots + 6 ≤ msT tag := by unfold msT; rw [if_neg htag, hs0]; exact Nat.le_refl _
  refine vx_throwS hx hb hst hown hfit (names := thrN) (by decide +kernel) (x_hts C q1) (x_hts C q2) hsa (x_hat C h1 h2) (fun w hw => List.all_eq_true.mp hg w hw) hKK.2.2.2.1.2.2.1 hKK.2.2.2.1.2.2.2 w.2 (hl.trans hml.symm) d0 d3 d4 d6 d9 (fun x hx => (hno x hx).elim) hRf hRl (by rw [hRc]; exact hc1) (by rw [hRs]; exact hs1) hlocks ?_ w.2.2.2 hc1 hs1
  intro t hvm hz hk
  refine ⟨(), trivial, ⟨⟨htag, hcl⟩, ?_⟩, Nat.le_trans w.2.1 hz, fun q h3 h4 => (hk q (Nat.lt_of_lt_of_le h3 w.2.1)).trans (w.2.2.1 q h3 h4)⟩
  exact w.1.kept (fun k q hq => hk q.1 (w.1 k q hq).lt)
theorem x_ti {G' : M3} {K' : J3} {v r : Int32} {tag : Nat} {XC : String → State → State → Prop} (C : Cx E A p s m args meth c w0 cc nL (some .int) own) (w : Wd E A s G K H locs) (ht : tag = 0) (hv : v = r) (hG : G = G') (hK : K = K') (hd : decode cc pc = .ok (.ireturn, 1)) : W p l e R s m args below meth c H locs 0 0 (vx_MQ below (va_Qi (fun (r1 : Int32) (_ : Unit) => tag = 0 ∧ r1 = r) (fun _ t => PosM E G' K' t) A) XC args s (mcT tag) (msT tag) A) (F0 m pc ls [.int v]) := by
  obtain ⟨hx, hb, hr, -, -, -, hlocks, -, -, -⟩ := id C
  subst hG hK
  exact vx_ret (W.widen (k := mcT tag) (n := msT tag) (Nat.zero_le _) (Nat.zero_le _) (W.iret hx hb hr (fun t h _ => ⟨⟨v, (), rfl, ⟨ht, hv⟩, (x_fr C w h).1⟩, (x_fr C w h).2⟩) w.2.2.2 hd))
theorem x_tl {G' : M3} {K' : J3} {v r : Int64} {tag : Nat} {XC : String → State → State → Prop} (C : Cx E A p s m args meth c w0 cc nL (some .long) own) (w : Wd E A s G K H locs) (ht : tag = 0) (hv : v = r) (hG : G = G') (hK : K = K') (hd : decode cc pc = .ok (.lreturn, 1)) : W p l e R s m args below meth c H locs 0 0 (vx_MQ below (va_Ql (fun (r1 : Int64) (_ : Unit) => tag = 0 ∧ r1 = r) (fun _ t => PosM E G' K' t) A) XC args s (mcT tag) (msT tag) A) (F0 m pc ls [.long v]) := by
  obtain ⟨hx, hb, hr, -, -, -, hlocks, -, -, -⟩ := id C
  subst hG hK
  exact vx_ret (W.widen (k := mcT tag) (n := msT tag) (Nat.zero_le _) (Nat.zero_le _) (W.lret hx hb hr (fun t h _ => ⟨⟨v, (), rfl, ⟨ht, hv⟩, (x_fr C w h).1⟩, (x_fr C w h).2⟩) w.2.2.2 hd))
/-- a body with handlers, that returns -/
theorem Met.ofWH {y : MethodName} {ws ws' : List Cond} {rm : Room} {Pc : Array Value → State → Prop} {Qc : Array Value → State → Outcome → State → Prop} {mc ms : Nat} {free : Addr → Prop} {cc : ByteArray} {maxL : Nat} {ret : Option FieldType} {hh : List (Nat × Nat × Nat × Nat)}
    (hy : plainName y.cls = true) (hw : ws = Cond.codeWith y cc maxL ret hh :: ws')
    (body : ∀ p e s m args below meth c s₁, BodyLoose p l y (headSpec ws rm) cc maxL ret e s m args below meth c s₁ → c.maxLocals = maxL → Pc args s →
      W p l e (headSpec ws rm).room s m args below meth c s.heap [] 0 0 (MQ below Qc args s mc ms free) (entryFrame m args maxL)) : Met l y ws rm Pc Qc mc ms free := by
  refine MetFree.of_bodyS (code := cc) (maxLocals := maxL) (ret := ret) hy ?_ ?_
  · intro args s m h hn
    obtain ⟨m9, meth, c, hn9, h1, h2, h3, h4, -, h5, h6, -⟩ := Cond.codeWith_spec (atoms_spec (ws := ws) h _ (by rw [hw]; exact List.mem_cons_self))
    cases hn.symm.trans hn9
    exact ⟨meth, c, h1, h2, h3, h4, h5, h6⟩
  · intro p e s m args below meth c s₁ B hml hP _
    have hh0 : s₁.heap = s.heap := by rw [B.state]; rfl
    obtain ⟨t, a1, o, b1, b2, b3⟩ := body p e s m args below meth c s₁ B hml hP s₁ hh0 (Stand.of_body B)
    exact ⟨t, o, a1, b1, b2, ⟨b3.1, b3.2⟩⟩
/-- a wrapper's contract, of mc cells and ms slots -/
abbrev MtZ (l : Launch) (y : MethodName) (w0 : Cond) (rm : Room) (E : WE) (as : List Value) (G : M3) (K : J3) (r : Int32) (G' : M3) (K' : J3) (mc ms : Nat) : Prop := ∀ sz, Met l y (wsM w0) rm (va_Pc as (PreM E G K sz)) (va_Qi (fun (r1 : Int32) (_ : Unit) => r1 = r) (fun _ t => PosM E G' K' t) (AA E sz)) mc ms (AA E sz)
abbrev MtZl (l : Launch) (y : MethodName) (w0 : Cond) (rm : Room) (E : WE) (as : List Value) (G : M3) (K : J3) (r : Int64) (G' : M3) (K' : J3) (mc ms : Nat) : Prop := ∀ sz, Met l y (wsM w0) rm (va_Pc as (PreM E G K sz)) (va_Ql (fun (r1 : Int64) (_ : Unit) => r1 = r) (fun _ t => PosM E G' K' t) (AA E sz)) mc ms (AA E sz)
/-- a call of a station's method that may throw, out of a wrapper's try -/
theorem x_cXi {y : MethodName} {cc2 : ByteArray} {n2 : Nat} {ret2 : Option FieldType} {rm2 : Room} {st As : List Value} {v : Int32} {tag : Nat} {G' : M3} {K' : J3} (C : Cx E A p s m args meth c w0 cc nL ret own) (w : Wd E A s G K H locs)
    (hM : XtI l y (Cond.code y cc2 n2 ret2) rm2 E (.ref (ad E 6 0) :: As) G K tag v G' K') (q1 : Cond.methodLink own index y ∈ wsL_law) (q2 : Cond.instanceMethod y ∈ wsL_law) (q3 : Cond.selects RX4 y y ∈ wsL_law) (q4 : Cond.initialized RX4 ∈ wsL_law) (q5 : Cond.code y cc2 n2 ret2 ∈ wsL_law)
    (hd1 : y.cls = RX4 ∧ y.cls ≠ "java/lang/invoke/MethodHandle" ∧ y.cls ≠ "java/lang/invoke/VarHandle" ∧ (parseMethodDescriptor y.desc).map (fun d => d.parameters.length) = some As.length) (h00 : rm2.cells = mcT tag ∧ rm2.slots = msT tag) (hR : rm2.frames + 1 ≤ R.frames ∧ 8 + (n2 + 11) + rm2.locals ≤ R.locals) (hcs : cells + mcT tag ≤ R.cells ∧ slots + msT tag ≤ R.slots) (hl : ls.size = nL) (hst : (rest.map fun v => v.category).sum ≤ 8) (hst2 : st = As.reverse ++ .ref (ad E 6 0) :: rest) (hd : decode cc pc = .ok (.invokevirtual index, 3))
    (kx : ∀ (H1 : Heap) (locs1 : List Loc) (q9 : Addr) (ce : Cell), tag ≠ 0 → Wd E A s G' K' H1 locs1 → H1[q9]? = some ce → ce.vm = .none → s.vm.findClass (exn tag) = some ce.cls → vx_W p l e R s m args below meth c H1 locs1 (cells + mcT tag) (slots + msT tag) Q (F0 m pc ls rest) q9)
    (kk : ∀ (H1 : Heap) (locs1 : List Loc), tag = 0 → Wd E A s G' K' H1 locs1 → W p l e R s m args below meth c H1 locs1 (cells + mcT tag) (slots + msT tag) Q (F0 m (pc + 3) ls (.int v :: rest))) : W p l e R s m args below meth c H locs cells slots Q (F0 m pc ls st) := by
  obtain ⟨hx, hb, -, hml, hown, hts, -, hKK, -, -⟩ := id C
  have he := Wl_get (E := E) (G := G) (K := K) (v6 (show 0 < 3 by decide))
  rw [cel_6] at he
  refine vx_calli (vx_runV (As := As) (rest := rest) ⟨hx, hb, hml, hown, hts⟩ (hM H.size) (cwV As.length hts (x_goodV q5 q1 q2 q3 q4) rfl h00.1 h00.2 hd1 hR) ⟨PreM.blind, va_recv hKK.1 w.1 (ci := 4) rfl he, fun U hU hW => ⟨rfl, x_pre C w hU hW⟩⟩ rfl rfl hl hst2 (lv_room hst) hd hcs) w.2 (fun q _ h => x_sub C w q h) (x_sub C w) (fun q _ h => x_sub C w q h)
    (fun En ce q9 u t H1 locs1 ht _ _ hB _ _ hS h1 h2 h3 => ?_) (fun r u t H1 locs1 ht _ hw hB _ _ hS => ?_)
  · obtain ⟨⟨h4, h5⟩, h6⟩ := hB
    exact kx H1 locs1 q9 ce h4 ⟨by rw [← ht]; exact h6, hS⟩ h1 h2 (by rw [← h5]; exact h3)
  · obtain ⟨h4, h5⟩ := hw
    subst h5
    exact kk H1 locs1 h4 ⟨by rw [← ht]; exact hB, hS⟩
theorem x_cXl {y : MethodName} {cc2 : ByteArray} {n2 : Nat} {ret2 : Option FieldType} {rm2 : Room} {st As : List Value} {v : Int64} {tag : Nat} {G' : M3} {K' : J3} (C : Cx E A p s m args meth c w0 cc nL ret own) (w : Wd E A s G K H locs)
    (hM : XtL l y (Cond.code y cc2 n2 ret2) rm2 E (.ref (ad E 6 0) :: As) G K tag v G' K') (q1 : Cond.methodLink own index y ∈ wsL_law) (q2 : Cond.instanceMethod y ∈ wsL_law) (q3 : Cond.selects RX4 y y ∈ wsL_law) (q4 : Cond.initialized RX4 ∈ wsL_law) (q5 : Cond.code y cc2 n2 ret2 ∈ wsL_law)
    (hd1 : y.cls = RX4 ∧ y.cls ≠ "java/lang/invoke/MethodHandle" ∧ y.cls ≠ "java/lang/invoke/VarHandle" ∧ (parseMethodDescriptor y.desc).map (fun d => d.parameters.length) = some As.length) (h00 : rm2.cells = mcT tag ∧ rm2.slots = msT tag) (hR : rm2.frames + 1 ≤ R.frames ∧ 8 + (n2 + 11) + rm2.locals ≤ R.locals) (hcs : cells + mcT tag ≤ R.cells ∧ slots + msT tag ≤ R.slots) (hl : ls.size = nL) (hst : (rest.map fun v => v.category).sum ≤ 8) (hst2 : st = As.reverse ++ .ref (ad E 6 0) :: rest) (hd : decode cc pc = .ok (.invokevirtual index, 3))
    (kx : ∀ (H1 : Heap) (locs1 : List Loc) (q9 : Addr) (ce : Cell), tag ≠ 0 → Wd E A s G' K' H1 locs1 → H1[q9]? = some ce → ce.vm = .none → s.vm.findClass (exn tag) = some ce.cls → vx_W p l e R s m args below meth c H1 locs1 (cells + mcT tag) (slots + msT tag) Q (F0 m pc ls rest) q9)
    (kk : ∀ (H1 : Heap) (locs1 : List Loc), tag = 0 → Wd E A s G' K' H1 locs1 → W p l e R s m args below meth c H1 locs1 (cells + mcT tag) (slots + msT tag) Q (F0 m (pc + 3) ls (.long v :: rest))) : W p l e R s m args below meth c H locs cells slots Q (F0 m pc ls st) := by
  obtain ⟨hx, hb, -, hml, hown, hts, -, hKK, -, -⟩ := id C
  have he := Wl_get (E := E) (G := G) (K := K) (v6 (show 0 < 3 by decide))
  rw [cel_6] at he
  refine vx_calll (vx_runV (As := As) (rest := rest) ⟨hx, hb, hml, hown, hts⟩ (hM H.size) (cwV As.length hts (x_goodV q5 q1 q2 q3 q4) rfl h00.1 h00.2 hd1 hR) ⟨PreM.blind, va_recv hKK.1 w.1 (ci := 4) rfl he, fun U hU hW => ⟨rfl, x_pre C w hU hW⟩⟩ rfl rfl hl hst2 (lv_room hst) hd hcs) w.2 (fun q _ h => x_sub C w q h) (x_sub C w) (fun q _ h => x_sub C w q h)
    (fun En ce q9 u t H1 locs1 ht _ _ hB _ _ hS h1 h2 h3 => ?_) (fun r u t H1 locs1 ht _ hw hB _ _ hS => ?_)
  · obtain ⟨⟨h4, h5⟩, h6⟩ := hB
    exact kx H1 locs1 q9 ce h4 ⟨by rw [← ht]; exact h6, hS⟩ h1 h2 (by rw [← h5]; exact h3)
  · obtain ⟨h4, h5⟩ := hw
    subst h5
    exact kk H1 locs1 h4 ⟨by rw [← ht]; exact hB, hS⟩
end XTH
