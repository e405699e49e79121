/-! THE CLAIM OUT OF ONE WALK OF THE LAW'S BODY. Your part is whole_start (and what it stands on); all else here is the same for every law, but numbers. -/
def R_law : String := "AirStationLaw"
def lw_P (b : Addr) (xs : List Int32) (args : Array Value) (s : State) : Prop := args = #[.ref b] ∧ s.IntsAt b xs ∧ xs.length ≤ 1536 ∧ (Jvm.Cond.and given_1 narrow_1).before args s = true
/-- what a walk over the start with the record d0 says of its end, said of the start itself -/
theorem lw_closed {s t : State} {o : Outcome} {d0 : Drawn} {L : List Loc} {k n : Nat} (hd0 : s.drawn.sameBut d0 lw_cs) (hv : ∃ v, o = .returned v) (hW : (s.setDrawn d0).WarmedH t.vm) (hs : (s.setDrawn d0).sameButNew ({ t with vm := s.vm } : State) L k n) : State.butDraws s t lw_cs (fun t1 => Framed s o t1 L k n) := by
  have h2 : t.drawn = d0 := congrArg State.drawn hs.1
  refine ⟨⟨hv, hW, State.sameButNew.setDrawn hs s.drawn⟩, ?_, by decide⟩
  rw [h2]
  exact hd0
def lw_Q (_ : Array Value) (s : State) (o : Outcome) (t : State) : Prop := o = .returned (some (.int 1)) ∧ State.butDraws s t lw_cs (fun t1 => Framed s o t1 [] 606009 7278078)
def lw_Z (below : List Frame) (a : Array Value) (s : State) : State → Prop := fun t => ∃ o, t.status = .running ∧ Ended t below o ∧ lw_Q a s o t
/-- the law's own end, with 1 on the stack, nothing written that was there before, its room as the claim has it; d0: the record of draws at this point (at the entry s.drawn: begin with 'refine W.base ?_' and 'have hd0 := Drawn.sameBut.refl s.drawn lw_cs') -/
theorem lw_ret {p : Program} {l : Launch} {e : Env} {s : State} {m : MethodId} {below : List Frame} {meth : Method} {c : Code} {b : Nat} {d0 : Drawn} (hd0 : s.drawn.sameBut d0 lw_cs) (hx : p.tables.exec = Jvm.exec) (hb : c.code = code) (hr : meth.sig.returnType = ret) (hlocks : meth.locks = false) {pc : Nat} {H : Heap} {ls : Array Slot} (hdg : decode code pc = .ok (.ireturn, 1)) : W p l e room_1 (s.setDrawn d0) m #[Value.ref b] below meth c H [] 606009 7278078 (lw_Z below #[Value.ref b] s) (F0 m pc ls [.int 1]) := by
  intro T hT X
  obtain ⟨fs, hret, hrun, hended, hW, hframe⟩ := X.leave (v := some (.int 1)) (hlocks := hlocks) (fun h => by rw [hr] at h; cases h)
  have hmeth' : T.vm.method? m = some meth := X.method'
  refine ⟨T.setFrames fs, ?_, .returned (some (.int 1)), hrun, hended, rfl, lw_closed hd0 ⟨_, rfl⟩ hW hframe⟩
  jvm_step X.here [X.here.top, hx, hb, hdg, hmeth', hr, ret, narrow_b1]
  (try refine ⟨rfl, ?_⟩); (try refine ⟨rfl, ?_⟩)
  first | (intro acts; rw [hret _ acts rfl rfl rfl]) | rw [hret _ _ rfl rfl rfl]
  exact Steps.refl _
/-- what holds at the law's entry: the machine, the code, the tables' words (any of lw_tbl by 'hts w (by decide +kernel)'), the script of L ints xs at the cell b, what the Statement gives of the start (any of its parts by flat_of_before) -/
def lw_At (p : Program) (s : State) (m : MethodId) (meth : Method) (c : Code) (b L : Nat) (xs : Nat → Int32) : Prop :=
  p.tables.exec = Jvm.exec ∧ c.code = code ∧ meth.sig.returnType = ret ∧ c.maxLocals = 9 ∧ s.vm.findClass R_law = some m.cls ∧ (∀ w ∈ lw_tbl, w.before #[Value.ref b] s = true) ∧ va_X b L xs s s.heap ∧ b < s.heap.size ∧ meth.locks = false ∧ (Jvm.Cond.and given_1 narrow_1).before #[Value.ref b] s = true

section XLR
variable {E : WE} {A : Nat → Prop} {p : Program} {l : Launch} {e : Env} {R : Room} {s : State} {m : MethodId} {args : Array Value} {below : List Frame} {meth : Method} {c : Code} {H : Heap} {locs : List Loc} {cells slots : Nat} {Q : State → Prop}
variable {w0 : Cond} {cc : ByteArray} {nL : Nat} {ret : Option FieldType} {own : String} {pc index : Nat} {ls : Array Slot} {rest : List Value} {G : M3} {K : J3}
theorem x_goodW {w1 w2 : Cond} {idx : Nat} {y : MethodName} (h : w2 ∈ wsL_law) (q1 : Cond.methodLink own idx y ∈ wsL_law) (q2 : Cond.static y ∈ wsL_law) (q4 : Cond.initialized y.cls ∈ wsL_law) : GoodIn (wsM w1) (va_wsS own idx y (wsM w2)) := by
  refine goodIn_app (fun w hw => ?_) (x_good h)
  have h2 : w ∈ wsL_law := by
    simp only [List.mem_cons, List.not_mem_nil, or_false] at hw
    rcases hw with rfl | rfl | rfl <;> assumption
  exact ⟨List.mem_cons_of_mem _ h2, good_of_word (List.all_eq_true.mp x_goodAll w h2)⟩
/-- a wrapper called -/
theorem x_cWi {y : MethodName} {cc2 : ByteArray} {n2 : Nat} {ret2 : Option FieldType} {hh : List (Nat × Nat × Nat × Nat)} {rm2 : Room} {st As : List Value} {v : Int32} {G' : M3} {K' : J3} (C : Cx E A p s m args meth c w0 cc nL ret own) (w : Wd E A s G K H locs)
    (hM : MtW l y (Cond.codeWith y cc2 n2 ret2 hh) rm2 E As G K v G' K') (q1 : Cond.methodLink own index y ∈ wsL_law) (q2 : Cond.static y ∈ wsL_law) (q4 : Cond.initialized y.cls ∈ wsL_law) (q5 : Cond.codeWith y cc2 n2 ret2 hh ∈ wsL_law)
    (hd1 : y.cls ≠ "java/lang/invoke/MethodHandle" ∧ y.cls ≠ "java/lang/invoke/VarHandle" ∧ (parseMethodDescriptor y.desc).map (fun d => d.parameters.length) = some As.length) (h00 : rm2.cells = 1 ∧ rm2.slots = 6) (hR : rm2.frames + 1 ≤ R.frames ∧ 8 + (n2 + 11) + rm2.locals ≤ R.locals) (hcs : cells + 1 ≤ R.cells ∧ slots + 6 ≤ R.slots) (hl : ls.size = nL) (hst : (rest.map fun v => v.category).sum ≤ 8) (hst2 : st = As.reverse ++ rest) (hd : decode cc pc = .ok (.invokestatic index, 3))
    (kk : ∀ (H1 : Heap) (locs1 : List Loc), Wd E A s G' K' H1 locs1 → W p l e R s m args below meth c H1 locs1 (cells + 1) (slots + 6) Q (F0 m (pc + 3) ls (.int v :: rest))) : W p l e R s m args below meth c H locs cells slots Q (F0 m pc ls st) := by
  obtain ⟨hx, hb, -, hml, hown, hts, -, hKK, -, -⟩ := id C
  refine va_calli (vx_runSW (As := As) (rest := rest) ⟨hx, hb, hml, hown, hts⟩ (hM H.size) (vx_cwSW As.length hts (x_goodW q5 q1 q2 q4) rfl h00.1 h00.2 hd1 hR) ⟨PreM.blind, fun U hU hW => ⟨rfl, x_pre C w hU hW⟩⟩ rfl rfl hl hst2 (lv_room hst) hd hcs) w.2 (fun q _ h => x_sub C w q h) (x_sub C w) (fun r u t H1 locs1 ht _ hw hB _ _ hS => by subst hw; exact kk H1 locs1 ⟨by rw [← ht]; exact hB, hS⟩)
theorem x_scr {b L ki : Nat} {f : Nat → Int32} {i : Int32} (C : Cx E A p s m args meth c w0 cc nL ret own) (w : Wd E A s G K H locs) (hX : va_X b L f s s.heap) (hbl : b < s.heap.size) (hbA : ¬ A b) (hi : inb i L) (hk : i.toNatClampNeg = ki) (hd : decode cc pc = .ok (.iaload, 1))
    (kk : W p l e R s m args below meth c H locs cells slots Q (F0 m (pc + 1) ls (.int (f ki) :: rest))) : W p l e R s m args below meth c H locs cells slots Q (F0 m pc ls (.int i :: .ref b :: rest)) := by
  subst hk
  exact va_sld C.1 C.2.1 hX hbl hbA w.2 (inb_in hi) hd kk
theorem x_scl {b L : Nat} {f : Nat → Int32} (C : Cx E A p s m args meth c w0 cc nL ret own) (w : Wd E A s G K H locs) (hX : va_X b L f s s.heap) (hbl : b < s.heap.size) (hbA : ¬ A b) (hd : decode cc pc = .ok (.arraylength, 1))
    (kk : W p l e R s m args below meth c H locs cells slots Q (F0 m (pc + 1) ls (.int (Int32.ofNat L) :: rest))) : W p l e R s m args below meth c H locs cells slots Q (F0 m pc ls (.ref b :: rest)) :=
  va_slen C.1 C.2.1 hX hbl hbA w.2 hd kk
/-- room for n more rounds -/
def RB (n cells slots : Nat) : Prop := cells + n ≤ 9000 ∧ slots + 6 * n ≤ 90000
theorem rb_wk {n cells slots : Nat} (h : RB (n + 1) cells slots) : RB n cells slots := by obtain ⟨h1, h2⟩ := h; exact ⟨by omega, by omega⟩
theorem rb_go {n cells slots : Nat} (h : RB (n + 1) cells slots) : RB n (cells + 1) (slots + 6) := by obtain ⟨h1, h2⟩ := h; exact ⟨by omega, by omega⟩
theorem rb_c {n cells slots : Nat} (h : RB (n + 1) cells slots) : cells + 1 ≤ room_1.cells ∧ slots + 6 ≤ room_1.slots := by
  obtain ⟨h1, h2⟩ := h
  constructor
  · show _ ≤ 606009; omega
  · show _ ≤ 7278078; omega
theorem rb_z {n cells slots : Nat} (h : RB n cells slots) : cells ≤ room_1.cells ∧ slots ≤ room_1.slots := by
  obtain ⟨h1, h2⟩ := h
  constructor
  · show _ ≤ 606009; omega
  · show _ ≤ 7278078; omega
end XLR
