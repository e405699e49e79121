section
-- ===== PART A: goes FIRST, ahead of the names: the tables' words, and 'selects' of the private methods out of them =====
/-- a private method of a class that the tables say can be made, by its rows of tables_1 -/
def lw_okq (q : MethodName × Nat) : Prop := (q.1.cls ≠ "java/lang/invoke/MethodHandle" ∧ q.1.cls ≠ "java/lang/invoke/VarHandle") ∧ Cond.instantiable q.1.cls q.2 ∈ tables_1 ∧ Cond.privateMethod q.1 ∈ tables_1 ∧ Cond.instanceMethod q.1 ∈ tables_1
theorem lw_p0 : lw_okq (⟨"AirStation$History", "savedAt", "(I)LAirStation$State;"⟩, 3) := ⟨⟨by decide +kernel, by decide +kernel⟩, List.mem_of_getElem? (i := 117) (by decide +kernel), List.mem_of_getElem? (i := 183) (by decide +kernel), List.mem_of_getElem? (i := 184) (by decide +kernel)⟩
theorem lw_p1 : lw_okq (⟨"AirStation$State", "stageByMinutes", "(II)I"⟩, 11) := ⟨⟨by decide +kernel, by decide +kernel⟩, List.mem_of_getElem? (i := 23) (by decide +kernel), List.mem_of_getElem? (i := 206) (by decide +kernel), List.mem_of_getElem? (i := 207) (by decide +kernel)⟩
theorem lw_p2 : lw_okq (⟨"AirStation$State", "lookAtAll", "(I)Z"⟩, 11) := ⟨⟨by decide +kernel, by decide +kernel⟩, List.mem_of_getElem? (i := 23) (by decide +kernel), List.mem_of_getElem? (i := 227) (by decide +kernel), List.mem_of_getElem? (i := 228) (by decide +kernel)⟩
theorem lw_p3 : lw_okq (⟨"AirStation$State", "runFlows", "(II)I"⟩, 11) := ⟨⟨by decide +kernel, by decide +kernel⟩, List.mem_of_getElem? (i := 23) (by decide +kernel), List.mem_of_getElem? (i := 259) (by decide +kernel), List.mem_of_getElem? (i := 260) (by decide +kernel)⟩
theorem lw_p4 : lw_okq (⟨"AirStation$State", "runCompressors", "()V"⟩, 11) := ⟨⟨by decide +kernel, by decide +kernel⟩, List.mem_of_getElem? (i := 23) (by decide +kernel), List.mem_of_getElem? (i := 263) (by decide +kernel), List.mem_of_getElem? (i := 264) (by decide +kernel)⟩
theorem lw_p5 : lw_okq (⟨"AirStation$State", "blowOff", "()V"⟩, 11) := ⟨⟨by decide +kernel, by decide +kernel⟩, List.mem_of_getElem? (i := 23) (by decide +kernel), List.mem_of_getElem? (i := 272) (by decide +kernel), List.mem_of_getElem? (i := 273) (by decide +kernel)⟩
theorem lw_p6 : lw_okq (⟨"AirStation$State", "countOf", "(I)I"⟩, 11) := ⟨⟨by decide +kernel, by decide +kernel⟩, List.mem_of_getElem? (i := 23) (by decide +kernel), List.mem_of_getElem? (i := 286) (by decide +kernel), List.mem_of_getElem? (i := 287) (by decide +kernel)⟩
theorem lw_p7 : lw_okq (⟨"AirStation$State", "capacityOf", "(I)I"⟩, 11) := ⟨⟨by decide +kernel, by decide +kernel⟩, List.mem_of_getElem? (i := 23) (by decide +kernel), List.mem_of_getElem? (i := 290) (by decide +kernel), List.mem_of_getElem? (i := 291) (by decide +kernel)⟩
theorem lw_p8 : lw_okq (⟨"AirStation", "digestWith", "(JLAirStation$Compressor;)J"⟩, 4) := ⟨⟨by decide +kernel, by decide +kernel⟩, List.mem_of_getElem? (i := 15) (by decide +kernel), List.mem_of_getElem? (i := 295) (by decide +kernel), List.mem_of_getElem? (i := 296) (by decide +kernel)⟩
theorem lw_p9 : lw_okq (⟨"java/lang/Throwable", "fillInStackTrace", "(I)Ljava/lang/Throwable;"⟩, 6) := ⟨⟨by decide +kernel, by decide +kernel⟩, List.mem_of_getElem? (i := 359) (by decide +kernel), List.mem_of_getElem? (i := 357) (by decide +kernel), List.mem_of_getElem? (i := 358) (by decide +kernel)⟩
theorem lw_p10 : lw_okq (⟨"AirStation$State", "unloadAll", "()V"⟩, 11) := ⟨⟨by decide +kernel, by decide +kernel⟩, List.mem_of_getElem? (i := 23) (by decide +kernel), List.mem_of_getElem? (i := 497) (by decide +kernel), List.mem_of_getElem? (i := 498) (by decide +kernel)⟩
theorem lw_p11 : lw_okq (⟨"AirStation$State", "keepResult", "(I)V"⟩, 11) := ⟨⟨by decide +kernel, by decide +kernel⟩, List.mem_of_getElem? (i := 23) (by decide +kernel), List.mem_of_getElem? (i := 502) (by decide +kernel), List.mem_of_getElem? (i := 503) (by decide +kernel)⟩
def lw_privs_1 : List (MethodName × Nat) := [(⟨"AirStation$History", "savedAt", "(I)LAirStation$State;"⟩, 3), (⟨"AirStation$State", "stageByMinutes", "(II)I"⟩, 11), (⟨"AirStation$State", "lookAtAll", "(I)Z"⟩, 11), (⟨"AirStation$State", "runFlows", "(II)I"⟩, 11), (⟨"AirStation$State", "runCompressors", "()V"⟩, 11), (⟨"AirStation$State", "blowOff", "()V"⟩, 11), (⟨"AirStation$State", "countOf", "(I)I"⟩, 11), (⟨"AirStation$State", "capacityOf", "(I)I"⟩, 11), (⟨"AirStation", "digestWith", "(JLAirStation$Compressor;)J"⟩, 4), (⟨"java/lang/Throwable", "fillInStackTrace", "(I)Ljava/lang/Throwable;"⟩, 6), (⟨"AirStation$State", "unloadAll", "()V"⟩, 11), (⟨"AirStation$State", "keepResult", "(I)V"⟩, 11)]
theorem lw_r1 : ∀ q ∈ lw_privs_1, lw_okq q := List.forall_mem_cons.mpr ⟨lw_p0, List.forall_mem_cons.mpr ⟨lw_p1, List.forall_mem_cons.mpr ⟨lw_p2, List.forall_mem_cons.mpr ⟨lw_p3, List.forall_mem_cons.mpr ⟨lw_p4, List.forall_mem_cons.mpr ⟨lw_p5, List.forall_mem_cons.mpr ⟨lw_p6, List.forall_mem_cons.mpr ⟨lw_p7, List.forall_mem_cons.mpr ⟨lw_p8, List.forall_mem_cons.mpr ⟨lw_p9, List.forall_mem_cons.mpr ⟨lw_p10, List.forall_mem_cons.mpr ⟨lw_p11, fun _ h => absurd h List.not_mem_nil⟩⟩⟩⟩⟩⟩⟩⟩⟩⟩⟩⟩
def lw_privs : List (MethodName × Nat) := lw_privs_1
def lw_tbl : List Cond := k2_sels lw_privs ++ tables_1
theorem lw_privs_ok : ∀ q ∈ lw_privs, lw_okq q := lw_r1
-- ===== end of PART A; then your names; then what follows =====
end
section
/-! ===== BEGIN words of one list among another's, by their places ===== -/
theorem goodIn_r {big : List Cond} (ws : List Cond) (ps : List Nat) (hp : ws = ps.filterMap (fun i => big[i]?)) (h : ws.all goodWord = true) : GoodIn big ws := by
  intro w hw
  have h1 := List.all_eq_true.mp h w hw
  rw [hp] at hw
  obtain ⟨i, -, hi⟩ := List.mem_filterMap.mp hw
  have hm : w ∈ big := by first | exact List.mem_of_getElem? hi | exact List.getElem?_mem hi
  exact ⟨hm, good_of_word h1⟩
theorem goodIn_app {big a b : List Cond} (ha : GoodIn big a) (hb : GoodIn big b) : GoodIn big (a ++ b) := fun w h => (List.mem_append.mp h).elim (ha w) (hb w)
theorem goodIn_ca {big a b : List Cond} {c : Cond} (ha : GoodIn big (c :: a)) (hb : GoodIn big b) : GoodIn big (c :: (a ++ b)) := fun w h => (List.mem_cons.mp h).elim (fun e => ha w (List.mem_cons.mpr (Or.inl e))) (fun h => (List.mem_append.mp h).elim (fun h => ha w (List.mem_cons.mpr (Or.inr h))) (hb w))
theorem goodIn_sub {big ws : List Cond} (hm : ∀ w ∈ ws, w ∈ big) (h : ws.all goodWord = true) : GoodIn big ws := fun w hw => ⟨hm w hw, good_of_word (List.all_eq_true.mp h w hw)⟩
/-! ===== END ===== -/

/-! ===== BEGIN exceptions that leave a method, and their catching by the caller (launches without stack traces) ===== -/
section VXA
/-! The laws vx_back, vx_callV, vx_callS, vx_callSW, vx_throw0, vx_throwS follow proofs of the library, with one case more: JvmDerived/Free/Laws.lean (Back.of_free), Shelf42/LK1.lean (callV, callS), Shelf/KitTraced.lean (throwNew0V, throwNewS). -/
/-- where a method has thrown q: the class by its name, the cell, what was written, the world -/
def vx_T (XC : String → State → State → Prop) (st : State) (q : Addr) (t : State) (mc ms : Nat) (free : Addr → Prop) : Prop :=
  ∃ (E : String) (ce : Cell) (L : List Loc), XC E st t ∧ t.heap[q]? = some ce ∧ ce.vm = .none ∧ st.vm.findClass E = some ce.cls ∧ st.WarmedH t.vm ∧ st.sameButNew ({ t with vm := st.vm } : State) L mc ms ∧ ∀ z ∈ L, free z.base
def vx_Q (Qc : Array Value → State → Outcome → State → Prop) (XC : String → State → State → Prop) (mc ms : Nat) (free : Addr → Prop) : Array Value → State → Outcome → State → Prop := fun a st o t =>
  (Qc a st o t ∧ ∃ L, FrameEnd st o t L mc ms ∧ ∀ q ∈ L, free q.base) ∨ ∃ q, o = .threw q ∧ vx_T XC st q t mc ms free
/-- a callee that returns or throws -/
def vx_Met (l : Launch) (y : MethodName) (ws : List Cond) (rm : Room) (Pc : Array Value → State → Prop) (Qc : Array Value → State → Outcome → State → Prop) (XC : String → State → State → Prop) (mc ms : Nat) (free : Addr → Prop) : Prop :=
  MetFree l y (headSpec ws rm) Pc (fun _ _ _ _ _ => True) (vx_Q Qc XC mc ms free)
def vx_Post (XC : String → State → State → Prop) (mc ms : Nat) (free : Addr → Prop) : Pt → Array Value → Addr → Pt → Prop := fun A a q B =>
  ∃ (g : JFrame) (mk : MethodId) (t : State) (L : List Loc) (E : String) (ce : Cell), B.U.heap = t.heap ∧ B.U.vm = t.vm ∧ XC E (A.U.calling g mk a) t ∧ t.heap[q]? = some ce ∧ ce.vm = .none ∧ A.U.vm.findClass E = some ce.cls ∧ B.locs = A.locs ++ L ∧ (∀ z ∈ L, free z.base) ∧ B.cells = A.cells + mc ∧ B.slots = A.slots + ms
def vx_Back (l : Launch) (R : Room) (p : Program) (e : Env) (below : List Frame) (s : State) (sargs : Array Value) (y : MethodName) (len W9 : Nat)
    (Pre : Pt → Array Value → Prop) (Post : Pt → Array Value → Option Value → Pt → Prop) (PostX : Pt → Array Value → Addr → Pt → Prop) : Prop :=
  ∀ (m : MethodId) (meth : Method) (c : Code) (A : Pt) (g : JFrame) (ig : Instr) (mk : MethodId) (a : Array Value),
    Stand p l e R s m sargs below meth c A.U A.locs A.cells A.slots → g.method = m → g.locals.size = c.maxLocals → decode c.code g.pc = .ok (ig, len) →
    2 * g.monitorRoom + (g.stack.map fun v => v.category).sum ≤ W9 → A.U.methodNamed? y = some mk → Pre A a →
    (∃ (v : Option Value) (B : Pt), Stand p l e R s m sargs below meth c B.U B.locs B.cells B.slots ∧ Post A a v B ∧
      Steps p.tables e below (doInvoke e (A.U.setTop g) [] mk a).1 (B.U.setTop { g with pc := g.pc + len, stack := v.toList ++ g.stack })) ∨
    (∃ (q : Addr) (B : Pt), Stand p l e R s m sargs below meth c B.U B.locs B.cells B.slots ∧ PostX A a q B ∧
      Steps p.tables e below (doInvoke e (A.U.setTop g) [] mk a).1 ((B.U.setTop g).pushFrame (.throwing q)))
section Payer
variable {l : Launch} {R : Room} {p : Program} {e : Env} {below : List Frame} {s : State} {sargs : Array Value} {y : MethodName} {len W9 : Nat}
theorem vx_back {ws : List Cond} {rm : Room} {Pc : Array Value → State → Prop} {Qc : Array Value → State → Outcome → State → Prop} {XC : String → State → State → Prop} {mc ms : Nat} {free : Addr → Prop} {bytes : ByteArray} {maxL : Nat} {ret : Option FieldType}
    (hM : vx_Met l y ws rm Pc Qc XC mc ms free) (hblind : FrameBlind Pc) (hrc : rm.cells = mc) (hrs : rm.slots = ms)
    (hframes : rm.frames + 1 ≤ R.frames) (hlocals : W9 + (maxL + 11) + rm.locals ≤ R.locals)
    (hws : ∀ w ∈ ws, ∀ a' U, s.WarmedH U.vm → w.before a' U = true) (hcode : Cond.code y bytes maxL ret ∈ ws) (hinit : ∀ a' U, s.WarmedH U.vm → (Cond.initialized y.cls).before a' U = true) :
    vx_Back l R p e below s sargs y len W9 (PreOf R mc ms Pc) (PostOf Qc mc ms free) (vx_Post XC mc ms free) := by
  intro m meth c A g ig mk a X hg hsize hdg hW hn hp
  have h1 : (headSpec ws rm).pre.before a A.U = true := atoms_intro fun w hw => hws w hw _ _ X.warmed
  have h2 : (Cond.code y bytes maxL ret).before a A.U = true := hws _ hcode _ _ X.warmed
  have h3 : (Cond.initialized y.cls).before a A.U = true := hinit _ _ X.warmed
  have h4 : A.cells + (headSpec ws rm).room.cells ≤ R.cells := by rw [show (headSpec ws rm).room.cells = mc from hrc]; exact hp.1
  have h5 : A.slots + (headSpec ws rm).room.slots ≤ R.slots := by rw [show (headSpec ws rm).room.slots = ms from hrs]; exact hp.2.1
  have hPc : Pc a (A.U.calling g mk a) := hblind _ _ _ _ hp.2.2
  obtain ⟨U, Ls, c0, s0⟩ := A
  dsimp only [Pt.U, Pt.locs, Pt.cells, Pt.slots] at h1 h2 h3 h4 h5 X hn hPc ⊢
  obtain ⟨methY, cY, hmY, hcY, -, hlY, -, -, -, -⟩ := Cond.code_spec hn h2
  obtain ⟨kY, hkY, -⟩ := className_of_methodNamed hn
  have hinitY : kY.init = .initialized := Cond.initialized_spec (findClass_of_methodNamed hn) hkY h3
  have h : At U g.method c below := by rw [hg]; exact X.here
  have hlocals9 : W9 + (maxL + 11) + (headSpec ws rm).room.locals ≤ R.locals := hlocals
  have happ : (headSpec ws rm).appliesLoose y e.platform (U.calling g mk a) = true :=
    Spec.appliesLoose_calling (g := g) h hdg hn hkY hinitY
      (X.room_calling (g := g) (R' := (headSpec ws rm).room) hsize hmY hcY hframes (by rw [hlY]; omega) h4 h5) h1
  obtain ⟨mid, hmid⟩ := h.above
  have hfr : (U.setTop g).frames = (.java g :: mid) ++ below := by rw [State.frames_setTop' g h.top, hmid]; rfl
  obtain ⟨o, s₂, hsteps, -, hend, hq⟩ := Steps.callFree hM p X.admits X.cas X.clock (acts := []) hfr happ hPc trivial
  have hq' : vx_Q Qc XC mc ms free a (U.calling g mk a) o s₂ := hq
  rw [State.frames_setTop' g h.top] at hend
  obtain ⟨g₀, hg0⟩ := Option.isSome_iff_exists.mp h.top
  obtain ⟨r, hr⟩ := State.topJava?_eq_some.mp hg0
  have hr' : (({ U with heap := s₂.heap, slotsUsed := s₂.slotsUsed } : State).setVm s₂.vm).frames = .java g₀ :: r := hr
  rcases hq' with ⟨hqc, L, hfe, hL⟩ | ⟨q, rfl, E, ce, L, hx, hce, hcv, hcl, hW₂, hsm, hL⟩
  · obtain ⟨⟨v, rfl⟩, hW₂, e2, q2, q3, q4, q5, q6⟩ := id hfe
    have e3 : s₂ = ({ (U.calling g mk a).setFrames s₂.frames with heap := s₂.heap, slotsUsed := s₂.slotsUsed } : State).setVm s₂.vm := by
      have : s₂ = ({ s₂ with vm := (U.calling g mk a).vm } : State).setVm s₂.vm := rfl
      rw [e2] at this
      exact this
    obtain ⟨c₂, i₂, len₂, hc₂, hd₂, hf₂⟩ := hend
    have hW' : U.WarmedH s₂.vm := hW₂
    have hcc : c₂ = c := by
      have h1 : s₂.code? g.method = U.code? g.method := by
        rw [State.code?_eq, State.code?_eq, hW'.alike.method?]
      exact Option.some.inj (hc₂.symm.trans (h1.trans h.code))
    subst hcc
    have hlen : len₂ = len := by rw [hdg] at hd₂; cases hd₂; rfl
    subst hlen
    have hs₂ : s₂ = (({ U with heap := s₂.heap, slotsUsed := s₂.slotsUsed } : State).setVm s₂.vm).setTop { g with pc := g.pc + len₂, stack := v.toList ++ g.stack } := by
      refine e3.trans ?_
      rw [hf₂, State.calling_eq h.top, State.setFrames_setFrames, State.setTop_of_frames _ hr', hr]
      rfl
    have hsame : U.sameButNew ({ U with heap := s₂.heap, slotsUsed := s₂.slotsUsed } : State) L mc ms := by
      refine ⟨?_, q2, q3, q4, q5, q6⟩
      obtain ⟨t, ht, -⟩ := State.frames_cons hr
      show ({ U with heap := s₂.heap, slotsUsed := s₂.slotsUsed } : State) = { U.setFrames U.frames with heap := s₂.heap, slotsUsed := s₂.slotsUsed }
      rw [State.setFrames_self ht]
    subst hg
    refine Or.inl ⟨v, ⟨(({ U with heap := s₂.heap, slotsUsed := s₂.slotsUsed } : State).setVm s₂.vm), Ls ++ L, c0 + mc, s0 + ms⟩,
      ⟨X.admits, X.cas, X.clock, X.frames, X.room, X.hears, X.method, X.code, (X.here.setHeapUsed s₂.heap s₂.slotsUsed).setVm hW'.alike, X.tail, State.WarmedH.trans X.warmed hW', X.limits, X.bytes, X.same.trans (hsame.setVm s.vm)⟩,
      ⟨g, mk, s₂, L, rfl, rfl, hqc, rfl, hL, rfl, rfl⟩, ?_⟩
    show Steps p.tables e below _ ((({ U with heap := s₂.heap, slotsUsed := s₂.slotsUsed } : State).setVm s₂.vm).setTop { g with pc := g.pc + len₂, stack := v.toList ++ g.stack })
    rw [← hs₂]
    exact hsteps
  · obtain ⟨e2, q2, q3, q4, q5, q6⟩ := id hsm
    have e3 : s₂ = ({ (U.calling g mk a).setFrames s₂.frames with heap := s₂.heap, slotsUsed := s₂.slotsUsed } : State).setVm s₂.vm := by
      have : s₂ = ({ s₂ with vm := (U.calling g mk a).vm } : State).setVm s₂.vm := rfl
      rw [e2] at this
      exact this
    have hf₂ : s₂.frames = .throwing q :: .java g :: U.frames.tail := hend
    have hW' : U.WarmedH s₂.vm := hW₂
    have hs₂ : s₂ = ((({ U with heap := s₂.heap, slotsUsed := s₂.slotsUsed } : State).setVm s₂.vm).setTop g).pushFrame (.throwing q) := by
      refine e3.trans ?_
      rw [hf₂, State.calling_eq h.top, State.setFrames_setFrames, State.pushFrame, State.frames_setTop _ hr', State.setTop_of_frames _ hr', State.setFrames_setFrames, hr]
      rfl
    have hsame : U.sameButNew ({ U with heap := s₂.heap, slotsUsed := s₂.slotsUsed } : State) L mc ms := by
      refine ⟨?_, q2, q3, q4, q5, q6⟩
      obtain ⟨t, ht, -⟩ := State.frames_cons hr
      show ({ U with heap := s₂.heap, slotsUsed := s₂.slotsUsed } : State) = { U.setFrames U.frames with heap := s₂.heap, slotsUsed := s₂.slotsUsed }
      rw [State.setFrames_self ht]
    subst hg
    refine Or.inr ⟨q, ⟨(({ U with heap := s₂.heap, slotsUsed := s₂.slotsUsed } : State).setVm s₂.vm), Ls ++ L, c0 + mc, s0 + ms⟩,
      ⟨X.admits, X.cas, X.clock, X.frames, X.room, X.hears, X.method, X.code, (X.here.setHeapUsed s₂.heap s₂.slotsUsed).setVm hW'.alike, X.tail, State.WarmedH.trans X.warmed hW', X.limits, X.bytes, X.same.trans (hsame.setVm s.vm)⟩,
      ⟨g, mk, s₂, L, E, ce, rfl, rfl, hx, hce, hcv, hcl, rfl, hL, rfl, rfl⟩, ?_⟩
    show Steps p.tables e below _ (((({ U with heap := s₂.heap, slotsUsed := s₂.slotsUsed } : State).setVm s₂.vm).setTop g).pushFrame (.throwing q))
    rw [← hs₂]
    exact hsteps
end Payer
section Calls
variable {p : Program} {l : Launch} {e : Env} {R : Room} {s : State} {m : MethodId} {args : Array Value} {below : List Frame} {meth : Method} {c : Code} {T : State} {locs : List Loc} {cells slots : Nat}
theorem vx_callV (X : Stand p l e R s m args below meth c T locs cells slots) (hexec : p.tables.exec = Jvm.exec) {own C : String} {index : Nat} {y : MethodName} {bytes : ByteArray} {maxL : Nat} {ret : Option FieldType}
    (hown : s.vm.findClass own = some m.cls) (hlink : (Cond.methodLink own index y).before args s = true) (hinst : (Cond.instanceMethod y).before args s = true) (hsel : (Cond.selects C y y).before args s = true)
    (hcode : (Cond.code y bytes maxL ret).before args s = true) (hy : y.cls ≠ "java/lang/invoke/MethodHandle" ∧ y.cls ≠ "java/lang/invoke/VarHandle")
    {W9 : Nat} {Pre : Pt → Array Value → Prop} {Post : Pt → Array Value → Option Value → Pt → Prop} {PostX : Pt → Array Value → Addr → Pt → Prop} (hK : vx_Back l R p e below s args y 3 W9 Pre Post PostX)
    {b : Addr} {cellB : Cell} (hcell : T.heap[b]? = some cellB) (hobj : cellB.vm.isStatics = false) (hcls : s.vm.findClass C = some cellB.cls)
    {g : JFrame} (hg : g.method = m) (hsize : g.locals.size = c.maxLocals) {argsL rest : List Value} (hlen : ∀ sig, parseMethodDescriptor y.desc = some sig → argsL.length = sig.parameters.length)
    (hstack : g.stack = argsL.reverse ++ .ref b :: rest) (hW : 2 * g.monitorRoom + (rest.map fun v => v.category).sum ≤ W9) (hdg : decode c.code g.pc = .ok (.invokevirtual index, 3))
    (hpre : ∀ vm₁, s.WarmedH vm₁ → Pre ⟨T.setVm vm₁, locs, cells, slots⟩ (Value.ref b :: argsL).toArray) :
    (∃ (v : Option Value) (vm₁ : Vm) (B : Pt), s.WarmedH vm₁ ∧ Stand p l e R s m args below meth c B.U B.locs B.cells B.slots ∧ Post ⟨T.setVm vm₁, locs, cells, slots⟩ (Value.ref b :: argsL).toArray v B ∧
      ∀ target, Steps p.tables e below (B.U.setTop { g with pc := g.pc + 3, stack := v.toList ++ rest }) target → Steps p.tables e below (T.setTop g) target) ∨
    (∃ (q : Addr) (vm₁ : Vm) (B : Pt), s.WarmedH vm₁ ∧ Stand p l e R s m args below meth c B.U B.locs B.cells B.slots ∧ PostX ⟨T.setVm vm₁, locs, cells, slots⟩ (Value.ref b :: argsL).toArray q B ∧
      Steps p.tables e below (T.setTop g) ((B.U.setTop { g with stack := rest }).pushFrame (.throwing q))) := by
  obtain ⟨mk, methM, hnamed, hmethM, hstM, habM⟩ := Cond.instanceMethod_spec hinst
  obtain ⟨methM', cM, hmethM', -, -, -, -, -, -, hsigM⟩ := Cond.code_spec hnamed hcode
  cases hmethM.symm.trans hmethM'
  obtain ⟨c2, r2, m2, q1, q2, q3, q4, kP, hkP, hkPi⟩ := Cond.selects_spec hsel
  cases hcls.symm.trans q1
  cases (State.methodFound?_of_named hnamed hy).symm.trans q2
  cases hnamed.symm.trans q3
  have hselP : selectMethod e.platform s.vm cellB.cls mk = .method mk := by rw [Launch.admits_selectMethod X.admits]; exact q4
  obtain ⟨vm₁, X₁, hstep₁⟩ := X.invokevirtual hexec hown hlink hnamed hmethM hstM hkP hkPi hy (a := b) (cell := cellB) hcell
    (fun z h => by rw [h] at hobj; cases hobj) hselP hmethM habM hkP hkPi (g := g) hg (argsL := argsL) (rest := rest) (hlen _ hsigM) hstack hdg
  rcases hK m meth c ⟨T.setVm vm₁, locs, cells, slots⟩ { g with stack := rest } (.invokevirtual index) mk (Value.ref b :: argsL).toArray X₁ hg hsize hdg hW (X₁.named hnamed) (hpre vm₁ X₁.warmed) with ⟨v, B, X', hpost, hsteps⟩ | ⟨q, B, X', hpost, hsteps⟩
  · exact Or.inl ⟨v, vm₁, B, X₁.warmed, X', hpost, fun target h => hstep₁ _ fun acts => by rw [doInvoke_state]; exact hsteps.trans h⟩
  · exact Or.inr ⟨q, vm₁, B, X₁.warmed, X', hpost, hstep₁ _ fun acts => by rw [doInvoke_state]; exact hsteps⟩
theorem vx_callS (X : Stand p l e R s m args below meth c T locs cells slots) (hexec : p.tables.exec = Jvm.exec) {own : String} {index : Nat} {y : MethodName} {bytes : ByteArray} {maxL : Nat} {ret : Option FieldType}
    (hown : s.vm.findClass own = some m.cls) (hlink : (Cond.methodLink own index y).before args s = true) (hstat : (Cond.static y).before args s = true) (hinit : (Cond.initialized y.cls).before args s = true)
    (hcode : (Cond.code y bytes maxL ret).before args s = true) (hy : y.cls ≠ "java/lang/invoke/MethodHandle" ∧ y.cls ≠ "java/lang/invoke/VarHandle")
    {W9 : Nat} {Pre : Pt → Array Value → Prop} {Post : Pt → Array Value → Option Value → Pt → Prop} {PostX : Pt → Array Value → Addr → Pt → Prop} (hK : vx_Back l R p e below s args y 3 W9 Pre Post PostX)
    {g : JFrame} (hg : g.method = m) (hsize : g.locals.size = c.maxLocals) {argsL rest : List Value} (hlen : ∀ sig, parseMethodDescriptor y.desc = some sig → argsL.length = sig.parameters.length)
    (hstack : g.stack = argsL.reverse ++ rest) (hW : 2 * g.monitorRoom + (rest.map fun v => v.category).sum ≤ W9) (hdg : decode c.code g.pc = .ok (.invokestatic index, 3))
    (hpre : ∀ vm₁, s.WarmedH vm₁ → Pre ⟨T.setVm vm₁, locs, cells, slots⟩ argsL.toArray) :
    (∃ (v : Option Value) (vm₁ : Vm) (B : Pt), s.WarmedH vm₁ ∧ Stand p l e R s m args below meth c B.U B.locs B.cells B.slots ∧ Post ⟨T.setVm vm₁, locs, cells, slots⟩ argsL.toArray v B ∧
      ∀ target, Steps p.tables e below (B.U.setTop { g with pc := g.pc + 3, stack := v.toList ++ rest }) target → Steps p.tables e below (T.setTop g) target) ∨
    (∃ (q : Addr) (vm₁ : Vm) (B : Pt), s.WarmedH vm₁ ∧ Stand p l e R s m args below meth c B.U B.locs B.cells B.slots ∧ PostX ⟨T.setVm vm₁, locs, cells, slots⟩ argsL.toArray q B ∧
      Steps p.tables e below (T.setTop g) ((B.U.setTop { g with stack := rest }).pushFrame (.throwing q))) := by
  obtain ⟨mk, hnamed⟩ := Cond.code_named hcode
  obtain ⟨methM, cM, hmethM, -, -, -, -, -, -, hsigM⟩ := Cond.code_spec hnamed hcode
  have hstatic : methM.isStatic = true := Cond.static_spec hnamed hmethM hstat
  obtain ⟨kP, hkP, -⟩ := className_of_methodNamed hnamed
  have hinitP : kP.init = .initialized := Cond.initialized_spec (findClass_of_methodNamed hnamed) hkP hinit
  obtain ⟨vm₁, X₁, hstep₁⟩ := X.invokestatic hexec hown hlink hnamed hmethM hstatic hkP hinitP hy (g := g) hg (argsL := argsL) (rest := rest) (hlen _ hsigM) hstack hdg
  rcases hK m meth c ⟨T.setVm vm₁, locs, cells, slots⟩ { g with stack := rest } (.invokestatic index) mk argsL.toArray X₁ hg hsize hdg hW (X₁.named hnamed) (hpre vm₁ X₁.warmed) with ⟨v, B, X', hpost, hsteps⟩ | ⟨q, B, X', hpost, hsteps⟩
  · exact Or.inl ⟨v, vm₁, B, X₁.warmed, X', hpost, fun target h => hstep₁ _ fun acts => by rw [doInvoke_state]; exact hsteps.trans h⟩
  · exact Or.inr ⟨q, vm₁, B, X₁.warmed, X', hpost, hstep₁ _ fun acts => by rw [doInvoke_state]; exact hsteps⟩
end Calls
theorem vx_cls {s : State} {T : State} {vm₁ : Vm} {E : String} {k : ClassId} (hW : s.WarmedH vm₁) (h : (T.setVm vm₁).vm.findClass E = some k) : s.vm.findClass E = some k := by
  have h1 : vm₁.findClass E = some k := h
  rw [hW.alike.findClass] at h1
  exact h1
/-- the method's frame g, with q thrown over it -/
def vx_W (p : Program) (l : Launch) (e : Env) (R : Room) (s : State) (m : MethodId) (args : Array Value) (below : List Frame) (meth : Method) (c : Code) (H : Heap) (locs : List Loc) (cells slots : Nat) (Q : State → Prop) (g : JFrame) (q : Addr) : Prop :=
  ∀ T : State, T.heap = H → Stand p l e R s m args below meth c T locs cells slots → ∃ t, Steps p.tables e below ((T.setTop g).pushFrame (.throwing q)) t ∧ Q t
def vx_Run (p : Program) (l : Launch) (e : Env) (R : Room) (s : State) (m : MethodId) (args : Array Value) (below : List Frame) (meth : Method) (c : Code) (H : Heap) (locs : List Loc) (cells slots mc ms : Nat) (g : JFrame) (rest : List Value) (Qa : State → Outcome → State → Prop) (XC : String → State → State → Prop) (free : Addr → Prop) : Prop :=
  ∀ T : State, T.heap = H → Stand p l e R s m args below meth c T locs cells slots →
    (∃ (v : Option Value) (st₀ t T' : State) (L : List Loc), st₀.heap = H ∧ Stand p l e R s m args below meth c T' (locs ++ L) (cells + mc) (slots + ms) ∧ (∀ q ∈ L, free q.base) ∧ T'.heap = t.heap ∧ T'.vm = t.vm ∧ Qa st₀ (.returned v) t ∧
      Goes p e below T g T' { g with pc := g.pc + 3, stack := v.toList ++ rest }) ∨
    (∃ (q : Addr) (st₀ t T' : State) (L : List Loc) (E : String) (ce : Cell), st₀.heap = H ∧ Stand p l e R s m args below meth c T' (locs ++ L) (cells + mc) (slots + ms) ∧ (∀ z ∈ L, free z.base) ∧ T'.heap = t.heap ∧ T'.vm = t.vm ∧ XC E st₀ t ∧ t.heap[q]? = some ce ∧ ce.vm = .none ∧ s.vm.findClass E = some ce.cls ∧
      Steps p.tables e below (T.setTop g) ((T'.setTop { g with stack := rest }).pushFrame (.throwing q)))
def vx_X {S : Type} (px : S → Prop) (B : String → S → State → Prop) (A : Nat → Prop) : String → State → State → Prop := fun E st t => ∃ u : S, px u ∧ B E u t ∧ va_F A st t
section Runs
variable {p : Program} {l : Launch} {e : Env} {R : Room} {s : State} {m : MethodId} {args : Array Value} {below : List Frame} {meth : Method} {c : Code} {H : Heap} {locs : List Loc} {cells slots : Nat}
variable {y : MethodName} {bytes cc : ByteArray} {maxL nL mc ms n index : Nat} {ret : Option FieldType} {ws : List Cond} {rm : Room} {Pc : Array Value → State → Prop} {Qc : Array Value → State → Outcome → State → Prop} {XC : String → State → State → Prop} {free : Addr → Prop} {Ts : List Cond} {own C : String} {b : Addr} {As rest : List Value} {g : JFrame}
theorem vx_callBack (cb : CallB R s args own index y bytes maxL ret ws rm mc ms n) (hM : vx_Met l y ws rm Pc Qc XC mc ms free) (hbl : FrameBlind Pc) : vx_Back l R p e below s args y 3 8 (PreOf R mc ms Pc) (PostOf Qc mc ms free) (vx_Post XC mc ms free) := by
  obtain ⟨hrc, hrs, hfr, hlo, hws, hcw, -, hini, -⟩ := cb
  exact vx_back (bytes := bytes) (maxL := maxL) (ret := ret) hM hbl hrc hrs hfr hlo hws hcw (fun a' U hW => word_at hW (Or.inl (by first | rfl | simp [Cond.onTables, Cond.keeps, Cond.steady])) hini)
theorem vx_runV (S : CallFix p m c cc nL s args Ts own) (hM : vx_Met l y ws rm Pc Qc XC mc ms free) (cw : CallW R s args own C index y bytes maxL ret ws rm mc ms n) (hp : PreV s H C b Pc As)
    (hg : g.method = m) (hn : As.length = n) (hsize : g.locals.size = nL) (hstack : g.stack = As.reverse ++ .ref b :: rest) (hW : 2 * g.monitorRoom + (rest.map fun v => v.category).sum ≤ 8) (hdg : decode cc g.pc = .ok (.invokevirtual index, 3)) (hf : cells + mc ≤ R.cells ∧ slots + ms ≤ R.slots) :
    vx_Run p l e R s m args below meth c H locs cells slots mc ms g rest (Qc (Value.ref b :: As).toArray) XC free := by
  have hK : vx_Back l R p e below s args y 3 8 (PreOf R mc ms Pc) (PostOf Qc mc ms free) (vx_Post XC mc ms free) := vx_callBack cw.1 hM hp.1
  obtain ⟨⟨-, -, -, -, -, -, hcode, -, hy, hlen, hl⟩, hin, hse⟩ := cw
  obtain ⟨hx, hb, hml, ho, -⟩ := S
  obtain ⟨-, ⟨cellB, hcB, hoB, hclB⟩, hPc⟩ := hp
  intro T hT X
  rcases vx_callV X hx (C := C) (bytes := bytes) (maxL := maxL) (ret := ret) ho hl hin hse hcode hy hK (by rw [hT]; exact hcB) hoB hclB hg (hsize.trans hml.symm) (argsL := As) (rest := rest) (fun sig h => hn.trans (hlen sig h)) hstack hW (by rw [hb]; exact hdg)
    (fun vm₁ hW₁ => ⟨hf.1, hf.2, hPc (T.setVm vm₁) hT hW₁⟩) with ⟨v, vm₁, ⟨U', l2, c2, s2⟩, hW₁, X', ⟨g', mk, t, L, e1, e2, hq, h1, hL, h2, h3⟩, st⟩ | ⟨q, vm₁, ⟨U', l2, c2, s2⟩, hW₁, X', ⟨g', mk, t, L, E, ce, e1, e2, hq, hce, hcv, hcl, h1, hL, h2, h3⟩, st⟩
  · dsimp only [Pt.U, Pt.locs, Pt.cells, Pt.slots] at X' e1 e2 h1 h2 h3 st
    subst h1; subst h2; subst h3
    exact Or.inl ⟨v, (T.setVm vm₁).calling g' mk (Value.ref b :: As).toArray, t, U', L, hT, X', hL, e1, e2, hq, st⟩
  · dsimp only [Pt.U, Pt.locs, Pt.cells, Pt.slots] at X' e1 e2 h1 h2 h3 st hcl
    subst h1; subst h2; subst h3
    exact Or.inr ⟨q, (T.setVm vm₁).calling g' mk (Value.ref b :: As).toArray, t, U', L, E, ce, hT, X', hL, e1, e2, hq, hce, hcv, vx_cls hW₁ hcl, st⟩
theorem vx_runS (S : CallFix p m c cc nL s args Ts own) (hM : vx_Met l y ws rm Pc Qc XC mc ms free) (cw : CallB R s args own index y bytes maxL ret ws rm mc ms n ∧ (Cond.static y).before args s = true) (hp : PreS s H Pc As)
    (hg : g.method = m) (hn : As.length = n) (hsize : g.locals.size = nL) (hstack : g.stack = As.reverse ++ rest) (hW : 2 * g.monitorRoom + (rest.map fun v => v.category).sum ≤ 8) (hdg : decode cc g.pc = .ok (.invokestatic index, 3)) (hf : cells + mc ≤ R.cells ∧ slots + ms ≤ R.slots) :
    vx_Run p l e R s m args below meth c H locs cells slots mc ms g rest (Qc As.toArray) XC free := by
  have hK : vx_Back l R p e below s args y 3 8 (PreOf R mc ms Pc) (PostOf Qc mc ms free) (vx_Post XC mc ms free) := vx_callBack cw.1 hM hp.1
  obtain ⟨⟨-, -, -, -, -, -, hcode, hini, hy, hlen, hl⟩, hstt⟩ := cw
  obtain ⟨hx, hb, hml, ho, -⟩ := S
  intro T hT X
  rcases vx_callS X hx (bytes := bytes) (maxL := maxL) (ret := ret) ho hl hstt hini hcode hy hK hg (hsize.trans hml.symm) (argsL := As) (rest := rest) (fun sig h => hn.trans (hlen sig h)) hstack hW (by rw [hb]; exact hdg)
    (fun vm₁ hW₁ => ⟨hf.1, hf.2, hp.2 (T.setVm vm₁) hT hW₁⟩) with ⟨v, vm₁, ⟨U', l2, c2, s2⟩, hW₁, X', ⟨g', mk, t, L, e1, e2, hq, h1, hL, h2, h3⟩, st⟩ | ⟨q, vm₁, ⟨U', l2, c2, s2⟩, hW₁, X', ⟨g', mk, t, L, E, ce, e1, e2, hq, hce, hcv, hcl, h1, hL, h2, h3⟩, st⟩
  · dsimp only [Pt.U, Pt.locs, Pt.cells, Pt.slots] at X' e1 e2 h1 h2 h3 st
    subst h1; subst h2; subst h3
    exact Or.inl ⟨v, (T.setVm vm₁).calling g' mk As.toArray, t, U', L, hT, X', hL, e1, e2, hq, st⟩
  · dsimp only [Pt.U, Pt.locs, Pt.cells, Pt.slots] at X' e1 e2 h1 h2 h3 st hcl
    subst h1; subst h2; subst h3
    exact Or.inr ⟨q, (T.setVm vm₁).calling g' mk As.toArray, t, U', L, E, ce, hT, X', hL, e1, e2, hq, hce, hcv, vx_cls hW₁ hcl, st⟩
end Runs
section Rows
variable {p : Program} {l : Launch} {e : Env} {R : Room} {s : State} {m : MethodId} {args : Array Value} {below : List Frame} {meth : Method} {c : Code} {H : Heap} {locs : List Loc} {cells slots : Nat} {Q : State → Prop}
variable {mc ms : Nat} {free : Addr → Prop} {A0 A1 : Nat → Prop} {H0 : Heap} {a : Array Value} {pc : Nat} {ls : Array Slot} {st0 rest : List Value}
theorem vx_keep {st₀ t T' : State} {L : List Loc} (h0 : st₀.heap = H) (e1 : T'.heap = t.heap) (hS : va_S A0 H0 H locs) (hA : ∀ q, q < H.size → A1 q → A0 q) (hf : ∀ q, free q → A0 q) (hL : ∀ q ∈ L, free q.base) (hF : va_F A1 st₀ t) :
    H.size ≤ T'.heap.size ∧ (∀ q : Nat, q < H.size → ¬ A1 q → T'.heap[q]? = H[q]?) ∧ va_S A0 H0 T'.heap (locs ++ L) := by
  obtain ⟨hz, hk⟩ := hF
  rw [h0] at hz hk
  exact ⟨by rw [e1]; exact hz, fun q h1 h2 => by rw [e1]; exact hk q h1 h2,
    ⟨Nat.le_trans hS.1 (by rw [e1]; exact hz), fun q h1 h2 => by rw [e1, hk q (Nat.lt_of_lt_of_le h1 hS.1) (fun z => h2 (hA q (Nat.lt_of_lt_of_le h1 hS.1) z))]; exact hS.2.1 q h1 h2, fun q hq => by
      rcases List.mem_append.mp hq with h | h
      · exact hS.2.2 q h
      · exact hf _ (hL q h)⟩⟩
theorem vx_calli {S SX : Type} {post : Int32 → S → Prop} {px : SX → Prop} {B : S → State → Prop} {BX : String → SX → State → Prop} {AX : Nat → Prop} (hr : vx_Run p l e R s m args below meth c H locs cells slots mc ms (F0 m pc ls st0) rest (va_Qi post B A1 a) (vx_X px BX AX) free) (hS : va_S A0 H0 H locs) (hA : ∀ q, q < H.size → A1 q → A0 q) (hf : ∀ q, free q → A0 q) (hAX : ∀ q, q < H.size → AX q → A0 q)
    (kx : ∀ (E : String) (ce : Cell) (q9 : Addr) (u : SX) (t : State) (H1 : Heap) (locs1 : List Loc), t.heap = H1 → s.vm.Alike t.vm → px u → BX E u t → H.size ≤ H1.size → (∀ q : Nat, q < H.size → ¬ AX q → H1[q]? = H[q]?) → va_S A0 H0 H1 locs1 → H1[q9]? = some ce → ce.vm = .none → s.vm.findClass E = some ce.cls → vx_W p l e R s m args below meth c H1 locs1 (cells + mc) (slots + ms) Q (F0 m pc ls rest) q9)
    (kk : ∀ (r : Int32) (u : S) (t : State) (H1 : Heap) (locs1 : List Loc), t.heap = H1 → s.vm.Alike t.vm → post r u → B u t → H.size ≤ H1.size → (∀ q : Nat, q < H.size → ¬ A1 q → H1[q]? = H[q]?) → va_S A0 H0 H1 locs1 → W p l e R s m args below meth c H1 locs1 (cells + mc) (slots + ms) Q (F0 m (pc + 3) ls (.int r :: rest))) : W p l e R s m args below meth c H locs cells slots Q (F0 m pc ls st0) := by
  intro T hT X
  rcases hr T hT X with ⟨v, st₀, t, T', L, h0, X', hL, e1, e2, ⟨⟨r, u, hv, hp, hb⟩, hF⟩, st⟩ | ⟨q, st₀, t, T', L, E, ce, h0, X', hL, e1, e2, ⟨u, hp, hb, hF⟩, hce, hcv, hcl, st⟩
  · cases hv
    obtain ⟨k1, k2, k3⟩ := vx_keep h0 e1 hS hA hf hL hF
    obtain ⟨t2, a1, b1⟩ := kk r u t T'.heap (locs ++ L) e1.symm (by rw [← e2]; exact X'.warmed.alike) hp hb k1 k2 k3 T' rfl X'
    exact ⟨t2, st t2 a1, b1⟩
  · obtain ⟨k1, k2, k3⟩ := vx_keep h0 e1 hS hAX hf hL hF
    obtain ⟨t2, a1, b1⟩ := kx E ce q u t T'.heap (locs ++ L) e1.symm (by rw [← e2]; exact X'.warmed.alike) hp hb k1 k2 k3 (by rw [e1]; exact hce) hcv hcl T' rfl X'
    exact ⟨t2, st.trans a1, b1⟩
theorem vx_calll {S SX : Type} {post : Int64 → S → Prop} {px : SX → Prop} {B : S → State → Prop} {BX : String → SX → State → Prop} {AX : Nat → Prop} (hr : vx_Run p l e R s m args below meth c H locs cells slots mc ms (F0 m pc ls st0) rest (va_Ql post B A1 a) (vx_X px BX AX) free) (hS : va_S A0 H0 H locs) (hA : ∀ q, q < H.size → A1 q → A0 q) (hf : ∀ q, free q → A0 q) (hAX : ∀ q, q < H.size → AX q → A0 q)
    (kx : ∀ (E : String) (ce : Cell) (q9 : Addr) (u : SX) (t : State) (H1 : Heap) (locs1 : List Loc), t.heap = H1 → s.vm.Alike t.vm → px u → BX E u t → H.size ≤ H1.size → (∀ q : Nat, q < H.size → ¬ AX q → H1[q]? = H[q]?) → va_S A0 H0 H1 locs1 → H1[q9]? = some ce → ce.vm = .none → s.vm.findClass E = some ce.cls → vx_W p l e R s m args below meth c H1 locs1 (cells + mc) (slots + ms) Q (F0 m pc ls rest) q9)
    (kk : ∀ (r : Int64) (u : S) (t : State) (H1 : Heap) (locs1 : List Loc), t.heap = H1 → s.vm.Alike t.vm → post r u → B u t → H.size ≤ H1.size → (∀ q : Nat, q < H.size → ¬ A1 q → H1[q]? = H[q]?) → va_S A0 H0 H1 locs1 → W p l e R s m args below meth c H1 locs1 (cells + mc) (slots + ms) Q (F0 m (pc + 3) ls (.long r :: rest))) : W p l e R s m args below meth c H locs cells slots Q (F0 m pc ls st0) := by
  intro T hT X
  rcases hr T hT X with ⟨v, st₀, t, T', L, h0, X', hL, e1, e2, ⟨⟨r, u, hv, hp, hb⟩, hF⟩, st⟩ | ⟨q, st₀, t, T', L, E, ce, h0, X', hL, e1, e2, ⟨u, hp, hb, hF⟩, hce, hcv, hcl, st⟩
  · cases hv
    obtain ⟨k1, k2, k3⟩ := vx_keep h0 e1 hS hA hf hL hF
    obtain ⟨t2, a1, b1⟩ := kk r u t T'.heap (locs ++ L) e1.symm (by rw [← e2]; exact X'.warmed.alike) hp hb k1 k2 k3 T' rfl X'
    exact ⟨t2, st t2 a1, b1⟩
  · obtain ⟨k1, k2, k3⟩ := vx_keep h0 e1 hS hAX hf hL hF
    obtain ⟨t2, a1, b1⟩ := kx E ce q u t T'.heap (locs ++ L) e1.symm (by rw [← e2]; exact X'.warmed.alike) hp hb k1 k2 k3 (by rw [e1]; exact hce) hcv hcl T' rfl X'
    exact ⟨t2, st.trans a1, b1⟩
theorem vx_callf {S SX : Type} {post : UInt32 → S → Prop} {px : SX → Prop} {B : S → State → Prop} {BX : String → SX → State → Prop} {AX : Nat → Prop} (hr : vx_Run p l e R s m args below meth c H locs cells slots mc ms (F0 m pc ls st0) rest (va_Qf post B A1 a) (vx_X px BX AX) free) (hS : va_S A0 H0 H locs) (hA : ∀ q, q < H.size → A1 q → A0 q) (hf : ∀ q, free q → A0 q) (hAX : ∀ q, q < H.size → AX q → A0 q)
    (kx : ∀ (E : String) (ce : Cell) (q9 : Addr) (u : SX) (t : State) (H1 : Heap) (locs1 : List Loc), t.heap = H1 → s.vm.Alike t.vm → px u → BX E u t → H.size ≤ H1.size → (∀ q : Nat, q < H.size → ¬ AX q → H1[q]? = H[q]?) → va_S A0 H0 H1 locs1 → H1[q9]? = some ce → ce.vm = .none → s.vm.findClass E = some ce.cls → vx_W p l e R s m args below meth c H1 locs1 (cells + mc) (slots + ms) Q (F0 m pc ls rest) q9)
    (kk : ∀ (r : UInt32) (u : S) (t : State) (H1 : Heap) (locs1 : List Loc), t.heap = H1 → s.vm.Alike t.vm → post r u → B u t → H.size ≤ H1.size → (∀ q : Nat, q < H.size → ¬ A1 q → H1[q]? = H[q]?) → va_S A0 H0 H1 locs1 → W p l e R s m args below meth c H1 locs1 (cells + mc) (slots + ms) Q (F0 m (pc + 3) ls (.float r :: rest))) : W p l e R s m args below meth c H locs cells slots Q (F0 m pc ls st0) := by
  intro T hT X
  rcases hr T hT X with ⟨v, st₀, t, T', L, h0, X', hL, e1, e2, ⟨⟨r, u, hv, hp, hb⟩, hF⟩, st⟩ | ⟨q, st₀, t, T', L, E, ce, h0, X', hL, e1, e2, ⟨u, hp, hb, hF⟩, hce, hcv, hcl, st⟩
  · cases hv
    obtain ⟨k1, k2, k3⟩ := vx_keep h0 e1 hS hA hf hL hF
    obtain ⟨t2, a1, b1⟩ := kk r u t T'.heap (locs ++ L) e1.symm (by rw [← e2]; exact X'.warmed.alike) hp hb k1 k2 k3 T' rfl X'
    exact ⟨t2, st t2 a1, b1⟩
  · obtain ⟨k1, k2, k3⟩ := vx_keep h0 e1 hS hAX hf hL hF
    obtain ⟨t2, a1, b1⟩ := kx E ce q u t T'.heap (locs ++ L) e1.symm (by rw [← e2]; exact X'.warmed.alike) hp hb k1 k2 k3 (by rw [e1]; exact hce) hcv hcl T' rfl X'
    exact ⟨t2, st.trans a1, b1⟩
theorem vx_calld {S SX : Type} {post : UInt64 → S → Prop} {px : SX → Prop} {B : S → State → Prop} {BX : String → SX → State → Prop} {AX : Nat → Prop} (hr : vx_Run p l e R s m args below meth c H locs cells slots mc ms (F0 m pc ls st0) rest (va_Qd post B A1 a) (vx_X px BX AX) free) (hS : va_S A0 H0 H locs) (hA : ∀ q, q < H.size → A1 q → A0 q) (hf : ∀ q, free q → A0 q) (hAX : ∀ q, q < H.size → AX q → A0 q)
    (kx : ∀ (E : String) (ce : Cell) (q9 : Addr) (u : SX) (t : State) (H1 : Heap) (locs1 : List Loc), t.heap = H1 → s.vm.Alike t.vm → px u → BX E u t → H.size ≤ H1.size → (∀ q : Nat, q < H.size → ¬ AX q → H1[q]? = H[q]?) → va_S A0 H0 H1 locs1 → H1[q9]? = some ce → ce.vm = .none → s.vm.findClass E = some ce.cls → vx_W p l e R s m args below meth c H1 locs1 (cells + mc) (slots + ms) Q (F0 m pc ls rest) q9)
    (kk : ∀ (r : UInt64) (u : S) (t : State) (H1 : Heap) (locs1 : List Loc), t.heap = H1 → s.vm.Alike t.vm → post r u → B u t → H.size ≤ H1.size → (∀ q : Nat, q < H.size → ¬ A1 q → H1[q]? = H[q]?) → va_S A0 H0 H1 locs1 → W p l e R s m args below meth c H1 locs1 (cells + mc) (slots + ms) Q (F0 m (pc + 3) ls (.double r :: rest))) : W p l e R s m args below meth c H locs cells slots Q (F0 m pc ls st0) := by
  intro T hT X
  rcases hr T hT X with ⟨v, st₀, t, T', L, h0, X', hL, e1, e2, ⟨⟨r, u, hv, hp, hb⟩, hF⟩, st⟩ | ⟨q, st₀, t, T', L, E, ce, h0, X', hL, e1, e2, ⟨u, hp, hb, hF⟩, hce, hcv, hcl, st⟩
  · cases hv
    obtain ⟨k1, k2, k3⟩ := vx_keep h0 e1 hS hA hf hL hF
    obtain ⟨t2, a1, b1⟩ := kk r u t T'.heap (locs ++ L) e1.symm (by rw [← e2]; exact X'.warmed.alike) hp hb k1 k2 k3 T' rfl X'
    exact ⟨t2, st t2 a1, b1⟩
  · obtain ⟨k1, k2, k3⟩ := vx_keep h0 e1 hS hAX hf hL hF
    obtain ⟨t2, a1, b1⟩ := kx E ce q u t T'.heap (locs ++ L) e1.symm (by rw [← e2]; exact X'.warmed.alike) hp hb k1 k2 k3 (by rw [e1]; exact hce) hcv hcl T' rfl X'
    exact ⟨t2, st.trans a1, b1⟩
theorem vx_callv {S SX : Type} {post : S → Prop} {px : SX → Prop} {B : S → State → Prop} {BX : String → SX → State → Prop} {AX : Nat → Prop} (hr : vx_Run p l e R s m args below meth c H locs cells slots mc ms (F0 m pc ls st0) rest (va_Qv post B A1 a) (vx_X px BX AX) free) (hS : va_S A0 H0 H locs) (hA : ∀ q, q < H.size → A1 q → A0 q) (hf : ∀ q, free q → A0 q) (hAX : ∀ q, q < H.size → AX q → A0 q)
    (kx : ∀ (E : String) (ce : Cell) (q9 : Addr) (u : SX) (t : State) (H1 : Heap) (locs1 : List Loc), t.heap = H1 → s.vm.Alike t.vm → px u → BX E u t → H.size ≤ H1.size → (∀ q : Nat, q < H.size → ¬ AX q → H1[q]? = H[q]?) → va_S A0 H0 H1 locs1 → H1[q9]? = some ce → ce.vm = .none → s.vm.findClass E = some ce.cls → vx_W p l e R s m args below meth c H1 locs1 (cells + mc) (slots + ms) Q (F0 m pc ls rest) q9)
    (kk : ∀ (u : S) (t : State) (H1 : Heap) (locs1 : List Loc), t.heap = H1 → s.vm.Alike t.vm → post u → B u t → H.size ≤ H1.size → (∀ q : Nat, q < H.size → ¬ A1 q → H1[q]? = H[q]?) → va_S A0 H0 H1 locs1 → W p l e R s m args below meth c H1 locs1 (cells + mc) (slots + ms) Q (F0 m (pc + 3) ls (rest))) : W p l e R s m args below meth c H locs cells slots Q (F0 m pc ls st0) := by
  intro T hT X
  rcases hr T hT X with ⟨v, st₀, t, T', L, h0, X', hL, e1, e2, ⟨⟨u, hv, hp, hb⟩, hF⟩, st⟩ | ⟨q, st₀, t, T', L, E, ce, h0, X', hL, e1, e2, ⟨u, hp, hb, hF⟩, hce, hcv, hcl, st⟩
  · cases hv
    obtain ⟨k1, k2, k3⟩ := vx_keep h0 e1 hS hA hf hL hF
    obtain ⟨t2, a1, b1⟩ := kk u t T'.heap (locs ++ L) e1.symm (by rw [← e2]; exact X'.warmed.alike) hp hb k1 k2 k3 T' rfl X'
    exact ⟨t2, st t2 a1, b1⟩
  · obtain ⟨k1, k2, k3⟩ := vx_keep h0 e1 hS hAX hf hL hF
    obtain ⟨t2, a1, b1⟩ := kx E ce q u t T'.heap (locs ++ L) e1.symm (by rw [← e2]; exact X'.warmed.alike) hp hb k1 k2 k3 (by rw [e1]; exact hce) hcv hcl T' rfl X'
    exact ⟨t2, st.trans a1, b1⟩
/-- caught by the row x of this method's table; the rows ahead don't take it -/
theorem vx_catch {own name : String} {E : String} {ce : Cell} {q : Addr} (hown : s.vm.findClass own = some m.cls) (pre : List ExceptionTableEntry) (x : ExceptionTableEntry) (suf : List ExceptionTableEntry) (hsplit : c.exceptionTable.toList = pre ++ x :: suf)
    (hpass : ∀ z ∈ pre, covers z pc = false ∨ (z.catchType ≠ 0 ∧ ∃ nm : String, (Cond.classLink own z.catchType nm).before args s = true ∧ va_Nc E nm s)) (hx : covers x pc = true) (h0 : x.catchType ≠ 0)
    (hlink : (Cond.classLink own x.catchType name).before args s = true) (hcast : (Cond.castable E name).before args s = true) (hcell : H[q]? = some ce) (hv : ce.vm = .none) (hcl : s.vm.findClass E = some ce.cls)
    (kk : W p l e R s m args below meth c H locs cells slots Q (F0 m x.handlerPc ls [.ref q])) : vx_W p l e R s m args below meth c H locs cells slots Q (F0 m pc ls rest) q := by
  intro T hT X
  have hpl : e.platform.magicAccessors = ({} : Platform).magicAccessors := by rw [X.admits.platform]
  obtain ⟨c3, c4, hc3, hc4, hasg⟩ := Cond.castable_spec hcast
  cases Option.some.inj (hc3.symm.trans hcl)
  obtain ⟨c5, hc5, hcl5⟩ := Cond.classLink_spec hown hlink e.platform hpl
  cases Option.some.inj (hc4.symm.trans hc5)
  obtain ⟨vm', X', st⟩ := X.thenCaughtThrough q (g := F0 m pc ls rest) rfl (Steps.refl _) (by rw [hT]; exact hcell) (by rw [hv]; rfl) (by obtain ⟨k9, h9, -⟩ := Vm.findClass_spec hcl; exact ⟨k9, h9⟩) pre x suf hsplit
    (fun z hz => by
      rcases hpass z hz with h | ⟨hz0, nm, hl1, hn1⟩
      · exact Or.inl h
      · obtain ⟨c6, hc6, hcl6⟩ := Cond.classLink_spec hown hl1 e.platform hpl
        obtain ⟨a8, b8, h1, h2, h3⟩ := hn1
        cases Option.some.inj (h1.symm.trans hcl)
        cases Option.some.inj (h2.symm.trans hc6)
        exact Or.inr ⟨hz0, _, hcl6, h3⟩) hx (Or.inr ⟨h0, c4, hcl5, hasg⟩)
  obtain ⟨t, a1, b1⟩ := kk (T.setVm vm') hT X'
  exact ⟨t, st.trans a1, b1⟩
end Rows
section Ends
variable {p : Program} {l : Launch} {e : Env} {R : Room} {s : State} {m : MethodId} {args : Array Value} {below : List Frame} {meth : Method} {c : Code} {H : Heap} {locs : List Loc} {cells slots : Nat} {Q : State → Prop}
variable {mc ms : Nat} {free : Addr → Prop} {A0 A1 : Nat → Prop} {H0 : Heap} {a : Array Value} {ls : Array Slot} {st0 rest : List Value}
variable {Qc : Array Value → State → Outcome → State → Prop} {XC : String → State → State → Prop}
/-- what a body that may throw owes at its end -/
def vx_MQ (below : List Frame) (Qc : Array Value → State → Outcome → State → Prop) (XC : String → State → State → Prop) (a : Array Value) (s : State) (mc ms : Nat) (free : Addr → Prop) : State → Prop := fun t =>
  ∃ o, t.status = .running ∧ Ended t below o ∧ vx_Q Qc XC mc ms free a s o t
theorem vx_ret {g : JFrame} {mc ms : Nat} (k : W p l e R s m args below meth c H locs cells slots (MQ below Qc args s mc ms free) g) : W p l e R s m args below meth c H locs cells slots (vx_MQ below Qc XC args s mc ms free) g := by
  intro T hT X
  obtain ⟨t, a1, o, b1, b2, b3, b4⟩ := k T hT X
  exact ⟨t, a1, o, b1, b2, Or.inl ⟨b3, b4⟩⟩
/-- not caught here: it goes on to the caller -/
theorem vx_widen {g : JFrame} {q : Addr} {k n : Nat} (h1 : cells ≤ k) (h2 : slots ≤ n) (kk : vx_W p l e R s m args below meth c H locs k n Q g q) : vx_W p l e R s m args below meth c H locs cells slots Q g q := fun T hT X => kk T hT (stand_widen X h1 h2)
theorem vx_out {pc : Nat} {E : String} {ce : Cell} {q : Addr} {mc ms : Nat} (hout : ∀ x ∈ c.exceptionTable.toList, covers x pc = false) (hlocks : meth.locks = false) (hcell : H[q]? = some ce) (hv : ce.vm = .none) (hcl : s.vm.findClass E = some ce.cls)
    (hx : ∀ t : State, t.heap = H → s.vm.Alike t.vm → XC E s t) (hf : ∀ z ∈ locs, free z.base) (hc : cells ≤ mc) (hs : slots ≤ ms) :
    vx_W p l e R s m args below meth c H locs cells slots (vx_MQ below Qc XC args s mc ms free) (F0 m pc ls rest) q := by
  intro T hT X
  obtain ⟨st1, hrun, hend, hW, hsm⟩ := X.leaveThrown q (g := F0 m pc ls rest) rfl rfl rfl hout hlocks
  have hcell9 : (T.setFrames (.throwing q :: below)).heap[q]? = some ce := by
    show T.heap[q]? = some ce
    rw [hT]; exact hcell
  exact ⟨_, st1, .threw q, hrun, hend, Or.inr ⟨q, rfl, E, ce, locs, hx _ hT hW.alike, hcell9, hv, hcl, hW, hsm.mono hc hs, hf⟩⟩
theorem vx_frame {U : State} {k n : Nat} (h : s.sameButNew ({ U with vm := s.vm } : State) locs k n) : s.heap.size ≤ U.heap.size ∧ ∀ q : Nat, q < s.heap.size → (∀ z ∈ locs, z.base ≠ q) → U.heap[q]? = s.heap[q]? := by
  obtain ⟨-, h2, -, -, -, h6⟩ := h
  refine ⟨h2, fun q hq hz => ?_⟩
  obtain ⟨c9, e1, e2, e3, e4⟩ := h6 q _ (Array.getElem?_eq_getElem hq)
  have hs : c9.slots = (s.heap[q]).slots := Array.ext_getElem? fun i => e4 i fun hm => hz _ hm rfl
  have h9 : c9 = s.heap[q] := by
    rw [hs] at e2
    exact e2
  have e5 : U.heap[q]? = some c9 := e1
  rw [e5, h9, Array.getElem?_eq_getElem hq]
/-- the words of a throw but the four that speak of the heap -/
def vx_no (w : Cond) : Bool := decide (w ≠ .isRef (.static Bundle.tN "UNASSIGNED_STACK" Bundle.steD)) && decide (w ≠ .isRef (.static Bundle.tN "SUPPRESSED_SENTINEL" Bundle.listD)) && decide (w ≠ .laysStatic Bundle.tN "UNASSIGNED_STACK" Bundle.steD) && decide (w ≠ .laysStatic Bundle.tN "SUPPRESSED_SENTINEL" Bundle.listD)
def vx_at0 (own : String) (ic : Nat) (X : String) (names : List String) : List Cond := (Bundle.ownAtoms0 own ic X names).filter vx_no
def vx_atS (own : String) (ic : Nat) (X : String) (names : List String) : List Cond := (Bundle.ownAtoms own ic X names).filter vx_no
/-- a word that the tables alone decide, or a good one -/
def vx_ot (w : Cond) : Bool := w.onTables || goodWord w
theorem vx_ot_at {args a' : Array Value} {s U : State} {w : Cond} (hW : s.WarmedH U.vm) (hvm : s.vm = U.vm) (hg : vx_ot w = true) (h : w.before args s = true) : w.before a' U = true := by
  simp only [vx_ot, Bool.or_eq_true] at hg
  rcases hg with hg | hg
  · exact va_tabs hg hvm h
  · exact word_at hW (good_of_word hg) h
/-- a list's words: the good ones out of the method's own list, the others by premises of their own -/
theorem vx_hat {args : Array Value} {s : State} {L B : List Cond} (h1 : ∀ w ∈ L.filter goodWord, w.before args s = true) (h2 : ∀ w ∈ L.filter (fun w => !goodWord w), w ∈ B) (h3 : ∀ w ∈ B, w.before args s = true) : ∀ w ∈ L, w.before args s = true := by
  intro w hw
  by_cases g : goodWord w = true
  · exact h1 w (List.mem_filter.mpr ⟨hw, g⟩)
  · refine h3 w (h2 w (List.mem_filter.mpr ⟨hw, ?_⟩))
    show (!goodWord w) = true
    cases hgw : goodWord w
    · rfl
    · exact absurd hgw g
theorem vx_c {args : Array Value} {s : State} {w : Cond} {B : List Cond} (h : w.before args s = true) (t : ∀ w ∈ B, w.before args s = true) : ∀ w' ∈ w :: B, w'.before args s = true := fun w' h' => (List.mem_cons.mp h').elim (fun e => by rw [e]; exact h) (t w')
theorem vx_n {args : Array Value} {s : State} : ∀ w ∈ ([] : List Cond), w.before args s = true := fun _ h => nomatch h
theorem vx_own {args : Array Value} {s : State} {L : List Cond} (h1 : ∀ w ∈ L.filter vx_no, w.before args s = true)
    (hU : (Cond.isRef (.static Bundle.tN "UNASSIGNED_STACK" Bundle.steD)).before args s = true) (hN : (Cond.isRef (.static Bundle.tN "SUPPRESSED_SENTINEL" Bundle.listD)).before args s = true)
    (lU : (Cond.laysStatic Bundle.tN "UNASSIGNED_STACK" Bundle.steD).before args s = true) (lN : (Cond.laysStatic Bundle.tN "SUPPRESSED_SENTINEL" Bundle.listD).before args s = true) : ∀ w ∈ L, w.before args s = true := by
  intro w hw
  by_cases e1 : w = .isRef (.static Bundle.tN "UNASSIGNED_STACK" Bundle.steD)
  · rw [e1]; exact hU
  · by_cases e2 : w = .isRef (.static Bundle.tN "SUPPRESSED_SENTINEL" Bundle.listD)
    · rw [e2]; exact hN
    · by_cases e3 : w = .laysStatic Bundle.tN "UNASSIGNED_STACK" Bundle.steD
      · rw [e3]; exact lU
      · by_cases e4 : w = .laysStatic Bundle.tN "SUPPRESSED_SENTINEL" Bundle.listD
        · rw [e4]; exact lN
        · exact h1 w (List.mem_filter.mpr ⟨hw, by unfold vx_no; rw [decide_eq_true e1, decide_eq_true e2, decide_eq_true e3, decide_eq_true e4]; rfl⟩)
/-- where a static field lies, its class's statics cell in H -/
def vx_L (C n d : String) (A : Nat → Prop) (U : State) (H : Heap) : Prop := ∃ (c : ClassId) (k : Class) (i : Nat) (f : Field) (a : Nat) (cell : Cell), U.vm.findClass C = some c ∧ U.fieldFound? C n d = some (c, k, i, f) ∧ f.isStatic = true ∧ k.statics = some a ∧ H[a]? = some cell ∧ cell.vm.isStatics = true ∧ cell.cls = c ∧ f.slot < cell.slots.size ∧ k.staticTypes[f.slot]? = some f.type ∧ ¬ A a
theorem vx_L.moved {C n d : String} {A : Nat → Prop} {u U : State} {H : Heap} (hvm : u.vm.Alike U.vm) (h : vx_L C n d A u H) : vx_L C n d A U H := by
  obtain ⟨c, k, i, f, a, cell, h1, h2, h3, h4, h5, h6, h7, h8, h9, h10⟩ := h
  obtain ⟨k', hi', he⟩ := State.fieldFound?_setVm hvm h2
  exact ⟨c, k', i, f, a, cell, by rw [hvm.findClass]; exact h1, hi', h3, by rw [he]; exact h4, h5, h6, h7, h8, by rw [he]; exact h9, h10⟩
theorem vx_L.kept {C n d : String} {A : Nat → Prop} {U : State} {H H1 : Heap} (h : vx_L C n d A U H) (hq : ∀ a : Nat, a < H.size → ¬ A a → H1[a]? = H[a]?) : vx_L C n d A U H1 := by
  obtain ⟨c, k, i, f, a, cell, h1, h2, h3, h4, h5, h6, h7, h8, h9, h10⟩ := h
  exact ⟨c, k, i, f, a, cell, h1, h2, h3, h4, by rw [hq a (Array.getElem?_eq_some_iff.mp h5).1 h10]; exact h5, h6, h7, h8, h9, h10⟩
theorem vx_L.narrow {C n d : String} {A B : Nat → Prop} {U : State} {H : Heap} (h : vx_L C n d A U H) (hAB : ∀ q, B q → A q) : vx_L C n d B U H := by
  obtain ⟨c, k, i, f, a, cell, h1, h2, h3, h4, h5, h6, h7, h8, h9, h10⟩ := h
  exact ⟨c, k, i, f, a, cell, h1, h2, h3, h4, h5, h6, h7, h8, h9, fun z => h10 (hAB _ z)⟩
theorem vx_L.word {C n d : String} {A : Nat → Prop} {s : State} {args : Array Value} (h : vx_L C n d A s s.heap) : (Cond.laysStatic C n d).before args s = true := by
  obtain ⟨c, k, i, f, a, cell, h1, h2, h3, h4, h5, h6, h7, h8, h9, -⟩ := h
  show (Cond.laysStatic C n d).holds args s none s [] = true
  exact Cond.laysStatic_of h1 h2 h3 h4 h5 h6 h7 h8 h9
/-- .. and what it holds: null or some reference -/
def vx_Zq (C n d : String) (A : Nat → Prop) (U : State) (H : Heap) : Prop := va_Zq C n d A U H ∧ vx_L C n d A U H
theorem vx_Zq.moved {C n d : String} {A : Nat → Prop} {u U : State} {H : Heap} (hvm : u.vm.Alike U.vm) (h : vx_Zq C n d A u H) : vx_Zq C n d A U H := ⟨va_Zq.moved hvm h.1, vx_L.moved hvm h.2⟩
theorem vx_Zq.kept {C n d : String} {A : Nat → Prop} {U : State} {H H1 : Heap} (h : vx_Zq C n d A U H) (hq : ∀ a : Nat, a < H.size → ¬ A a → H1[a]? = H[a]?) : vx_Zq C n d A U H1 := ⟨va_Zq.kept h.1 hq, vx_L.kept h.2 hq⟩
theorem vx_Zq.narrow {C n d : String} {A B : Nat → Prop} {U : State} {H : Heap} (h : vx_Zq C n d A U H) (hAB : ∀ q, B q → A q) : vx_Zq C n d B U H := ⟨va_Zq.narrow h.1 hAB, vx_L.narrow h.2 hAB⟩
theorem vx_Zqof {args : Array Value} {s : State} {C n d : String} {A : Nat → Prop} (hl : (Cond.laysStatic C n d).before args s = true) (hini : (Cond.initialized C).before args s = true) (h : (Cond.isRef (.static C n d)).before args s = true) (hA : ∀ a : Nat, a < s.heap.size → ¬ A a) : vx_Zq C n d A s s.heap := by
  refine ⟨va_Zqof hl hini h hA, ?_⟩
  obtain ⟨c, k, i, f, a, cell, h1, h2, h3, h4, h5, h6, h7, h8, h9⟩ := Cond.laysStatic_spec hl
  exact ⟨c, k, i, f, a, cell, h1, h2, h3, h4, h5, h6, h7, h8, h9, hA a (Array.getElem?_eq_some_iff.mp h5).1⟩
theorem vx_isRef {C n d : String} {v : Value} {A : Nat → Prop} {s : State} {args : Array Value} (h : va_Z C n d v A s s.heap) (hv : v.isRef = true) : (Cond.isRef (.static C n d)).before args s = true := by
  obtain ⟨cf, kf, fi, f, a, cell, h1, h2, h3, h4, h5, h6, h7, -⟩ := h
  have he : (Term.static C n d).eval args s none [] s = some v := by
    simp [Term.eval, State.fieldNamed?, h1, h2, h4, h5, h6, h7]
  simp only [Cond.before, Cond.holds, Cond.value, he]
  cases v <;> simp_all [Value.isRef]
theorem vx_isRefq {C n d : String} {A : Nat → Prop} {s : State} {args : Array Value} (h : va_Zq C n d A s s.heap) : (Cond.isRef (.static C n d)).before args s = true := by
  rcases h with h | ⟨t, h⟩
  · exact vx_isRef h rfl
  · exact vx_isRef h rfl
/-- the same frame, seen from here: as if the method were called anew in this heap -/
theorem vx_rebase {T : State} (X : Stand p l e R s m args below meth c T locs cells slots) {R' : Room} (hf : R'.frames ≤ R.frames) (hl : R'.locals ≤ R.locals) (hc : cells + R'.cells ≤ R.cells) (hs : slots + R'.slots ≤ R.slots) :
    Stand p l e R' ((T.setVm s.vm).setFrames (.invoking m args :: below)) m args below meth c T [] 0 0 := by
  have htop : (T.setVm s.vm).topJava?.isSome := X.here.top
  have hF : ((T.setVm s.vm).setFrames (.invoking m args :: below)).frames = .invoking m args :: below := State.frames_setFrames _ (State.cur_lt_of_top htop)
  obtain ⟨g₀, hg0⟩ := Option.isSome_iff_exists.mp htop
  obtain ⟨r, hr⟩ := State.topJava?_eq_some.mp hg0
  have hl9 : e.platform.stackLimits (T.setVm s.vm).me = e.platform.stackLimits s.me := X.limits
  have hb9 : (T.setVm s.vm).me.stackBytes = s.me.stackBytes := X.bytes
  refine ⟨X.admits, X.cas, X.clock, hF, ?_, X.hears, X.method, X.code, X.here, X.tail, X.warmed, ?_, ?_, ?_⟩
  · have h := X.room
    have hU : ((T.setVm s.vm).setFrames (.invoking m args :: below)).localsInUse = s.localsInUse := by
      rw [State.localsInUse_invoking hF (meth := meth) (c := c) X.method X.code, State.localsInUse_invoking X.frames X.method X.code]
    simp only [State.hasRoom, Bool.and_eq_true, decide_eq_true_eq] at h ⊢
    obtain ⟨⟨⟨⟨h1, h2, h3, h4, h5, h6⟩, h7⟩, h8⟩, h9⟩ := h
    rw [X.frames, List.length_cons] at h2 h3
    have q1 := X.heapSize
    have q2 := X.used
    simp only [hF, hU, List.length_cons, State.stackLimits_setFrames, State.stackBytes_setFrames, hl9, hb9]
    refine ⟨⟨⟨⟨by omega, by omega, by omega, by omega, by omega, h6⟩, ?_⟩, ?_⟩, X.book⟩
    · show T.heap.size + R'.cells ≤ e.platform.maxCells
      omega
    · show T.slotsUsed + R'.slots ≤ e.platform.maxSlots
      omega
  · rw [State.stackLimits_setFrames]; rfl
  · rw [State.stackBytes_setFrames]; rfl
  · refine ⟨?_, Nat.le_refl _, Nat.le_refl _, ?_, ?_, fun a c9 h9 => ⟨c9, h9, rfl, rfl, fun _ _ => rfl⟩⟩
    · obtain ⟨t, ht, -⟩ := State.frames_cons hr
      show T.setVm s.vm = { ((T.setVm s.vm).setFrames (.invoking m args :: below)).setFrames (T.setVm s.vm).frames with heap := T.heap, slotsUsed := T.slotsUsed }
      rw [State.setFrames_setFrames, State.setFrames_self ht]
      rfl
    · show T.slotsUsed = T.slotsUsed + ((T.heap.toList.drop T.heap.size).map (·.slots.size)).sum
      rw [List.drop_eq_nil_of_le (Nat.le_of_eq Array.length_toList)]
      rfl
    · show ((T.heap.toList.drop T.heap.size).map (·.slots.size)).sum ≤ 0
      rw [List.drop_eq_nil_of_le (Nat.le_of_eq Array.length_toList)]
      exact Nat.le_refl _
/-- 'throw new E()': new; dup; invokespecial; athrow -/
theorem vx_throw0 {cc : ByteArray} {pc : Nat} (hexec : p.tables.exec = Jvm.exec) (hb : c.code = cc) (hl : l.stackTraces = false) {own cls : String} {names : List String} {ik ic mc ms : Nat} {A : Nat → Prop}
    (hown : s.vm.findClass own = some m.cls) (hcls : Bundle.fit cls = true) (hnames : ∀ n ∈ names, Bundle.fit n = true)
    (hk : (Cond.classLink own ik cls).before args s = true) (hini : (Cond.initialized cls).before args s = true) (hat : ∀ w ∈ vx_at0 own ic cls names, w.before args s = true)
    (hgood : ∀ w ∈ Cond.classLink own ik cls :: Cond.initialized cls :: vx_at0 own ic cls names, vx_ot w = true)
    (hU : vx_Zq Bundle.tN "UNASSIGNED_STACK" Bundle.steD A s s.heap) (hN : vx_Zq Bundle.tN "SUPPRESSED_SENTINEL" Bundle.listD A s s.heap) (hS : va_S A s.heap H locs) (hsize : ls.size = c.maxLocals)
    (d0 : decode cc pc = .ok (.new ik, 3)) (d3 : decode cc (pc + 3) = .ok (.dup, 1)) (d4 : decode cc (pc + 4) = .ok (.invokespecial ic, 3)) (d7 : decode cc (pc + 7) = .ok (.athrow, 1))
    (hout : ∀ x ∈ c.exceptionTable.toList, covers x (pc + 7) = false)
    (hRframes : names.length + 3 < R.frames) (hRlocals : (rest.map fun v => v.category).sum + (13 * (names.length + 1) + 42) ≤ R.locals) (hRcells : cells + 1 ≤ R.cells) (hRslots : slots + 6 ≤ R.slots) (hlocks : meth.locks = false)
    (hx : ∀ t : State, s.vm.Alike t.vm → H.size ≤ t.heap.size → (∀ q : Nat, q < H.size → t.heap[q]? = H[q]?) → XC cls s t)
    (hf : ∀ z ∈ locs, free z.base) (hc : cells + 1 ≤ mc) (hs : slots + 6 ≤ ms) :
    W p l e R s m args below meth c H locs cells slots (vx_MQ below Qc XC args s mc ms free) (F0 m pc ls rest) := by
  intro T hT X
  have htr : e.platform.stackTraces = false := (show e.platform.stackTraces = l.stackTraces by rw [X.admits.platform]).trans hl
  have Y := vx_rebase X (R' := { frames := R.frames, locals := R.locals, cells := 1, slots := 6 }) (Nat.le_refl _) (Nat.le_refl _) hRcells hRslots
  obtain ⟨s', hA⟩ : ∃ z, z = (T.setVm s.vm).setFrames (.invoking m args :: below) := ⟨_, rfl⟩
  rw [← hA] at Y
  have hvm : s'.vm = s.vm := by rw [hA]; rfl
  have hhp : s'.heap = H := by rw [hA]; exact hT
  have hW0 : s.WarmedH s'.vm := by rw [hvm]; exact State.WarmedH.refl s
  have hat' : ∀ w ∈ vx_at0 own ic cls names, w.before args s' = true := fun w hw => vx_ot_at hW0 hvm.symm (hgood w (List.mem_cons_of_mem _ (List.mem_cons_of_mem _ hw))) (hat w hw)
  have hk' : (Cond.classLink own ik cls).before args s' = true := vx_ot_at hW0 hvm.symm (hgood _ List.mem_cons_self) hk
  have hini' : (Cond.initialized cls).before args s' = true := vx_ot_at hW0 hvm.symm (hgood _ (List.mem_cons_of_mem _ List.mem_cons_self)) hini
  have hU' : vx_Zq Bundle.tN "UNASSIGNED_STACK" Bundle.steD A s' s'.heap := by rw [hhp]; exact vx_Zq.moved hW0.alike (hU.kept hS.2.1)
  have hN' : vx_Zq Bundle.tN "SUPPRESSED_SENTINEL" Bundle.listD A s' s'.heap := by rw [hhp]; exact vx_Zq.moved hW0.alike (hN.kept hS.2.1)
  have h : ∀ w ∈ Bundle.ownAtoms0 own ic cls names, w.before args s' = true := vx_own hat' (vx_isRefq hU'.1) (vx_isRefq hN'.1) hU'.2.word hN'.2.word
  have hown' : s'.vm.findClass own = some m.cls := by rw [hvm]; exact hown
  have hins : (Cond.instantiable cls 6).before args s' = true := h _ (by simp [Bundle.ownAtoms0])
  obtain ⟨vm₁, cX, kX, hfX, hkX, -, -, X₁, st1⟩ := Y.newCold hexec (own := own) (C := cls) (index := ik) (n := 6) hown' hk' hins hini'
    (g := F0 m pc ls rest) rfl (by rw [hb]; exact d0) (Nat.le_refl _) (Nat.le_refl _)
  generalize hT1 : (T.setVm vm₁).pushCell { cls := cX, slots := kX.instanceTypes.map defaultValue, vm := .none } = T1 at X₁ st1
  have hcat : (Value.ref T.heap.size).category = 1 := rfl
  have hcellA : T1.heap[T.heap.size]? = some (freshCell cX kX) := by rw [← hT1]; exact State.heap_pushCell_size _ _
  have d3' : decode c.code (pc + 3) = .ok (.dup, 1) := by rw [hb]; exact d3
  obtain ⟨U, hsteps, hrun, hend, hW, hsame, ce, hce, hO⟩ := X₁.ctorThrow0 hexec htr (own := own) (cls := cls) (names := names) (ic := ic) hown' hcls hnames h (fun x hx => nomatch hx) hfX hkX hcellA (by rw [hhp, hT]; exact Nat.le_refl _)
    (g := { method := m, pc := pc + 4, locals := ls, stack := .ref T.heap.size :: .ref T.heap.size :: rest, locked := none }) rfl hsize rfl rfl (rest := rest) rfl
    (by rw [hb]; exact d4) (by rw [hb]; exact d7) hout hRframes (by simp only [List.map_cons, List.sum_cons, hcat]; omega) hlocks
  obtain ⟨f1, f2⟩ := vx_frame hsame
  rw [hhp] at f1 f2
  have hWs : s.WarmedH U.vm := State.WarmedH.trans hW0 hW
  have hcl : s.vm.findClass cls = some ce.cls := by
    have h9 := hO.cls
    rw [hvm] at h9
    exact h9
  have hall : s.sameButNew ({ U with vm := s.vm } : State) locs mc ms := by
    subst hA
    obtain ⟨e1, e2⟩ := hsame
    rw [State.setFrames_setFrames] at e1
    have h2 : (T.setVm s.vm).sameButNew ({ U with vm := s.vm } : State) [] (0 + 1) (0 + 6) := ⟨e1, e2⟩
    have h3 := X.same.trans h2
    rw [List.append_nil] at h3
    exact h3.mono hc hs
  refine ⟨U, ?_, .threw T.heap.size, hrun, hend, Or.inr ⟨T.heap.size, rfl, cls, ce, locs, hx U hWs.alike f1 (fun q hq => f2 q hq (fun z hz => nomatch hz)), hce, hO.vm, hcl, hWs, hall, hf⟩⟩
  refine st1 _ ?_
  show Steps p.tables e below (T1.setTop { method := m, pc := pc + 3, locals := ls, stack := .ref T.heap.size :: rest, locked := none }) _
  jvm_step X₁.here [X₁.here.top, hexec, d3', Value.category]
  exact hsteps
/-- 'throw new E("text")': new; dup; ldc; invokespecial; athrow -/
theorem vx_throwS {cc : ByteArray} {pc : Nat} (hexec : p.tables.exec = Jvm.exec) (hb : c.code = cc) (hl : l.stackTraces = false) {own cls text : String} {names : List String} {ik is ic mc ms sa : Nat} {A : Nat → Prop}
    (hown : s.vm.findClass own = some m.cls) (hcls : Bundle.fit cls = true) (hnames : ∀ n ∈ names, Bundle.fit n = true)
    (hk : (Cond.classLink own ik cls).before args s = true) (hini : (Cond.initialized cls).before args s = true) (hstr : vk_R own is text sa s) (hat : ∀ w ∈ vx_atS own ic cls names, w.before args s = true)
    (hgood : ∀ w ∈ Cond.classLink own ik cls :: Cond.initialized cls :: vx_atS own ic cls names, vx_ot w = true)
    (hU : vx_Zq Bundle.tN "UNASSIGNED_STACK" Bundle.steD A s s.heap) (hN : vx_Zq Bundle.tN "SUPPRESSED_SENTINEL" Bundle.listD A s s.heap) (hS : va_S A s.heap H locs) (hsize : ls.size = c.maxLocals)
    (d0 : decode cc pc = .ok (.new ik, 3)) (d3 : decode cc (pc + 3) = .ok (.dup, 1)) (d4 : decode cc (pc + 4) = .ok (.ldc is, 2)) (d6 : decode cc (pc + 6) = .ok (.invokespecial ic, 3)) (d9 : decode cc (pc + 9) = .ok (.athrow, 1))
    (hout : ∀ x ∈ c.exceptionTable.toList, covers x (pc + 9) = false)
    (hRframes : names.length + 3 < R.frames) (hRlocals : (rest.map fun v => v.category).sum + (13 * (names.length + 1) + 43) ≤ R.locals) (hRcells : cells + 1 ≤ R.cells) (hRslots : slots + 6 ≤ R.slots) (hlocks : meth.locks = false)
    (hx : ∀ t : State, s.vm.Alike t.vm → H.size ≤ t.heap.size → (∀ q : Nat, q < H.size → t.heap[q]? = H[q]?) → XC cls s t)
    (hf : ∀ z ∈ locs, free z.base) (hc : cells + 1 ≤ mc) (hs : slots + 6 ≤ ms) :
    W p l e R s m args below meth c H locs cells slots (vx_MQ below Qc XC args s mc ms free) (F0 m pc ls rest) := by
  intro T hT X
  have htr : e.platform.stackTraces = false := (show e.platform.stackTraces = l.stackTraces by rw [X.admits.platform]).trans hl
  have Y := vx_rebase X (R' := { frames := R.frames, locals := R.locals, cells := 1, slots := 6 }) (Nat.le_refl _) (Nat.le_refl _) hRcells hRslots
  obtain ⟨s', hA⟩ : ∃ z, z = (T.setVm s.vm).setFrames (.invoking m args :: below) := ⟨_, rfl⟩
  rw [← hA] at Y
  have hvm : s'.vm = s.vm := by rw [hA]; rfl
  have hhp : s'.heap = H := by rw [hA]; exact hT
  have hW0 : s.WarmedH s'.vm := by rw [hvm]; exact State.WarmedH.refl s
  have hat' : ∀ w ∈ vx_atS own ic cls names, w.before args s' = true := fun w hw => vx_ot_at hW0 hvm.symm (hgood w (List.mem_cons_of_mem _ (List.mem_cons_of_mem _ hw))) (hat w hw)
  have hk' : (Cond.classLink own ik cls).before args s' = true := vx_ot_at hW0 hvm.symm (hgood _ List.mem_cons_self) hk
  have hini' : (Cond.initialized cls).before args s' = true := vx_ot_at hW0 hvm.symm (hgood _ (List.mem_cons_of_mem _ List.mem_cons_self)) hini
  have hU' : vx_Zq Bundle.tN "UNASSIGNED_STACK" Bundle.steD A s' s'.heap := by rw [hhp]; exact vx_Zq.moved hW0.alike (hU.kept hS.2.1)
  have hN' : vx_Zq Bundle.tN "SUPPRESSED_SENTINEL" Bundle.listD A s' s'.heap := by rw [hhp]; exact vx_Zq.moved hW0.alike (hN.kept hS.2.1)
  have h : ∀ w ∈ Bundle.ownAtoms own ic cls names, w.before args s' = true := vx_own hat' (vx_isRefq hU'.1) (vx_isRefq hN'.1) hU'.2.word hN'.2.word
  have hown' : s'.vm.findClass own = some m.cls := by rw [hvm]; exact hown
  have hins : (Cond.instantiable cls 6).before args s' = true := h _ (by simp [Bundle.ownAtoms])
  obtain ⟨vm₁, cX, kX, hfX, hkX, -, -, X₁, st1⟩ := Y.newCold hexec (own := own) (C := cls) (index := ik) (n := 6) hown' hk' hins hini'
    (g := F0 m pc ls rest) rfl (by rw [hb]; exact d0) (Nat.le_refl _) (Nat.le_refl _)
  generalize hT1 : (T.setVm vm₁).pushCell { cls := cX, slots := kX.instanceTypes.map defaultValue, vm := .none } = T1 at X₁ st1
  have hcat : (Value.ref T.heap.size).category = 1 := rfl
  have hcellA : T1.heap[T.heap.size]? = some (freshCell cX kX) := by rw [← hT1]; exact State.heap_pushCell_size _ _
  have d3' : decode c.code (pc + 3) = .ok (.dup, 1) := by rw [hb]; exact d3
  have d4' : decode c.code (pc + 4) = .ok (.ldc is, 2) := by rw [hb]; exact d4
  have hstr' : vk_R own is text sa s' := vk_R.warm hW0 hstr
  obtain ⟨U, hsteps, hrun, hend, hW, hsame, ce, hce, hO⟩ := X₁.ctorThrowS hexec htr (own := own) (cls := cls) (names := names) (ic := ic) hown' hcls hnames h (fun x hx => nomatch hx) hfX hkX hcellA (by rw [hhp, hT]; exact Nat.le_refl _) (msg := .ref sa) rfl
    (g := { method := m, pc := pc + 6, locals := ls, stack := .ref sa :: .ref T.heap.size :: .ref T.heap.size :: rest, locked := none }) rfl hsize rfl rfl (rest := rest) rfl
    (by rw [hb]; exact d6) (by rw [hb]; exact d9) hout hRframes (by simp only [List.map_cons, List.sum_cons, hcat]; omega) hlocks
  obtain ⟨f1, f2⟩ := vx_frame hsame
  rw [hhp] at f1 f2
  have hWs : s.WarmedH U.vm := State.WarmedH.trans hW0 hW
  have hcl : s.vm.findClass cls = some ce.cls := by
    have h9 := hO.cls
    rw [hvm] at h9
    exact h9
  have hall : s.sameButNew ({ U with vm := s.vm } : State) locs mc ms := by
    subst hA
    obtain ⟨e1, e2⟩ := hsame
    rw [State.setFrames_setFrames] at e1
    have h2 : (T.setVm s.vm).sameButNew ({ U with vm := s.vm } : State) [] (0 + 1) (0 + 6) := ⟨e1, e2⟩
    have h3 := X.same.trans h2
    rw [List.append_nil] at h3
    exact h3.mono hc hs
  refine ⟨U, ?_, .threw T.heap.size, hrun, hend, Or.inr ⟨T.heap.size, rfl, cls, ce, locs, hx U hWs.alike f1 (fun q hq => f2 q hq (fun z hz => nomatch hz)), hce, hO.vm, hcl, hWs, hall, hf⟩⟩
  refine st1 _ ?_
  show Steps p.tables e below (T1.setTop { method := m, pc := pc + 3, locals := ls, stack := .ref T.heap.size :: rest, locked := none }) _
  jvm_step X₁.here [X₁.here.top, hexec, d3', Value.category]
  exact X₁.ldcString hexec (own := own) (text := text) (index := is) (a := sa) hown' hstr'.1 hstr'.2
    (g := { method := m, pc := pc + 4, locals := ls, stack := .ref T.heap.size :: .ref T.heap.size :: rest, locked := none }) rfl d4' _ hsteps
/-- 'throw new E("text")', the text by a wide index -/
theorem vx_throwSW {cc : ByteArray} {pc : Nat} (hexec : p.tables.exec = Jvm.exec) (hb : c.code = cc) (hl : l.stackTraces = false) {own cls text : String} {names : List String} {ik is ic mc ms sa : Nat} {A : Nat → Prop}
    (hown : s.vm.findClass own = some m.cls) (hcls : Bundle.fit cls = true) (hnames : ∀ n ∈ names, Bundle.fit n = true)
    (hk : (Cond.classLink own ik cls).before args s = true) (hini : (Cond.initialized cls).before args s = true) (hstr : vk_R own is text sa s) (hat : ∀ w ∈ vx_atS own ic cls names, w.before args s = true)
    (hgood : ∀ w ∈ Cond.classLink own ik cls :: Cond.initialized cls :: vx_atS own ic cls names, vx_ot w = true)
    (hU : vx_Zq Bundle.tN "UNASSIGNED_STACK" Bundle.steD A s s.heap) (hN : vx_Zq Bundle.tN "SUPPRESSED_SENTINEL" Bundle.listD A s s.heap) (hS : va_S A s.heap H locs) (hsize : ls.size = c.maxLocals)
    (d0 : decode cc pc = .ok (.new ik, 3)) (d3 : decode cc (pc + 3) = .ok (.dup, 1)) (d4 : decode cc (pc + 4) = .ok (.ldc_w is, 3)) (d7 : decode cc (pc + 7) = .ok (.invokespecial ic, 3)) (d10 : decode cc (pc + 10) = .ok (.athrow, 1))
    (hout : ∀ x ∈ c.exceptionTable.toList, covers x (pc + 10) = false)
    (hRframes : names.length + 3 < R.frames) (hRlocals : (rest.map fun v => v.category).sum + (13 * (names.length + 1) + 43) ≤ R.locals) (hRcells : cells + 1 ≤ R.cells) (hRslots : slots + 6 ≤ R.slots) (hlocks : meth.locks = false)
    (hx : ∀ t : State, s.vm.Alike t.vm → H.size ≤ t.heap.size → (∀ q : Nat, q < H.size → t.heap[q]? = H[q]?) → XC cls s t)
    (hf : ∀ z ∈ locs, free z.base) (hc : cells + 1 ≤ mc) (hs : slots + 6 ≤ ms) :
    W p l e R s m args below meth c H locs cells slots (vx_MQ below Qc XC args s mc ms free) (F0 m pc ls rest) := by
  intro T hT X
  have htr : e.platform.stackTraces = false := (show e.platform.stackTraces = l.stackTraces by rw [X.admits.platform]).trans hl
  have Y := vx_rebase X (R' := { frames := R.frames, locals := R.locals, cells := 1, slots := 6 }) (Nat.le_refl _) (Nat.le_refl _) hRcells hRslots
  obtain ⟨s', hA⟩ : ∃ z, z = (T.setVm s.vm).setFrames (.invoking m args :: below) := ⟨_, rfl⟩
  rw [← hA] at Y
  have hvm : s'.vm = s.vm := by rw [hA]; rfl
  have hhp : s'.heap = H := by rw [hA]; exact hT
  have hW0 : s.WarmedH s'.vm := by rw [hvm]; exact State.WarmedH.refl s
  have hat' : ∀ w ∈ vx_atS own ic cls names, w.before args s' = true := fun w hw => vx_ot_at hW0 hvm.symm (hgood w (List.mem_cons_of_mem _ (List.mem_cons_of_mem _ hw))) (hat w hw)
  have hk' : (Cond.classLink own ik cls).before args s' = true := vx_ot_at hW0 hvm.symm (hgood _ List.mem_cons_self) hk
  have hini' : (Cond.initialized cls).before args s' = true := vx_ot_at hW0 hvm.symm (hgood _ (List.mem_cons_of_mem _ List.mem_cons_self)) hini
  have hU' : vx_Zq Bundle.tN "UNASSIGNED_STACK" Bundle.steD A s' s'.heap := by rw [hhp]; exact vx_Zq.moved hW0.alike (hU.kept hS.2.1)
  have hN' : vx_Zq Bundle.tN "SUPPRESSED_SENTINEL" Bundle.listD A s' s'.heap := by rw [hhp]; exact vx_Zq.moved hW0.alike (hN.kept hS.2.1)
  have h : ∀ w ∈ Bundle.ownAtoms own ic cls names, w.before args s' = true := vx_own hat' (vx_isRefq hU'.1) (vx_isRefq hN'.1) hU'.2.word hN'.2.word
  have hown' : s'.vm.findClass own = some m.cls := by rw [hvm]; exact hown
  have hins : (Cond.instantiable cls 6).before args s' = true := h _ (by simp [Bundle.ownAtoms])
  obtain ⟨vm₁, cX, kX, hfX, hkX, -, -, X₁, st1⟩ := Y.newCold hexec (own := own) (C := cls) (index := ik) (n := 6) hown' hk' hins hini'
    (g := F0 m pc ls rest) rfl (by rw [hb]; exact d0) (Nat.le_refl _) (Nat.le_refl _)
  generalize hT1 : (T.setVm vm₁).pushCell { cls := cX, slots := kX.instanceTypes.map defaultValue, vm := .none } = T1 at X₁ st1
  have hcat : (Value.ref T.heap.size).category = 1 := rfl
  have hcellA : T1.heap[T.heap.size]? = some (freshCell cX kX) := by rw [← hT1]; exact State.heap_pushCell_size _ _
  have d3' : decode c.code (pc + 3) = .ok (.dup, 1) := by rw [hb]; exact d3
  have d4' : decode c.code (pc + 4) = .ok (.ldc_w is, 3) := by rw [hb]; exact d4
  have hstr' : vk_R own is text sa s' := vk_R.warm hW0 hstr
  obtain ⟨U, hsteps, hrun, hend, hW, hsame, ce, hce, hO⟩ := X₁.ctorThrowS hexec htr (own := own) (cls := cls) (names := names) (ic := ic) hown' hcls hnames h (fun x hx => nomatch hx) hfX hkX hcellA (by rw [hhp, hT]; exact Nat.le_refl _) (msg := .ref sa) rfl
    (g := { method := m, pc := pc + 7, locals := ls, stack := .ref sa :: .ref T.heap.size :: .ref T.heap.size :: rest, locked := none }) rfl hsize rfl rfl (rest := rest) rfl
    (by rw [hb]; exact d7) (by rw [hb]; exact d10) hout hRframes (by simp only [List.map_cons, List.sum_cons, hcat]; omega) hlocks
  obtain ⟨f1, f2⟩ := vx_frame hsame
  rw [hhp] at f1 f2
  have hWs : s.WarmedH U.vm := State.WarmedH.trans hW0 hW
  have hcl : s.vm.findClass cls = some ce.cls := by
    have h9 := hO.cls
    rw [hvm] at h9
    exact h9
  have hall : s.sameButNew ({ U with vm := s.vm } : State) locs mc ms := by
    subst hA
    obtain ⟨e1, e2⟩ := hsame
    rw [State.setFrames_setFrames] at e1
    have h2 : (T.setVm s.vm).sameButNew ({ U with vm := s.vm } : State) [] (0 + 1) (0 + 6) := ⟨e1, e2⟩
    have h3 := X.same.trans h2
    rw [List.append_nil] at h3
    exact h3.mono hc hs
  refine ⟨U, ?_, .threw T.heap.size, hrun, hend, Or.inr ⟨T.heap.size, rfl, cls, ce, locs, hx U hWs.alike f1 (fun q hq => f2 q hq (fun z hz => nomatch hz)), hce, hO.vm, hcl, hWs, hall, hf⟩⟩
  refine st1 _ ?_
  show Steps p.tables e below (T1.setTop { method := m, pc := pc + 3, locals := ls, stack := .ref T.heap.size :: rest, locked := none }) _
  jvm_step X₁.here [X₁.here.top, hexec, d3', Value.category]
  exact X₁.ldcStringW hexec (own := own) (text := text) (index := is) (a := sa) hown' hstr'.1 hstr'.2
    (g := { method := m, pc := pc + 4, locals := ls, stack := .ref T.heap.size :: .ref T.heap.size :: rest, locked := none }) rfl d4' _ hsteps
end Ends
section Bodies
variable {l : Launch}
theorem vx_ofW {y : MethodName} {ws ws' : List Cond} {rm : Room} {Pc : Array Value → State → Prop} {Qc : Array Value → State → Outcome → State → Prop} {XC : String → State → State → Prop} {mc ms : Nat} {free : Addr → Prop} {cc : ByteArray} {maxL : Nat} {ret : Option FieldType}
    (hy : plainName y.cls = true) (hw : ws = Cond.code y cc maxL ret :: ws')
    (body : ∀ p e s m args below meth c s₁, BodyLoose p l y (headSpec ws rm) cc maxL ret e s m args below meth c s₁ → c.maxLocals = maxL → (∀ x ∈ c.exceptionTable.toList, False) → Pc args s →
      W p l e (headSpec ws rm).room s m args below meth c s.heap [] 0 0 (vx_MQ below Qc XC args s mc ms free) (entryFrame m args maxL)) : vx_Met l y ws rm Pc Qc XC mc ms free := by
  refine MetFree.of_bodyS (code := cc) (maxLocals := maxL) (ret := ret) hy ?_ ?_
  · intro args s m h hn
    obtain ⟨meth, c, h1, h2, h3, h4, h5, h6, -, -⟩ := Cond.code_spec hn (atoms_spec (ws := ws) h _ (by rw [hw]; exact List.mem_cons_self))
    exact ⟨meth, c, h1, h2, h3, h4, h5, h6⟩
  · intro p e s m args below meth c s₁ B hml hP _
    have hh0 : s₁.heap = s.heap := by rw [B.state]; rfl
    have ht : ∀ x ∈ c.exceptionTable.toList, False := by
      obtain ⟨meth9, c9, h1, h2, -, -, -, -, h7, -⟩ := Cond.code_spec B.named (atoms_spec (ws := ws) B.pre _ (by rw [hw]; exact List.mem_cons_self))
      cases Option.some.inj (h1.symm.trans B.method)
      cases Option.some.inj (h2.symm.trans (Stand.of_body B).code)
      intro x hx
      rw [Array.isEmpty_iff.mp h7] at hx
      cases hx
    obtain ⟨t, a1, o, b1, b2, b3⟩ := body p e s m args below meth c s₁ B hml ht hP s₁ hh0 (Stand.of_body B)
    exact ⟨t, o, a1, b1, b2, b3⟩
/-- the table of a body with handlers -/
theorem vx_table {p : Program} {x y : MethodName} {S : Spec} {cc bytes : ByteArray} {maxL maxL' : Nat} {ret ret' : Option FieldType} {e : Env} {s s₁ : State} {m : MethodId} {args : Array Value} {below : List Frame} {meth : Method} {c : Code} {hh : List (Nat × Nat × Nat × Nat)}
    (B : BodyLoose p l y S cc maxL ret e s m args below meth c s₁) (h : (Cond.codeWith y bytes maxL' ret' hh).before args s = true) : c.exceptionTable.toList = tableOf hh := by
  obtain ⟨m9, meth9, c9, hn9, h1, h2, -, -, h6, -⟩ := Cond.codeWith_spec h
  cases Option.some.inj (hn9.symm.trans B.named)
  cases Option.some.inj (h1.symm.trans B.method)
  cases Option.some.inj (h2.symm.trans (Stand.of_body B).code)
  rw [← h6, table_eq]
end Bodies
end VXA
/-! ===== END ===== -/
/-! ===== BEGIN a static call of a method with an exception table ===== -/
section VXS
variable {p : Program} {l : Launch} {e : Env} {R : Room} {s : State} {m : MethodId} {args : Array Value} {below : List Frame} {meth : Method} {c : Code} {T : State} {H : Heap} {locs : List Loc} {cells slots : Nat}
abbrev vx_CSW (R : Room) (s : State) (args : Array Value) (own : String) (index : Nat) (y : MethodName) (bytes : ByteArray) (maxL : Nat) (ret : Option FieldType) (hh : List (Nat × Nat × Nat × Nat)) (ws : List Cond) (rm : Room) (mc ms n : Nat) : Prop :=
  (rm.cells = mc ∧ rm.slots = ms ∧ rm.frames + 1 ≤ R.frames ∧ 8 + (maxL + 11) + rm.locals ≤ R.locals ∧ (∀ w ∈ ws, ∀ (a' : Array Value) (U : State), s.WarmedH U.vm → w.before a' U = true) ∧ Cond.codeWith y bytes maxL ret hh ∈ ws) ∧
  (Cond.codeWith y bytes maxL ret hh).before args s = true ∧ (Cond.initialized y.cls).before args s = true ∧ (y.cls ≠ "java/lang/invoke/MethodHandle" ∧ y.cls ≠ "java/lang/invoke/VarHandle") ∧
  (∀ sig, parseMethodDescriptor y.desc = some sig → n = sig.parameters.length) ∧ (Cond.methodLink own index y).before args s = true ∧ (Cond.static y).before args s = true
theorem vx_cwSW {own : String} {index maxL mc ms : Nat} {y : MethodName} {bytes : ByteArray} {ret : Option FieldType} {hh : List (Nat × Nat × Nat × Nat)} {Ts ws ws' : List Cond} {rm : Room} (n : Nat) (ht : ∀ w ∈ Ts, w.before args s = true) (hT : GoodIn Ts (va_wsS own index y ws)) (hw : ws = Cond.codeWith y bytes maxL ret hh :: ws') (hrc : rm.cells = mc) (hrs : rm.slots = ms)
    (hd : y.cls ≠ "java/lang/invoke/MethodHandle" ∧ y.cls ≠ "java/lang/invoke/VarHandle" ∧ (parseMethodDescriptor y.desc).map (fun d => d.parameters.length) = some n) (hR : rm.frames + 1 ≤ R.frames ∧ 8 + (maxL + 11) + rm.locals ≤ R.locals) :
    vx_CSW R s args own index y bytes maxL ret hh ws rm mc ms n := by
  have ok : ∀ w ∈ va_wsS own index y ws, w.before args s = true := fun w h => ht w (hT w h).1
  have hG : GoodIn Ts ws := fun w h => hT w (by unfold va_wsS; exact List.mem_append_right _ h)
  have hc : Cond.codeWith y bytes maxL ret hh ∈ ws := by rw [hw]; exact List.mem_cons_self
  refine ⟨⟨hrc, hrs, hR.1, hR.2, pay_in ht hG, hc⟩, ht _ (hG _ hc).1, ok _ (by simp [va_wsS]), ⟨hd.1, hd.2.1⟩, fun sig h => ?_, ok _ (by simp [va_wsS]), ok _ (by simp [va_wsS])⟩
  have h2 := hd.2.2
  rw [h] at h2
  exact (Option.some.inj h2).symm
theorem vx_callSW (X : Stand p l e R s m args below meth c T locs cells slots) (hexec : p.tables.exec = Jvm.exec) {own : String} {index : Nat} {y : MethodName} {bytes : ByteArray} {maxL : Nat} {ret : Option FieldType} {hh : List (Nat × Nat × Nat × Nat)}
    (hown : s.vm.findClass own = some m.cls) (hlink : (Cond.methodLink own index y).before args s = true) (hstat : (Cond.static y).before args s = true) (hinit : (Cond.initialized y.cls).before args s = true)
    (hcode : (Cond.codeWith y bytes maxL ret hh).before args s = true) (hy : y.cls ≠ "java/lang/invoke/MethodHandle" ∧ y.cls ≠ "java/lang/invoke/VarHandle")
    {W9 : Nat} {Pre : Pt → Array Value → Prop} {Post : Pt → Array Value → Option Value → Pt → Prop} (hK : Back l R p e below s args y 3 W9 Pre Post)
    {g : JFrame} (hg : g.method = m) (hsize : g.locals.size = c.maxLocals) {argsL rest : List Value} (hlen : ∀ sig, parseMethodDescriptor y.desc = some sig → argsL.length = sig.parameters.length)
    (hstack : g.stack = argsL.reverse ++ rest) (hW : 2 * g.monitorRoom + (rest.map fun v => v.category).sum ≤ W9) (hdg : decode c.code g.pc = .ok (.invokestatic index, 3))
    (hpre : ∀ vm₁, s.WarmedH vm₁ → Pre ⟨T.setVm vm₁, locs, cells, slots⟩ argsL.toArray) :
    ∃ (v : Option Value) (vm₁ : Vm) (B : Pt), s.WarmedH vm₁ ∧ Stand p l e R s m args below meth c B.U B.locs B.cells B.slots ∧ Post ⟨T.setVm vm₁, locs, cells, slots⟩ argsL.toArray v B ∧
      ∀ target, Steps p.tables e below (B.U.setTop { g with pc := g.pc + 3, stack := v.toList ++ rest }) target → Steps p.tables e below (T.setTop g) target := by
  obtain ⟨mk, methM, cM, hnamed, hmethM, -, -, -, -, -, -, hsigM⟩ := Cond.codeWith_spec hcode
  have hstatic : methM.isStatic = true := Cond.static_spec hnamed hmethM hstat
  obtain ⟨kP, hkP, -⟩ := className_of_methodNamed hnamed
  have hinitP : kP.init = .initialized := Cond.initialized_spec (findClass_of_methodNamed hnamed) hkP hinit
  obtain ⟨vm₁, X₁, hstep₁⟩ := X.invokestatic hexec hown hlink hnamed hmethM hstatic hkP hinitP hy (g := g) hg (argsL := argsL) (rest := rest) (hlen _ hsigM) hstack hdg
  obtain ⟨v, B, X', hpost, hsteps⟩ := hK m meth c ⟨T.setVm vm₁, locs, cells, slots⟩ { g with stack := rest } (.invokestatic index) mk argsL.toArray X₁ hg hsize hdg hW (X₁.named hnamed) (hpre vm₁ X₁.warmed)
  exact ⟨v, vm₁, B, X₁.warmed, X', hpost, fun target h => hstep₁ _ fun acts => by rw [doInvoke_state]; exact hsteps.trans h⟩
theorem vx_runSW {y : MethodName} {bytes cc : ByteArray} {maxL nL mc ms n index : Nat} {ret : Option FieldType} {hh : List (Nat × Nat × Nat × Nat)} {ws : List Cond} {rm : Room} {Pc : Array Value → State → Prop} {Qc : Array Value → State → Outcome → State → Prop} {free : Addr → Prop} {Ts : List Cond} {own : String} {As rest : List Value} {g : JFrame}
    (S : CallFix p m c cc nL s args Ts own) (hM : Met l y ws rm Pc Qc mc ms free) (cw : vx_CSW R s args own index y bytes maxL ret hh ws rm mc ms n) (hp : PreS s H Pc As)
    (hg : g.method = m) (hn : As.length = n) (hsize : g.locals.size = nL) (hstack : g.stack = As.reverse ++ rest) (hW : 2 * g.monitorRoom + (rest.map fun v => v.category).sum ≤ 8) (hdg : decode cc g.pc = .ok (.invokestatic index, 3)) (hf : cells + mc ≤ R.cells ∧ slots + ms ≤ R.slots) :
    va_Run p l e R s m args below meth c H locs cells slots mc ms g rest (Qc As.toArray) (free) := by
  obtain ⟨⟨hrc, hrs, hfr, hlo, hws, hcw⟩, hcode, hini, hy, hlen, hl, hstt⟩ := cw
  have hK : Back l R p e below s args y 3 8 (PreOf R mc ms Pc) (PostOf Qc mc ms free) := va_backW (hh := hh) (bytes := bytes) (maxL := maxL) (ret := ret) hM hp.1 hrc hrs hfr hlo hws hcw (fun a' U hW => word_at hW (Or.inl (by first | rfl | simp [Cond.onTables, Cond.keeps, Cond.steady])) hini)
  obtain ⟨hx, hb, hml, ho, -⟩ := S
  intro T hT X
  obtain ⟨v, vm₁, ⟨U', l2, c2, s2⟩, hW₁, X', ⟨g', mk, t, L, e1, e2, hq, h1, hL, h2, h3⟩, st⟩ := vx_callSW X hx (hh := hh) (bytes := bytes) (maxL := maxL) (ret := ret) ho hl hstt hini hcode hy hK hg (hsize.trans hml.symm) (argsL := As) (rest := rest) (fun sig h => hn.trans (hlen sig h)) hstack hW (by rw [hb]; exact hdg)
    (fun vm₁ hW₁ => ⟨hf.1, hf.2, hp.2 (T.setVm vm₁) hT hW₁⟩)
  dsimp only [Pt.U, Pt.locs, Pt.cells, Pt.slots] at X' e1 e2 h1 h2 h3 st
  subst h1; subst h2; subst h3
  exact ⟨v, (T.setVm vm₁).calling g' mk As.toArray, t, U', L, hT, X', hL, e1, e2, hq, st⟩
/-- not caught here, past rows that name other classes: it goes on to the caller -/
theorem vx_outP {p : Program} {l : Launch} {e : Env} {R : Room} {s : State} {m : MethodId} {args : Array Value} {below : List Frame} {meth : Method} {c : Code} {H : Heap} {locs : List Loc} {cells slots : Nat} {free : Addr → Prop} {ls : Array Slot} {rest : List Value} {Qc : Array Value → State → Outcome → State → Prop} {XC : String → State → State → Prop}
    {pc : Nat} {own E : String} {ce : Cell} {q : Addr} {mc ms : Nat} (hown : s.vm.findClass own = some m.cls) (hlocks : meth.locks = false)
    (hpass : ∀ z ∈ c.exceptionTable.toList, covers z pc = false ∨ (z.catchType ≠ 0 ∧ ∃ nm : String, (Cond.classLink own z.catchType nm).before args s = true ∧ va_Nc E nm s)) (hcell : H[q]? = some ce) (hv : ce.vm = .none) (hcl : s.vm.findClass E = some ce.cls)
    (hx : ∀ t : State, t.heap = H → s.vm.Alike t.vm → XC E s t) (hf : ∀ z ∈ locs, free z.base) (hc : cells ≤ mc) (hs : slots ≤ ms) :
    vx_W p l e R s m args below meth c H locs cells slots (vx_MQ below Qc XC args s mc ms free) (F0 m pc ls rest) q := by
  intro T hT X
  have hpl : e.platform.magicAccessors = ({} : Platform).magicAccessors := by rw [X.admits.platform]
  obtain ⟨vm', hW', X', st⟩ := X.outThrough hlocks q (g := F0 m pc ls rest) rfl rfl rfl (cell := ce) (by rw [hT]; exact hcell) (by rw [hv]; rfl)
    (by obtain ⟨k9, h9, -⟩ := Vm.findClass_spec hcl; exact ⟨k9, h9⟩) (fun z hz => by
      rcases hpass z hz with h | ⟨hz0, nm, hl1, hn1⟩
      · exact Or.inl h
      · obtain ⟨c6, hc6, hcl6⟩ := Cond.classLink_spec hown hl1 e.platform hpl
        obtain ⟨a8, b8, h1, h2, h3⟩ := hn1
        cases Option.some.inj (h1.symm.trans hcl)
        cases Option.some.inj (h2.symm.trans hc6)
        exact Or.inr ⟨hz0, _, hcl6, h3⟩)
  obtain ⟨g₀, hfr⟩ := X'.frames_eq
  have hcell9 : ((T.setVm vm').setFrames (.throwing q :: below)).heap[q]? = some ce := by
    show T.heap[q]? = some ce
    rw [hT]; exact hcell
  have hend : Ended ((T.setVm vm').setFrames (.throwing q :: below)) below (.threw q) := State.frames_setFrames _ (State.cur_lt_of_frames hfr)
  refine ⟨(T.setVm vm').setFrames (.throwing q :: below), ?_, .threw q, X'.here.running, hend, Or.inr ⟨q, rfl, E, ce, locs, hx _ hT (X'.ends _).1.alike, hcell9, hv, hcl, (X'.ends _).1, (X'.ends _).2.mono hc hs, hf⟩⟩
  rw [X.pushThrowing_eq]
  exact st
/-- a thing of a world lies in the heap -/
theorem vx_lt {D : va_G} {cl : List vw_C} {ws : va_W} {H1 : Heap} (h : va_P D cl ws H1) {k : Nat} {q : Nat × va_E} (hk : ws[k]? = some q) : q.1 < H1.size := (h k q hk).lt
end VXS
/-! ===== END ===== -/
/-! ===== BEGIN methods with a table of their own: called by a name, returning or throwing ===== -/
section VXH
/-! vx_backW, vx_callVX, vx_callSX, vx_callVW, vx_runVW, vx_runVX, vx_runSX, vx_ofWH follow the same proofs as their sisters above (Free/Laws.lean, Shelf42/LK1.lean); vx_outP calls Shelf42/NT130.lean (outThrough). -/
section
variable {l : Launch} {R : Room} {p : Program} {e : Env} {below : List Frame} {s : State} {sargs : Array Value} {y : MethodName} {len W9 : Nat}
theorem vx_backW {ws : List Cond} {rm : Room} {Pc : Array Value → State → Prop} {Qc : Array Value → State → Outcome → State → Prop} {XC : String → State → State → Prop} {mc ms : Nat} {free : Addr → Prop} {bytes : ByteArray} {maxL : Nat} {ret : Option FieldType} {hh : List (Nat × Nat × Nat × Nat)}
    (hM : vx_Met l y ws rm Pc Qc XC mc ms free) (hblind : FrameBlind Pc) (hrc : rm.cells = mc) (hrs : rm.slots = ms)
    (hframes : rm.frames + 1 ≤ R.frames) (hlocals : W9 + (maxL + 11) + rm.locals ≤ R.locals)
    (hws : ∀ w ∈ ws, ∀ a' U, s.WarmedH U.vm → w.before a' U = true) (hcode : Cond.codeWith y bytes maxL ret hh ∈ ws) (hinit : ∀ a' U, s.WarmedH U.vm → (Cond.initialized y.cls).before a' U = true) :
    vx_Back l R p e below s sargs y len W9 (PreOf R mc ms Pc) (PostOf Qc mc ms free) (vx_Post XC mc ms free) := by
  intro m meth c A g ig mk a X hg hsize hdg hW hn hp
  have h1 : (headSpec ws rm).pre.before a A.U = true := atoms_intro fun w hw => hws w hw _ _ X.warmed
  have h2 : (Cond.codeWith y bytes maxL ret hh).before a A.U = true := hws _ hcode _ _ X.warmed
  have h3 : (Cond.initialized y.cls).before a A.U = true := hinit _ _ X.warmed
  have h4 : A.cells + (headSpec ws rm).room.cells ≤ R.cells := by rw [show (headSpec ws rm).room.cells = mc from hrc]; exact hp.1
  have h5 : A.slots + (headSpec ws rm).room.slots ≤ R.slots := by rw [show (headSpec ws rm).room.slots = ms from hrs]; exact hp.2.1
  have hPc : Pc a (A.U.calling g mk a) := hblind _ _ _ _ hp.2.2
  obtain ⟨U, Ls, c0, s0⟩ := A
  dsimp only [Pt.U, Pt.locs, Pt.cells, Pt.slots] at h1 h2 h3 h4 h5 X hn hPc ⊢
  obtain ⟨m9, methY, cY, hn9, hmY, hcY, -, hlY, -⟩ := Cond.codeWith_spec h2
  cases Option.some.inj (hn9.symm.trans hn)
  obtain ⟨kY, hkY, -⟩ := className_of_methodNamed hn
  have hinitY : kY.init = .initialized := Cond.initialized_spec (findClass_of_methodNamed hn) hkY h3
  have h : At U g.method c below := by rw [hg]; exact X.here
  have hlocals9 : W9 + (maxL + 11) + (headSpec ws rm).room.locals ≤ R.locals := hlocals
  have happ : (headSpec ws rm).appliesLoose y e.platform (U.calling g mk a) = true :=
    Spec.appliesLoose_calling (g := g) h hdg hn hkY hinitY
      (X.room_calling (g := g) (R' := (headSpec ws rm).room) hsize hmY hcY hframes (by rw [hlY]; omega) h4 h5) h1
  obtain ⟨mid, hmid⟩ := h.above
  have hfr : (U.setTop g).frames = (.java g :: mid) ++ below := by rw [State.frames_setTop' g h.top, hmid]; rfl
  obtain ⟨o, s₂, hsteps, -, hend, hq⟩ := Steps.callFree hM p X.admits X.cas X.clock (acts := []) hfr happ hPc trivial
  have hq' : vx_Q Qc XC mc ms free a (U.calling g mk a) o s₂ := hq
  rw [State.frames_setTop' g h.top] at hend
  obtain ⟨g₀, hg0⟩ := Option.isSome_iff_exists.mp h.top
  obtain ⟨r, hr⟩ := State.topJava?_eq_some.mp hg0
  have hr' : (({ U with heap := s₂.heap, slotsUsed := s₂.slotsUsed } : State).setVm s₂.vm).frames = .java g₀ :: r := hr
  rcases hq' with ⟨hqc, L, hfe, hL⟩ | ⟨q, rfl, E, ce, L, hx, hce, hcv, hcl, hW₂, hsm, hL⟩
  · obtain ⟨⟨v, rfl⟩, hW₂, e2, q2, q3, q4, q5, q6⟩ := id hfe
    have e3 : s₂ = ({ (U.calling g mk a).setFrames s₂.frames with heap := s₂.heap, slotsUsed := s₂.slotsUsed } : State).setVm s₂.vm := by
      have : s₂ = ({ s₂ with vm := (U.calling g mk a).vm } : State).setVm s₂.vm := rfl
      rw [e2] at this
      exact this
    obtain ⟨c₂, i₂, len₂, hc₂, hd₂, hf₂⟩ := hend
    have hW' : U.WarmedH s₂.vm := hW₂
    have hcc : c₂ = c := by
      have h1 : s₂.code? g.method = U.code? g.method := by
        rw [State.code?_eq, State.code?_eq, hW'.alike.method?]
      exact Option.some.inj (hc₂.symm.trans (h1.trans h.code))
    subst hcc
    have hlen : len₂ = len := by rw [hdg] at hd₂; cases hd₂; rfl
    subst hlen
    have hs₂ : s₂ = (({ U with heap := s₂.heap, slotsUsed := s₂.slotsUsed } : State).setVm s₂.vm).setTop { g with pc := g.pc + len₂, stack := v.toList ++ g.stack } := by
      refine e3.trans ?_
      rw [hf₂, State.calling_eq h.top, State.setFrames_setFrames, State.setTop_of_frames _ hr', hr]
      rfl
    have hsame : U.sameButNew ({ U with heap := s₂.heap, slotsUsed := s₂.slotsUsed } : State) L mc ms := by
      refine ⟨?_, q2, q3, q4, q5, q6⟩
      obtain ⟨t, ht, -⟩ := State.frames_cons hr
      show ({ U with heap := s₂.heap, slotsUsed := s₂.slotsUsed } : State) = { U.setFrames U.frames with heap := s₂.heap, slotsUsed := s₂.slotsUsed }
      rw [State.setFrames_self ht]
    subst hg
    refine Or.inl ⟨v, ⟨(({ U with heap := s₂.heap, slotsUsed := s₂.slotsUsed } : State).setVm s₂.vm), Ls ++ L, c0 + mc, s0 + ms⟩,
      ⟨X.admits, X.cas, X.clock, X.frames, X.room, X.hears, X.method, X.code, (X.here.setHeapUsed s₂.heap s₂.slotsUsed).setVm hW'.alike, X.tail, State.WarmedH.trans X.warmed hW', X.limits, X.bytes, X.same.trans (hsame.setVm s.vm)⟩,
      ⟨g, mk, s₂, L, rfl, rfl, hqc, rfl, hL, rfl, rfl⟩, ?_⟩
    show Steps p.tables e below _ ((({ U with heap := s₂.heap, slotsUsed := s₂.slotsUsed } : State).setVm s₂.vm).setTop { g with pc := g.pc + len₂, stack := v.toList ++ g.stack })
    rw [← hs₂]
    exact hsteps
  · obtain ⟨e2, q2, q3, q4, q5, q6⟩ := id hsm
    have e3 : s₂ = ({ (U.calling g mk a).setFrames s₂.frames with heap := s₂.heap, slotsUsed := s₂.slotsUsed } : State).setVm s₂.vm := by
      have : s₂ = ({ s₂ with vm := (U.calling g mk a).vm } : State).setVm s₂.vm := rfl
      rw [e2] at this
      exact this
    have hf₂ : s₂.frames = .throwing q :: .java g :: U.frames.tail := hend
    have hW' : U.WarmedH s₂.vm := hW₂
    have hs₂ : s₂ = ((({ U with heap := s₂.heap, slotsUsed := s₂.slotsUsed } : State).setVm s₂.vm).setTop g).pushFrame (.throwing q) := by
      refine e3.trans ?_
      rw [hf₂, State.calling_eq h.top, State.setFrames_setFrames, State.pushFrame, State.frames_setTop _ hr', State.setTop_of_frames _ hr', State.setFrames_setFrames, hr]
      rfl
    have hsame : U.sameButNew ({ U with heap := s₂.heap, slotsUsed := s₂.slotsUsed } : State) L mc ms := by
      refine ⟨?_, q2, q3, q4, q5, q6⟩
      obtain ⟨t, ht, -⟩ := State.frames_cons hr
      show ({ U with heap := s₂.heap, slotsUsed := s₂.slotsUsed } : State) = { U.setFrames U.frames with heap := s₂.heap, slotsUsed := s₂.slotsUsed }
      rw [State.setFrames_self ht]
    subst hg
    refine Or.inr ⟨q, ⟨(({ U with heap := s₂.heap, slotsUsed := s₂.slotsUsed } : State).setVm s₂.vm), Ls ++ L, c0 + mc, s0 + ms⟩,
      ⟨X.admits, X.cas, X.clock, X.frames, X.room, X.hears, X.method, X.code, (X.here.setHeapUsed s₂.heap s₂.slotsUsed).setVm hW'.alike, X.tail, State.WarmedH.trans X.warmed hW', X.limits, X.bytes, X.same.trans (hsame.setVm s.vm)⟩,
      ⟨g, mk, s₂, L, E, ce, rfl, rfl, hx, hce, hcv, hcl, rfl, hL, rfl, rfl⟩, ?_⟩
    show Steps p.tables e below _ (((({ U with heap := s₂.heap, slotsUsed := s₂.slotsUsed } : State).setVm s₂.vm).setTop g).pushFrame (.throwing q))
    rw [← hs₂]
    exact hsteps
end
variable {p : Program} {l : Launch} {e : Env} {R : Room} {s : State} {m : MethodId} {args : Array Value} {below : List Frame} {meth : Method} {c : Code} {T : State} {H : Heap} {locs : List Loc} {cells slots : Nat}
theorem vx_callVX (X : Stand p l e R s m args below meth c T locs cells slots) (hexec : p.tables.exec = Jvm.exec) {own C : String} {index : Nat} {y : MethodName} {bytes : ByteArray} {maxL : Nat} {ret : Option FieldType} {hh : List (Nat × Nat × Nat × Nat)}
    (hown : s.vm.findClass own = some m.cls) (hlink : (Cond.methodLink own index y).before args s = true) (hinst : (Cond.instanceMethod y).before args s = true) (hsel : (Cond.selects C y y).before args s = true)
    (hcode : (Cond.codeWith y bytes maxL ret hh).before args s = true) (hy : y.cls ≠ "java/lang/invoke/MethodHandle" ∧ y.cls ≠ "java/lang/invoke/VarHandle")
    {W9 : Nat} {Pre : Pt → Array Value → Prop} {Post : Pt → Array Value → Option Value → Pt → Prop} {PostX : Pt → Array Value → Addr → Pt → Prop} (hK : vx_Back l R p e below s args y 3 W9 Pre Post PostX)
    {b : Addr} {cellB : Cell} (hcell : T.heap[b]? = some cellB) (hobj : cellB.vm.isStatics = false) (hcls : s.vm.findClass C = some cellB.cls)
    {g : JFrame} (hg : g.method = m) (hsize : g.locals.size = c.maxLocals) {argsL rest : List Value} (hlen : ∀ sig, parseMethodDescriptor y.desc = some sig → argsL.length = sig.parameters.length)
    (hstack : g.stack = argsL.reverse ++ .ref b :: rest) (hW : 2 * g.monitorRoom + (rest.map fun v => v.category).sum ≤ W9) (hdg : decode c.code g.pc = .ok (.invokevirtual index, 3))
    (hpre : ∀ vm₁, s.WarmedH vm₁ → Pre ⟨T.setVm vm₁, locs, cells, slots⟩ (Value.ref b :: argsL).toArray) :
    (∃ (v : Option Value) (vm₁ : Vm) (B : Pt), s.WarmedH vm₁ ∧ Stand p l e R s m args below meth c B.U B.locs B.cells B.slots ∧ Post ⟨T.setVm vm₁, locs, cells, slots⟩ (Value.ref b :: argsL).toArray v B ∧
      ∀ target, Steps p.tables e below (B.U.setTop { g with pc := g.pc + 3, stack := v.toList ++ rest }) target → Steps p.tables e below (T.setTop g) target) ∨
    (∃ (q : Addr) (vm₁ : Vm) (B : Pt), s.WarmedH vm₁ ∧ Stand p l e R s m args below meth c B.U B.locs B.cells B.slots ∧ PostX ⟨T.setVm vm₁, locs, cells, slots⟩ (Value.ref b :: argsL).toArray q B ∧
      Steps p.tables e below (T.setTop g) ((B.U.setTop { g with stack := rest }).pushFrame (.throwing q))) := by
  obtain ⟨mk, methM, hnamed, hmethM, hstM, habM⟩ := Cond.instanceMethod_spec hinst
  obtain ⟨m8, methM', cM, hn8, hmethM', -, -, -, -, -, -, hsigM⟩ := Cond.codeWith_spec hcode
  cases Option.some.inj (hn8.symm.trans hnamed)
  cases hmethM.symm.trans hmethM'
  obtain ⟨c2, r2, m2, q1, q2, q3, q4, kP, hkP, hkPi⟩ := Cond.selects_spec hsel
  cases hcls.symm.trans q1
  cases (State.methodFound?_of_named hnamed hy).symm.trans q2
  cases hnamed.symm.trans q3
  have hselP : selectMethod e.platform s.vm cellB.cls mk = .method mk := by rw [Launch.admits_selectMethod X.admits]; exact q4
  obtain ⟨vm₁, X₁, hstep₁⟩ := X.invokevirtual hexec hown hlink hnamed hmethM hstM hkP hkPi hy (a := b) (cell := cellB) hcell
    (fun z h => by rw [h] at hobj; cases hobj) hselP hmethM habM hkP hkPi (g := g) hg (argsL := argsL) (rest := rest) (hlen _ hsigM) hstack hdg
  rcases hK m meth c ⟨T.setVm vm₁, locs, cells, slots⟩ { g with stack := rest } (.invokevirtual index) mk (Value.ref b :: argsL).toArray X₁ hg hsize hdg hW (X₁.named hnamed) (hpre vm₁ X₁.warmed) with ⟨v, B, X', hpost, hsteps⟩ | ⟨q, B, X', hpost, hsteps⟩
  · exact Or.inl ⟨v, vm₁, B, X₁.warmed, X', hpost, fun target h => hstep₁ _ fun acts => by rw [doInvoke_state]; exact hsteps.trans h⟩
  · exact Or.inr ⟨q, vm₁, B, X₁.warmed, X', hpost, hstep₁ _ fun acts => by rw [doInvoke_state]; exact hsteps⟩
theorem vx_callSX (X : Stand p l e R s m args below meth c T locs cells slots) (hexec : p.tables.exec = Jvm.exec) {own : String} {index : Nat} {y : MethodName} {bytes : ByteArray} {maxL : Nat} {ret : Option FieldType} {hh : List (Nat × Nat × Nat × Nat)}
    (hown : s.vm.findClass own = some m.cls) (hlink : (Cond.methodLink own index y).before args s = true) (hstat : (Cond.static y).before args s = true) (hinit : (Cond.initialized y.cls).before args s = true)
    (hcode : (Cond.codeWith y bytes maxL ret hh).before args s = true) (hy : y.cls ≠ "java/lang/invoke/MethodHandle" ∧ y.cls ≠ "java/lang/invoke/VarHandle")
    {W9 : Nat} {Pre : Pt → Array Value → Prop} {Post : Pt → Array Value → Option Value → Pt → Prop} {PostX : Pt → Array Value → Addr → Pt → Prop} (hK : vx_Back l R p e below s args y 3 W9 Pre Post PostX)
    {g : JFrame} (hg : g.method = m) (hsize : g.locals.size = c.maxLocals) {argsL rest : List Value} (hlen : ∀ sig, parseMethodDescriptor y.desc = some sig → argsL.length = sig.parameters.length)
    (hstack : g.stack = argsL.reverse ++ rest) (hW : 2 * g.monitorRoom + (rest.map fun v => v.category).sum ≤ W9) (hdg : decode c.code g.pc = .ok (.invokestatic index, 3))
    (hpre : ∀ vm₁, s.WarmedH vm₁ → Pre ⟨T.setVm vm₁, locs, cells, slots⟩ argsL.toArray) :
    (∃ (v : Option Value) (vm₁ : Vm) (B : Pt), s.WarmedH vm₁ ∧ Stand p l e R s m args below meth c B.U B.locs B.cells B.slots ∧ Post ⟨T.setVm vm₁, locs, cells, slots⟩ argsL.toArray v B ∧
      ∀ target, Steps p.tables e below (B.U.setTop { g with pc := g.pc + 3, stack := v.toList ++ rest }) target → Steps p.tables e below (T.setTop g) target) ∨
    (∃ (q : Addr) (vm₁ : Vm) (B : Pt), s.WarmedH vm₁ ∧ Stand p l e R s m args below meth c B.U B.locs B.cells B.slots ∧ PostX ⟨T.setVm vm₁, locs, cells, slots⟩ argsL.toArray q B ∧
      Steps p.tables e below (T.setTop g) ((B.U.setTop { g with stack := rest }).pushFrame (.throwing q))) := by
  obtain ⟨mk, methM, cM, hnamed, hmethM, -, -, -, -, -, -, hsigM⟩ := Cond.codeWith_spec hcode
  have hstatic : methM.isStatic = true := Cond.static_spec hnamed hmethM hstat
  obtain ⟨kP, hkP, -⟩ := className_of_methodNamed hnamed
  have hinitP : kP.init = .initialized := Cond.initialized_spec (findClass_of_methodNamed hnamed) hkP hinit
  obtain ⟨vm₁, X₁, hstep₁⟩ := X.invokestatic hexec hown hlink hnamed hmethM hstatic hkP hinitP hy (g := g) hg (argsL := argsL) (rest := rest) (hlen _ hsigM) hstack hdg
  rcases hK m meth c ⟨T.setVm vm₁, locs, cells, slots⟩ { g with stack := rest } (.invokestatic index) mk argsL.toArray X₁ hg hsize hdg hW (X₁.named hnamed) (hpre vm₁ X₁.warmed) with ⟨v, B, X', hpost, hsteps⟩ | ⟨q, B, X', hpost, hsteps⟩
  · exact Or.inl ⟨v, vm₁, B, X₁.warmed, X', hpost, fun target h => hstep₁ _ fun acts => by rw [doInvoke_state]; exact hsteps.trans h⟩
  · exact Or.inr ⟨q, vm₁, B, X₁.warmed, X', hpost, hstep₁ _ fun acts => by rw [doInvoke_state]; exact hsteps⟩
theorem vx_callVW (X : Stand p l e R s m args below meth c T locs cells slots) (hexec : p.tables.exec = Jvm.exec) {own C : String} {index : Nat} {y : MethodName} {bytes : ByteArray} {maxL : Nat} {ret : Option FieldType} {hh : List (Nat × Nat × Nat × Nat)}
    (hown : s.vm.findClass own = some m.cls) (hlink : (Cond.methodLink own index y).before args s = true) (hinst : (Cond.instanceMethod y).before args s = true) (hsel : (Cond.selects C y y).before args s = true)
    (hcode : (Cond.codeWith y bytes maxL ret hh).before args s = true) (hy : y.cls ≠ "java/lang/invoke/MethodHandle" ∧ y.cls ≠ "java/lang/invoke/VarHandle")
    {W9 : Nat} {Pre : Pt → Array Value → Prop} {Post : Pt → Array Value → Option Value → Pt → Prop} (hK : Back l R p e below s args y 3 W9 Pre Post)
    {b : Addr} {cellB : Cell} (hcell : T.heap[b]? = some cellB) (hobj : cellB.vm.isStatics = false) (hcls : s.vm.findClass C = some cellB.cls)
    {g : JFrame} (hg : g.method = m) (hsize : g.locals.size = c.maxLocals) {argsL rest : List Value} (hlen : ∀ sig, parseMethodDescriptor y.desc = some sig → argsL.length = sig.parameters.length)
    (hstack : g.stack = argsL.reverse ++ .ref b :: rest) (hW : 2 * g.monitorRoom + (rest.map fun v => v.category).sum ≤ W9) (hdg : decode c.code g.pc = .ok (.invokevirtual index, 3))
    (hpre : ∀ vm₁, s.WarmedH vm₁ → Pre ⟨T.setVm vm₁, locs, cells, slots⟩ (Value.ref b :: argsL).toArray) :
    ∃ (v : Option Value) (vm₁ : Vm) (B : Pt), s.WarmedH vm₁ ∧ Stand p l e R s m args below meth c B.U B.locs B.cells B.slots ∧ Post ⟨T.setVm vm₁, locs, cells, slots⟩ (Value.ref b :: argsL).toArray v B ∧
      ∀ target, Steps p.tables e below (B.U.setTop { g with pc := g.pc + 3, stack := v.toList ++ rest }) target → Steps p.tables e below (T.setTop g) target := by
  obtain ⟨mk, methM, hnamed, hmethM, hstM, habM⟩ := Cond.instanceMethod_spec hinst
  obtain ⟨m8, methM', cM, hn8, hmethM', -, -, -, -, -, -, hsigM⟩ := Cond.codeWith_spec hcode
  cases Option.some.inj (hn8.symm.trans hnamed)
  cases hmethM.symm.trans hmethM'
  obtain ⟨c2, r2, m2, q1, q2, q3, q4, kP, hkP, hkPi⟩ := Cond.selects_spec hsel
  cases hcls.symm.trans q1
  cases (State.methodFound?_of_named hnamed hy).symm.trans q2
  cases hnamed.symm.trans q3
  have hselP : selectMethod e.platform s.vm cellB.cls mk = .method mk := by rw [Launch.admits_selectMethod X.admits]; exact q4
  obtain ⟨vm₁, X₁, hstep₁⟩ := X.invokevirtual hexec hown hlink hnamed hmethM hstM hkP hkPi hy (a := b) (cell := cellB) hcell
    (fun z h => by rw [h] at hobj; cases hobj) hselP hmethM habM hkP hkPi (g := g) hg (argsL := argsL) (rest := rest) (hlen _ hsigM) hstack hdg
  obtain ⟨v, B, X', hpost, hsteps⟩ := hK m meth c ⟨T.setVm vm₁, locs, cells, slots⟩ { g with stack := rest } (.invokevirtual index) mk (Value.ref b :: argsL).toArray X₁ hg hsize hdg hW (X₁.named hnamed) (hpre vm₁ X₁.warmed)
  exact ⟨v, vm₁, B, X₁.warmed, X', hpost, fun target h => hstep₁ _ fun acts => by rw [doInvoke_state]; exact hsteps.trans h⟩
abbrev vx_CVW (R : Room) (s : State) (args : Array Value) (own C : String) (index : Nat) (y : MethodName) (bytes : ByteArray) (maxL : Nat) (ret : Option FieldType) (hh : List (Nat × Nat × Nat × Nat)) (ws : List Cond) (rm : Room) (mc ms n : Nat) : Prop :=
  (rm.cells = mc ∧ rm.slots = ms ∧ rm.frames + 1 ≤ R.frames ∧ 8 + (maxL + 11) + rm.locals ≤ R.locals ∧ (∀ w ∈ ws, ∀ (a' : Array Value) (U : State), s.WarmedH U.vm → w.before a' U = true) ∧ Cond.codeWith y bytes maxL ret hh ∈ ws) ∧
  (Cond.codeWith y bytes maxL ret hh).before args s = true ∧ (Cond.initialized y.cls).before args s = true ∧ (y.cls ≠ "java/lang/invoke/MethodHandle" ∧ y.cls ≠ "java/lang/invoke/VarHandle") ∧
  (∀ sig, parseMethodDescriptor y.desc = some sig → n = sig.parameters.length) ∧ (Cond.methodLink own index y).before args s = true ∧ (Cond.instanceMethod y).before args s = true ∧ (Cond.selects C y y).before args s = true
theorem vx_cwVW {own C : String} {index maxL mc ms : Nat} {y : MethodName} {bytes : ByteArray} {ret : Option FieldType} {hh : List (Nat × Nat × Nat × Nat)} {Ts ws ws' : List Cond} {rm : Room} (n : Nat) (ht : ∀ w ∈ Ts, w.before args s = true) (hT : GoodIn Ts (wsV own index C y ws)) (hw : ws = Cond.codeWith y bytes maxL ret hh :: ws') (hrc : rm.cells = mc) (hrs : rm.slots = ms)
    (hd : y.cls = C ∧ y.cls ≠ "java/lang/invoke/MethodHandle" ∧ y.cls ≠ "java/lang/invoke/VarHandle" ∧ (parseMethodDescriptor y.desc).map (fun d => d.parameters.length) = some n) (hR : rm.frames + 1 ≤ R.frames ∧ 8 + (maxL + 11) + rm.locals ≤ R.locals) :
    vx_CVW R s args own C index y bytes maxL ret hh ws rm mc ms n := by
  obtain ⟨hC, hd⟩ := hd
  subst hC
  have ok : ∀ w ∈ wsV own index y.cls y ws, w.before args s = true := fun w h => ht w (hT w h).1
  have hG : GoodIn Ts ws := fun w h => hT w (by unfold wsV; exact List.mem_append_right _ h)
  have hc : Cond.codeWith y bytes maxL ret hh ∈ ws := by rw [hw]; exact List.mem_cons_self
  refine ⟨⟨hrc, hrs, hR.1, hR.2, pay_in ht hG, hc⟩, ht _ (hG _ hc).1, ok _ (by simp [wsV]), ⟨hd.1, hd.2.1⟩, fun sig h => ?_, ok _ (by simp [wsV]), ok _ (by simp [wsV]), ok _ (by simp [wsV])⟩
  have h2 := hd.2.2
  rw [h] at h2
  exact (Option.some.inj h2).symm
theorem vx_runVW {y : MethodName} {bytes cc : ByteArray} {maxL nL mc ms n index : Nat} {ret : Option FieldType} {hh : List (Nat × Nat × Nat × Nat)} {ws : List Cond} {rm : Room} {Pc : Array Value → State → Prop} {Qc : Array Value → State → Outcome → State → Prop} {free : Addr → Prop} {Ts : List Cond} {own C : String} {b : Addr} {As rest : List Value} {g : JFrame}
    (S : CallFix p m c cc nL s args Ts own) (hM : Met l y ws rm Pc Qc mc ms free) (cw : vx_CVW R s args own C index y bytes maxL ret hh ws rm mc ms n) (hp : PreV s H C b Pc As)
    (hg : g.method = m) (hn : As.length = n) (hsize : g.locals.size = nL) (hstack : g.stack = As.reverse ++ .ref b :: rest) (hW : 2 * g.monitorRoom + (rest.map fun v => v.category).sum ≤ 8) (hdg : decode cc g.pc = .ok (.invokevirtual index, 3)) (hf : cells + mc ≤ R.cells ∧ slots + ms ≤ R.slots) :
    va_Run p l e R s m args below meth c H locs cells slots mc ms g rest (Qc (Value.ref b :: As).toArray) free := by
  obtain ⟨⟨hrc, hrs, hfr, hlo, hws, hcw⟩, hcode, hini, hy, hlen, hl, hin, hse⟩ := cw
  have hK : Back l R p e below s args y 3 8 (PreOf R mc ms Pc) (PostOf Qc mc ms free) := va_backW (hh := hh) (bytes := bytes) (maxL := maxL) (ret := ret) hM hp.1 hrc hrs hfr hlo hws hcw (fun a' U hW => word_at hW (Or.inl (by first | rfl | simp [Cond.onTables, Cond.keeps, Cond.steady])) hini)
  obtain ⟨hx, hb, hml, ho, -⟩ := S
  obtain ⟨-, ⟨cellB, hcB, hoB, hclB⟩, hPc⟩ := hp
  intro T hT X
  obtain ⟨v, vm₁, ⟨U', l2, c2, s2⟩, hW₁, X', ⟨g', mk, t, L, e1, e2, hq, h1, hL, h2, h3⟩, st⟩ := vx_callVW X hx (C := C) (hh := hh) (bytes := bytes) (maxL := maxL) (ret := ret) ho hl hin hse hcode hy hK (by rw [hT]; exact hcB) hoB hclB hg (hsize.trans hml.symm) (argsL := As) (rest := rest) (fun sig h => hn.trans (hlen sig h)) hstack hW (by rw [hb]; exact hdg)
    (fun vm₁ hW₁ => ⟨hf.1, hf.2, hPc (T.setVm vm₁) hT hW₁⟩)
  dsimp only [Pt.U, Pt.locs, Pt.cells, Pt.slots] at X' e1 e2 h1 h2 h3 st
  subst h1; subst h2; subst h3
  exact ⟨v, (T.setVm vm₁).calling g' mk (Value.ref b :: As).toArray, t, U', L, hT, X', hL, e1, e2, hq, st⟩
section
variable {y : MethodName} {bytes cc : ByteArray} {maxL nL mc ms n index : Nat} {ret : Option FieldType} {ws : List Cond} {rm : Room} {Pc : Array Value → State → Prop} {Qc : Array Value → State → Outcome → State → Prop} {XC : String → State → State → Prop} {free : Addr → Prop} {Ts : List Cond} {own C : String} {b : Addr} {As rest : List Value} {g : JFrame}
theorem vx_runVX {hh : List (Nat × Nat × Nat × Nat)} (S : CallFix p m c cc nL s args Ts own) (hM : vx_Met l y ws rm Pc Qc XC mc ms free) (cw : vx_CVW R s args own C index y bytes maxL ret hh ws rm mc ms n) (hp : PreV s H C b Pc As)
    (hg : g.method = m) (hn : As.length = n) (hsize : g.locals.size = nL) (hstack : g.stack = As.reverse ++ .ref b :: rest) (hW : 2 * g.monitorRoom + (rest.map fun v => v.category).sum ≤ 8) (hdg : decode cc g.pc = .ok (.invokevirtual index, 3)) (hf : cells + mc ≤ R.cells ∧ slots + ms ≤ R.slots) :
    vx_Run p l e R s m args below meth c H locs cells slots mc ms g rest (Qc (Value.ref b :: As).toArray) XC free := by
  obtain ⟨⟨hrc, hrs, hfr, hlo, hws, hcw⟩, hcode, hini, hy, hlen, hl, hin, hse⟩ := cw
  have hK : vx_Back l R p e below s args y 3 8 (PreOf R mc ms Pc) (PostOf Qc mc ms free) (vx_Post XC mc ms free) := vx_backW (hh := hh) (bytes := bytes) (maxL := maxL) (ret := ret) hM hp.1 hrc hrs hfr hlo hws hcw (fun a' U hW => word_at hW (Or.inl (by first | rfl | simp [Cond.onTables, Cond.keeps, Cond.steady])) hini)
  obtain ⟨hx, hb, hml, ho, -⟩ := S
  obtain ⟨-, ⟨cellB, hcB, hoB, hclB⟩, hPc⟩ := hp
  intro T hT X
  rcases vx_callVX X hx (C := C) (hh := hh) (bytes := bytes) (maxL := maxL) (ret := ret) ho hl hin hse hcode hy hK (by rw [hT]; exact hcB) hoB hclB hg (hsize.trans hml.symm) (argsL := As) (rest := rest) (fun sig h => hn.trans (hlen sig h)) hstack hW (by rw [hb]; exact hdg)
    (fun vm₁ hW₁ => ⟨hf.1, hf.2, hPc (T.setVm vm₁) hT hW₁⟩) with ⟨v, vm₁, ⟨U', l2, c2, s2⟩, hW₁, X', ⟨g', mk, t, L, e1, e2, hq, h1, hL, h2, h3⟩, st⟩ | ⟨q, vm₁, ⟨U', l2, c2, s2⟩, hW₁, X', ⟨g', mk, t, L, E, ce, e1, e2, hq, hce, hcv, hcl, h1, hL, h2, h3⟩, st⟩
  · dsimp only [Pt.U, Pt.locs, Pt.cells, Pt.slots] at X' e1 e2 h1 h2 h3 st
    subst h1; subst h2; subst h3
    exact Or.inl ⟨v, (T.setVm vm₁).calling g' mk (Value.ref b :: As).toArray, t, U', L, hT, X', hL, e1, e2, hq, st⟩
  · dsimp only [Pt.U, Pt.locs, Pt.cells, Pt.slots] at X' e1 e2 h1 h2 h3 st hcl
    subst h1; subst h2; subst h3
    exact Or.inr ⟨q, (T.setVm vm₁).calling g' mk (Value.ref b :: As).toArray, t, U', L, E, ce, hT, X', hL, e1, e2, hq, hce, hcv, vx_cls hW₁ hcl, st⟩
theorem vx_runSX {hh : List (Nat × Nat × Nat × Nat)} (S : CallFix p m c cc nL s args Ts own) (hM : vx_Met l y ws rm Pc Qc XC mc ms free) (cw : vx_CSW R s args own index y bytes maxL ret hh ws rm mc ms n) (hp : PreS s H Pc As)
    (hg : g.method = m) (hn : As.length = n) (hsize : g.locals.size = nL) (hstack : g.stack = As.reverse ++ rest) (hW : 2 * g.monitorRoom + (rest.map fun v => v.category).sum ≤ 8) (hdg : decode cc g.pc = .ok (.invokestatic index, 3)) (hf : cells + mc ≤ R.cells ∧ slots + ms ≤ R.slots) :
    vx_Run p l e R s m args below meth c H locs cells slots mc ms g rest (Qc As.toArray) XC free := by
  obtain ⟨⟨hrc, hrs, hfr, hlo, hws, hcw⟩, hcode, hini, hy, hlen, hl, hstt⟩ := cw
  have hK : vx_Back l R p e below s args y 3 8 (PreOf R mc ms Pc) (PostOf Qc mc ms free) (vx_Post XC mc ms free) := vx_backW (hh := hh) (bytes := bytes) (maxL := maxL) (ret := ret) hM hp.1 hrc hrs hfr hlo hws hcw (fun a' U hW => word_at hW (Or.inl (by first | rfl | simp [Cond.onTables, Cond.keeps, Cond.steady])) hini)
  obtain ⟨hx, hb, hml, ho, -⟩ := S
  intro T hT X
  rcases vx_callSX X hx (hh := hh) (bytes := bytes) (maxL := maxL) (ret := ret) ho hl hstt hini hcode hy hK hg (hsize.trans hml.symm) (argsL := As) (rest := rest) (fun sig h => hn.trans (hlen sig h)) hstack hW (by rw [hb]; exact hdg)
    (fun vm₁ hW₁ => ⟨hf.1, hf.2, hp.2 (T.setVm vm₁) hT hW₁⟩) with ⟨v, vm₁, ⟨U', l2, c2, s2⟩, hW₁, X', ⟨g', mk, t, L, e1, e2, hq, h1, hL, h2, h3⟩, st⟩ | ⟨q, vm₁, ⟨U', l2, c2, s2⟩, hW₁, X', ⟨g', mk, t, L, E, ce, e1, e2, hq, hce, hcv, hcl, h1, hL, h2, h3⟩, st⟩
  · dsimp only [Pt.U, Pt.locs, Pt.cells, Pt.slots] at X' e1 e2 h1 h2 h3 st
    subst h1; subst h2; subst h3
    exact Or.inl ⟨v, (T.setVm vm₁).calling g' mk As.toArray, t, U', L, hT, X', hL, e1, e2, hq, st⟩
  · dsimp only [Pt.U, Pt.locs, Pt.cells, Pt.slots] at X' e1 e2 h1 h2 h3 st hcl
    subst h1; subst h2; subst h3
    exact Or.inr ⟨q, (T.setVm vm₁).calling g' mk As.toArray, t, U', L, E, ce, hT, X', hL, e1, e2, hq, hce, hcv, vx_cls hW₁ hcl, st⟩
end
end VXH
theorem vx_ofWH {l : Launch} {y : MethodName} {ws ws' : List Cond} {rm : Room} {Pc : Array Value → State → Prop} {Qc : Array Value → State → Outcome → State → Prop} {XC : String → State → State → Prop} {mc ms : Nat} {free : Addr → Prop} {cc : ByteArray} {maxL : Nat} {ret : Option FieldType} {hh : List (Nat × Nat × Nat × Nat)}
    (hy : plainName y.cls = true) (hw : ws = Cond.codeWith y cc maxL ret hh :: ws')
    (body : ∀ p e s m args below meth c s₁, BodyLoose p l y (headSpec ws rm) cc maxL ret e s m args below meth c s₁ → c.maxLocals = maxL → Pc args s →
      W p l e (headSpec ws rm).room s m args below meth c s.heap [] 0 0 (vx_MQ below Qc XC args s mc ms free) (entryFrame m args maxL)) : vx_Met l y ws rm Pc Qc XC mc ms free := by
  refine MetFree.of_bodyS (code := cc) (maxLocals := maxL) (ret := ret) hy ?_ ?_
  · intro args s m h hn
    obtain ⟨m9, meth, c, hn9, h1, h2, h3, h4, -, h5, h6, -⟩ := Cond.codeWith_spec (atoms_spec (ws := ws) h _ (by rw [hw]; exact List.mem_cons_self))
    cases hn.symm.trans hn9
    exact ⟨meth, c, h1, h2, h3, h4, h5, h6⟩
  · intro p e s m args below meth c s₁ B hml hP _
    have hh0 : s₁.heap = s.heap := by rw [B.state]; rfl
    obtain ⟨t, a1, o, b1, b2, b3⟩ := body p e s m args below meth c s₁ B hml hP s₁ hh0 (Stand.of_body B)
    exact ⟨t, o, a1, b1, b2, b3⟩
/-! ===== END ===== -/
end
section
def RX0 : String := "AirStation$Compressor"
def TX0 : u_T := fun k => match k with
  | 0 => ("AirStation$Compressor", "capacity", "I", false)
  | 1 => ("AirStation$Compressor", "mode", "I", false)
  | 2 => ("AirStation$Compressor", "stage", "I", false)
  | 3 => ("AirStation$Compressor", "loadedMinutes", "I", false)
  | 4 => ("AirStation$Compressor", "unloadedMinutes", "I", false)
  | 5 => ("AirStation$Compressor", "timer", "I", false)
  | 6 => ("AirStation$Compressor", "rest", "I", false)
  | _ => ("AirStation$Compressor", "starts", "I", false)
def tyX0 : Nat → FieldType := fun k => match k with
  | 0 => .int
  | 1 => .int
  | 2 => .int
  | 3 => .int
  | 4 => .int
  | 5 => .int
  | 6 => .int
  | _ => .int
abbrev wsX00 : List Cond := u_ws RX0 TX0 8
theorem nmX0 : ∀ a, a < 8 → ∀ b, b < 8 → a ≠ b → (TX0 a).2.1 ≠ (TX0 b).2.1 := by decide +kernel
theorem tyX0_ok : ∀ k, k < 8 → parseFieldDescriptor (TX0 k).2.2.1 = some (tyX0 k) := by decide +kernel
abbrev cX0_init : ByteArray := prog_2_method_1_code
def yX0_init : MethodName := ⟨RX0, "<init>", "()V"⟩
abbrev cX0_takeOver : ByteArray := prog_2_method_2_code
def yX0_takeOver : MethodName := ⟨RX0, "takeOver", "(LAirStation$Compressor;)V"⟩
abbrev cX0_begin : ByteArray := prog_2_method_3_code
def yX0_begin : MethodName := ⟨RX0, "begin", "(II)V"⟩
abbrev cX0_load : ByteArray := prog_2_method_4_code
def yX0_load : MethodName := ⟨RX0, "load", "()V"⟩
abbrev cX0_unload : ByteArray := prog_2_method_5_code
def yX0_unload : MethodName := ⟨RX0, "unload", "()V"⟩
abbrev cX0_stop : ByteArray := prog_2_method_6_code
def yX0_stop : MethodName := ⟨RX0, "stop", "(I)V"⟩
abbrev cX0_fail : ByteArray := prog_2_method_7_code
def yX0_fail : MethodName := ⟨RX0, "fail", "()V"⟩
abbrev cX0_carryOn : ByteArray := prog_2_method_8_code
def yX0_carryOn : MethodName := ⟨RX0, "carryOn", "(II)V"⟩
def RX1 : String := "AirStation$History"
def TX1 : u_T := fun k => match k with
  | 0 => ("AirStation$History", "kept", "I", false)
  | 1 => ("AirStation$History", "newest", "I", false)
  | _ => ("AirStation$History", "saved", "[LAirStation$State;", true)
def tyX1 : Nat → FieldType := fun k => match k with
  | 0 => .int
  | 1 => .int
  | _ => .array (.object "AirStation$State")
abbrev wsX10 : List Cond := u_ws RX1 TX1 3
theorem nmX1 : ∀ a, a < 3 → ∀ b, b < 3 → a ≠ b → (TX1 a).2.1 ≠ (TX1 b).2.1 := by decide +kernel
theorem tyX1_ok : ∀ k, k < 3 → parseFieldDescriptor (TX1 k).2.2.1 = some (tyX1 k) := by decide +kernel
abbrev cX1_init : ByteArray := prog_3_method_1_code
def yX1_init : MethodName := ⟨RX1, "<init>", "()V"⟩
abbrev cX1_save : ByteArray := prog_3_method_2_code
def yX1_save : MethodName := ⟨RX1, "save", "(LAirStation$State;)V"⟩
abbrev cX1_restore : ByteArray := prog_3_method_3_code
def yX1_restore : MethodName := ⟨RX1, "restore", "(LAirStation$State;)V"⟩
abbrev cX1_savedAt : ByteArray := prog_3_method_4_code
def yX1_savedAt : MethodName := ⟨RX1, "savedAt", "(I)LAirStation$State;"⟩
def RX2 : String := "AirStation$Program"
def TX2 : u_T := fun k => match k with
  | 0 => ("AirStation$Program", "length", "I", false)
  | 1 => ("AirStation$Program", "orders", "I", false)
  | 2 => ("AirStation$Program", "position", "I", false)
  | 3 => ("AirStation$Program", "error", "I", false)
  | 4 => ("AirStation$Program", "bytes", "[I", true)
  | 5 => ("AirStation$Program", "kinds", "[I", true)
  | _ => ("AirStation$Program", "numbers", "[I", true)
def tyX2 : Nat → FieldType := fun k => match k with
  | 0 => .int
  | 1 => .int
  | 2 => .int
  | 3 => .int
  | 4 => .array .int
  | 5 => .array .int
  | _ => .array .int
abbrev wsX20 : List Cond := u_ws RX2 TX2 7
theorem nmX2 : ∀ a, a < 7 → ∀ b, b < 7 → a ≠ b → (TX2 a).2.1 ≠ (TX2 b).2.1 := by decide +kernel
theorem tyX2_ok : ∀ k, k < 7 → parseFieldDescriptor (TX2 k).2.2.1 = some (tyX2 k) := by decide +kernel
abbrev cX2_init : ByteArray := prog_4_method_1_code
def yX2_init : MethodName := ⟨RX2, "<init>", "()V"⟩
def RX3 : String := "AirStation$State"
def TX3 : u_T := fun k => match k with
  | 0 => ("AirStation$State", "volume", "I", false)
  | 1 => ("AirStation$State", "air", "I", false)
  | 2 => ("AirStation$State", "time", "I", false)
  | 3 => ("AirStation$State", "sinceRotation", "I", false)
  | 4 => ("AirStation$State", "rotations", "I", false)
  | 5 => ("AirStation$State", "count", "I", false)
  | 6 => ("AirStation$State", "kept", "I", false)
  | 7 => ("AirStation$State", "settings", "[I", true)
  | 8 => ("AirStation$State", "amounts", "[J", true)
  | 9 => ("AirStation$State", "results", "[I", true)
  | _ => ("AirStation$State", "compressors", "[LAirStation$Compressor;", true)
def tyX3 : Nat → FieldType := fun k => match k with
  | 0 => .int
  | 1 => .int
  | 2 => .int
  | 3 => .int
  | 4 => .int
  | 5 => .int
  | 6 => .int
  | 7 => .array .int
  | 8 => .array .long
  | 9 => .array .int
  | _ => .array (.object "AirStation$Compressor")
abbrev wsX30 : List Cond := u_ws RX3 TX3 11
theorem nmX3 : ∀ a, a < 11 → ∀ b, b < 11 → a ≠ b → (TX3 a).2.1 ≠ (TX3 b).2.1 := by decide +kernel
theorem tyX3_ok : ∀ k, k < 11 → parseFieldDescriptor (TX3 k).2.2.1 = some (tyX3 k) := by decide +kernel
abbrev cX3_init : ByteArray := prog_5_method_1_code
def yX3_init : MethodName := ⟨RX3, "<init>", "()V"⟩
abbrev cX3_takeOver : ByteArray := prog_5_method_2_code
def yX3_takeOver : MethodName := ⟨RX3, "takeOver", "(LAirStation$State;)V"⟩
abbrev cX3_numbered : ByteArray := prog_5_method_3_code
def yX3_numbered : MethodName := ⟨RX3, "numbered", "(I)LAirStation$Compressor;"⟩
abbrev cX3_install : ByteArray := prog_5_method_4_code
def yX3_install : MethodName := ⟨RX3, "install", "(I)I"⟩
abbrev cX3_pressure : ByteArray := prog_5_method_5_code
def yX3_pressure : MethodName := ⟨RX3, "pressure", "()I"⟩
abbrev cX3_leakAt : ByteArray := prog_5_method_6_code
def yX3_leakAt : MethodName := ⟨RX3, "leakAt", "(I)I"⟩
abbrev cX3_limitForLoading : ByteArray := prog_5_method_7_code
def yX3_limitForLoading : MethodName := ⟨RX3, "limitForLoading", "(LAirStation$Compressor;)I"⟩
abbrev cX3_limitForUnloading : ByteArray := prog_5_method_8_code
def yX3_limitForUnloading : MethodName := ⟨RX3, "limitForUnloading", "(LAirStation$Compressor;)I"⟩
abbrev cX3_hasTimeFor : ByteArray := prog_5_method_9_code
def yX3_hasTimeFor : MethodName := ⟨RX3, "hasTimeFor", "(I)Z"⟩
abbrev cX3_numberOf : ByteArray := prog_5_method_10_code
def yX3_numberOf : MethodName := ⟨RX3, "numberOf", "(I)I"⟩
abbrev cX3_numberAbout : ByteArray := prog_5_method_11_code
def yX3_numberAbout : MethodName := ⟨RX3, "numberAbout", "(LAirStation$Compressor;I)I"⟩
abbrev cX3_countOf : ByteArray := prog_5_method_12_code
def yX3_countOf : MethodName := ⟨RX3, "countOf", "(I)I"⟩
abbrev cX3_capacityOf : ByteArray := prog_5_method_13_code
def yX3_capacityOf : MethodName := ⟨RX3, "capacityOf", "(I)I"⟩
abbrev cX3_numberAtStage : ByteArray := prog_5_method_16_code
def yX3_numberAtStage : MethodName := ⟨RX3, "numberAtStage", "(I)I"⟩
abbrev cX3_reorder : ByteArray := prog_5_method_17_code
def yX3_reorder : MethodName := ⟨RX3, "reorder", "()I"⟩
abbrev cX3_stageByMinutes : ByteArray := prog_5_method_18_code
def yX3_stageByMinutes : MethodName := ⟨RX3, "stageByMinutes", "(II)I"⟩
abbrev cX3_runMinutes : ByteArray := prog_5_method_21_code
def yX3_runMinutes : MethodName := ⟨RX3, "runMinutes", "(I)V"⟩
abbrev cX3_runMinute : ByteArray := prog_5_method_22_code
def yX3_runMinute : MethodName := ⟨RX3, "runMinute", "()Z"⟩
abbrev cX3_runLeakTest : ByteArray := prog_5_method_23_code
def yX3_runLeakTest : MethodName := ⟨RX3, "runLeakTest", "(I)I"⟩
abbrev cX3_unloadAll : ByteArray := prog_5_method_24_code
def yX3_unloadAll : MethodName := ⟨RX3, "unloadAll", "()V"⟩
abbrev cX3_keepResult : ByteArray := prog_5_method_25_code
def yX3_keepResult : MethodName := ⟨RX3, "keepResult", "(I)V"⟩
abbrev cX3_lookAtAll : ByteArray := prog_5_method_26_code
def yX3_lookAtAll : MethodName := ⟨RX3, "lookAtAll", "(I)Z"⟩
abbrev cX3_doingOf : ByteArray := prog_5_method_27_code
def yX3_doingOf : MethodName := ⟨RX3, "doingOf", "(LAirStation$Compressor;I)I"⟩
abbrev cX3_runFlows : ByteArray := prog_5_method_28_code
def yX3_runFlows : MethodName := ⟨RX3, "runFlows", "(II)I"⟩
abbrev cX3_runCompressors : ByteArray := prog_5_method_29_code
def yX3_runCompressors : MethodName := ⟨RX3, "runCompressors", "()V"⟩
abbrev cX3_blowOff : ByteArray := prog_5_method_30_code
def yX3_blowOff : MethodName := ⟨RX3, "blowOff", "()V"⟩
def RX4 : String := "AirStation"
def TX4 : u_T := fun k => match k with
  | 0 => ("AirStation", "state", "LAirStation$State;", true)
  | 1 => ("AirStation", "trial", "LAirStation$State;", true)
  | 2 => ("AirStation", "history", "LAirStation$History;", true)
  | _ => ("AirStation", "program", "LAirStation$Program;", true)
def tyX4 : Nat → FieldType := fun k => match k with
  | 0 => .object "AirStation$State"
  | 1 => .object "AirStation$State"
  | 2 => .object "AirStation$History"
  | _ => .object "AirStation$Program"
abbrev wsX40 : List Cond := u_ws RX4 TX4 4
theorem nmX4 : ∀ a, a < 4 → ∀ b, b < 4 → a ≠ b → (TX4 a).2.1 ≠ (TX4 b).2.1 := by decide +kernel
theorem tyX4_ok : ∀ k, k < 4 → parseFieldDescriptor (TX4 k).2.2.1 = some (tyX4 k) := by decide +kernel
abbrev cX4_init : ByteArray := prog_1_method_1_code
def yX4_init : MethodName := ⟨RX4, "<init>", "()V"⟩
abbrev cX4_set : ByteArray := prog_1_method_3_code
def yX4_set : MethodName := ⟨RX4, "set", "(II)I"⟩
abbrev cX4_addCompressor : ByteArray := prog_1_method_4_code
def yX4_addCompressor : MethodName := ⟨RX4, "addCompressor", "(I)I"⟩
abbrev cX4_trip : ByteArray := prog_1_method_5_code
def yX4_trip : MethodName := ⟨RX4, "trip", "(I)I"⟩
abbrev cX4_clear : ByteArray := prog_1_method_6_code
def yX4_clear : MethodName := ⟨RX4, "clear", "(I)I"⟩
abbrev cX4_rotate : ByteArray := prog_1_method_7_code
def yX4_rotate : MethodName := ⟨RX4, "rotate", "()I"⟩
abbrev cX4_pass : ByteArray := prog_1_method_8_code
def yX4_pass : MethodName := ⟨RX4, "pass", "(I)I"⟩
abbrev cX4_leakTest : ByteArray := prog_1_method_9_code
def yX4_leakTest : MethodName := ⟨RX4, "leakTest", "(I)I"⟩
abbrev cX4_compressor : ByteArray := prog_1_method_10_code
def yX4_compressor : MethodName := ⟨RX4, "compressor", "(II)I"⟩
abbrev cX4_atStage : ByteArray := prog_1_method_11_code
def yX4_atStage : MethodName := ⟨RX4, "atStage", "(I)I"⟩
abbrev cX4_value : ByteArray := prog_1_method_12_code
def yX4_value : MethodName := ⟨RX4, "value", "(I)I"⟩
abbrev cX4_setting : ByteArray := prog_1_method_13_code
def yX4_setting : MethodName := ⟨RX4, "setting", "(I)I"⟩
abbrev cX4_booked : ByteArray := prog_1_method_14_code
def yX4_booked : MethodName := ⟨RX4, "booked", "(I)J"⟩
abbrev cX4_next : ByteArray := prog_1_method_16_code
def yX4_next : MethodName := ⟨RX4, "next", "(I)I"⟩
abbrev cX4_minutesToLoad : ByteArray := prog_1_method_18_code
def yX4_minutesToLoad : MethodName := ⟨RX4, "minutesToLoad", "()I"⟩
abbrev cX4_undo : ByteArray := prog_1_method_26_code
def yX4_undo : MethodName := ⟨RX4, "undo", "()I"⟩
abbrev cX4_digest : ByteArray := prog_1_method_27_code
def yX4_digest : MethodName := ⟨RX4, "digest", "()J"⟩
abbrev cX4_digestWith : ByteArray := prog_1_method_28_code
def yX4_digestWith : MethodName := ⟨RX4, "digestWith", "(JLAirStation$Compressor;)J"⟩
abbrev cX4_isWithin : ByteArray := prog_1_method_30_code
def yX4_isWithin : MethodName := ⟨RX4, "isWithin", "(III)Z"⟩
abbrev cX4_pressureOf : ByteArray := prog_1_method_31_code
def yX4_pressureOf : MethodName := ⟨RX4, "pressureOf", "(II)I"⟩
def RX5 : String := "AirStationModel"
def TX5 : u_T := fun k => match k with
  | _ => ("", "", "", false)
def tyX5 : Nat → FieldType := fun k => match k with
  | _ => .int
abbrev wsX50 : List Cond := u_ws RX5 TX5 0
theorem nmX5 : ∀ a, a < 0 → ∀ b, b < 0 → a ≠ b → (TX5 a).2.1 ≠ (TX5 b).2.1 := by decide +kernel
theorem tyX5_ok : ∀ k, k < 0 → parseFieldDescriptor (TX5 k).2.2.1 = some (tyX5 k) := by decide +kernel
def RJ9 : String := "java/lang/Math"
def TJ9 : u_T := fun k => match k with
  | _ => ("", "", "", false)
def tyJ9 : Nat → FieldType := fun k => match k with
  | _ => .int
abbrev wsJ90 : List Cond := u_ws RJ9 TJ9 0
theorem nmJ9 : ∀ a, a < 0 → ∀ b, b < 0 → a ≠ b → (TJ9 a).2.1 ≠ (TJ9 b).2.1 := by decide +kernel
theorem tyJ9_ok : ∀ k, k < 0 → parseFieldDescriptor (TJ9 k).2.2.1 = some (tyJ9 k) := by decide +kernel
abbrev cJ9_max_7cf53 : ByteArray := prog_12_method_65_code
def yJ9_max_7cf53 : MethodName := ⟨RJ9, "max", "(II)I"⟩
abbrev cJ9_min_7cf53 : ByteArray := prog_12_method_69_code
def yJ9_min_7cf53 : MethodName := ⟨RJ9, "min", "(II)I"⟩
def RJ0 : String := "java/lang/String"
def TJ0 : u_T := fun k => match k with
  | _ => ("", "", "", false)
def tyJ0 : Nat → FieldType := fun k => match k with
  | _ => .int
abbrev wsJ00 : List Cond := u_ws RJ0 TJ0 0
theorem nmJ0 : ∀ a, a < 0 → ∀ b, b < 0 → a ≠ b → (TJ0 a).2.1 ≠ (TJ0 b).2.1 := by decide +kernel
theorem tyJ0_ok : ∀ k, k < 0 → parseFieldDescriptor (TJ0 k).2.2.1 = some (tyJ0 k) := by decide +kernel
def RJ10 : String := "java/lang/System"
def TJ10 : u_T := fun k => match k with
  | _ => ("", "", "", false)
def tyJ10 : Nat → FieldType := fun k => match k with
  | _ => .int
abbrev wsJ100 : List Cond := u_ws RJ10 TJ10 0
theorem nmJ10 : ∀ a, a < 0 → ∀ b, b < 0 → a ≠ b → (TJ10 a).2.1 ≠ (TJ10 b).2.1 := by decide +kernel
theorem tyJ10_ok : ∀ k, k < 0 → parseFieldDescriptor (TJ10 k).2.2.1 = some (tyJ10 k) := by decide +kernel
def RL : String := "AirStationLaw"
abbrev cL_cell : ByteArray := method_2_code
def yL_cell : MethodName := ⟨RL, "cell", "([II)I"⟩
abbrev cL_sets : ByteArray := method_3_code
def yL_sets : MethodName := ⟨RL, "sets", "(LAirStation;II)I"⟩
abbrev cL_adds : ByteArray := method_4_code
def yL_adds : MethodName := ⟨RL, "adds", "(LAirStation;I)I"⟩
abbrev cL_trips : ByteArray := method_5_code
def yL_trips : MethodName := ⟨RL, "trips", "(LAirStation;I)I"⟩
abbrev cL_clears : ByteArray := method_6_code
def yL_clears : MethodName := ⟨RL, "clears", "(LAirStation;I)I"⟩
abbrev cL_passes : ByteArray := method_7_code
def yL_passes : MethodName := ⟨RL, "passes", "(LAirStation;I)I"⟩
abbrev cL_tests : ByteArray := method_8_code
def yL_tests : MethodName := ⟨RL, "tests", "(LAirStation;I)I"⟩
abbrev cL_its : ByteArray := method_9_code
def yL_its : MethodName := ⟨RL, "its", "(LAirStation;II)I"⟩
abbrev cL_atStage : ByteArray := method_10_code
def yL_atStage : MethodName := ⟨RL, "atStage", "(LAirStation;I)I"⟩
abbrev cL_value : ByteArray := method_11_code
def yL_value : MethodName := ⟨RL, "value", "(LAirStation;I)I"⟩
abbrev cL_setting : ByteArray := method_12_code
def yL_setting : MethodName := ⟨RL, "setting", "(LAirStation;I)I"⟩
abbrev cL_next : ByteArray := method_13_code
def yL_next : MethodName := ⟨RL, "next", "(LAirStation;I)I"⟩
abbrev cL_undoes : ByteArray := method_14_code
def yL_undoes : MethodName := ⟨RL, "undoes", "(LAirStation;)I"⟩
abbrev cL_booked : ByteArray := method_15_code
def yL_booked : MethodName := ⟨RL, "booked", "(LAirStation;I)J"⟩
abbrev cL_holds : ByteArray := method_16_code
def yL_holds : MethodName := ⟨RL, "holds", "(LAirStation;)Z"⟩
abbrev cL_law : ByteArray := code
def yL_law : MethodName := ⟨RL, "law", "([I)Z"⟩
def wsJ9_max_7cf53 : List Cond := .code yJ9_max_7cf53 cJ9_max_7cf53 2 (some .int) :: ([])
def wsJ9_min_7cf53 : List Cond := .code yJ9_min_7cf53 cJ9_min_7cf53 2 (some .int) :: ([])
abbrev vwCl : List vw_C := [(RX0, TX0, 8), (RX1, TX1, 3), (RX2, TX2, 7), (RX3, TX3, 11), (RX4, TX4, 4)]
end
section
theorem dX0_init_0 : decode cX0_init 0 = .ok (.aload_n 0, 1) := by decide +kernel
theorem dX0_init_1 : decode cX0_init 1 = .ok (.invokespecial 3, 3) := by decide +kernel
theorem dX0_init_4 : decode cX0_init 4 = .ok (.return_, 1) := by decide +kernel
theorem dX0_takeOver_0 : decode cX0_takeOver 0 = .ok (.aload_n 0, 1) := by decide +kernel
theorem dX0_takeOver_1 : decode cX0_takeOver 1 = .ok (.aload_n 1, 1) := by decide +kernel
theorem dX0_takeOver_2 : decode cX0_takeOver 2 = .ok (.getfield 9, 3) := by decide +kernel
theorem dX0_takeOver_5 : decode cX0_takeOver 5 = .ok (.putfield 9, 3) := by decide +kernel
theorem dX0_takeOver_8 : decode cX0_takeOver 8 = .ok (.aload_n 0, 1) := by decide +kernel
theorem dX0_takeOver_9 : decode cX0_takeOver 9 = .ok (.aload_n 1, 1) := by decide +kernel
theorem dX0_takeOver_10 : decode cX0_takeOver 10 = .ok (.getfield 15, 3) := by decide +kernel
theorem dX0_takeOver_13 : decode cX0_takeOver 13 = .ok (.putfield 15, 3) := by decide +kernel
theorem dX0_takeOver_16 : decode cX0_takeOver 16 = .ok (.aload_n 0, 1) := by decide +kernel
theorem dX0_takeOver_17 : decode cX0_takeOver 17 = .ok (.aload_n 1, 1) := by decide +kernel
theorem dX0_takeOver_18 : decode cX0_takeOver 18 = .ok (.getfield 18, 3) := by decide +kernel
theorem dX0_takeOver_21 : decode cX0_takeOver 21 = .ok (.putfield 18, 3) := by decide +kernel
theorem dX0_takeOver_24 : decode cX0_takeOver 24 = .ok (.aload_n 0, 1) := by decide +kernel
theorem dX0_takeOver_25 : decode cX0_takeOver 25 = .ok (.aload_n 1, 1) := by decide +kernel
theorem dX0_takeOver_26 : decode cX0_takeOver 26 = .ok (.getfield 21, 3) := by decide +kernel
theorem dX0_takeOver_29 : decode cX0_takeOver 29 = .ok (.putfield 21, 3) := by decide +kernel
theorem dX0_takeOver_32 : decode cX0_takeOver 32 = .ok (.aload_n 0, 1) := by decide +kernel
theorem dX0_takeOver_33 : decode cX0_takeOver 33 = .ok (.aload_n 1, 1) := by decide +kernel
theorem dX0_takeOver_34 : decode cX0_takeOver 34 = .ok (.getfield 24, 3) := by decide +kernel
theorem dX0_takeOver_37 : decode cX0_takeOver 37 = .ok (.putfield 24, 3) := by decide +kernel
theorem dX0_takeOver_40 : decode cX0_takeOver 40 = .ok (.aload_n 0, 1) := by decide +kernel
theorem dX0_takeOver_41 : decode cX0_takeOver 41 = .ok (.aload_n 1, 1) := by decide +kernel
theorem dX0_takeOver_42 : decode cX0_takeOver 42 = .ok (.getfield 27, 3) := by decide +kernel
theorem dX0_takeOver_45 : decode cX0_takeOver 45 = .ok (.putfield 27, 3) := by decide +kernel
theorem dX0_takeOver_48 : decode cX0_takeOver 48 = .ok (.aload_n 0, 1) := by decide +kernel
theorem dX0_takeOver_49 : decode cX0_takeOver 49 = .ok (.aload_n 1, 1) := by decide +kernel
theorem dX0_takeOver_50 : decode cX0_takeOver 50 = .ok (.getfield 30, 3) := by decide +kernel
theorem dX0_takeOver_53 : decode cX0_takeOver 53 = .ok (.putfield 30, 3) := by decide +kernel
theorem dX0_takeOver_56 : decode cX0_takeOver 56 = .ok (.aload_n 0, 1) := by decide +kernel
theorem dX0_takeOver_57 : decode cX0_takeOver 57 = .ok (.aload_n 1, 1) := by decide +kernel
theorem dX0_takeOver_58 : decode cX0_takeOver 58 = .ok (.getfield 33, 3) := by decide +kernel
theorem dX0_takeOver_61 : decode cX0_takeOver 61 = .ok (.putfield 33, 3) := by decide +kernel
theorem dX0_takeOver_64 : decode cX0_takeOver 64 = .ok (.return_, 1) := by decide +kernel
theorem dX0_begin_0 : decode cX0_begin 0 = .ok (.aload_n 0, 1) := by decide +kernel
theorem dX0_begin_1 : decode cX0_begin 1 = .ok (.iload_n 1, 1) := by decide +kernel
theorem dX0_begin_2 : decode cX0_begin 2 = .ok (.putfield 9, 3) := by decide +kernel
theorem dX0_begin_5 : decode cX0_begin 5 = .ok (.aload_n 0, 1) := by decide +kernel
theorem dX0_begin_6 : decode cX0_begin 6 = .ok (.iload_n 2, 1) := by decide +kernel
theorem dX0_begin_7 : decode cX0_begin 7 = .ok (.putfield 18, 3) := by decide +kernel
theorem dX0_begin_10 : decode cX0_begin 10 = .ok (.aload_n 0, 1) := by decide +kernel
theorem dX0_begin_11 : decode cX0_begin 11 = .ok (.iconst 0, 1) := by decide +kernel
theorem dX0_begin_12 : decode cX0_begin 12 = .ok (.putfield 15, 3) := by decide +kernel
theorem dX0_begin_15 : decode cX0_begin 15 = .ok (.aload_n 0, 1) := by decide +kernel
theorem dX0_begin_16 : decode cX0_begin 16 = .ok (.iconst 0, 1) := by decide +kernel
theorem dX0_begin_17 : decode cX0_begin 17 = .ok (.putfield 21, 3) := by decide +kernel
theorem dX0_begin_20 : decode cX0_begin 20 = .ok (.aload_n 0, 1) := by decide +kernel
theorem dX0_begin_21 : decode cX0_begin 21 = .ok (.iconst 0, 1) := by decide +kernel
theorem dX0_begin_22 : decode cX0_begin 22 = .ok (.putfield 24, 3) := by decide +kernel
theorem dX0_begin_25 : decode cX0_begin 25 = .ok (.aload_n 0, 1) := by decide +kernel
theorem dX0_begin_26 : decode cX0_begin 26 = .ok (.iconst 0, 1) := by decide +kernel
theorem dX0_begin_27 : decode cX0_begin 27 = .ok (.putfield 27, 3) := by decide +kernel
theorem dX0_begin_30 : decode cX0_begin 30 = .ok (.aload_n 0, 1) := by decide +kernel
theorem dX0_begin_31 : decode cX0_begin 31 = .ok (.iconst 0, 1) := by decide +kernel
theorem dX0_begin_32 : decode cX0_begin 32 = .ok (.putfield 30, 3) := by decide +kernel
theorem dX0_begin_35 : decode cX0_begin 35 = .ok (.aload_n 0, 1) := by decide +kernel
theorem dX0_begin_36 : decode cX0_begin 36 = .ok (.iconst 0, 1) := by decide +kernel
theorem dX0_begin_37 : decode cX0_begin 37 = .ok (.putfield 33, 3) := by decide +kernel
theorem dX0_begin_40 : decode cX0_begin 40 = .ok (.return_, 1) := by decide +kernel
theorem dX0_load_0 : decode cX0_load 0 = .ok (.aload_n 0, 1) := by decide +kernel
theorem dX0_load_1 : decode cX0_load 1 = .ok (.getfield 15, 3) := by decide +kernel
theorem dX0_load_4 : decode cX0_load 4 = .ok (.ifCond .ne 13, 3) := by decide +kernel
theorem dX0_load_7 : decode cX0_load 7 = .ok (.aload_n 0, 1) := by decide +kernel
theorem dX0_load_8 : decode cX0_load 8 = .ok (.dup, 1) := by decide +kernel
theorem dX0_load_9 : decode cX0_load 9 = .ok (.getfield 33, 3) := by decide +kernel
theorem dX0_load_12 : decode cX0_load 12 = .ok (.iconst 1, 1) := by decide +kernel
theorem dX0_load_13 : decode cX0_load 13 = .ok (.iadd, 1) := by decide +kernel
theorem dX0_load_14 : decode cX0_load 14 = .ok (.putfield 33, 3) := by decide +kernel
theorem dX0_load_17 : decode cX0_load 17 = .ok (.aload_n 0, 1) := by decide +kernel
theorem dX0_load_18 : decode cX0_load 18 = .ok (.iconst 1, 1) := by decide +kernel
theorem dX0_load_19 : decode cX0_load 19 = .ok (.putfield 15, 3) := by decide +kernel
theorem dX0_load_22 : decode cX0_load 22 = .ok (.aload_n 0, 1) := by decide +kernel
theorem dX0_load_23 : decode cX0_load 23 = .ok (.iconst 0, 1) := by decide +kernel
theorem dX0_load_24 : decode cX0_load 24 = .ok (.putfield 27, 3) := by decide +kernel
theorem dX0_load_27 : decode cX0_load 27 = .ok (.return_, 1) := by decide +kernel
theorem dX0_unload_0 : decode cX0_unload 0 = .ok (.aload_n 0, 1) := by decide +kernel
theorem dX0_unload_1 : decode cX0_unload 1 = .ok (.iconst 2, 1) := by decide +kernel
theorem dX0_unload_2 : decode cX0_unload 2 = .ok (.putfield 15, 3) := by decide +kernel
theorem dX0_unload_5 : decode cX0_unload 5 = .ok (.aload_n 0, 1) := by decide +kernel
theorem dX0_unload_6 : decode cX0_unload 6 = .ok (.iconst 0, 1) := by decide +kernel
theorem dX0_unload_7 : decode cX0_unload 7 = .ok (.putfield 27, 3) := by decide +kernel
theorem dX0_unload_10 : decode cX0_unload 10 = .ok (.return_, 1) := by decide +kernel
theorem dX0_stop_0 : decode cX0_stop 0 = .ok (.aload_n 0, 1) := by decide +kernel
theorem dX0_stop_1 : decode cX0_stop 1 = .ok (.iconst 0, 1) := by decide +kernel
theorem dX0_stop_2 : decode cX0_stop 2 = .ok (.putfield 15, 3) := by decide +kernel
theorem dX0_stop_5 : decode cX0_stop 5 = .ok (.aload_n 0, 1) := by decide +kernel
theorem dX0_stop_6 : decode cX0_stop 6 = .ok (.iconst 0, 1) := by decide +kernel
theorem dX0_stop_7 : decode cX0_stop 7 = .ok (.putfield 27, 3) := by decide +kernel
theorem dX0_stop_10 : decode cX0_stop 10 = .ok (.aload_n 0, 1) := by decide +kernel
theorem dX0_stop_11 : decode cX0_stop 11 = .ok (.iload_n 1, 1) := by decide +kernel
theorem dX0_stop_12 : decode cX0_stop 12 = .ok (.putfield 30, 3) := by decide +kernel
theorem dX0_stop_15 : decode cX0_stop 15 = .ok (.return_, 1) := by decide +kernel
theorem dX0_fail_0 : decode cX0_fail 0 = .ok (.aload_n 0, 1) := by decide +kernel
theorem dX0_fail_1 : decode cX0_fail 1 = .ok (.iconst 3, 1) := by decide +kernel
theorem dX0_fail_2 : decode cX0_fail 2 = .ok (.putfield 15, 3) := by decide +kernel
theorem dX0_fail_5 : decode cX0_fail 5 = .ok (.aload_n 0, 1) := by decide +kernel
theorem dX0_fail_6 : decode cX0_fail 6 = .ok (.iconst 0, 1) := by decide +kernel
theorem dX0_fail_7 : decode cX0_fail 7 = .ok (.putfield 27, 3) := by decide +kernel
theorem dX0_fail_10 : decode cX0_fail 10 = .ok (.aload_n 0, 1) := by decide +kernel
theorem dX0_fail_11 : decode cX0_fail 11 = .ok (.iconst 0, 1) := by decide +kernel
theorem dX0_fail_12 : decode cX0_fail 12 = .ok (.putfield 30, 3) := by decide +kernel
theorem dX0_fail_15 : decode cX0_fail 15 = .ok (.return_, 1) := by decide +kernel
theorem dX0_carryOn_0 : decode cX0_carryOn 0 = .ok (.iload_n 1, 1) := by decide +kernel
theorem dX0_carryOn_1 : decode cX0_carryOn 1 = .ok (.tableswitch 87 1 6 #[39, 52, 87, 59, 66, 79], 39) := by decide +kernel
theorem dX0_carryOn_40 : decode cX0_carryOn 40 = .ok (.aload_n 0, 1) := by decide +kernel
theorem dX0_carryOn_41 : decode cX0_carryOn 41 = .ok (.dup, 1) := by decide +kernel
theorem dX0_carryOn_42 : decode cX0_carryOn 42 = .ok (.getfield 30, 3) := by decide +kernel
theorem dX0_carryOn_45 : decode cX0_carryOn 45 = .ok (.iconst 1, 1) := by decide +kernel
theorem dX0_carryOn_46 : decode cX0_carryOn 46 = .ok (.isub, 1) := by decide +kernel
theorem dX0_carryOn_47 : decode cX0_carryOn 47 = .ok (.putfield 30, 3) := by decide +kernel
theorem dX0_carryOn_50 : decode cX0_carryOn 50 = .ok (.goto 38, 3) := by decide +kernel
theorem dX0_carryOn_53 : decode cX0_carryOn 53 = .ok (.aload_n 0, 1) := by decide +kernel
theorem dX0_carryOn_54 : decode cX0_carryOn 54 = .ok (.invokevirtual 36, 3) := by decide +kernel
theorem dX0_carryOn_57 : decode cX0_carryOn 57 = .ok (.goto 31, 3) := by decide +kernel
theorem dX0_carryOn_60 : decode cX0_carryOn 60 = .ok (.aload_n 0, 1) := by decide +kernel
theorem dX0_carryOn_61 : decode cX0_carryOn 61 = .ok (.invokevirtual 39, 3) := by decide +kernel
theorem dX0_carryOn_64 : decode cX0_carryOn 64 = .ok (.goto 24, 3) := by decide +kernel
theorem dX0_carryOn_67 : decode cX0_carryOn 67 = .ok (.aload_n 0, 1) := by decide +kernel
theorem dX0_carryOn_68 : decode cX0_carryOn 68 = .ok (.dup, 1) := by decide +kernel
theorem dX0_carryOn_69 : decode cX0_carryOn 69 = .ok (.getfield 27, 3) := by decide +kernel
theorem dX0_carryOn_72 : decode cX0_carryOn 72 = .ok (.iconst 1, 1) := by decide +kernel
theorem dX0_carryOn_73 : decode cX0_carryOn 73 = .ok (.iadd, 1) := by decide +kernel
theorem dX0_carryOn_74 : decode cX0_carryOn 74 = .ok (.putfield 27, 3) := by decide +kernel
theorem dX0_carryOn_77 : decode cX0_carryOn 77 = .ok (.goto 11, 3) := by decide +kernel
theorem dX0_carryOn_80 : decode cX0_carryOn 80 = .ok (.aload_n 0, 1) := by decide +kernel
theorem dX0_carryOn_81 : decode cX0_carryOn 81 = .ok (.iload_n 2, 1) := by decide +kernel
theorem dX0_carryOn_82 : decode cX0_carryOn 82 = .ok (.invokevirtual 42, 3) := by decide +kernel
theorem dX0_carryOn_85 : decode cX0_carryOn 85 = .ok (.goto 3, 3) := by decide +kernel
theorem dX0_carryOn_88 : decode cX0_carryOn 88 = .ok (.return_, 1) := by decide +kernel
theorem dX1_init_0 : decode cX1_init 0 = .ok (.aload_n 0, 1) := by decide +kernel
theorem dX1_init_1 : decode cX1_init 1 = .ok (.invokespecial 3, 3) := by decide +kernel
theorem dX1_init_4 : decode cX1_init 4 = .ok (.aload_n 0, 1) := by decide +kernel
theorem dX1_init_5 : decode cX1_init 5 = .ok (.iconst 4, 1) := by decide +kernel
theorem dX1_init_6 : decode cX1_init 6 = .ok (.anewarray 9, 3) := by decide +kernel
theorem dX1_init_9 : decode cX1_init 9 = .ok (.putfield 11, 3) := by decide +kernel
theorem dX1_init_12 : decode cX1_init 12 = .ok (.iconst 0, 1) := by decide +kernel
theorem dX1_init_13 : decode cX1_init 13 = .ok (.istore_n 1, 1) := by decide +kernel
theorem dX1_init_14 : decode cX1_init 14 = .ok (.iload_n 1, 1) := by decide +kernel
theorem dX1_init_15 : decode cX1_init 15 = .ok (.iconst 4, 1) := by decide +kernel
theorem dX1_init_16 : decode cX1_init 16 = .ok (.if_icmp .ge 22, 3) := by decide +kernel
theorem dX1_init_19 : decode cX1_init 19 = .ok (.aload_n 0, 1) := by decide +kernel
theorem dX1_init_20 : decode cX1_init 20 = .ok (.getfield 11, 3) := by decide +kernel
theorem dX1_init_23 : decode cX1_init 23 = .ok (.iload_n 1, 1) := by decide +kernel
theorem dX1_init_24 : decode cX1_init 24 = .ok (.new 9, 3) := by decide +kernel
theorem dX1_init_27 : decode cX1_init 27 = .ok (.dup, 1) := by decide +kernel
theorem dX1_init_28 : decode cX1_init 28 = .ok (.invokespecial 17, 3) := by decide +kernel
theorem dX1_init_31 : decode cX1_init 31 = .ok (.aastore, 1) := by decide +kernel
theorem dX1_init_32 : decode cX1_init 32 = .ok (.iinc 1 1, 3) := by decide +kernel
theorem dX1_init_35 : decode cX1_init 35 = .ok (.goto (-21), 3) := by decide +kernel
theorem dX1_init_38 : decode cX1_init 38 = .ok (.return_, 1) := by decide +kernel
theorem dX1_save_0 : decode cX1_save 0 = .ok (.aload_n 0, 1) := by decide +kernel
theorem dX1_save_1 : decode cX1_save 1 = .ok (.aload_n 0, 1) := by decide +kernel
theorem dX1_save_2 : decode cX1_save 2 = .ok (.getfield 18, 3) := by decide +kernel
theorem dX1_save_5 : decode cX1_save 5 = .ok (.iconst 1, 1) := by decide +kernel
theorem dX1_save_6 : decode cX1_save 6 = .ok (.iadd, 1) := by decide +kernel
theorem dX1_save_7 : decode cX1_save 7 = .ok (.iconst 4, 1) := by decide +kernel
theorem dX1_save_8 : decode cX1_save 8 = .ok (.if_icmp .ge 12, 3) := by decide +kernel
theorem dX1_save_11 : decode cX1_save 11 = .ok (.aload_n 0, 1) := by decide +kernel
theorem dX1_save_12 : decode cX1_save 12 = .ok (.getfield 18, 3) := by decide +kernel
theorem dX1_save_15 : decode cX1_save 15 = .ok (.iconst 1, 1) := by decide +kernel
theorem dX1_save_16 : decode cX1_save 16 = .ok (.iadd, 1) := by decide +kernel
theorem dX1_save_17 : decode cX1_save 17 = .ok (.goto 4, 3) := by decide +kernel
theorem dX1_save_20 : decode cX1_save 20 = .ok (.iconst 0, 1) := by decide +kernel
theorem dX1_save_21 : decode cX1_save 21 = .ok (.putfield 18, 3) := by decide +kernel
theorem dX1_save_24 : decode cX1_save 24 = .ok (.aload_n 0, 1) := by decide +kernel
theorem dX1_save_25 : decode cX1_save 25 = .ok (.aload_n 0, 1) := by decide +kernel
theorem dX1_save_26 : decode cX1_save 26 = .ok (.getfield 18, 3) := by decide +kernel
theorem dX1_save_29 : decode cX1_save 29 = .ok (.invokevirtual 22, 3) := by decide +kernel
theorem dX1_save_32 : decode cX1_save 32 = .ok (.astore_n 2, 1) := by decide +kernel
theorem dX1_save_33 : decode cX1_save 33 = .ok (.aload_n 2, 1) := by decide +kernel
theorem dX1_save_34 : decode cX1_save 34 = .ok (.ifnull 8, 3) := by decide +kernel
theorem dX1_save_37 : decode cX1_save 37 = .ok (.aload_n 2, 1) := by decide +kernel
theorem dX1_save_38 : decode cX1_save 38 = .ok (.aload_n 1, 1) := by decide +kernel
theorem dX1_save_39 : decode cX1_save 39 = .ok (.invokevirtual 26, 3) := by decide +kernel
theorem dX1_save_42 : decode cX1_save 42 = .ok (.aload_n 0, 1) := by decide +kernel
theorem dX1_save_43 : decode cX1_save 43 = .ok (.aload_n 0, 1) := by decide +kernel
theorem dX1_save_44 : decode cX1_save 44 = .ok (.getfield 30, 3) := by decide +kernel
theorem dX1_save_47 : decode cX1_save 47 = .ok (.iconst 1, 1) := by decide +kernel
theorem dX1_save_48 : decode cX1_save 48 = .ok (.iadd, 1) := by decide +kernel
theorem dX1_save_49 : decode cX1_save 49 = .ok (.iconst 4, 1) := by decide +kernel
theorem dX1_save_50 : decode cX1_save 50 = .ok (.invokestatic 33, 3) := by decide +kernel
theorem dX1_save_53 : decode cX1_save 53 = .ok (.putfield 30, 3) := by decide +kernel
theorem dX1_save_56 : decode cX1_save 56 = .ok (.return_, 1) := by decide +kernel
theorem dX1_restore_0 : decode cX1_restore 0 = .ok (.aload_n 0, 1) := by decide +kernel
theorem dX1_restore_1 : decode cX1_restore 1 = .ok (.aload_n 0, 1) := by decide +kernel
theorem dX1_restore_2 : decode cX1_restore 2 = .ok (.getfield 18, 3) := by decide +kernel
theorem dX1_restore_5 : decode cX1_restore 5 = .ok (.invokevirtual 22, 3) := by decide +kernel
theorem dX1_restore_8 : decode cX1_restore 8 = .ok (.astore_n 2, 1) := by decide +kernel
theorem dX1_restore_9 : decode cX1_restore 9 = .ok (.aload_n 2, 1) := by decide +kernel
theorem dX1_restore_10 : decode cX1_restore 10 = .ok (.ifnull 8, 3) := by decide +kernel
theorem dX1_restore_13 : decode cX1_restore 13 = .ok (.aload_n 1, 1) := by decide +kernel
theorem dX1_restore_14 : decode cX1_restore 14 = .ok (.aload_n 2, 1) := by decide +kernel
theorem dX1_restore_15 : decode cX1_restore 15 = .ok (.invokevirtual 26, 3) := by decide +kernel
theorem dX1_restore_18 : decode cX1_restore 18 = .ok (.aload_n 0, 1) := by decide +kernel
theorem dX1_restore_19 : decode cX1_restore 19 = .ok (.aload_n 0, 1) := by decide +kernel
theorem dX1_restore_20 : decode cX1_restore 20 = .ok (.getfield 18, 3) := by decide +kernel
theorem dX1_restore_23 : decode cX1_restore 23 = .ok (.ifCond .le 12, 3) := by decide +kernel
theorem dX1_restore_26 : decode cX1_restore 26 = .ok (.aload_n 0, 1) := by decide +kernel
theorem dX1_restore_27 : decode cX1_restore 27 = .ok (.getfield 18, 3) := by decide +kernel
theorem dX1_restore_30 : decode cX1_restore 30 = .ok (.iconst 1, 1) := by decide +kernel
theorem dX1_restore_31 : decode cX1_restore 31 = .ok (.isub, 1) := by decide +kernel
theorem dX1_restore_32 : decode cX1_restore 32 = .ok (.goto 4, 3) := by decide +kernel
theorem dX1_restore_35 : decode cX1_restore 35 = .ok (.iconst 3, 1) := by decide +kernel
theorem dX1_restore_36 : decode cX1_restore 36 = .ok (.putfield 18, 3) := by decide +kernel
theorem dX1_restore_39 : decode cX1_restore 39 = .ok (.aload_n 0, 1) := by decide +kernel
theorem dX1_restore_40 : decode cX1_restore 40 = .ok (.aload_n 0, 1) := by decide +kernel
theorem dX1_restore_41 : decode cX1_restore 41 = .ok (.getfield 30, 3) := by decide +kernel
theorem dX1_restore_44 : decode cX1_restore 44 = .ok (.iconst 1, 1) := by decide +kernel
theorem dX1_restore_45 : decode cX1_restore 45 = .ok (.isub, 1) := by decide +kernel
theorem dX1_restore_46 : decode cX1_restore 46 = .ok (.iconst 0, 1) := by decide +kernel
theorem dX1_restore_47 : decode cX1_restore 47 = .ok (.invokestatic 39, 3) := by decide +kernel
theorem dX1_restore_50 : decode cX1_restore 50 = .ok (.putfield 30, 3) := by decide +kernel
theorem dX1_restore_53 : decode cX1_restore 53 = .ok (.return_, 1) := by decide +kernel
theorem dX1_savedAt_0 : decode cX1_savedAt 0 = .ok (.iload_n 1, 1) := by decide +kernel
theorem dX1_savedAt_1 : decode cX1_savedAt 1 = .ok (.ifCond .lt 21, 3) := by decide +kernel
theorem dX1_savedAt_4 : decode cX1_savedAt 4 = .ok (.iload_n 1, 1) := by decide +kernel
theorem dX1_savedAt_5 : decode cX1_savedAt 5 = .ok (.aload_n 0, 1) := by decide +kernel
theorem dX1_savedAt_6 : decode cX1_savedAt 6 = .ok (.getfield 11, 3) := by decide +kernel
theorem dX1_savedAt_9 : decode cX1_savedAt 9 = .ok (.arraylength, 1) := by decide +kernel
theorem dX1_savedAt_10 : decode cX1_savedAt 10 = .ok (.if_icmp .ge 12, 3) := by decide +kernel
theorem dX1_savedAt_13 : decode cX1_savedAt 13 = .ok (.aload_n 0, 1) := by decide +kernel
theorem dX1_savedAt_14 : decode cX1_savedAt 14 = .ok (.getfield 11, 3) := by decide +kernel
theorem dX1_savedAt_17 : decode cX1_savedAt 17 = .ok (.iload_n 1, 1) := by decide +kernel
theorem dX1_savedAt_18 : decode cX1_savedAt 18 = .ok (.aaload, 1) := by decide +kernel
theorem dX1_savedAt_19 : decode cX1_savedAt 19 = .ok (.goto 4, 3) := by decide +kernel
theorem dX1_savedAt_22 : decode cX1_savedAt 22 = .ok (.aconst_null, 1) := by decide +kernel
theorem dX1_savedAt_23 : decode cX1_savedAt 23 = .ok (.areturn, 1) := by decide +kernel
theorem dX2_init_0 : decode cX2_init 0 = .ok (.aload_n 0, 1) := by decide +kernel
theorem dX2_init_1 : decode cX2_init 1 = .ok (.invokespecial 3, 3) := by decide +kernel
theorem dX2_init_4 : decode cX2_init 4 = .ok (.aload_n 0, 1) := by decide +kernel
theorem dX2_init_5 : decode cX2_init 5 = .ok (.bipush 100, 2) := by decide +kernel
theorem dX2_init_7 : decode cX2_init 7 = .ok (.newarray .int, 2) := by decide +kernel
theorem dX2_init_9 : decode cX2_init 9 = .ok (.putfield 9, 3) := by decide +kernel
theorem dX2_init_12 : decode cX2_init 12 = .ok (.aload_n 0, 1) := by decide +kernel
theorem dX2_init_13 : decode cX2_init 13 = .ok (.bipush 100, 2) := by decide +kernel
theorem dX2_init_15 : decode cX2_init 15 = .ok (.newarray .int, 2) := by decide +kernel
theorem dX2_init_17 : decode cX2_init 17 = .ok (.putfield 15, 3) := by decide +kernel
theorem dX2_init_20 : decode cX2_init 20 = .ok (.aload_n 0, 1) := by decide +kernel
theorem dX2_init_21 : decode cX2_init 21 = .ok (.bipush 100, 2) := by decide +kernel
theorem dX2_init_23 : decode cX2_init 23 = .ok (.newarray .int, 2) := by decide +kernel
theorem dX2_init_25 : decode cX2_init 25 = .ok (.putfield 18, 3) := by decide +kernel
theorem dX2_init_28 : decode cX2_init 28 = .ok (.return_, 1) := by decide +kernel
theorem dX3_init_0 : decode cX3_init 0 = .ok (.aload_n 0, 1) := by decide +kernel
theorem dX3_init_1 : decode cX3_init 1 = .ok (.invokespecial 3, 3) := by decide +kernel
theorem dX3_init_4 : decode cX3_init 4 = .ok (.aload_n 0, 1) := by decide +kernel
theorem dX3_init_5 : decode cX3_init 5 = .ok (.sipush 1000, 3) := by decide +kernel
theorem dX3_init_8 : decode cX3_init 8 = .ok (.putfield 9, 3) := by decide +kernel
theorem dX3_init_11 : decode cX3_init 11 = .ok (.aload_n 0, 1) := by decide +kernel
theorem dX3_init_12 : decode cX3_init 12 = .ok (.sipush 6000, 3) := by decide +kernel
theorem dX3_init_15 : decode cX3_init 15 = .ok (.putfield 15, 3) := by decide +kernel
theorem dX3_init_18 : decode cX3_init 18 = .ok (.aload_n 0, 1) := by decide +kernel
theorem dX3_init_19 : decode cX3_init 19 = .ok (.bipush 8, 2) := by decide +kernel
theorem dX3_init_21 : decode cX3_init 21 = .ok (.newarray .int, 2) := by decide +kernel
theorem dX3_init_23 : decode cX3_init 23 = .ok (.putfield 18, 3) := by decide +kernel
theorem dX3_init_26 : decode cX3_init 26 = .ok (.aload_n 0, 1) := by decide +kernel
theorem dX3_init_27 : decode cX3_init 27 = .ok (.bipush 6, 2) := by decide +kernel
theorem dX3_init_29 : decode cX3_init 29 = .ok (.newarray .long, 2) := by decide +kernel
theorem dX3_init_31 : decode cX3_init 31 = .ok (.putfield 22, 3) := by decide +kernel
theorem dX3_init_34 : decode cX3_init 34 = .ok (.aload_n 0, 1) := by decide +kernel
theorem dX3_init_35 : decode cX3_init 35 = .ok (.bipush 6, 2) := by decide +kernel
theorem dX3_init_37 : decode cX3_init 37 = .ok (.newarray .int, 2) := by decide +kernel
theorem dX3_init_39 : decode cX3_init 39 = .ok (.putfield 26, 3) := by decide +kernel
theorem dX3_init_42 : decode cX3_init 42 = .ok (.aload_n 0, 1) := by decide +kernel
theorem dX3_init_43 : decode cX3_init 43 = .ok (.iconst 5, 1) := by decide +kernel
theorem dX3_init_44 : decode cX3_init 44 = .ok (.anewarray 29, 3) := by decide +kernel
theorem dX3_init_47 : decode cX3_init 47 = .ok (.putfield 31, 3) := by decide +kernel
theorem dX3_init_50 : decode cX3_init 50 = .ok (.getstatic 35, 3) := by decide +kernel
theorem dX3_init_53 : decode cX3_init 53 = .ok (.iconst 0, 1) := by decide +kernel
theorem dX3_init_54 : decode cX3_init 54 = .ok (.aload_n 0, 1) := by decide +kernel
theorem dX3_init_55 : decode cX3_init 55 = .ok (.getfield 18, 3) := by decide +kernel
theorem dX3_init_58 : decode cX3_init 58 = .ok (.iconst 0, 1) := by decide +kernel
theorem dX3_init_59 : decode cX3_init 59 = .ok (.bipush 8, 2) := by decide +kernel
theorem dX3_init_61 : decode cX3_init 61 = .ok (.invokestatic 38, 3) := by decide +kernel
theorem dX3_init_64 : decode cX3_init 64 = .ok (.iconst 0, 1) := by decide +kernel
theorem dX3_init_65 : decode cX3_init 65 = .ok (.istore_n 1, 1) := by decide +kernel
theorem dX3_init_66 : decode cX3_init 66 = .ok (.iload_n 1, 1) := by decide +kernel
theorem dX3_init_67 : decode cX3_init 67 = .ok (.iconst 5, 1) := by decide +kernel
theorem dX3_init_68 : decode cX3_init 68 = .ok (.if_icmp .ge 22, 3) := by decide +kernel
theorem dX3_init_71 : decode cX3_init 71 = .ok (.aload_n 0, 1) := by decide +kernel
theorem dX3_init_72 : decode cX3_init 72 = .ok (.getfield 31, 3) := by decide +kernel
theorem dX3_init_75 : decode cX3_init 75 = .ok (.iload_n 1, 1) := by decide +kernel
theorem dX3_init_76 : decode cX3_init 76 = .ok (.new 29, 3) := by decide +kernel
theorem dX3_init_79 : decode cX3_init 79 = .ok (.dup, 1) := by decide +kernel
theorem dX3_init_80 : decode cX3_init 80 = .ok (.invokespecial 44, 3) := by decide +kernel
theorem dX3_init_83 : decode cX3_init 83 = .ok (.aastore, 1) := by decide +kernel
theorem dX3_init_84 : decode cX3_init 84 = .ok (.iinc 1 1, 3) := by decide +kernel
theorem dX3_init_87 : decode cX3_init 87 = .ok (.goto (-21), 3) := by decide +kernel
theorem dX3_init_90 : decode cX3_init 90 = .ok (.return_, 1) := by decide +kernel
theorem dX3_takeOver_0 : decode cX3_takeOver 0 = .ok (.aload_n 0, 1) := by decide +kernel
theorem dX3_takeOver_1 : decode cX3_takeOver 1 = .ok (.aload_n 1, 1) := by decide +kernel
theorem dX3_takeOver_2 : decode cX3_takeOver 2 = .ok (.getfield 9, 3) := by decide +kernel
theorem dX3_takeOver_5 : decode cX3_takeOver 5 = .ok (.putfield 9, 3) := by decide +kernel
theorem dX3_takeOver_8 : decode cX3_takeOver 8 = .ok (.aload_n 0, 1) := by decide +kernel
theorem dX3_takeOver_9 : decode cX3_takeOver 9 = .ok (.aload_n 1, 1) := by decide +kernel
theorem dX3_takeOver_10 : decode cX3_takeOver 10 = .ok (.getfield 15, 3) := by decide +kernel
theorem dX3_takeOver_13 : decode cX3_takeOver 13 = .ok (.putfield 15, 3) := by decide +kernel
theorem dX3_takeOver_16 : decode cX3_takeOver 16 = .ok (.aload_n 0, 1) := by decide +kernel
theorem dX3_takeOver_17 : decode cX3_takeOver 17 = .ok (.aload_n 1, 1) := by decide +kernel
theorem dX3_takeOver_18 : decode cX3_takeOver 18 = .ok (.getfield 45, 3) := by decide +kernel
theorem dX3_takeOver_21 : decode cX3_takeOver 21 = .ok (.putfield 45, 3) := by decide +kernel
theorem dX3_takeOver_24 : decode cX3_takeOver 24 = .ok (.aload_n 0, 1) := by decide +kernel
theorem dX3_takeOver_25 : decode cX3_takeOver 25 = .ok (.aload_n 1, 1) := by decide +kernel
theorem dX3_takeOver_26 : decode cX3_takeOver 26 = .ok (.getfield 48, 3) := by decide +kernel
theorem dX3_takeOver_29 : decode cX3_takeOver 29 = .ok (.putfield 48, 3) := by decide +kernel
theorem dX3_takeOver_32 : decode cX3_takeOver 32 = .ok (.aload_n 0, 1) := by decide +kernel
theorem dX3_takeOver_33 : decode cX3_takeOver 33 = .ok (.aload_n 1, 1) := by decide +kernel
theorem dX3_takeOver_34 : decode cX3_takeOver 34 = .ok (.getfield 51, 3) := by decide +kernel
theorem dX3_takeOver_37 : decode cX3_takeOver 37 = .ok (.putfield 51, 3) := by decide +kernel
theorem dX3_takeOver_40 : decode cX3_takeOver 40 = .ok (.aload_n 0, 1) := by decide +kernel
theorem dX3_takeOver_41 : decode cX3_takeOver 41 = .ok (.aload_n 1, 1) := by decide +kernel
theorem dX3_takeOver_42 : decode cX3_takeOver 42 = .ok (.getfield 54, 3) := by decide +kernel
theorem dX3_takeOver_45 : decode cX3_takeOver 45 = .ok (.putfield 54, 3) := by decide +kernel
theorem dX3_takeOver_48 : decode cX3_takeOver 48 = .ok (.aload_n 0, 1) := by decide +kernel
theorem dX3_takeOver_49 : decode cX3_takeOver 49 = .ok (.aload_n 1, 1) := by decide +kernel
theorem dX3_takeOver_50 : decode cX3_takeOver 50 = .ok (.getfield 57, 3) := by decide +kernel
theorem dX3_takeOver_53 : decode cX3_takeOver 53 = .ok (.putfield 57, 3) := by decide +kernel
theorem dX3_takeOver_56 : decode cX3_takeOver 56 = .ok (.aload_n 1, 1) := by decide +kernel
theorem dX3_takeOver_57 : decode cX3_takeOver 57 = .ok (.getfield 18, 3) := by decide +kernel
theorem dX3_takeOver_60 : decode cX3_takeOver 60 = .ok (.iconst 0, 1) := by decide +kernel
theorem dX3_takeOver_61 : decode cX3_takeOver 61 = .ok (.aload_n 0, 1) := by decide +kernel
theorem dX3_takeOver_62 : decode cX3_takeOver 62 = .ok (.getfield 18, 3) := by decide +kernel
theorem dX3_takeOver_65 : decode cX3_takeOver 65 = .ok (.iconst 0, 1) := by decide +kernel
theorem dX3_takeOver_66 : decode cX3_takeOver 66 = .ok (.bipush 8, 2) := by decide +kernel
theorem dX3_takeOver_68 : decode cX3_takeOver 68 = .ok (.invokestatic 38, 3) := by decide +kernel
theorem dX3_takeOver_71 : decode cX3_takeOver 71 = .ok (.aload_n 1, 1) := by decide +kernel
theorem dX3_takeOver_72 : decode cX3_takeOver 72 = .ok (.getfield 22, 3) := by decide +kernel
theorem dX3_takeOver_75 : decode cX3_takeOver 75 = .ok (.iconst 0, 1) := by decide +kernel
theorem dX3_takeOver_76 : decode cX3_takeOver 76 = .ok (.aload_n 0, 1) := by decide +kernel
theorem dX3_takeOver_77 : decode cX3_takeOver 77 = .ok (.getfield 22, 3) := by decide +kernel
theorem dX3_takeOver_80 : decode cX3_takeOver 80 = .ok (.iconst 0, 1) := by decide +kernel
theorem dX3_takeOver_81 : decode cX3_takeOver 81 = .ok (.bipush 6, 2) := by decide +kernel
theorem dX3_takeOver_83 : decode cX3_takeOver 83 = .ok (.invokestatic 38, 3) := by decide +kernel
theorem dX3_takeOver_86 : decode cX3_takeOver 86 = .ok (.aload_n 1, 1) := by decide +kernel
theorem dX3_takeOver_87 : decode cX3_takeOver 87 = .ok (.getfield 26, 3) := by decide +kernel
theorem dX3_takeOver_90 : decode cX3_takeOver 90 = .ok (.iconst 0, 1) := by decide +kernel
theorem dX3_takeOver_91 : decode cX3_takeOver 91 = .ok (.aload_n 0, 1) := by decide +kernel
theorem dX3_takeOver_92 : decode cX3_takeOver 92 = .ok (.getfield 26, 3) := by decide +kernel
theorem dX3_takeOver_95 : decode cX3_takeOver 95 = .ok (.iconst 0, 1) := by decide +kernel
theorem dX3_takeOver_96 : decode cX3_takeOver 96 = .ok (.bipush 6, 2) := by decide +kernel
theorem dX3_takeOver_98 : decode cX3_takeOver 98 = .ok (.invokestatic 38, 3) := by decide +kernel
theorem dX3_takeOver_101 : decode cX3_takeOver 101 = .ok (.iconst 0, 1) := by decide +kernel
theorem dX3_takeOver_102 : decode cX3_takeOver 102 = .ok (.istore_n 2, 1) := by decide +kernel
theorem dX3_takeOver_103 : decode cX3_takeOver 103 = .ok (.iload_n 2, 1) := by decide +kernel
theorem dX3_takeOver_104 : decode cX3_takeOver 104 = .ok (.iconst 5, 1) := by decide +kernel
theorem dX3_takeOver_105 : decode cX3_takeOver 105 = .ok (.if_icmp .ge 37, 3) := by decide +kernel
theorem dX3_takeOver_108 : decode cX3_takeOver 108 = .ok (.aload_n 0, 1) := by decide +kernel
theorem dX3_takeOver_109 : decode cX3_takeOver 109 = .ok (.iload_n 2, 1) := by decide +kernel
theorem dX3_takeOver_110 : decode cX3_takeOver 110 = .ok (.invokevirtual 60, 3) := by decide +kernel
theorem dX3_takeOver_113 : decode cX3_takeOver 113 = .ok (.astore_n 3, 1) := by decide +kernel
theorem dX3_takeOver_114 : decode cX3_takeOver 114 = .ok (.aload_n 1, 1) := by decide +kernel
theorem dX3_takeOver_115 : decode cX3_takeOver 115 = .ok (.iload_n 2, 1) := by decide +kernel
theorem dX3_takeOver_116 : decode cX3_takeOver 116 = .ok (.invokevirtual 60, 3) := by decide +kernel
theorem dX3_takeOver_119 : decode cX3_takeOver 119 = .ok (.astore 4, 2) := by decide +kernel
theorem dX3_takeOver_121 : decode cX3_takeOver 121 = .ok (.aload_n 3, 1) := by decide +kernel
theorem dX3_takeOver_122 : decode cX3_takeOver 122 = .ok (.ifnull 14, 3) := by decide +kernel
theorem dX3_takeOver_125 : decode cX3_takeOver 125 = .ok (.aload 4, 2) := by decide +kernel
theorem dX3_takeOver_127 : decode cX3_takeOver 127 = .ok (.ifnull 9, 3) := by decide +kernel
theorem dX3_takeOver_130 : decode cX3_takeOver 130 = .ok (.aload_n 3, 1) := by decide +kernel
theorem dX3_takeOver_131 : decode cX3_takeOver 131 = .ok (.aload 4, 2) := by decide +kernel
theorem dX3_takeOver_133 : decode cX3_takeOver 133 = .ok (.invokevirtual 64, 3) := by decide +kernel
theorem dX3_takeOver_136 : decode cX3_takeOver 136 = .ok (.iinc 2 1, 3) := by decide +kernel
theorem dX3_takeOver_139 : decode cX3_takeOver 139 = .ok (.goto (-36), 3) := by decide +kernel
theorem dX3_takeOver_142 : decode cX3_takeOver 142 = .ok (.return_, 1) := by decide +kernel
theorem dX3_numbered_0 : decode cX3_numbered 0 = .ok (.iload_n 1, 1) := by decide +kernel
theorem dX3_numbered_1 : decode cX3_numbered 1 = .ok (.ifCond .lt 20, 3) := by decide +kernel
theorem dX3_numbered_4 : decode cX3_numbered 4 = .ok (.iload_n 1, 1) := by decide +kernel
theorem dX3_numbered_5 : decode cX3_numbered 5 = .ok (.aload_n 0, 1) := by decide +kernel
theorem dX3_numbered_6 : decode cX3_numbered 6 = .ok (.getfield 54, 3) := by decide +kernel
theorem dX3_numbered_9 : decode cX3_numbered 9 = .ok (.if_icmp .ge 12, 3) := by decide +kernel
theorem dX3_numbered_12 : decode cX3_numbered 12 = .ok (.iload_n 1, 1) := by decide +kernel
theorem dX3_numbered_13 : decode cX3_numbered 13 = .ok (.aload_n 0, 1) := by decide +kernel
theorem dX3_numbered_14 : decode cX3_numbered 14 = .ok (.getfield 31, 3) := by decide +kernel
theorem dX3_numbered_17 : decode cX3_numbered 17 = .ok (.arraylength, 1) := by decide +kernel
theorem dX3_numbered_18 : decode cX3_numbered 18 = .ok (.if_icmp .lt 5, 3) := by decide +kernel
theorem dX3_numbered_21 : decode cX3_numbered 21 = .ok (.aconst_null, 1) := by decide +kernel
theorem dX3_numbered_22 : decode cX3_numbered 22 = .ok (.areturn, 1) := by decide +kernel
theorem dX3_numbered_23 : decode cX3_numbered 23 = .ok (.aload_n 0, 1) := by decide +kernel
theorem dX3_numbered_24 : decode cX3_numbered 24 = .ok (.getfield 31, 3) := by decide +kernel
theorem dX3_numbered_27 : decode cX3_numbered 27 = .ok (.iload_n 1, 1) := by decide +kernel
theorem dX3_numbered_28 : decode cX3_numbered 28 = .ok (.aaload, 1) := by decide +kernel
theorem dX3_numbered_29 : decode cX3_numbered 29 = .ok (.areturn, 1) := by decide +kernel
theorem dX3_install_0 : decode cX3_install 0 = .ok (.aload_n 0, 1) := by decide +kernel
theorem dX3_install_1 : decode cX3_install 1 = .ok (.getfield 54, 3) := by decide +kernel
theorem dX3_install_4 : decode cX3_install 4 = .ok (.istore_n 2, 1) := by decide +kernel
theorem dX3_install_5 : decode cX3_install 5 = .ok (.aload_n 0, 1) := by decide +kernel
theorem dX3_install_6 : decode cX3_install 6 = .ok (.dup, 1) := by decide +kernel
theorem dX3_install_7 : decode cX3_install 7 = .ok (.getfield 54, 3) := by decide +kernel
theorem dX3_install_10 : decode cX3_install 10 = .ok (.iconst 1, 1) := by decide +kernel
theorem dX3_install_11 : decode cX3_install 11 = .ok (.iadd, 1) := by decide +kernel
theorem dX3_install_12 : decode cX3_install 12 = .ok (.putfield 54, 3) := by decide +kernel
theorem dX3_install_15 : decode cX3_install 15 = .ok (.aload_n 0, 1) := by decide +kernel
theorem dX3_install_16 : decode cX3_install 16 = .ok (.iload_n 2, 1) := by decide +kernel
theorem dX3_install_17 : decode cX3_install 17 = .ok (.invokevirtual 60, 3) := by decide +kernel
theorem dX3_install_20 : decode cX3_install 20 = .ok (.astore_n 3, 1) := by decide +kernel
theorem dX3_install_21 : decode cX3_install 21 = .ok (.aload_n 3, 1) := by decide +kernel
theorem dX3_install_22 : decode cX3_install 22 = .ok (.ifnull 9, 3) := by decide +kernel
theorem dX3_install_25 : decode cX3_install 25 = .ok (.aload_n 3, 1) := by decide +kernel
theorem dX3_install_26 : decode cX3_install 26 = .ok (.iload_n 1, 1) := by decide +kernel
theorem dX3_install_27 : decode cX3_install 27 = .ok (.iload_n 2, 1) := by decide +kernel
theorem dX3_install_28 : decode cX3_install 28 = .ok (.invokevirtual 68, 3) := by decide +kernel
theorem dX3_install_31 : decode cX3_install 31 = .ok (.iload_n 2, 1) := by decide +kernel
end
section
theorem dX3_install_32 : decode cX3_install 32 = .ok (.ireturn, 1) := by decide +kernel
theorem dX3_pressure_0 : decode cX3_pressure 0 = .ok (.aload_n 0, 1) := by decide +kernel
theorem dX3_pressure_1 : decode cX3_pressure 1 = .ok (.getfield 15, 3) := by decide +kernel
theorem dX3_pressure_4 : decode cX3_pressure 4 = .ok (.aload_n 0, 1) := by decide +kernel
theorem dX3_pressure_5 : decode cX3_pressure 5 = .ok (.getfield 9, 3) := by decide +kernel
theorem dX3_pressure_8 : decode cX3_pressure 8 = .ok (.invokestatic 72, 3) := by decide +kernel
theorem dX3_pressure_11 : decode cX3_pressure 11 = .ok (.ireturn, 1) := by decide +kernel
theorem dX3_leakAt_0 : decode cX3_leakAt 0 = .ok (.iload_n 1, 1) := by decide +kernel
theorem dX3_leakAt_1 : decode cX3_leakAt 1 = .ok (.aload_n 0, 1) := by decide +kernel
theorem dX3_leakAt_2 : decode cX3_leakAt 2 = .ok (.getfield 18, 3) := by decide +kernel
theorem dX3_leakAt_5 : decode cX3_leakAt 5 = .ok (.iconst 5, 1) := by decide +kernel
theorem dX3_leakAt_6 : decode cX3_leakAt 6 = .ok (.iaload, 1) := by decide +kernel
theorem dX3_leakAt_7 : decode cX3_leakAt 7 = .ok (.imul, 1) := by decide +kernel
theorem dX3_leakAt_8 : decode cX3_leakAt 8 = .ok (.sipush 1000, 3) := by decide +kernel
theorem dX3_leakAt_11 : decode cX3_leakAt 11 = .ok (.idiv, 1) := by decide +kernel
theorem dX3_leakAt_12 : decode cX3_leakAt 12 = .ok (.ireturn, 1) := by decide +kernel
theorem dX3_limitForLoading_0 : decode cX3_limitForLoading 0 = .ok (.aload_n 0, 1) := by decide +kernel
theorem dX3_limitForLoading_1 : decode cX3_limitForLoading 1 = .ok (.getfield 18, 3) := by decide +kernel
theorem dX3_limitForLoading_4 : decode cX3_limitForLoading 4 = .ok (.iconst 0, 1) := by decide +kernel
theorem dX3_limitForLoading_5 : decode cX3_limitForLoading 5 = .ok (.iaload, 1) := by decide +kernel
theorem dX3_limitForLoading_6 : decode cX3_limitForLoading 6 = .ok (.aload_n 1, 1) := by decide +kernel
theorem dX3_limitForLoading_7 : decode cX3_limitForLoading 7 = .ok (.getfield 76, 3) := by decide +kernel
theorem dX3_limitForLoading_10 : decode cX3_limitForLoading 10 = .ok (.iconst 1, 1) := by decide +kernel
theorem dX3_limitForLoading_11 : decode cX3_limitForLoading 11 = .ok (.iadd, 1) := by decide +kernel
theorem dX3_limitForLoading_12 : decode cX3_limitForLoading 12 = .ok (.aload_n 0, 1) := by decide +kernel
theorem dX3_limitForLoading_13 : decode cX3_limitForLoading 13 = .ok (.getfield 18, 3) := by decide +kernel
theorem dX3_limitForLoading_16 : decode cX3_limitForLoading 16 = .ok (.iconst 1, 1) := by decide +kernel
theorem dX3_limitForLoading_17 : decode cX3_limitForLoading 17 = .ok (.iaload, 1) := by decide +kernel
theorem dX3_limitForLoading_18 : decode cX3_limitForLoading 18 = .ok (.imul, 1) := by decide +kernel
theorem dX3_limitForLoading_19 : decode cX3_limitForLoading 19 = .ok (.isub, 1) := by decide +kernel
theorem dX3_limitForLoading_20 : decode cX3_limitForLoading 20 = .ok (.ireturn, 1) := by decide +kernel
theorem dX3_limitForUnloading_0 : decode cX3_limitForUnloading 0 = .ok (.aload_n 0, 1) := by decide +kernel
theorem dX3_limitForUnloading_1 : decode cX3_limitForUnloading 1 = .ok (.getfield 18, 3) := by decide +kernel
theorem dX3_limitForUnloading_4 : decode cX3_limitForUnloading 4 = .ok (.iconst 0, 1) := by decide +kernel
theorem dX3_limitForUnloading_5 : decode cX3_limitForUnloading 5 = .ok (.iaload, 1) := by decide +kernel
theorem dX3_limitForUnloading_6 : decode cX3_limitForUnloading 6 = .ok (.aload_n 0, 1) := by decide +kernel
theorem dX3_limitForUnloading_7 : decode cX3_limitForUnloading 7 = .ok (.getfield 54, 3) := by decide +kernel
theorem dX3_limitForUnloading_10 : decode cX3_limitForUnloading 10 = .ok (.aload_n 1, 1) := by decide +kernel
theorem dX3_limitForUnloading_11 : decode cX3_limitForUnloading 11 = .ok (.getfield 76, 3) := by decide +kernel
theorem dX3_limitForUnloading_14 : decode cX3_limitForUnloading 14 = .ok (.isub, 1) := by decide +kernel
theorem dX3_limitForUnloading_15 : decode cX3_limitForUnloading 15 = .ok (.aload_n 0, 1) := by decide +kernel
theorem dX3_limitForUnloading_16 : decode cX3_limitForUnloading 16 = .ok (.getfield 18, 3) := by decide +kernel
theorem dX3_limitForUnloading_19 : decode cX3_limitForUnloading 19 = .ok (.iconst 1, 1) := by decide +kernel
theorem dX3_limitForUnloading_20 : decode cX3_limitForUnloading 20 = .ok (.iaload, 1) := by decide +kernel
theorem dX3_limitForUnloading_21 : decode cX3_limitForUnloading 21 = .ok (.imul, 1) := by decide +kernel
theorem dX3_limitForUnloading_22 : decode cX3_limitForUnloading 22 = .ok (.iadd, 1) := by decide +kernel
theorem dX3_limitForUnloading_23 : decode cX3_limitForUnloading 23 = .ok (.ireturn, 1) := by decide +kernel
theorem dX3_hasTimeFor_0 : decode cX3_hasTimeFor 0 = .ok (.aload_n 0, 1) := by decide +kernel
theorem dX3_hasTimeFor_1 : decode cX3_hasTimeFor 1 = .ok (.getfield 45, 3) := by decide +kernel
theorem dX3_hasTimeFor_4 : decode cX3_hasTimeFor 4 = .ok (.iload_n 1, 1) := by decide +kernel
theorem dX3_hasTimeFor_5 : decode cX3_hasTimeFor 5 = .ok (.iadd, 1) := by decide +kernel
theorem dX3_hasTimeFor_6 : decode cX3_hasTimeFor 6 = .ok (.ldc 79, 2) := by decide +kernel
theorem dX3_hasTimeFor_8 : decode cX3_hasTimeFor 8 = .ok (.if_icmp .gt 7, 3) := by decide +kernel
theorem dX3_hasTimeFor_11 : decode cX3_hasTimeFor 11 = .ok (.iconst 1, 1) := by decide +kernel
theorem dX3_hasTimeFor_12 : decode cX3_hasTimeFor 12 = .ok (.goto 4, 3) := by decide +kernel
theorem dX3_hasTimeFor_15 : decode cX3_hasTimeFor 15 = .ok (.iconst 0, 1) := by decide +kernel
theorem dX3_hasTimeFor_16 : decode cX3_hasTimeFor 16 = .ok (.ireturn, 1) := by decide +kernel
theorem dX3_numberOf_0 : decode cX3_numberOf 0 = .ok (.iload_n 1, 1) := by decide +kernel
theorem dX3_numberOf_1 : decode cX3_numberOf 1 = .ok (.tableswitch 118 0 10 #[59, 64, 69, 74, 79, 85, 91, 97, 102, 107, 112], 59) := by decide +kernel
theorem dX3_numberOf_60 : decode cX3_numberOf 60 = .ok (.aload_n 0, 1) := by decide +kernel
theorem dX3_numberOf_61 : decode cX3_numberOf 61 = .ok (.getfield 9, 3) := by decide +kernel
theorem dX3_numberOf_64 : decode cX3_numberOf 64 = .ok (.ireturn, 1) := by decide +kernel
theorem dX3_numberOf_65 : decode cX3_numberOf 65 = .ok (.aload_n 0, 1) := by decide +kernel
theorem dX3_numberOf_66 : decode cX3_numberOf 66 = .ok (.getfield 15, 3) := by decide +kernel
theorem dX3_numberOf_69 : decode cX3_numberOf 69 = .ok (.ireturn, 1) := by decide +kernel
theorem dX3_numberOf_70 : decode cX3_numberOf 70 = .ok (.aload_n 0, 1) := by decide +kernel
theorem dX3_numberOf_71 : decode cX3_numberOf 71 = .ok (.invokevirtual 80, 3) := by decide +kernel
theorem dX3_numberOf_74 : decode cX3_numberOf 74 = .ok (.ireturn, 1) := by decide +kernel
theorem dX3_numberOf_75 : decode cX3_numberOf 75 = .ok (.aload_n 0, 1) := by decide +kernel
theorem dX3_numberOf_76 : decode cX3_numberOf 76 = .ok (.getfield 54, 3) := by decide +kernel
theorem dX3_numberOf_79 : decode cX3_numberOf 79 = .ok (.ireturn, 1) := by decide +kernel
theorem dX3_numberOf_80 : decode cX3_numberOf 80 = .ok (.aload_n 0, 1) := by decide +kernel
theorem dX3_numberOf_81 : decode cX3_numberOf 81 = .ok (.iconst 1, 1) := by decide +kernel
theorem dX3_numberOf_82 : decode cX3_numberOf 82 = .ok (.invokevirtual 84, 3) := by decide +kernel
theorem dX3_numberOf_85 : decode cX3_numberOf 85 = .ok (.ireturn, 1) := by decide +kernel
theorem dX3_numberOf_86 : decode cX3_numberOf 86 = .ok (.aload_n 0, 1) := by decide +kernel
theorem dX3_numberOf_87 : decode cX3_numberOf 87 = .ok (.iconst 2, 1) := by decide +kernel
theorem dX3_numberOf_88 : decode cX3_numberOf 88 = .ok (.invokevirtual 84, 3) := by decide +kernel
theorem dX3_numberOf_91 : decode cX3_numberOf 91 = .ok (.ireturn, 1) := by decide +kernel
theorem dX3_numberOf_92 : decode cX3_numberOf 92 = .ok (.aload_n 0, 1) := by decide +kernel
theorem dX3_numberOf_93 : decode cX3_numberOf 93 = .ok (.iconst 3, 1) := by decide +kernel
theorem dX3_numberOf_94 : decode cX3_numberOf 94 = .ok (.invokevirtual 84, 3) := by decide +kernel
theorem dX3_numberOf_97 : decode cX3_numberOf 97 = .ok (.ireturn, 1) := by decide +kernel
theorem dX3_numberOf_98 : decode cX3_numberOf 98 = .ok (.aload_n 0, 1) := by decide +kernel
theorem dX3_numberOf_99 : decode cX3_numberOf 99 = .ok (.getfield 45, 3) := by decide +kernel
theorem dX3_numberOf_102 : decode cX3_numberOf 102 = .ok (.ireturn, 1) := by decide +kernel
theorem dX3_numberOf_103 : decode cX3_numberOf 103 = .ok (.aload_n 0, 1) := by decide +kernel
theorem dX3_numberOf_104 : decode cX3_numberOf 104 = .ok (.getfield 48, 3) := by decide +kernel
theorem dX3_numberOf_107 : decode cX3_numberOf 107 = .ok (.ireturn, 1) := by decide +kernel
theorem dX3_numberOf_108 : decode cX3_numberOf 108 = .ok (.aload_n 0, 1) := by decide +kernel
theorem dX3_numberOf_109 : decode cX3_numberOf 109 = .ok (.getfield 51, 3) := by decide +kernel
theorem dX3_numberOf_112 : decode cX3_numberOf 112 = .ok (.ireturn, 1) := by decide +kernel
theorem dX3_numberOf_113 : decode cX3_numberOf 113 = .ok (.aload_n 0, 1) := by decide +kernel
theorem dX3_numberOf_114 : decode cX3_numberOf 114 = .ok (.iconst 1, 1) := by decide +kernel
theorem dX3_numberOf_115 : decode cX3_numberOf 115 = .ok (.invokevirtual 88, 3) := by decide +kernel
theorem dX3_numberOf_118 : decode cX3_numberOf 118 = .ok (.ireturn, 1) := by decide +kernel
theorem dX3_numberOf_119 : decode cX3_numberOf 119 = .ok (.aload_n 0, 1) := by decide +kernel
theorem dX3_numberOf_120 : decode cX3_numberOf 120 = .ok (.getfield 57, 3) := by decide +kernel
theorem dX3_numberOf_123 : decode cX3_numberOf 123 = .ok (.ireturn, 1) := by decide +kernel
theorem dX3_numberAbout_0 : decode cX3_numberAbout 0 = .ok (.iload_n 2, 1) := by decide +kernel
theorem dX3_numberAbout_1 : decode cX3_numberAbout 1 = .ok (.tableswitch 97 0 8 #[51, 56, 61, 66, 71, 76, 81, 86, 91], 51) := by decide +kernel
theorem dX3_numberAbout_52 : decode cX3_numberAbout 52 = .ok (.aload_n 1, 1) := by decide +kernel
theorem dX3_numberAbout_53 : decode cX3_numberAbout 53 = .ok (.getfield 91, 3) := by decide +kernel
theorem dX3_numberAbout_56 : decode cX3_numberAbout 56 = .ok (.ireturn, 1) := by decide +kernel
theorem dX3_numberAbout_57 : decode cX3_numberAbout 57 = .ok (.aload_n 1, 1) := by decide +kernel
theorem dX3_numberAbout_58 : decode cX3_numberAbout 58 = .ok (.getfield 94, 3) := by decide +kernel
theorem dX3_numberAbout_61 : decode cX3_numberAbout 61 = .ok (.ireturn, 1) := by decide +kernel
theorem dX3_numberAbout_62 : decode cX3_numberAbout 62 = .ok (.aload_n 1, 1) := by decide +kernel
theorem dX3_numberAbout_63 : decode cX3_numberAbout 63 = .ok (.getfield 76, 3) := by decide +kernel
theorem dX3_numberAbout_66 : decode cX3_numberAbout 66 = .ok (.ireturn, 1) := by decide +kernel
theorem dX3_numberAbout_67 : decode cX3_numberAbout 67 = .ok (.aload_n 1, 1) := by decide +kernel
theorem dX3_numberAbout_68 : decode cX3_numberAbout 68 = .ok (.getfield 97, 3) := by decide +kernel
theorem dX3_numberAbout_71 : decode cX3_numberAbout 71 = .ok (.ireturn, 1) := by decide +kernel
theorem dX3_numberAbout_72 : decode cX3_numberAbout 72 = .ok (.aload_n 1, 1) := by decide +kernel
theorem dX3_numberAbout_73 : decode cX3_numberAbout 73 = .ok (.getfield 100, 3) := by decide +kernel
theorem dX3_numberAbout_76 : decode cX3_numberAbout 76 = .ok (.ireturn, 1) := by decide +kernel
theorem dX3_numberAbout_77 : decode cX3_numberAbout 77 = .ok (.aload_n 1, 1) := by decide +kernel
theorem dX3_numberAbout_78 : decode cX3_numberAbout 78 = .ok (.getfield 103, 3) := by decide +kernel
theorem dX3_numberAbout_81 : decode cX3_numberAbout 81 = .ok (.ireturn, 1) := by decide +kernel
theorem dX3_numberAbout_82 : decode cX3_numberAbout 82 = .ok (.aload_n 1, 1) := by decide +kernel
theorem dX3_numberAbout_83 : decode cX3_numberAbout 83 = .ok (.getfield 106, 3) := by decide +kernel
theorem dX3_numberAbout_86 : decode cX3_numberAbout 86 = .ok (.ireturn, 1) := by decide +kernel
theorem dX3_numberAbout_87 : decode cX3_numberAbout 87 = .ok (.aload_n 1, 1) := by decide +kernel
theorem dX3_numberAbout_88 : decode cX3_numberAbout 88 = .ok (.getfield 109, 3) := by decide +kernel
theorem dX3_numberAbout_91 : decode cX3_numberAbout 91 = .ok (.ireturn, 1) := by decide +kernel
theorem dX3_numberAbout_92 : decode cX3_numberAbout 92 = .ok (.aload_n 0, 1) := by decide +kernel
theorem dX3_numberAbout_93 : decode cX3_numberAbout 93 = .ok (.aload_n 1, 1) := by decide +kernel
theorem dX3_numberAbout_94 : decode cX3_numberAbout 94 = .ok (.invokevirtual 112, 3) := by decide +kernel
theorem dX3_numberAbout_97 : decode cX3_numberAbout 97 = .ok (.ireturn, 1) := by decide +kernel
theorem dX3_numberAbout_98 : decode cX3_numberAbout 98 = .ok (.aload_n 0, 1) := by decide +kernel
theorem dX3_numberAbout_99 : decode cX3_numberAbout 99 = .ok (.aload_n 1, 1) := by decide +kernel
theorem dX3_numberAbout_100 : decode cX3_numberAbout 100 = .ok (.invokevirtual 116, 3) := by decide +kernel
theorem dX3_numberAbout_103 : decode cX3_numberAbout 103 = .ok (.ireturn, 1) := by decide +kernel
theorem dX3_countOf_0 : decode cX3_countOf 0 = .ok (.iconst 0, 1) := by decide +kernel
theorem dX3_countOf_1 : decode cX3_countOf 1 = .ok (.istore_n 2, 1) := by decide +kernel
theorem dX3_countOf_2 : decode cX3_countOf 2 = .ok (.iconst 0, 1) := by decide +kernel
theorem dX3_countOf_3 : decode cX3_countOf 3 = .ok (.istore_n 3, 1) := by decide +kernel
theorem dX3_countOf_4 : decode cX3_countOf 4 = .ok (.iload_n 3, 1) := by decide +kernel
theorem dX3_countOf_5 : decode cX3_countOf 5 = .ok (.iconst 5, 1) := by decide +kernel
theorem dX3_countOf_6 : decode cX3_countOf 6 = .ok (.if_icmp .ge 33, 3) := by decide +kernel
theorem dX3_countOf_9 : decode cX3_countOf 9 = .ok (.aload_n 0, 1) := by decide +kernel
theorem dX3_countOf_10 : decode cX3_countOf 10 = .ok (.iload_n 3, 1) := by decide +kernel
theorem dX3_countOf_11 : decode cX3_countOf 11 = .ok (.invokevirtual 60, 3) := by decide +kernel
theorem dX3_countOf_14 : decode cX3_countOf 14 = .ok (.astore 4, 2) := by decide +kernel
theorem dX3_countOf_16 : decode cX3_countOf 16 = .ok (.aload 4, 2) := by decide +kernel
theorem dX3_countOf_18 : decode cX3_countOf 18 = .ok (.ifnull 15, 3) := by decide +kernel
theorem dX3_countOf_21 : decode cX3_countOf 21 = .ok (.aload 4, 2) := by decide +kernel
theorem dX3_countOf_23 : decode cX3_countOf 23 = .ok (.getfield 94, 3) := by decide +kernel
theorem dX3_countOf_26 : decode cX3_countOf 26 = .ok (.iload_n 1, 1) := by decide +kernel
theorem dX3_countOf_27 : decode cX3_countOf 27 = .ok (.if_icmp .ne 6, 3) := by decide +kernel
theorem dX3_countOf_30 : decode cX3_countOf 30 = .ok (.iinc 2 1, 3) := by decide +kernel
theorem dX3_countOf_33 : decode cX3_countOf 33 = .ok (.iinc 3 1, 3) := by decide +kernel
theorem dX3_countOf_36 : decode cX3_countOf 36 = .ok (.goto (-32), 3) := by decide +kernel
theorem dX3_countOf_39 : decode cX3_countOf 39 = .ok (.iload_n 2, 1) := by decide +kernel
theorem dX3_countOf_40 : decode cX3_countOf 40 = .ok (.ireturn, 1) := by decide +kernel
theorem dX3_capacityOf_0 : decode cX3_capacityOf 0 = .ok (.iconst 0, 1) := by decide +kernel
theorem dX3_capacityOf_1 : decode cX3_capacityOf 1 = .ok (.istore_n 2, 1) := by decide +kernel
theorem dX3_capacityOf_2 : decode cX3_capacityOf 2 = .ok (.iconst 0, 1) := by decide +kernel
theorem dX3_capacityOf_3 : decode cX3_capacityOf 3 = .ok (.istore_n 3, 1) := by decide +kernel
theorem dX3_capacityOf_4 : decode cX3_capacityOf 4 = .ok (.iload_n 3, 1) := by decide +kernel
theorem dX3_capacityOf_5 : decode cX3_capacityOf 5 = .ok (.iconst 5, 1) := by decide +kernel
theorem dX3_capacityOf_6 : decode cX3_capacityOf 6 = .ok (.if_icmp .ge 38, 3) := by decide +kernel
theorem dX3_capacityOf_9 : decode cX3_capacityOf 9 = .ok (.aload_n 0, 1) := by decide +kernel
theorem dX3_capacityOf_10 : decode cX3_capacityOf 10 = .ok (.iload_n 3, 1) := by decide +kernel
theorem dX3_capacityOf_11 : decode cX3_capacityOf 11 = .ok (.invokevirtual 60, 3) := by decide +kernel
theorem dX3_capacityOf_14 : decode cX3_capacityOf 14 = .ok (.astore 4, 2) := by decide +kernel
theorem dX3_capacityOf_16 : decode cX3_capacityOf 16 = .ok (.aload 4, 2) := by decide +kernel
theorem dX3_capacityOf_18 : decode cX3_capacityOf 18 = .ok (.ifnull 20, 3) := by decide +kernel
theorem dX3_capacityOf_21 : decode cX3_capacityOf 21 = .ok (.aload 4, 2) := by decide +kernel
theorem dX3_capacityOf_23 : decode cX3_capacityOf 23 = .ok (.getfield 94, 3) := by decide +kernel
theorem dX3_capacityOf_26 : decode cX3_capacityOf 26 = .ok (.iload_n 1, 1) := by decide +kernel
theorem dX3_capacityOf_27 : decode cX3_capacityOf 27 = .ok (.if_icmp .ne 11, 3) := by decide +kernel
theorem dX3_capacityOf_30 : decode cX3_capacityOf 30 = .ok (.iload_n 2, 1) := by decide +kernel
theorem dX3_capacityOf_31 : decode cX3_capacityOf 31 = .ok (.aload 4, 2) := by decide +kernel
theorem dX3_capacityOf_33 : decode cX3_capacityOf 33 = .ok (.getfield 91, 3) := by decide +kernel
theorem dX3_capacityOf_36 : decode cX3_capacityOf 36 = .ok (.iadd, 1) := by decide +kernel
theorem dX3_capacityOf_37 : decode cX3_capacityOf 37 = .ok (.istore_n 2, 1) := by decide +kernel
theorem dX3_capacityOf_38 : decode cX3_capacityOf 38 = .ok (.iinc 3 1, 3) := by decide +kernel
theorem dX3_capacityOf_41 : decode cX3_capacityOf 41 = .ok (.goto (-37), 3) := by decide +kernel
theorem dX3_capacityOf_44 : decode cX3_capacityOf 44 = .ok (.iload_n 2, 1) := by decide +kernel
theorem dX3_capacityOf_45 : decode cX3_capacityOf 45 = .ok (.ireturn, 1) := by decide +kernel
theorem dX3_numberAtStage_0 : decode cX3_numberAtStage 0 = .ok (.iconst 0, 1) := by decide +kernel
theorem dX3_numberAtStage_1 : decode cX3_numberAtStage 1 = .ok (.istore_n 2, 1) := by decide +kernel
theorem dX3_numberAtStage_2 : decode cX3_numberAtStage 2 = .ok (.iload_n 2, 1) := by decide +kernel
theorem dX3_numberAtStage_3 : decode cX3_numberAtStage 3 = .ok (.iconst 5, 1) := by decide +kernel
theorem dX3_numberAtStage_4 : decode cX3_numberAtStage 4 = .ok (.if_icmp .ge 29, 3) := by decide +kernel
theorem dX3_numberAtStage_7 : decode cX3_numberAtStage 7 = .ok (.aload_n 0, 1) := by decide +kernel
theorem dX3_numberAtStage_8 : decode cX3_numberAtStage 8 = .ok (.iload_n 2, 1) := by decide +kernel
theorem dX3_numberAtStage_9 : decode cX3_numberAtStage 9 = .ok (.invokevirtual 60, 3) := by decide +kernel
theorem dX3_numberAtStage_12 : decode cX3_numberAtStage 12 = .ok (.astore_n 3, 1) := by decide +kernel
theorem dX3_numberAtStage_13 : decode cX3_numberAtStage 13 = .ok (.aload_n 3, 1) := by decide +kernel
theorem dX3_numberAtStage_14 : decode cX3_numberAtStage 14 = .ok (.ifnull 13, 3) := by decide +kernel
theorem dX3_numberAtStage_17 : decode cX3_numberAtStage 17 = .ok (.aload_n 3, 1) := by decide +kernel
theorem dX3_numberAtStage_18 : decode cX3_numberAtStage 18 = .ok (.getfield 76, 3) := by decide +kernel
theorem dX3_numberAtStage_21 : decode cX3_numberAtStage 21 = .ok (.iload_n 1, 1) := by decide +kernel
theorem dX3_numberAtStage_22 : decode cX3_numberAtStage 22 = .ok (.if_icmp .ne 5, 3) := by decide +kernel
theorem dX3_numberAtStage_25 : decode cX3_numberAtStage 25 = .ok (.iload_n 2, 1) := by decide +kernel
theorem dX3_numberAtStage_26 : decode cX3_numberAtStage 26 = .ok (.ireturn, 1) := by decide +kernel
theorem dX3_numberAtStage_27 : decode cX3_numberAtStage 27 = .ok (.iinc 2 1, 3) := by decide +kernel
theorem dX3_numberAtStage_30 : decode cX3_numberAtStage 30 = .ok (.goto (-28), 3) := by decide +kernel
theorem dX3_numberAtStage_33 : decode cX3_numberAtStage 33 = .ok (.iconst (-1), 1) := by decide +kernel
theorem dX3_numberAtStage_34 : decode cX3_numberAtStage 34 = .ok (.ireturn, 1) := by decide +kernel
theorem dX3_reorder_0 : decode cX3_reorder 0 = .ok (.iconst 0, 1) := by decide +kernel
theorem dX3_reorder_1 : decode cX3_reorder 1 = .ok (.istore_n 1, 1) := by decide +kernel
theorem dX3_reorder_2 : decode cX3_reorder 2 = .ok (.iconst 0, 1) := by decide +kernel
theorem dX3_reorder_3 : decode cX3_reorder 3 = .ok (.istore_n 2, 1) := by decide +kernel
theorem dX3_reorder_4 : decode cX3_reorder 4 = .ok (.iload_n 2, 1) := by decide +kernel
theorem dX3_reorder_5 : decode cX3_reorder 5 = .ok (.iconst 5, 1) := by decide +kernel
theorem dX3_reorder_6 : decode cX3_reorder 6 = .ok (.if_icmp .ge 48, 3) := by decide +kernel
theorem dX3_reorder_9 : decode cX3_reorder 9 = .ok (.aload_n 0, 1) := by decide +kernel
theorem dX3_reorder_10 : decode cX3_reorder 10 = .ok (.iload_n 2, 1) := by decide +kernel
theorem dX3_reorder_11 : decode cX3_reorder 11 = .ok (.invokevirtual 60, 3) := by decide +kernel
theorem dX3_reorder_14 : decode cX3_reorder 14 = .ok (.astore_n 3, 1) := by decide +kernel
theorem dX3_reorder_15 : decode cX3_reorder 15 = .ok (.aload_n 3, 1) := by decide +kernel
theorem dX3_reorder_16 : decode cX3_reorder 16 = .ok (.ifnull 32, 3) := by decide +kernel
theorem dX3_reorder_19 : decode cX3_reorder 19 = .ok (.aload_n 0, 1) := by decide +kernel
theorem dX3_reorder_20 : decode cX3_reorder 20 = .ok (.iload_n 2, 1) := by decide +kernel
theorem dX3_reorder_21 : decode cX3_reorder 21 = .ok (.aload_n 3, 1) := by decide +kernel
theorem dX3_reorder_22 : decode cX3_reorder 22 = .ok (.getfield 97, 3) := by decide +kernel
theorem dX3_reorder_25 : decode cX3_reorder 25 = .ok (.invokevirtual 121, 3) := by decide +kernel
theorem dX3_reorder_28 : decode cX3_reorder 28 = .ok (.istore 4, 2) := by decide +kernel
theorem dX3_reorder_30 : decode cX3_reorder 30 = .ok (.iload 4, 2) := by decide +kernel
theorem dX3_reorder_32 : decode cX3_reorder 32 = .ok (.aload_n 3, 1) := by decide +kernel
theorem dX3_reorder_33 : decode cX3_reorder 33 = .ok (.getfield 76, 3) := by decide +kernel
theorem dX3_reorder_36 : decode cX3_reorder 36 = .ok (.if_icmp .eq 6, 3) := by decide +kernel
theorem dX3_reorder_39 : decode cX3_reorder 39 = .ok (.iinc 1 1, 3) := by decide +kernel
theorem dX3_reorder_42 : decode cX3_reorder 42 = .ok (.aload_n 3, 1) := by decide +kernel
theorem dX3_reorder_43 : decode cX3_reorder 43 = .ok (.iload 4, 2) := by decide +kernel
theorem dX3_reorder_45 : decode cX3_reorder 45 = .ok (.putfield 76, 3) := by decide +kernel
theorem dX3_reorder_48 : decode cX3_reorder 48 = .ok (.iinc 2 1, 3) := by decide +kernel
theorem dX3_reorder_51 : decode cX3_reorder 51 = .ok (.goto (-47), 3) := by decide +kernel
theorem dX3_reorder_54 : decode cX3_reorder 54 = .ok (.aload_n 0, 1) := by decide +kernel
theorem dX3_reorder_55 : decode cX3_reorder 55 = .ok (.dup, 1) := by decide +kernel
theorem dX3_reorder_56 : decode cX3_reorder 56 = .ok (.getfield 51, 3) := by decide +kernel
theorem dX3_reorder_59 : decode cX3_reorder 59 = .ok (.iconst 1, 1) := by decide +kernel
theorem dX3_reorder_60 : decode cX3_reorder 60 = .ok (.iadd, 1) := by decide +kernel
theorem dX3_reorder_61 : decode cX3_reorder 61 = .ok (.putfield 51, 3) := by decide +kernel
theorem dX3_reorder_64 : decode cX3_reorder 64 = .ok (.aload_n 0, 1) := by decide +kernel
theorem dX3_reorder_65 : decode cX3_reorder 65 = .ok (.iconst 0, 1) := by decide +kernel
theorem dX3_reorder_66 : decode cX3_reorder 66 = .ok (.putfield 48, 3) := by decide +kernel
theorem dX3_reorder_69 : decode cX3_reorder 69 = .ok (.iload_n 1, 1) := by decide +kernel
theorem dX3_reorder_70 : decode cX3_reorder 70 = .ok (.ireturn, 1) := by decide +kernel
theorem dX3_stageByMinutes_0 : decode cX3_stageByMinutes 0 = .ok (.iconst 0, 1) := by decide +kernel
theorem dX3_stageByMinutes_1 : decode cX3_stageByMinutes 1 = .ok (.istore_n 3, 1) := by decide +kernel
theorem dX3_stageByMinutes_2 : decode cX3_stageByMinutes 2 = .ok (.iconst 0, 1) := by decide +kernel
theorem dX3_stageByMinutes_3 : decode cX3_stageByMinutes 3 = .ok (.istore 4, 2) := by decide +kernel
theorem dX3_stageByMinutes_5 : decode cX3_stageByMinutes 5 = .ok (.iload 4, 2) := by decide +kernel
theorem dX3_stageByMinutes_7 : decode cX3_stageByMinutes 7 = .ok (.iconst 5, 1) := by decide +kernel
theorem dX3_stageByMinutes_8 : decode cX3_stageByMinutes 8 = .ok (.if_icmp .ge 49, 3) := by decide +kernel
theorem dX3_stageByMinutes_11 : decode cX3_stageByMinutes 11 = .ok (.aload_n 0, 1) := by decide +kernel
theorem dX3_stageByMinutes_12 : decode cX3_stageByMinutes 12 = .ok (.iload 4, 2) := by decide +kernel
theorem dX3_stageByMinutes_14 : decode cX3_stageByMinutes 14 = .ok (.invokevirtual 60, 3) := by decide +kernel
theorem dX3_stageByMinutes_17 : decode cX3_stageByMinutes 17 = .ok (.astore 5, 2) := by decide +kernel
theorem dX3_stageByMinutes_19 : decode cX3_stageByMinutes 19 = .ok (.aload 5, 2) := by decide +kernel
theorem dX3_stageByMinutes_21 : decode cX3_stageByMinutes 21 = .ok (.ifnull 30, 3) := by decide +kernel
theorem dX3_stageByMinutes_24 : decode cX3_stageByMinutes 24 = .ok (.aload 5, 2) := by decide +kernel
theorem dX3_stageByMinutes_26 : decode cX3_stageByMinutes 26 = .ok (.getfield 97, 3) := by decide +kernel
theorem dX3_stageByMinutes_29 : decode cX3_stageByMinutes 29 = .ok (.iload_n 2, 1) := by decide +kernel
theorem dX3_stageByMinutes_30 : decode cX3_stageByMinutes 30 = .ok (.if_icmp .lt 18, 3) := by decide +kernel
theorem dX3_stageByMinutes_33 : decode cX3_stageByMinutes 33 = .ok (.aload 5, 2) := by decide +kernel
theorem dX3_stageByMinutes_35 : decode cX3_stageByMinutes 35 = .ok (.getfield 97, 3) := by decide +kernel
theorem dX3_stageByMinutes_38 : decode cX3_stageByMinutes 38 = .ok (.iload_n 2, 1) := by decide +kernel
theorem dX3_stageByMinutes_39 : decode cX3_stageByMinutes 39 = .ok (.if_icmp .ne 12, 3) := by decide +kernel
theorem dX3_stageByMinutes_42 : decode cX3_stageByMinutes 42 = .ok (.iload 4, 2) := by decide +kernel
theorem dX3_stageByMinutes_44 : decode cX3_stageByMinutes 44 = .ok (.iload_n 1, 1) := by decide +kernel
theorem dX3_stageByMinutes_45 : decode cX3_stageByMinutes 45 = .ok (.if_icmp .ge 6, 3) := by decide +kernel
theorem dX3_stageByMinutes_48 : decode cX3_stageByMinutes 48 = .ok (.iinc 3 1, 3) := by decide +kernel
theorem dX3_stageByMinutes_51 : decode cX3_stageByMinutes 51 = .ok (.iinc 4 1, 3) := by decide +kernel
theorem dX3_stageByMinutes_54 : decode cX3_stageByMinutes 54 = .ok (.goto (-49), 3) := by decide +kernel
theorem dX3_stageByMinutes_57 : decode cX3_stageByMinutes 57 = .ok (.iload_n 3, 1) := by decide +kernel
theorem dX3_stageByMinutes_58 : decode cX3_stageByMinutes 58 = .ok (.ireturn, 1) := by decide +kernel
theorem dX3_runMinutes_0 : decode cX3_runMinutes 0 = .ok (.iconst 0, 1) := by decide +kernel
theorem dX3_runMinutes_1 : decode cX3_runMinutes 1 = .ok (.istore_n 2, 1) := by decide +kernel
theorem dX3_runMinutes_2 : decode cX3_runMinutes 2 = .ok (.iload_n 2, 1) := by decide +kernel
theorem dX3_runMinutes_3 : decode cX3_runMinutes 3 = .ok (.iload_n 1, 1) := by decide +kernel
theorem dX3_runMinutes_4 : decode cX3_runMinutes 4 = .ok (.if_icmp .ge 14, 3) := by decide +kernel
theorem dX3_runMinutes_7 : decode cX3_runMinutes 7 = .ok (.aload_n 0, 1) := by decide +kernel
theorem dX3_runMinutes_8 : decode cX3_runMinutes 8 = .ok (.invokevirtual 130, 3) := by decide +kernel
theorem dX3_runMinutes_11 : decode cX3_runMinutes 11 = .ok (.pop, 1) := by decide +kernel
theorem dX3_runMinutes_12 : decode cX3_runMinutes 12 = .ok (.iinc 2 1, 3) := by decide +kernel
theorem dX3_runMinutes_15 : decode cX3_runMinutes 15 = .ok (.goto (-13), 3) := by decide +kernel
theorem dX3_runMinutes_18 : decode cX3_runMinutes 18 = .ok (.return_, 1) := by decide +kernel
theorem dX3_runMinute_0 : decode cX3_runMinute 0 = .ok (.aload_n 0, 1) := by decide +kernel
theorem dX3_runMinute_1 : decode cX3_runMinute 1 = .ok (.getfield 48, 3) := by decide +kernel
theorem dX3_runMinute_4 : decode cX3_runMinute 4 = .ok (.aload_n 0, 1) := by decide +kernel
theorem dX3_runMinute_5 : decode cX3_runMinute 5 = .ok (.getfield 18, 3) := by decide +kernel
theorem dX3_runMinute_8 : decode cX3_runMinute 8 = .ok (.bipush 7, 2) := by decide +kernel
theorem dX3_runMinute_10 : decode cX3_runMinute 10 = .ok (.iaload, 1) := by decide +kernel
theorem dX3_runMinute_11 : decode cX3_runMinute 11 = .ok (.if_icmp .lt 8, 3) := by decide +kernel
theorem dX3_runMinute_14 : decode cX3_runMinute 14 = .ok (.aload_n 0, 1) := by decide +kernel
theorem dX3_runMinute_15 : decode cX3_runMinute 15 = .ok (.invokevirtual 134, 3) := by decide +kernel
theorem dX3_runMinute_18 : decode cX3_runMinute 18 = .ok (.pop, 1) := by decide +kernel
theorem dX3_runMinute_19 : decode cX3_runMinute 19 = .ok (.aload_n 0, 1) := by decide +kernel
theorem dX3_runMinute_20 : decode cX3_runMinute 20 = .ok (.invokevirtual 80, 3) := by decide +kernel
theorem dX3_runMinute_23 : decode cX3_runMinute 23 = .ok (.istore_n 1, 1) := by decide +kernel
theorem dX3_runMinute_24 : decode cX3_runMinute 24 = .ok (.aload_n 0, 1) := by decide +kernel
theorem dX3_runMinute_25 : decode cX3_runMinute 25 = .ok (.iload_n 1, 1) := by decide +kernel
theorem dX3_runMinute_26 : decode cX3_runMinute 26 = .ok (.invokevirtual 137, 3) := by decide +kernel
theorem dX3_runMinute_29 : decode cX3_runMinute 29 = .ok (.istore_n 2, 1) := by decide +kernel
theorem dX3_runMinute_30 : decode cX3_runMinute 30 = .ok (.aload_n 0, 1) := by decide +kernel
theorem dX3_runMinute_31 : decode cX3_runMinute 31 = .ok (.iload_n 1, 1) := by decide +kernel
theorem dX3_runMinute_32 : decode cX3_runMinute 32 = .ok (.aload_n 0, 1) := by decide +kernel
theorem dX3_runMinute_33 : decode cX3_runMinute 33 = .ok (.getfield 18, 3) := by decide +kernel
theorem dX3_runMinute_36 : decode cX3_runMinute 36 = .ok (.bipush 6, 2) := by decide +kernel
theorem dX3_runMinute_38 : decode cX3_runMinute 38 = .ok (.iaload, 1) := by decide +kernel
theorem dX3_runMinute_39 : decode cX3_runMinute 39 = .ok (.invokevirtual 141, 3) := by decide +kernel
theorem dX3_runMinute_42 : decode cX3_runMinute 42 = .ok (.pop, 1) := by decide +kernel
theorem dX3_runMinute_43 : decode cX3_runMinute 43 = .ok (.iload_n 2, 1) := by decide +kernel
theorem dX3_runMinute_44 : decode cX3_runMinute 44 = .ok (.ireturn, 1) := by decide +kernel
theorem dX3_runLeakTest_0 : decode cX3_runLeakTest 0 = .ok (.aload_n 0, 1) := by decide +kernel
theorem dX3_runLeakTest_1 : decode cX3_runLeakTest 1 = .ok (.invokevirtual 144, 3) := by decide +kernel
theorem dX3_runLeakTest_4 : decode cX3_runLeakTest 4 = .ok (.iconst 0, 1) := by decide +kernel
theorem dX3_runLeakTest_5 : decode cX3_runLeakTest 5 = .ok (.istore_n 2, 1) := by decide +kernel
theorem dX3_runLeakTest_6 : decode cX3_runLeakTest 6 = .ok (.iconst 0, 1) := by decide +kernel
theorem dX3_runLeakTest_7 : decode cX3_runLeakTest 7 = .ok (.istore_n 3, 1) := by decide +kernel
theorem dX3_runLeakTest_8 : decode cX3_runLeakTest 8 = .ok (.iload_n 3, 1) := by decide +kernel
theorem dX3_runLeakTest_9 : decode cX3_runLeakTest 9 = .ok (.iload_n 1, 1) := by decide +kernel
theorem dX3_runLeakTest_10 : decode cX3_runLeakTest 10 = .ok (.if_icmp .ge 40, 3) := by decide +kernel
theorem dX3_runLeakTest_13 : decode cX3_runLeakTest 13 = .ok (.aload_n 0, 1) := by decide +kernel
theorem dX3_runLeakTest_14 : decode cX3_runLeakTest 14 = .ok (.getfield 48, 3) := by decide +kernel
theorem dX3_runLeakTest_17 : decode cX3_runLeakTest 17 = .ok (.aload_n 0, 1) := by decide +kernel
theorem dX3_runLeakTest_18 : decode cX3_runLeakTest 18 = .ok (.getfield 18, 3) := by decide +kernel
theorem dX3_runLeakTest_21 : decode cX3_runLeakTest 21 = .ok (.bipush 7, 2) := by decide +kernel
theorem dX3_runLeakTest_23 : decode cX3_runLeakTest 23 = .ok (.iaload, 1) := by decide +kernel
theorem dX3_runLeakTest_24 : decode cX3_runLeakTest 24 = .ok (.if_icmp .lt 8, 3) := by decide +kernel
theorem dX3_runLeakTest_27 : decode cX3_runLeakTest 27 = .ok (.aload_n 0, 1) := by decide +kernel
theorem dX3_runLeakTest_28 : decode cX3_runLeakTest 28 = .ok (.invokevirtual 134, 3) := by decide +kernel
theorem dX3_runLeakTest_31 : decode cX3_runLeakTest 31 = .ok (.pop, 1) := by decide +kernel
theorem dX3_runLeakTest_32 : decode cX3_runLeakTest 32 = .ok (.iload_n 2, 1) := by decide +kernel
theorem dX3_runLeakTest_33 : decode cX3_runLeakTest 33 = .ok (.aload_n 0, 1) := by decide +kernel
theorem dX3_runLeakTest_34 : decode cX3_runLeakTest 34 = .ok (.aload_n 0, 1) := by decide +kernel
theorem dX3_runLeakTest_35 : decode cX3_runLeakTest 35 = .ok (.invokevirtual 80, 3) := by decide +kernel
theorem dX3_runLeakTest_38 : decode cX3_runLeakTest 38 = .ok (.iconst 0, 1) := by decide +kernel
theorem dX3_runLeakTest_39 : decode cX3_runLeakTest 39 = .ok (.invokevirtual 141, 3) := by decide +kernel
theorem dX3_runLeakTest_42 : decode cX3_runLeakTest 42 = .ok (.iadd, 1) := by decide +kernel
theorem dX3_runLeakTest_43 : decode cX3_runLeakTest 43 = .ok (.istore_n 2, 1) := by decide +kernel
theorem dX3_runLeakTest_44 : decode cX3_runLeakTest 44 = .ok (.iinc 3 1, 3) := by decide +kernel
theorem dX3_runLeakTest_47 : decode cX3_runLeakTest 47 = .ok (.goto (-39), 3) := by decide +kernel
theorem dX3_runLeakTest_50 : decode cX3_runLeakTest 50 = .ok (.aload_n 0, 1) := by decide +kernel
theorem dX3_runLeakTest_51 : decode cX3_runLeakTest 51 = .ok (.iload_n 2, 1) := by decide +kernel
theorem dX3_runLeakTest_52 : decode cX3_runLeakTest 52 = .ok (.invokevirtual 147, 3) := by decide +kernel
theorem dX3_runLeakTest_55 : decode cX3_runLeakTest 55 = .ok (.iload_n 2, 1) := by decide +kernel
theorem dX3_runLeakTest_56 : decode cX3_runLeakTest 56 = .ok (.ireturn, 1) := by decide +kernel
theorem dX3_unloadAll_0 : decode cX3_unloadAll 0 = .ok (.iconst 0, 1) := by decide +kernel
theorem dX3_unloadAll_1 : decode cX3_unloadAll 1 = .ok (.istore_n 1, 1) := by decide +kernel
theorem dX3_unloadAll_2 : decode cX3_unloadAll 2 = .ok (.iload_n 1, 1) := by decide +kernel
theorem dX3_unloadAll_3 : decode cX3_unloadAll 3 = .ok (.iconst 5, 1) := by decide +kernel
theorem dX3_unloadAll_4 : decode cX3_unloadAll 4 = .ok (.if_icmp .ge 31, 3) := by decide +kernel
theorem dX3_unloadAll_7 : decode cX3_unloadAll 7 = .ok (.aload_n 0, 1) := by decide +kernel
theorem dX3_unloadAll_8 : decode cX3_unloadAll 8 = .ok (.iload_n 1, 1) := by decide +kernel
theorem dX3_unloadAll_9 : decode cX3_unloadAll 9 = .ok (.invokevirtual 60, 3) := by decide +kernel
theorem dX3_unloadAll_12 : decode cX3_unloadAll 12 = .ok (.astore_n 2, 1) := by decide +kernel
theorem dX3_unloadAll_13 : decode cX3_unloadAll 13 = .ok (.aload_n 2, 1) := by decide +kernel
theorem dX3_unloadAll_14 : decode cX3_unloadAll 14 = .ok (.ifnull 15, 3) := by decide +kernel
theorem dX3_unloadAll_17 : decode cX3_unloadAll 17 = .ok (.aload_n 2, 1) := by decide +kernel
theorem dX3_unloadAll_18 : decode cX3_unloadAll 18 = .ok (.getfield 94, 3) := by decide +kernel
theorem dX3_unloadAll_21 : decode cX3_unloadAll 21 = .ok (.iconst 1, 1) := by decide +kernel
theorem dX3_unloadAll_22 : decode cX3_unloadAll 22 = .ok (.if_icmp .ne 7, 3) := by decide +kernel
theorem dX3_unloadAll_25 : decode cX3_unloadAll 25 = .ok (.aload_n 2, 1) := by decide +kernel
theorem dX3_unloadAll_26 : decode cX3_unloadAll 26 = .ok (.invokevirtual 151, 3) := by decide +kernel
theorem dX3_unloadAll_29 : decode cX3_unloadAll 29 = .ok (.iinc 1 1, 3) := by decide +kernel
theorem dX3_unloadAll_32 : decode cX3_unloadAll 32 = .ok (.goto (-30), 3) := by decide +kernel
theorem dX3_unloadAll_35 : decode cX3_unloadAll 35 = .ok (.return_, 1) := by decide +kernel
theorem dX3_keepResult_0 : decode cX3_keepResult 0 = .ok (.iconst 5, 1) := by decide +kernel
theorem dX3_keepResult_1 : decode cX3_keepResult 1 = .ok (.istore_n 2, 1) := by decide +kernel
theorem dX3_keepResult_2 : decode cX3_keepResult 2 = .ok (.iload_n 2, 1) := by decide +kernel
theorem dX3_keepResult_3 : decode cX3_keepResult 3 = .ok (.ifCond .le 23, 3) := by decide +kernel
theorem dX3_keepResult_6 : decode cX3_keepResult 6 = .ok (.aload_n 0, 1) := by decide +kernel
theorem dX3_keepResult_7 : decode cX3_keepResult 7 = .ok (.getfield 26, 3) := by decide +kernel
theorem dX3_keepResult_10 : decode cX3_keepResult 10 = .ok (.iload_n 2, 1) := by decide +kernel
theorem dX3_keepResult_11 : decode cX3_keepResult 11 = .ok (.aload_n 0, 1) := by decide +kernel
theorem dX3_keepResult_12 : decode cX3_keepResult 12 = .ok (.getfield 26, 3) := by decide +kernel
theorem dX3_keepResult_15 : decode cX3_keepResult 15 = .ok (.iload_n 2, 1) := by decide +kernel
theorem dX3_keepResult_16 : decode cX3_keepResult 16 = .ok (.iconst 1, 1) := by decide +kernel
theorem dX3_keepResult_17 : decode cX3_keepResult 17 = .ok (.isub, 1) := by decide +kernel
theorem dX3_keepResult_18 : decode cX3_keepResult 18 = .ok (.iaload, 1) := by decide +kernel
theorem dX3_keepResult_19 : decode cX3_keepResult 19 = .ok (.iastore, 1) := by decide +kernel
theorem dX3_keepResult_20 : decode cX3_keepResult 20 = .ok (.iinc 2 (-1), 3) := by decide +kernel
theorem dX3_keepResult_23 : decode cX3_keepResult 23 = .ok (.goto (-21), 3) := by decide +kernel
theorem dX3_keepResult_26 : decode cX3_keepResult 26 = .ok (.aload_n 0, 1) := by decide +kernel
theorem dX3_keepResult_27 : decode cX3_keepResult 27 = .ok (.getfield 26, 3) := by decide +kernel
theorem dX3_keepResult_30 : decode cX3_keepResult 30 = .ok (.iconst 0, 1) := by decide +kernel
theorem dX3_keepResult_31 : decode cX3_keepResult 31 = .ok (.iload_n 1, 1) := by decide +kernel
theorem dX3_keepResult_32 : decode cX3_keepResult 32 = .ok (.iastore, 1) := by decide +kernel
theorem dX3_keepResult_33 : decode cX3_keepResult 33 = .ok (.aload_n 0, 1) := by decide +kernel
theorem dX3_keepResult_34 : decode cX3_keepResult 34 = .ok (.aload_n 0, 1) := by decide +kernel
theorem dX3_keepResult_35 : decode cX3_keepResult 35 = .ok (.getfield 57, 3) := by decide +kernel
theorem dX3_keepResult_38 : decode cX3_keepResult 38 = .ok (.iconst 1, 1) := by decide +kernel
theorem dX3_keepResult_39 : decode cX3_keepResult 39 = .ok (.iadd, 1) := by decide +kernel
theorem dX3_keepResult_40 : decode cX3_keepResult 40 = .ok (.bipush 6, 2) := by decide +kernel
theorem dX3_keepResult_42 : decode cX3_keepResult 42 = .ok (.invokestatic 154, 3) := by decide +kernel
theorem dX3_keepResult_45 : decode cX3_keepResult 45 = .ok (.putfield 57, 3) := by decide +kernel
theorem dX3_keepResult_48 : decode cX3_keepResult 48 = .ok (.return_, 1) := by decide +kernel
theorem dX3_lookAtAll_0 : decode cX3_lookAtAll 0 = .ok (.iconst 0, 1) := by decide +kernel
theorem dX3_lookAtAll_1 : decode cX3_lookAtAll 1 = .ok (.istore_n 2, 1) := by decide +kernel
theorem dX3_lookAtAll_2 : decode cX3_lookAtAll 2 = .ok (.iconst 0, 1) := by decide +kernel
theorem dX3_lookAtAll_3 : decode cX3_lookAtAll 3 = .ok (.istore_n 3, 1) := by decide +kernel
theorem dX3_lookAtAll_4 : decode cX3_lookAtAll 4 = .ok (.iload_n 3, 1) := by decide +kernel
theorem dX3_lookAtAll_5 : decode cX3_lookAtAll 5 = .ok (.iconst 5, 1) := by decide +kernel
theorem dX3_lookAtAll_6 : decode cX3_lookAtAll 6 = .ok (.if_icmp .ge 59, 3) := by decide +kernel
theorem dX3_lookAtAll_9 : decode cX3_lookAtAll 9 = .ok (.aload_n 0, 1) := by decide +kernel
theorem dX3_lookAtAll_10 : decode cX3_lookAtAll 10 = .ok (.iload_n 3, 1) := by decide +kernel
theorem dX3_lookAtAll_11 : decode cX3_lookAtAll 11 = .ok (.invokevirtual 60, 3) := by decide +kernel
end
section
theorem dX3_lookAtAll_14 : decode cX3_lookAtAll 14 = .ok (.astore 4, 2) := by decide +kernel
theorem dX3_lookAtAll_16 : decode cX3_lookAtAll 16 = .ok (.aload 4, 2) := by decide +kernel
theorem dX3_lookAtAll_18 : decode cX3_lookAtAll 18 = .ok (.ifnull 41, 3) := by decide +kernel
theorem dX3_lookAtAll_21 : decode cX3_lookAtAll 21 = .ok (.aload_n 0, 1) := by decide +kernel
theorem dX3_lookAtAll_22 : decode cX3_lookAtAll 22 = .ok (.aload 4, 2) := by decide +kernel
theorem dX3_lookAtAll_24 : decode cX3_lookAtAll 24 = .ok (.iload_n 1, 1) := by decide +kernel
theorem dX3_lookAtAll_25 : decode cX3_lookAtAll 25 = .ok (.invokevirtual 159, 3) := by decide +kernel
theorem dX3_lookAtAll_28 : decode cX3_lookAtAll 28 = .ok (.istore 5, 2) := by decide +kernel
theorem dX3_lookAtAll_30 : decode cX3_lookAtAll 30 = .ok (.aload 4, 2) := by decide +kernel
theorem dX3_lookAtAll_32 : decode cX3_lookAtAll 32 = .ok (.iload 5, 2) := by decide +kernel
theorem dX3_lookAtAll_34 : decode cX3_lookAtAll 34 = .ok (.aload_n 0, 1) := by decide +kernel
theorem dX3_lookAtAll_35 : decode cX3_lookAtAll 35 = .ok (.getfield 18, 3) := by decide +kernel
theorem dX3_lookAtAll_38 : decode cX3_lookAtAll 38 = .ok (.iconst 4, 1) := by decide +kernel
theorem dX3_lookAtAll_39 : decode cX3_lookAtAll 39 = .ok (.iaload, 1) := by decide +kernel
theorem dX3_lookAtAll_40 : decode cX3_lookAtAll 40 = .ok (.invokevirtual 163, 3) := by decide +kernel
theorem dX3_lookAtAll_43 : decode cX3_lookAtAll 43 = .ok (.iload_n 2, 1) := by decide +kernel
theorem dX3_lookAtAll_44 : decode cX3_lookAtAll 44 = .ok (.ifCond .ne 9, 3) := by decide +kernel
theorem dX3_lookAtAll_47 : decode cX3_lookAtAll 47 = .ok (.iload 5, 2) := by decide +kernel
theorem dX3_lookAtAll_49 : decode cX3_lookAtAll 49 = .ok (.iconst 2, 1) := by decide +kernel
theorem dX3_lookAtAll_50 : decode cX3_lookAtAll 50 = .ok (.if_icmp .ne 7, 3) := by decide +kernel
theorem dX3_lookAtAll_53 : decode cX3_lookAtAll 53 = .ok (.iconst 1, 1) := by decide +kernel
theorem dX3_lookAtAll_54 : decode cX3_lookAtAll 54 = .ok (.goto 4, 3) := by decide +kernel
theorem dX3_lookAtAll_57 : decode cX3_lookAtAll 57 = .ok (.iconst 0, 1) := by decide +kernel
theorem dX3_lookAtAll_58 : decode cX3_lookAtAll 58 = .ok (.istore_n 2, 1) := by decide +kernel
theorem dX3_lookAtAll_59 : decode cX3_lookAtAll 59 = .ok (.iinc 3 1, 3) := by decide +kernel
theorem dX3_lookAtAll_62 : decode cX3_lookAtAll 62 = .ok (.goto (-58), 3) := by decide +kernel
theorem dX3_lookAtAll_65 : decode cX3_lookAtAll 65 = .ok (.iload_n 2, 1) := by decide +kernel
theorem dX3_lookAtAll_66 : decode cX3_lookAtAll 66 = .ok (.ireturn, 1) := by decide +kernel
theorem dX3_doingOf_0 : decode cX3_doingOf 0 = .ok (.aload_n 1, 1) := by decide +kernel
theorem dX3_doingOf_1 : decode cX3_doingOf 1 = .ok (.getfield 94, 3) := by decide +kernel
theorem dX3_doingOf_4 : decode cX3_doingOf 4 = .ok (.tableswitch 101 0 2 #[28, 53, 68], 28) := by decide +kernel
theorem dX3_doingOf_32 : decode cX3_doingOf 32 = .ok (.aload_n 1, 1) := by decide +kernel
theorem dX3_doingOf_33 : decode cX3_doingOf 33 = .ok (.getfield 106, 3) := by decide +kernel
theorem dX3_doingOf_36 : decode cX3_doingOf 36 = .ok (.ifCond .le 5, 3) := by decide +kernel
theorem dX3_doingOf_39 : decode cX3_doingOf 39 = .ok (.iconst 1, 1) := by decide +kernel
theorem dX3_doingOf_40 : decode cX3_doingOf 40 = .ok (.ireturn, 1) := by decide +kernel
theorem dX3_doingOf_41 : decode cX3_doingOf 41 = .ok (.iload_n 2, 1) := by decide +kernel
theorem dX3_doingOf_42 : decode cX3_doingOf 42 = .ok (.aload_n 0, 1) := by decide +kernel
theorem dX3_doingOf_43 : decode cX3_doingOf 43 = .ok (.aload_n 1, 1) := by decide +kernel
theorem dX3_doingOf_44 : decode cX3_doingOf 44 = .ok (.invokevirtual 112, 3) := by decide +kernel
theorem dX3_doingOf_47 : decode cX3_doingOf 47 = .ok (.if_icmp .ge 7, 3) := by decide +kernel
theorem dX3_doingOf_50 : decode cX3_doingOf 50 = .ok (.iconst 2, 1) := by decide +kernel
theorem dX3_doingOf_51 : decode cX3_doingOf 51 = .ok (.goto 5, 3) := by decide +kernel
theorem dX3_doingOf_54 : decode cX3_doingOf 54 = .ok (.bipush 7, 2) := by decide +kernel
theorem dX3_doingOf_56 : decode cX3_doingOf 56 = .ok (.ireturn, 1) := by decide +kernel
theorem dX3_doingOf_57 : decode cX3_doingOf 57 = .ok (.iload_n 2, 1) := by decide +kernel
theorem dX3_doingOf_58 : decode cX3_doingOf 58 = .ok (.aload_n 0, 1) := by decide +kernel
theorem dX3_doingOf_59 : decode cX3_doingOf 59 = .ok (.aload_n 1, 1) := by decide +kernel
theorem dX3_doingOf_60 : decode cX3_doingOf 60 = .ok (.invokevirtual 116, 3) := by decide +kernel
theorem dX3_doingOf_63 : decode cX3_doingOf 63 = .ok (.if_icmp .le 7, 3) := by decide +kernel
theorem dX3_doingOf_66 : decode cX3_doingOf 66 = .ok (.iconst 4, 1) := by decide +kernel
theorem dX3_doingOf_67 : decode cX3_doingOf 67 = .ok (.goto 4, 3) := by decide +kernel
theorem dX3_doingOf_70 : decode cX3_doingOf 70 = .ok (.iconst 3, 1) := by decide +kernel
theorem dX3_doingOf_71 : decode cX3_doingOf 71 = .ok (.ireturn, 1) := by decide +kernel
theorem dX3_doingOf_72 : decode cX3_doingOf 72 = .ok (.iload_n 2, 1) := by decide +kernel
theorem dX3_doingOf_73 : decode cX3_doingOf 73 = .ok (.aload_n 0, 1) := by decide +kernel
theorem dX3_doingOf_74 : decode cX3_doingOf 74 = .ok (.aload_n 1, 1) := by decide +kernel
theorem dX3_doingOf_75 : decode cX3_doingOf 75 = .ok (.invokevirtual 112, 3) := by decide +kernel
theorem dX3_doingOf_78 : decode cX3_doingOf 78 = .ok (.if_icmp .ge 5, 3) := by decide +kernel
theorem dX3_doingOf_81 : decode cX3_doingOf 81 = .ok (.iconst 2, 1) := by decide +kernel
theorem dX3_doingOf_82 : decode cX3_doingOf 82 = .ok (.ireturn, 1) := by decide +kernel
theorem dX3_doingOf_83 : decode cX3_doingOf 83 = .ok (.aload_n 1, 1) := by decide +kernel
theorem dX3_doingOf_84 : decode cX3_doingOf 84 = .ok (.getfield 103, 3) := by decide +kernel
theorem dX3_doingOf_87 : decode cX3_doingOf 87 = .ok (.iconst 1, 1) := by decide +kernel
theorem dX3_doingOf_88 : decode cX3_doingOf 88 = .ok (.iadd, 1) := by decide +kernel
theorem dX3_doingOf_89 : decode cX3_doingOf 89 = .ok (.aload_n 0, 1) := by decide +kernel
theorem dX3_doingOf_90 : decode cX3_doingOf 90 = .ok (.getfield 18, 3) := by decide +kernel
theorem dX3_doingOf_93 : decode cX3_doingOf 93 = .ok (.iconst 3, 1) := by decide +kernel
theorem dX3_doingOf_94 : decode cX3_doingOf 94 = .ok (.iaload, 1) := by decide +kernel
theorem dX3_doingOf_95 : decode cX3_doingOf 95 = .ok (.if_icmp .lt 8, 3) := by decide +kernel
theorem dX3_doingOf_98 : decode cX3_doingOf 98 = .ok (.bipush 6, 2) := by decide +kernel
theorem dX3_doingOf_100 : decode cX3_doingOf 100 = .ok (.goto 4, 3) := by decide +kernel
theorem dX3_doingOf_103 : decode cX3_doingOf 103 = .ok (.iconst 5, 1) := by decide +kernel
theorem dX3_doingOf_104 : decode cX3_doingOf 104 = .ok (.ireturn, 1) := by decide +kernel
theorem dX3_doingOf_105 : decode cX3_doingOf 105 = .ok (.iconst 0, 1) := by decide +kernel
theorem dX3_doingOf_106 : decode cX3_doingOf 106 = .ok (.ireturn, 1) := by decide +kernel
theorem dX3_runFlows_0 : decode cX3_runFlows 0 = .ok (.aload_n 0, 1) := by decide +kernel
theorem dX3_runFlows_1 : decode cX3_runFlows 1 = .ok (.invokevirtual 166, 3) := by decide +kernel
theorem dX3_runFlows_4 : decode cX3_runFlows 4 = .ok (.aload_n 0, 1) := by decide +kernel
theorem dX3_runFlows_5 : decode cX3_runFlows 5 = .ok (.iload_n 1, 1) := by decide +kernel
theorem dX3_runFlows_6 : decode cX3_runFlows 6 = .ok (.invokevirtual 169, 3) := by decide +kernel
theorem dX3_runFlows_9 : decode cX3_runFlows 9 = .ok (.aload_n 0, 1) := by decide +kernel
theorem dX3_runFlows_10 : decode cX3_runFlows 10 = .ok (.getfield 15, 3) := by decide +kernel
theorem dX3_runFlows_13 : decode cX3_runFlows 13 = .ok (.invokestatic 154, 3) := by decide +kernel
theorem dX3_runFlows_16 : decode cX3_runFlows 16 = .ok (.istore_n 3, 1) := by decide +kernel
theorem dX3_runFlows_17 : decode cX3_runFlows 17 = .ok (.aload_n 0, 1) := by decide +kernel
theorem dX3_runFlows_18 : decode cX3_runFlows 18 = .ok (.dup, 1) := by decide +kernel
theorem dX3_runFlows_19 : decode cX3_runFlows 19 = .ok (.getfield 15, 3) := by decide +kernel
theorem dX3_runFlows_22 : decode cX3_runFlows 22 = .ok (.iload_n 3, 1) := by decide +kernel
theorem dX3_runFlows_23 : decode cX3_runFlows 23 = .ok (.isub, 1) := by decide +kernel
theorem dX3_runFlows_24 : decode cX3_runFlows 24 = .ok (.putfield 15, 3) := by decide +kernel
theorem dX3_runFlows_27 : decode cX3_runFlows 27 = .ok (.iload_n 2, 1) := by decide +kernel
theorem dX3_runFlows_28 : decode cX3_runFlows 28 = .ok (.aload_n 0, 1) := by decide +kernel
theorem dX3_runFlows_29 : decode cX3_runFlows 29 = .ok (.getfield 15, 3) := by decide +kernel
theorem dX3_runFlows_32 : decode cX3_runFlows 32 = .ok (.invokestatic 154, 3) := by decide +kernel
theorem dX3_runFlows_35 : decode cX3_runFlows 35 = .ok (.istore 4, 2) := by decide +kernel
theorem dX3_runFlows_37 : decode cX3_runFlows 37 = .ok (.aload_n 0, 1) := by decide +kernel
theorem dX3_runFlows_38 : decode cX3_runFlows 38 = .ok (.dup, 1) := by decide +kernel
theorem dX3_runFlows_39 : decode cX3_runFlows 39 = .ok (.getfield 15, 3) := by decide +kernel
theorem dX3_runFlows_42 : decode cX3_runFlows 42 = .ok (.iload 4, 2) := by decide +kernel
theorem dX3_runFlows_44 : decode cX3_runFlows 44 = .ok (.isub, 1) := by decide +kernel
theorem dX3_runFlows_45 : decode cX3_runFlows 45 = .ok (.putfield 15, 3) := by decide +kernel
theorem dX3_runFlows_48 : decode cX3_runFlows 48 = .ok (.aload_n 0, 1) := by decide +kernel
theorem dX3_runFlows_49 : decode cX3_runFlows 49 = .ok (.getfield 22, 3) := by decide +kernel
theorem dX3_runFlows_52 : decode cX3_runFlows 52 = .ok (.iconst 1, 1) := by decide +kernel
theorem dX3_runFlows_53 : decode cX3_runFlows 53 = .ok (.dup2, 1) := by decide +kernel
theorem dX3_runFlows_54 : decode cX3_runFlows 54 = .ok (.laload, 1) := by decide +kernel
theorem dX3_runFlows_55 : decode cX3_runFlows 55 = .ok (.iload_n 3, 1) := by decide +kernel
theorem dX3_runFlows_56 : decode cX3_runFlows 56 = .ok (.i2l, 1) := by decide +kernel
theorem dX3_runFlows_57 : decode cX3_runFlows 57 = .ok (.ladd, 1) := by decide +kernel
theorem dX3_runFlows_58 : decode cX3_runFlows 58 = .ok (.lastore, 1) := by decide +kernel
theorem dX3_runFlows_59 : decode cX3_runFlows 59 = .ok (.aload_n 0, 1) := by decide +kernel
theorem dX3_runFlows_60 : decode cX3_runFlows 60 = .ok (.getfield 22, 3) := by decide +kernel
theorem dX3_runFlows_63 : decode cX3_runFlows 63 = .ok (.iconst 2, 1) := by decide +kernel
theorem dX3_runFlows_64 : decode cX3_runFlows 64 = .ok (.dup2, 1) := by decide +kernel
theorem dX3_runFlows_65 : decode cX3_runFlows 65 = .ok (.laload, 1) := by decide +kernel
theorem dX3_runFlows_66 : decode cX3_runFlows 66 = .ok (.iload 4, 2) := by decide +kernel
theorem dX3_runFlows_68 : decode cX3_runFlows 68 = .ok (.i2l, 1) := by decide +kernel
theorem dX3_runFlows_69 : decode cX3_runFlows 69 = .ok (.ladd, 1) := by decide +kernel
theorem dX3_runFlows_70 : decode cX3_runFlows 70 = .ok (.lastore, 1) := by decide +kernel
theorem dX3_runFlows_71 : decode cX3_runFlows 71 = .ok (.aload_n 0, 1) := by decide +kernel
theorem dX3_runFlows_72 : decode cX3_runFlows 72 = .ok (.getfield 22, 3) := by decide +kernel
theorem dX3_runFlows_75 : decode cX3_runFlows 75 = .ok (.iconst 3, 1) := by decide +kernel
theorem dX3_runFlows_76 : decode cX3_runFlows 76 = .ok (.dup2, 1) := by decide +kernel
theorem dX3_runFlows_77 : decode cX3_runFlows 77 = .ok (.laload, 1) := by decide +kernel
theorem dX3_runFlows_78 : decode cX3_runFlows 78 = .ok (.iload_n 2, 1) := by decide +kernel
theorem dX3_runFlows_79 : decode cX3_runFlows 79 = .ok (.iload 4, 2) := by decide +kernel
theorem dX3_runFlows_81 : decode cX3_runFlows 81 = .ok (.isub, 1) := by decide +kernel
theorem dX3_runFlows_82 : decode cX3_runFlows 82 = .ok (.i2l, 1) := by decide +kernel
theorem dX3_runFlows_83 : decode cX3_runFlows 83 = .ok (.ladd, 1) := by decide +kernel
theorem dX3_runFlows_84 : decode cX3_runFlows 84 = .ok (.lastore, 1) := by decide +kernel
theorem dX3_runFlows_85 : decode cX3_runFlows 85 = .ok (.aload_n 0, 1) := by decide +kernel
theorem dX3_runFlows_86 : decode cX3_runFlows 86 = .ok (.invokevirtual 172, 3) := by decide +kernel
theorem dX3_runFlows_89 : decode cX3_runFlows 89 = .ok (.aload_n 0, 1) := by decide +kernel
theorem dX3_runFlows_90 : decode cX3_runFlows 90 = .ok (.dup, 1) := by decide +kernel
theorem dX3_runFlows_91 : decode cX3_runFlows 91 = .ok (.getfield 45, 3) := by decide +kernel
theorem dX3_runFlows_94 : decode cX3_runFlows 94 = .ok (.iconst 1, 1) := by decide +kernel
theorem dX3_runFlows_95 : decode cX3_runFlows 95 = .ok (.iadd, 1) := by decide +kernel
theorem dX3_runFlows_96 : decode cX3_runFlows 96 = .ok (.putfield 45, 3) := by decide +kernel
theorem dX3_runFlows_99 : decode cX3_runFlows 99 = .ok (.aload_n 0, 1) := by decide +kernel
theorem dX3_runFlows_100 : decode cX3_runFlows 100 = .ok (.dup, 1) := by decide +kernel
theorem dX3_runFlows_101 : decode cX3_runFlows 101 = .ok (.getfield 48, 3) := by decide +kernel
theorem dX3_runFlows_104 : decode cX3_runFlows 104 = .ok (.iconst 1, 1) := by decide +kernel
theorem dX3_runFlows_105 : decode cX3_runFlows 105 = .ok (.iadd, 1) := by decide +kernel
theorem dX3_runFlows_106 : decode cX3_runFlows 106 = .ok (.putfield 48, 3) := by decide +kernel
theorem dX3_runFlows_109 : decode cX3_runFlows 109 = .ok (.iload_n 3, 1) := by decide +kernel
theorem dX3_runFlows_110 : decode cX3_runFlows 110 = .ok (.ireturn, 1) := by decide +kernel
theorem dX3_runCompressors_0 : decode cX3_runCompressors 0 = .ok (.iconst 0, 1) := by decide +kernel
theorem dX3_runCompressors_1 : decode cX3_runCompressors 1 = .ok (.istore_n 1, 1) := by decide +kernel
theorem dX3_runCompressors_2 : decode cX3_runCompressors 2 = .ok (.iload_n 1, 1) := by decide +kernel
theorem dX3_runCompressors_3 : decode cX3_runCompressors 3 = .ok (.iconst 5, 1) := by decide +kernel
theorem dX3_runCompressors_4 : decode cX3_runCompressors 4 = .ok (.if_icmp .ge 122, 3) := by decide +kernel
theorem dX3_runCompressors_7 : decode cX3_runCompressors 7 = .ok (.aload_n 0, 1) := by decide +kernel
theorem dX3_runCompressors_8 : decode cX3_runCompressors 8 = .ok (.iload_n 1, 1) := by decide +kernel
theorem dX3_runCompressors_9 : decode cX3_runCompressors 9 = .ok (.invokevirtual 60, 3) := by decide +kernel
theorem dX3_runCompressors_12 : decode cX3_runCompressors 12 = .ok (.astore_n 2, 1) := by decide +kernel
theorem dX3_runCompressors_13 : decode cX3_runCompressors 13 = .ok (.aload_n 2, 1) := by decide +kernel
theorem dX3_runCompressors_14 : decode cX3_runCompressors 14 = .ok (.ifnull 68, 3) := by decide +kernel
theorem dX3_runCompressors_17 : decode cX3_runCompressors 17 = .ok (.aload_n 2, 1) := by decide +kernel
theorem dX3_runCompressors_18 : decode cX3_runCompressors 18 = .ok (.getfield 94, 3) := by decide +kernel
theorem dX3_runCompressors_21 : decode cX3_runCompressors 21 = .ok (.iconst 1, 1) := by decide +kernel
theorem dX3_runCompressors_22 : decode cX3_runCompressors 22 = .ok (.if_icmp .ne 60, 3) := by decide +kernel
theorem dX3_runCompressors_25 : decode cX3_runCompressors 25 = .ok (.aload_n 0, 1) := by decide +kernel
theorem dX3_runCompressors_26 : decode cX3_runCompressors 26 = .ok (.dup, 1) := by decide +kernel
theorem dX3_runCompressors_27 : decode cX3_runCompressors 27 = .ok (.getfield 15, 3) := by decide +kernel
theorem dX3_runCompressors_30 : decode cX3_runCompressors 30 = .ok (.aload_n 2, 1) := by decide +kernel
theorem dX3_runCompressors_31 : decode cX3_runCompressors 31 = .ok (.getfield 91, 3) := by decide +kernel
theorem dX3_runCompressors_34 : decode cX3_runCompressors 34 = .ok (.iadd, 1) := by decide +kernel
theorem dX3_runCompressors_35 : decode cX3_runCompressors 35 = .ok (.putfield 15, 3) := by decide +kernel
theorem dX3_runCompressors_38 : decode cX3_runCompressors 38 = .ok (.aload_n 0, 1) := by decide +kernel
theorem dX3_runCompressors_39 : decode cX3_runCompressors 39 = .ok (.getfield 22, 3) := by decide +kernel
theorem dX3_runCompressors_42 : decode cX3_runCompressors 42 = .ok (.iconst 0, 1) := by decide +kernel
theorem dX3_runCompressors_43 : decode cX3_runCompressors 43 = .ok (.dup2, 1) := by decide +kernel
theorem dX3_runCompressors_44 : decode cX3_runCompressors 44 = .ok (.laload, 1) := by decide +kernel
theorem dX3_runCompressors_45 : decode cX3_runCompressors 45 = .ok (.aload_n 2, 1) := by decide +kernel
theorem dX3_runCompressors_46 : decode cX3_runCompressors 46 = .ok (.getfield 91, 3) := by decide +kernel
theorem dX3_runCompressors_49 : decode cX3_runCompressors 49 = .ok (.i2l, 1) := by decide +kernel
theorem dX3_runCompressors_50 : decode cX3_runCompressors 50 = .ok (.ladd, 1) := by decide +kernel
theorem dX3_runCompressors_51 : decode cX3_runCompressors 51 = .ok (.lastore, 1) := by decide +kernel
theorem dX3_runCompressors_52 : decode cX3_runCompressors 52 = .ok (.aload_n 0, 1) := by decide +kernel
theorem dX3_runCompressors_53 : decode cX3_runCompressors 53 = .ok (.getfield 22, 3) := by decide +kernel
theorem dX3_runCompressors_56 : decode cX3_runCompressors 56 = .ok (.iconst 5, 1) := by decide +kernel
theorem dX3_runCompressors_57 : decode cX3_runCompressors 57 = .ok (.dup2, 1) := by decide +kernel
theorem dX3_runCompressors_58 : decode cX3_runCompressors 58 = .ok (.laload, 1) := by decide +kernel
theorem dX3_runCompressors_59 : decode cX3_runCompressors 59 = .ok (.bipush 10, 2) := by decide +kernel
theorem dX3_runCompressors_61 : decode cX3_runCompressors 61 = .ok (.aload_n 2, 1) := by decide +kernel
theorem dX3_runCompressors_62 : decode cX3_runCompressors 62 = .ok (.getfield 91, 3) := by decide +kernel
theorem dX3_runCompressors_65 : decode cX3_runCompressors 65 = .ok (.imul, 1) := by decide +kernel
theorem dX3_runCompressors_66 : decode cX3_runCompressors 66 = .ok (.i2l, 1) := by decide +kernel
theorem dX3_runCompressors_67 : decode cX3_runCompressors 67 = .ok (.ladd, 1) := by decide +kernel
theorem dX3_runCompressors_68 : decode cX3_runCompressors 68 = .ok (.lastore, 1) := by decide +kernel
theorem dX3_runCompressors_69 : decode cX3_runCompressors 69 = .ok (.aload_n 2, 1) := by decide +kernel
theorem dX3_runCompressors_70 : decode cX3_runCompressors 70 = .ok (.dup, 1) := by decide +kernel
theorem dX3_runCompressors_71 : decode cX3_runCompressors 71 = .ok (.getfield 97, 3) := by decide +kernel
theorem dX3_runCompressors_74 : decode cX3_runCompressors 74 = .ok (.iconst 1, 1) := by decide +kernel
theorem dX3_runCompressors_75 : decode cX3_runCompressors 75 = .ok (.iadd, 1) := by decide +kernel
theorem dX3_runCompressors_76 : decode cX3_runCompressors 76 = .ok (.putfield 97, 3) := by decide +kernel
theorem dX3_runCompressors_79 : decode cX3_runCompressors 79 = .ok (.goto 41, 3) := by decide +kernel
theorem dX3_runCompressors_82 : decode cX3_runCompressors 82 = .ok (.aload_n 2, 1) := by decide +kernel
theorem dX3_runCompressors_83 : decode cX3_runCompressors 83 = .ok (.ifnull 37, 3) := by decide +kernel
theorem dX3_runCompressors_86 : decode cX3_runCompressors 86 = .ok (.aload_n 2, 1) := by decide +kernel
theorem dX3_runCompressors_87 : decode cX3_runCompressors 87 = .ok (.getfield 94, 3) := by decide +kernel
theorem dX3_runCompressors_90 : decode cX3_runCompressors 90 = .ok (.iconst 2, 1) := by decide +kernel
theorem dX3_runCompressors_91 : decode cX3_runCompressors 91 = .ok (.if_icmp .ne 29, 3) := by decide +kernel
theorem dX3_runCompressors_94 : decode cX3_runCompressors 94 = .ok (.aload_n 0, 1) := by decide +kernel
theorem dX3_runCompressors_95 : decode cX3_runCompressors 95 = .ok (.getfield 22, 3) := by decide +kernel
theorem dX3_runCompressors_98 : decode cX3_runCompressors 98 = .ok (.iconst 5, 1) := by decide +kernel
theorem dX3_runCompressors_99 : decode cX3_runCompressors 99 = .ok (.dup2, 1) := by decide +kernel
theorem dX3_runCompressors_100 : decode cX3_runCompressors 100 = .ok (.laload, 1) := by decide +kernel
theorem dX3_runCompressors_101 : decode cX3_runCompressors 101 = .ok (.iconst 3, 1) := by decide +kernel
theorem dX3_runCompressors_102 : decode cX3_runCompressors 102 = .ok (.aload_n 2, 1) := by decide +kernel
theorem dX3_runCompressors_103 : decode cX3_runCompressors 103 = .ok (.getfield 91, 3) := by decide +kernel
theorem dX3_runCompressors_106 : decode cX3_runCompressors 106 = .ok (.imul, 1) := by decide +kernel
theorem dX3_runCompressors_107 : decode cX3_runCompressors 107 = .ok (.i2l, 1) := by decide +kernel
theorem dX3_runCompressors_108 : decode cX3_runCompressors 108 = .ok (.ladd, 1) := by decide +kernel
theorem dX3_runCompressors_109 : decode cX3_runCompressors 109 = .ok (.lastore, 1) := by decide +kernel
theorem dX3_runCompressors_110 : decode cX3_runCompressors 110 = .ok (.aload_n 2, 1) := by decide +kernel
theorem dX3_runCompressors_111 : decode cX3_runCompressors 111 = .ok (.dup, 1) := by decide +kernel
theorem dX3_runCompressors_112 : decode cX3_runCompressors 112 = .ok (.getfield 100, 3) := by decide +kernel
theorem dX3_runCompressors_115 : decode cX3_runCompressors 115 = .ok (.iconst 1, 1) := by decide +kernel
theorem dX3_runCompressors_116 : decode cX3_runCompressors 116 = .ok (.iadd, 1) := by decide +kernel
theorem dX3_runCompressors_117 : decode cX3_runCompressors 117 = .ok (.putfield 100, 3) := by decide +kernel
theorem dX3_runCompressors_120 : decode cX3_runCompressors 120 = .ok (.iinc 1 1, 3) := by decide +kernel
theorem dX3_runCompressors_123 : decode cX3_runCompressors 123 = .ok (.goto (-121), 3) := by decide +kernel
theorem dX3_runCompressors_126 : decode cX3_runCompressors 126 = .ok (.return_, 1) := by decide +kernel
theorem dX3_blowOff_0 : decode cX3_blowOff 0 = .ok (.aload_n 0, 1) := by decide +kernel
theorem dX3_blowOff_1 : decode cX3_blowOff 1 = .ok (.getfield 15, 3) := by decide +kernel
theorem dX3_blowOff_4 : decode cX3_blowOff 4 = .ok (.aload_n 0, 1) := by decide +kernel
theorem dX3_blowOff_5 : decode cX3_blowOff 5 = .ok (.getfield 9, 3) := by decide +kernel
theorem dX3_blowOff_8 : decode cX3_blowOff 8 = .ok (.invokestatic 72, 3) := by decide +kernel
theorem dX3_blowOff_11 : decode cX3_blowOff 11 = .ok (.aload_n 0, 1) := by decide +kernel
theorem dX3_blowOff_12 : decode cX3_blowOff 12 = .ok (.getfield 18, 3) := by decide +kernel
theorem dX3_blowOff_15 : decode cX3_blowOff 15 = .ok (.iconst 2, 1) := by decide +kernel
theorem dX3_blowOff_16 : decode cX3_blowOff 16 = .ok (.iaload, 1) := by decide +kernel
theorem dX3_blowOff_17 : decode cX3_blowOff 17 = .ok (.if_icmp .le 40, 3) := by decide +kernel
theorem dX3_blowOff_20 : decode cX3_blowOff 20 = .ok (.aload_n 0, 1) := by decide +kernel
theorem dX3_blowOff_21 : decode cX3_blowOff 21 = .ok (.getfield 18, 3) := by decide +kernel
theorem dX3_blowOff_24 : decode cX3_blowOff 24 = .ok (.iconst 2, 1) := by decide +kernel
theorem dX3_blowOff_25 : decode cX3_blowOff 25 = .ok (.iaload, 1) := by decide +kernel
theorem dX3_blowOff_26 : decode cX3_blowOff 26 = .ok (.aload_n 0, 1) := by decide +kernel
theorem dX3_blowOff_27 : decode cX3_blowOff 27 = .ok (.getfield 9, 3) := by decide +kernel
theorem dX3_blowOff_30 : decode cX3_blowOff 30 = .ok (.imul, 1) := by decide +kernel
theorem dX3_blowOff_31 : decode cX3_blowOff 31 = .ok (.sipush 1000, 3) := by decide +kernel
theorem dX3_blowOff_34 : decode cX3_blowOff 34 = .ok (.idiv, 1) := by decide +kernel
theorem dX3_blowOff_35 : decode cX3_blowOff 35 = .ok (.istore_n 1, 1) := by decide +kernel
theorem dX3_blowOff_36 : decode cX3_blowOff 36 = .ok (.aload_n 0, 1) := by decide +kernel
theorem dX3_blowOff_37 : decode cX3_blowOff 37 = .ok (.getfield 22, 3) := by decide +kernel
theorem dX3_blowOff_40 : decode cX3_blowOff 40 = .ok (.iconst 4, 1) := by decide +kernel
theorem dX3_blowOff_41 : decode cX3_blowOff 41 = .ok (.dup2, 1) := by decide +kernel
theorem dX3_blowOff_42 : decode cX3_blowOff 42 = .ok (.laload, 1) := by decide +kernel
theorem dX3_blowOff_43 : decode cX3_blowOff 43 = .ok (.aload_n 0, 1) := by decide +kernel
theorem dX3_blowOff_44 : decode cX3_blowOff 44 = .ok (.getfield 15, 3) := by decide +kernel
theorem dX3_blowOff_47 : decode cX3_blowOff 47 = .ok (.iload_n 1, 1) := by decide +kernel
theorem dX3_blowOff_48 : decode cX3_blowOff 48 = .ok (.isub, 1) := by decide +kernel
theorem dX3_blowOff_49 : decode cX3_blowOff 49 = .ok (.i2l, 1) := by decide +kernel
theorem dX3_blowOff_50 : decode cX3_blowOff 50 = .ok (.ladd, 1) := by decide +kernel
theorem dX3_blowOff_51 : decode cX3_blowOff 51 = .ok (.lastore, 1) := by decide +kernel
theorem dX3_blowOff_52 : decode cX3_blowOff 52 = .ok (.aload_n 0, 1) := by decide +kernel
theorem dX3_blowOff_53 : decode cX3_blowOff 53 = .ok (.iload_n 1, 1) := by decide +kernel
theorem dX3_blowOff_54 : decode cX3_blowOff 54 = .ok (.putfield 15, 3) := by decide +kernel
theorem dX3_blowOff_57 : decode cX3_blowOff 57 = .ok (.return_, 1) := by decide +kernel
theorem dX4_init_0 : decode cX4_init 0 = .ok (.aload_n 0, 1) := by decide +kernel
theorem dX4_init_1 : decode cX4_init 1 = .ok (.invokespecial 1, 3) := by decide +kernel
theorem dX4_init_4 : decode cX4_init 4 = .ok (.aload_n 0, 1) := by decide +kernel
theorem dX4_init_5 : decode cX4_init 5 = .ok (.new 7, 3) := by decide +kernel
theorem dX4_init_8 : decode cX4_init 8 = .ok (.dup, 1) := by decide +kernel
theorem dX4_init_9 : decode cX4_init 9 = .ok (.invokespecial 9, 3) := by decide +kernel
theorem dX4_init_12 : decode cX4_init 12 = .ok (.putfield 10, 3) := by decide +kernel
theorem dX4_init_15 : decode cX4_init 15 = .ok (.aload_n 0, 1) := by decide +kernel
theorem dX4_init_16 : decode cX4_init 16 = .ok (.new 7, 3) := by decide +kernel
theorem dX4_init_19 : decode cX4_init 19 = .ok (.dup, 1) := by decide +kernel
theorem dX4_init_20 : decode cX4_init 20 = .ok (.invokespecial 9, 3) := by decide +kernel
theorem dX4_init_23 : decode cX4_init 23 = .ok (.putfield 16, 3) := by decide +kernel
theorem dX4_init_26 : decode cX4_init 26 = .ok (.aload_n 0, 1) := by decide +kernel
theorem dX4_init_27 : decode cX4_init 27 = .ok (.new 19, 3) := by decide +kernel
theorem dX4_init_30 : decode cX4_init 30 = .ok (.dup, 1) := by decide +kernel
theorem dX4_init_31 : decode cX4_init 31 = .ok (.invokespecial 21, 3) := by decide +kernel
theorem dX4_init_34 : decode cX4_init 34 = .ok (.putfield 22, 3) := by decide +kernel
theorem dX4_init_37 : decode cX4_init 37 = .ok (.aload_n 0, 1) := by decide +kernel
theorem dX4_init_38 : decode cX4_init 38 = .ok (.new 26, 3) := by decide +kernel
theorem dX4_init_41 : decode cX4_init 41 = .ok (.dup, 1) := by decide +kernel
theorem dX4_init_42 : decode cX4_init 42 = .ok (.invokespecial 28, 3) := by decide +kernel
theorem dX4_init_45 : decode cX4_init 45 = .ok (.putfield 29, 3) := by decide +kernel
theorem dX4_init_48 : decode cX4_init 48 = .ok (.return_, 1) := by decide +kernel
theorem dX4_set_0 : decode cX4_set 0 = .ok (.iload_n 1, 1) := by decide +kernel
theorem dX4_set_1 : decode cX4_set 1 = .ok (.iconst 0, 1) := by decide +kernel
theorem dX4_set_2 : decode cX4_set 2 = .ok (.bipush 7, 2) := by decide +kernel
theorem dX4_set_4 : decode cX4_set 4 = .ok (.invokestatic 33, 3) := by decide +kernel
theorem dX4_set_7 : decode cX4_set 7 = .ok (.ifCond .ne 13, 3) := by decide +kernel
theorem dX4_set_10 : decode cX4_set 10 = .ok (.new 37, 3) := by decide +kernel
theorem dX4_set_13 : decode cX4_set 13 = .ok (.dup, 1) := by decide +kernel
theorem dX4_set_14 : decode cX4_set 14 = .ok (.ldc 72, 2) := by decide +kernel
theorem dX4_set_16 : decode cX4_set 16 = .ok (.invokespecial 41, 3) := by decide +kernel
theorem dX4_set_19 : decode cX4_set 19 = .ok (.athrow, 1) := by decide +kernel
theorem dX4_set_20 : decode cX4_set 20 = .ok (.iload_n 2, 1) := by decide +kernel
theorem dX4_set_21 : decode cX4_set 21 = .ok (.getstatic 74, 3) := by decide +kernel
theorem dX4_set_24 : decode cX4_set 24 = .ok (.iload_n 1, 1) := by decide +kernel
theorem dX4_set_25 : decode cX4_set 25 = .ok (.iaload, 1) := by decide +kernel
theorem dX4_set_26 : decode cX4_set 26 = .ok (.getstatic 77, 3) := by decide +kernel
theorem dX4_set_29 : decode cX4_set 29 = .ok (.iload_n 1, 1) := by decide +kernel
theorem dX4_set_30 : decode cX4_set 30 = .ok (.iaload, 1) := by decide +kernel
theorem dX4_set_31 : decode cX4_set 31 = .ok (.invokestatic 33, 3) := by decide +kernel
theorem dX4_set_34 : decode cX4_set 34 = .ok (.ifCond .ne 13, 3) := by decide +kernel
theorem dX4_set_37 : decode cX4_set 37 = .ok (.new 37, 3) := by decide +kernel
theorem dX4_set_40 : decode cX4_set 40 = .ok (.dup, 1) := by decide +kernel
theorem dX4_set_41 : decode cX4_set 41 = .ok (.ldc 80, 2) := by decide +kernel
theorem dX4_set_43 : decode cX4_set 43 = .ok (.invokespecial 41, 3) := by decide +kernel
theorem dX4_set_46 : decode cX4_set 46 = .ok (.athrow, 1) := by decide +kernel
theorem dX4_set_47 : decode cX4_set 47 = .ok (.aload_n 0, 1) := by decide +kernel
theorem dX4_set_48 : decode cX4_set 48 = .ok (.getfield 22, 3) := by decide +kernel
theorem dX4_set_51 : decode cX4_set 51 = .ok (.aload_n 0, 1) := by decide +kernel
theorem dX4_set_52 : decode cX4_set 52 = .ok (.getfield 10, 3) := by decide +kernel
theorem dX4_set_55 : decode cX4_set 55 = .ok (.invokevirtual 61, 3) := by decide +kernel
theorem dX4_set_58 : decode cX4_set 58 = .ok (.aload_n 0, 1) := by decide +kernel
theorem dX4_set_59 : decode cX4_set 59 = .ok (.getfield 10, 3) := by decide +kernel
theorem dX4_set_62 : decode cX4_set 62 = .ok (.getfield 52, 3) := by decide +kernel
theorem dX4_set_65 : decode cX4_set 65 = .ok (.iload_n 1, 1) := by decide +kernel
theorem dX4_set_66 : decode cX4_set 66 = .ok (.iaload, 1) := by decide +kernel
theorem dX4_set_67 : decode cX4_set 67 = .ok (.istore_n 3, 1) := by decide +kernel
theorem dX4_set_68 : decode cX4_set 68 = .ok (.aload_n 0, 1) := by decide +kernel
theorem dX4_set_69 : decode cX4_set 69 = .ok (.getfield 10, 3) := by decide +kernel
theorem dX4_set_72 : decode cX4_set 72 = .ok (.getfield 52, 3) := by decide +kernel
theorem dX4_set_75 : decode cX4_set 75 = .ok (.iload_n 1, 1) := by decide +kernel
theorem dX4_set_76 : decode cX4_set 76 = .ok (.iload_n 2, 1) := by decide +kernel
theorem dX4_set_77 : decode cX4_set 77 = .ok (.iastore, 1) := by decide +kernel
theorem dX4_set_78 : decode cX4_set 78 = .ok (.iload_n 3, 1) := by decide +kernel
theorem dX4_set_79 : decode cX4_set 79 = .ok (.ireturn, 1) := by decide +kernel
theorem dX4_addCompressor_0 : decode cX4_addCompressor 0 = .ok (.iload_n 1, 1) := by decide +kernel
theorem dX4_addCompressor_1 : decode cX4_addCompressor 1 = .ok (.bipush 10, 2) := by decide +kernel
theorem dX4_addCompressor_3 : decode cX4_addCompressor 3 = .ok (.sipush 500, 3) := by decide +kernel
theorem dX4_addCompressor_6 : decode cX4_addCompressor 6 = .ok (.invokestatic 33, 3) := by decide +kernel
theorem dX4_addCompressor_9 : decode cX4_addCompressor 9 = .ok (.ifCond .ne 13, 3) := by decide +kernel
theorem dX4_addCompressor_12 : decode cX4_addCompressor 12 = .ok (.new 37, 3) := by decide +kernel
theorem dX4_addCompressor_15 : decode cX4_addCompressor 15 = .ok (.dup, 1) := by decide +kernel
theorem dX4_addCompressor_16 : decode cX4_addCompressor 16 = .ok (.ldc 82, 2) := by decide +kernel
theorem dX4_addCompressor_18 : decode cX4_addCompressor 18 = .ok (.invokespecial 41, 3) := by decide +kernel
theorem dX4_addCompressor_21 : decode cX4_addCompressor 21 = .ok (.athrow, 1) := by decide +kernel
theorem dX4_addCompressor_22 : decode cX4_addCompressor 22 = .ok (.aload_n 0, 1) := by decide +kernel
theorem dX4_addCompressor_23 : decode cX4_addCompressor 23 = .ok (.getfield 10, 3) := by decide +kernel
theorem dX4_addCompressor_26 : decode cX4_addCompressor 26 = .ok (.getfield 84, 3) := by decide +kernel
theorem dX4_addCompressor_29 : decode cX4_addCompressor 29 = .ok (.iconst 5, 1) := by decide +kernel
theorem dX4_addCompressor_30 : decode cX4_addCompressor 30 = .ok (.if_icmp .lt 13, 3) := by decide +kernel
theorem dX4_addCompressor_33 : decode cX4_addCompressor 33 = .ok (.new 56, 3) := by decide +kernel
theorem dX4_addCompressor_36 : decode cX4_addCompressor 36 = .ok (.dup, 1) := by decide +kernel
theorem dX4_addCompressor_37 : decode cX4_addCompressor 37 = .ok (.ldc 87, 2) := by decide +kernel
theorem dX4_addCompressor_39 : decode cX4_addCompressor 39 = .ok (.invokespecial 60, 3) := by decide +kernel
theorem dX4_addCompressor_42 : decode cX4_addCompressor 42 = .ok (.athrow, 1) := by decide +kernel
theorem dX4_addCompressor_43 : decode cX4_addCompressor 43 = .ok (.aload_n 0, 1) := by decide +kernel
theorem dX4_addCompressor_44 : decode cX4_addCompressor 44 = .ok (.getfield 22, 3) := by decide +kernel
theorem dX4_addCompressor_47 : decode cX4_addCompressor 47 = .ok (.aload_n 0, 1) := by decide +kernel
theorem dX4_addCompressor_48 : decode cX4_addCompressor 48 = .ok (.getfield 10, 3) := by decide +kernel
theorem dX4_addCompressor_51 : decode cX4_addCompressor 51 = .ok (.invokevirtual 61, 3) := by decide +kernel
theorem dX4_addCompressor_54 : decode cX4_addCompressor 54 = .ok (.aload_n 0, 1) := by decide +kernel
theorem dX4_addCompressor_55 : decode cX4_addCompressor 55 = .ok (.getfield 10, 3) := by decide +kernel
theorem dX4_addCompressor_58 : decode cX4_addCompressor 58 = .ok (.iload_n 1, 1) := by decide +kernel
theorem dX4_addCompressor_59 : decode cX4_addCompressor 59 = .ok (.invokevirtual 89, 3) := by decide +kernel
theorem dX4_addCompressor_62 : decode cX4_addCompressor 62 = .ok (.ireturn, 1) := by decide +kernel
theorem dX4_trip_0 : decode cX4_trip 0 = .ok (.aload_n 0, 1) := by decide +kernel
theorem dX4_trip_1 : decode cX4_trip 1 = .ok (.getfield 10, 3) := by decide +kernel
theorem dX4_trip_4 : decode cX4_trip 4 = .ok (.iload_n 1, 1) := by decide +kernel
theorem dX4_trip_5 : decode cX4_trip 5 = .ok (.invokevirtual 93, 3) := by decide +kernel
theorem dX4_trip_8 : decode cX4_trip 8 = .ok (.astore_n 2, 1) := by decide +kernel
theorem dX4_trip_9 : decode cX4_trip 9 = .ok (.aload_n 2, 1) := by decide +kernel
theorem dX4_trip_10 : decode cX4_trip 10 = .ok (.ifnonnull 13, 3) := by decide +kernel
theorem dX4_trip_13 : decode cX4_trip 13 = .ok (.new 97, 3) := by decide +kernel
theorem dX4_trip_16 : decode cX4_trip 16 = .ok (.dup, 1) := by decide +kernel
theorem dX4_trip_17 : decode cX4_trip 17 = .ok (.ldc 99, 2) := by decide +kernel
theorem dX4_trip_19 : decode cX4_trip 19 = .ok (.invokespecial 101, 3) := by decide +kernel
theorem dX4_trip_22 : decode cX4_trip 22 = .ok (.athrow, 1) := by decide +kernel
theorem dX4_trip_23 : decode cX4_trip 23 = .ok (.aload_n 2, 1) := by decide +kernel
theorem dX4_trip_24 : decode cX4_trip 24 = .ok (.getfield 102, 3) := by decide +kernel
theorem dX4_trip_27 : decode cX4_trip 27 = .ok (.iconst 3, 1) := by decide +kernel
theorem dX4_trip_28 : decode cX4_trip 28 = .ok (.if_icmp .ne 13, 3) := by decide +kernel
theorem dX4_trip_31 : decode cX4_trip 31 = .ok (.new 56, 3) := by decide +kernel
theorem dX4_trip_34 : decode cX4_trip 34 = .ok (.dup, 1) := by decide +kernel
theorem dX4_trip_35 : decode cX4_trip 35 = .ok (.ldc 107, 2) := by decide +kernel
theorem dX4_trip_37 : decode cX4_trip 37 = .ok (.invokespecial 60, 3) := by decide +kernel
theorem dX4_trip_40 : decode cX4_trip 40 = .ok (.athrow, 1) := by decide +kernel
theorem dX4_trip_41 : decode cX4_trip 41 = .ok (.aload_n 0, 1) := by decide +kernel
theorem dX4_trip_42 : decode cX4_trip 42 = .ok (.getfield 22, 3) := by decide +kernel
theorem dX4_trip_45 : decode cX4_trip 45 = .ok (.aload_n 0, 1) := by decide +kernel
theorem dX4_trip_46 : decode cX4_trip 46 = .ok (.getfield 10, 3) := by decide +kernel
theorem dX4_trip_49 : decode cX4_trip 49 = .ok (.invokevirtual 61, 3) := by decide +kernel
theorem dX4_trip_52 : decode cX4_trip 52 = .ok (.aload_n 2, 1) := by decide +kernel
theorem dX4_trip_53 : decode cX4_trip 53 = .ok (.getfield 102, 3) := by decide +kernel
theorem dX4_trip_56 : decode cX4_trip 56 = .ok (.istore_n 3, 1) := by decide +kernel
theorem dX4_trip_57 : decode cX4_trip 57 = .ok (.aload_n 2, 1) := by decide +kernel
theorem dX4_trip_58 : decode cX4_trip 58 = .ok (.invokevirtual 109, 3) := by decide +kernel
theorem dX4_trip_61 : decode cX4_trip 61 = .ok (.iload_n 3, 1) := by decide +kernel
theorem dX4_trip_62 : decode cX4_trip 62 = .ok (.ireturn, 1) := by decide +kernel
theorem dX4_clear_0 : decode cX4_clear 0 = .ok (.aload_n 0, 1) := by decide +kernel
theorem dX4_clear_1 : decode cX4_clear 1 = .ok (.getfield 10, 3) := by decide +kernel
theorem dX4_clear_4 : decode cX4_clear 4 = .ok (.iload_n 1, 1) := by decide +kernel
theorem dX4_clear_5 : decode cX4_clear 5 = .ok (.invokevirtual 93, 3) := by decide +kernel
theorem dX4_clear_8 : decode cX4_clear 8 = .ok (.astore_n 2, 1) := by decide +kernel
theorem dX4_clear_9 : decode cX4_clear 9 = .ok (.aload_n 2, 1) := by decide +kernel
theorem dX4_clear_10 : decode cX4_clear 10 = .ok (.ifnonnull 13, 3) := by decide +kernel
theorem dX4_clear_13 : decode cX4_clear 13 = .ok (.new 97, 3) := by decide +kernel
theorem dX4_clear_16 : decode cX4_clear 16 = .ok (.dup, 1) := by decide +kernel
theorem dX4_clear_17 : decode cX4_clear 17 = .ok (.ldc 99, 2) := by decide +kernel
theorem dX4_clear_19 : decode cX4_clear 19 = .ok (.invokespecial 101, 3) := by decide +kernel
theorem dX4_clear_22 : decode cX4_clear 22 = .ok (.athrow, 1) := by decide +kernel
theorem dX4_clear_23 : decode cX4_clear 23 = .ok (.aload_n 2, 1) := by decide +kernel
end
section
theorem dX4_clear_24 : decode cX4_clear 24 = .ok (.getfield 102, 3) := by decide +kernel
theorem dX4_clear_27 : decode cX4_clear 27 = .ok (.iconst 3, 1) := by decide +kernel
theorem dX4_clear_28 : decode cX4_clear 28 = .ok (.if_icmp .eq 13, 3) := by decide +kernel
theorem dX4_clear_31 : decode cX4_clear 31 = .ok (.new 56, 3) := by decide +kernel
theorem dX4_clear_34 : decode cX4_clear 34 = .ok (.dup, 1) := by decide +kernel
theorem dX4_clear_35 : decode cX4_clear 35 = .ok (.ldc 112, 2) := by decide +kernel
theorem dX4_clear_37 : decode cX4_clear 37 = .ok (.invokespecial 60, 3) := by decide +kernel
theorem dX4_clear_40 : decode cX4_clear 40 = .ok (.athrow, 1) := by decide +kernel
theorem dX4_clear_41 : decode cX4_clear 41 = .ok (.aload_n 0, 1) := by decide +kernel
theorem dX4_clear_42 : decode cX4_clear 42 = .ok (.getfield 22, 3) := by decide +kernel
theorem dX4_clear_45 : decode cX4_clear 45 = .ok (.aload_n 0, 1) := by decide +kernel
theorem dX4_clear_46 : decode cX4_clear 46 = .ok (.getfield 10, 3) := by decide +kernel
theorem dX4_clear_49 : decode cX4_clear 49 = .ok (.invokevirtual 61, 3) := by decide +kernel
theorem dX4_clear_52 : decode cX4_clear 52 = .ok (.aload_n 2, 1) := by decide +kernel
theorem dX4_clear_53 : decode cX4_clear 53 = .ok (.aload_n 0, 1) := by decide +kernel
theorem dX4_clear_54 : decode cX4_clear 54 = .ok (.getfield 10, 3) := by decide +kernel
theorem dX4_clear_57 : decode cX4_clear 57 = .ok (.getfield 52, 3) := by decide +kernel
theorem dX4_clear_60 : decode cX4_clear 60 = .ok (.iconst 4, 1) := by decide +kernel
theorem dX4_clear_61 : decode cX4_clear 61 = .ok (.iaload, 1) := by decide +kernel
theorem dX4_clear_62 : decode cX4_clear 62 = .ok (.invokevirtual 114, 3) := by decide +kernel
theorem dX4_clear_65 : decode cX4_clear 65 = .ok (.aload_n 2, 1) := by decide +kernel
theorem dX4_clear_66 : decode cX4_clear 66 = .ok (.getfield 118, 3) := by decide +kernel
theorem dX4_clear_69 : decode cX4_clear 69 = .ok (.ireturn, 1) := by decide +kernel
theorem dX4_rotate_0 : decode cX4_rotate 0 = .ok (.aload_n 0, 1) := by decide +kernel
theorem dX4_rotate_1 : decode cX4_rotate 1 = .ok (.getfield 22, 3) := by decide +kernel
theorem dX4_rotate_4 : decode cX4_rotate 4 = .ok (.aload_n 0, 1) := by decide +kernel
theorem dX4_rotate_5 : decode cX4_rotate 5 = .ok (.getfield 10, 3) := by decide +kernel
theorem dX4_rotate_8 : decode cX4_rotate 8 = .ok (.invokevirtual 61, 3) := by decide +kernel
theorem dX4_rotate_11 : decode cX4_rotate 11 = .ok (.aload_n 0, 1) := by decide +kernel
theorem dX4_rotate_12 : decode cX4_rotate 12 = .ok (.getfield 10, 3) := by decide +kernel
theorem dX4_rotate_15 : decode cX4_rotate 15 = .ok (.invokevirtual 121, 3) := by decide +kernel
theorem dX4_rotate_18 : decode cX4_rotate 18 = .ok (.ireturn, 1) := by decide +kernel
theorem dX4_pass_0 : decode cX4_pass 0 = .ok (.iload_n 1, 1) := by decide +kernel
theorem dX4_pass_1 : decode cX4_pass 1 = .ok (.iconst 1, 1) := by decide +kernel
theorem dX4_pass_2 : decode cX4_pass 2 = .ok (.sipush 600, 3) := by decide +kernel
theorem dX4_pass_5 : decode cX4_pass 5 = .ok (.invokestatic 33, 3) := by decide +kernel
theorem dX4_pass_8 : decode cX4_pass 8 = .ok (.ifCond .ne 13, 3) := by decide +kernel
theorem dX4_pass_11 : decode cX4_pass 11 = .ok (.new 37, 3) := by decide +kernel
theorem dX4_pass_14 : decode cX4_pass 14 = .ok (.dup, 1) := by decide +kernel
theorem dX4_pass_15 : decode cX4_pass 15 = .ok (.ldc 124, 2) := by decide +kernel
theorem dX4_pass_17 : decode cX4_pass 17 = .ok (.invokespecial 41, 3) := by decide +kernel
theorem dX4_pass_20 : decode cX4_pass 20 = .ok (.athrow, 1) := by decide +kernel
theorem dX4_pass_21 : decode cX4_pass 21 = .ok (.aload_n 0, 1) := by decide +kernel
theorem dX4_pass_22 : decode cX4_pass 22 = .ok (.getfield 10, 3) := by decide +kernel
theorem dX4_pass_25 : decode cX4_pass 25 = .ok (.iload_n 1, 1) := by decide +kernel
theorem dX4_pass_26 : decode cX4_pass 26 = .ok (.invokevirtual 126, 3) := by decide +kernel
theorem dX4_pass_29 : decode cX4_pass 29 = .ok (.ifCond .ne 13, 3) := by decide +kernel
theorem dX4_pass_32 : decode cX4_pass 32 = .ok (.new 56, 3) := by decide +kernel
theorem dX4_pass_35 : decode cX4_pass 35 = .ok (.dup, 1) := by decide +kernel
theorem dX4_pass_36 : decode cX4_pass 36 = .ok (.ldc 130, 2) := by decide +kernel
theorem dX4_pass_38 : decode cX4_pass 38 = .ok (.invokespecial 60, 3) := by decide +kernel
theorem dX4_pass_41 : decode cX4_pass 41 = .ok (.athrow, 1) := by decide +kernel
theorem dX4_pass_42 : decode cX4_pass 42 = .ok (.aload_n 0, 1) := by decide +kernel
theorem dX4_pass_43 : decode cX4_pass 43 = .ok (.getfield 22, 3) := by decide +kernel
theorem dX4_pass_46 : decode cX4_pass 46 = .ok (.aload_n 0, 1) := by decide +kernel
theorem dX4_pass_47 : decode cX4_pass 47 = .ok (.getfield 10, 3) := by decide +kernel
theorem dX4_pass_50 : decode cX4_pass 50 = .ok (.invokevirtual 61, 3) := by decide +kernel
theorem dX4_pass_53 : decode cX4_pass 53 = .ok (.aload_n 0, 1) := by decide +kernel
theorem dX4_pass_54 : decode cX4_pass 54 = .ok (.getfield 10, 3) := by decide +kernel
theorem dX4_pass_57 : decode cX4_pass 57 = .ok (.iload_n 1, 1) := by decide +kernel
theorem dX4_pass_58 : decode cX4_pass 58 = .ok (.invokevirtual 132, 3) := by decide +kernel
theorem dX4_pass_61 : decode cX4_pass 61 = .ok (.aload_n 0, 1) := by decide +kernel
theorem dX4_pass_62 : decode cX4_pass 62 = .ok (.getfield 10, 3) := by decide +kernel
theorem dX4_pass_65 : decode cX4_pass 65 = .ok (.invokevirtual 68, 3) := by decide +kernel
theorem dX4_pass_68 : decode cX4_pass 68 = .ok (.ireturn, 1) := by decide +kernel
theorem dX4_leakTest_0 : decode cX4_leakTest 0 = .ok (.iload_n 1, 1) := by decide +kernel
theorem dX4_leakTest_1 : decode cX4_leakTest 1 = .ok (.iconst 1, 1) := by decide +kernel
theorem dX4_leakTest_2 : decode cX4_leakTest 2 = .ok (.bipush 60, 2) := by decide +kernel
theorem dX4_leakTest_4 : decode cX4_leakTest 4 = .ok (.invokestatic 33, 3) := by decide +kernel
theorem dX4_leakTest_7 : decode cX4_leakTest 7 = .ok (.ifCond .ne 13, 3) := by decide +kernel
theorem dX4_leakTest_10 : decode cX4_leakTest 10 = .ok (.new 37, 3) := by decide +kernel
theorem dX4_leakTest_13 : decode cX4_leakTest 13 = .ok (.dup, 1) := by decide +kernel
theorem dX4_leakTest_14 : decode cX4_leakTest 14 = .ok (.ldc 124, 2) := by decide +kernel
theorem dX4_leakTest_16 : decode cX4_leakTest 16 = .ok (.invokespecial 41, 3) := by decide +kernel
theorem dX4_leakTest_19 : decode cX4_leakTest 19 = .ok (.athrow, 1) := by decide +kernel
theorem dX4_leakTest_20 : decode cX4_leakTest 20 = .ok (.aload_n 0, 1) := by decide +kernel
theorem dX4_leakTest_21 : decode cX4_leakTest 21 = .ok (.getfield 10, 3) := by decide +kernel
theorem dX4_leakTest_24 : decode cX4_leakTest 24 = .ok (.iload_n 1, 1) := by decide +kernel
theorem dX4_leakTest_25 : decode cX4_leakTest 25 = .ok (.invokevirtual 126, 3) := by decide +kernel
theorem dX4_leakTest_28 : decode cX4_leakTest 28 = .ok (.ifCond .ne 13, 3) := by decide +kernel
theorem dX4_leakTest_31 : decode cX4_leakTest 31 = .ok (.new 56, 3) := by decide +kernel
theorem dX4_leakTest_34 : decode cX4_leakTest 34 = .ok (.dup, 1) := by decide +kernel
theorem dX4_leakTest_35 : decode cX4_leakTest 35 = .ok (.ldc 130, 2) := by decide +kernel
theorem dX4_leakTest_37 : decode cX4_leakTest 37 = .ok (.invokespecial 60, 3) := by decide +kernel
theorem dX4_leakTest_40 : decode cX4_leakTest 40 = .ok (.athrow, 1) := by decide +kernel
theorem dX4_leakTest_41 : decode cX4_leakTest 41 = .ok (.aload_n 0, 1) := by decide +kernel
theorem dX4_leakTest_42 : decode cX4_leakTest 42 = .ok (.getfield 22, 3) := by decide +kernel
theorem dX4_leakTest_45 : decode cX4_leakTest 45 = .ok (.aload_n 0, 1) := by decide +kernel
theorem dX4_leakTest_46 : decode cX4_leakTest 46 = .ok (.getfield 10, 3) := by decide +kernel
theorem dX4_leakTest_49 : decode cX4_leakTest 49 = .ok (.invokevirtual 61, 3) := by decide +kernel
theorem dX4_leakTest_52 : decode cX4_leakTest 52 = .ok (.aload_n 0, 1) := by decide +kernel
theorem dX4_leakTest_53 : decode cX4_leakTest 53 = .ok (.getfield 10, 3) := by decide +kernel
theorem dX4_leakTest_56 : decode cX4_leakTest 56 = .ok (.iload_n 1, 1) := by decide +kernel
theorem dX4_leakTest_57 : decode cX4_leakTest 57 = .ok (.invokevirtual 135, 3) := by decide +kernel
theorem dX4_leakTest_60 : decode cX4_leakTest 60 = .ok (.ireturn, 1) := by decide +kernel
theorem dX4_compressor_0 : decode cX4_compressor 0 = .ok (.aload_n 0, 1) := by decide +kernel
theorem dX4_compressor_1 : decode cX4_compressor 1 = .ok (.getfield 10, 3) := by decide +kernel
theorem dX4_compressor_4 : decode cX4_compressor 4 = .ok (.iload_n 1, 1) := by decide +kernel
theorem dX4_compressor_5 : decode cX4_compressor 5 = .ok (.invokevirtual 93, 3) := by decide +kernel
theorem dX4_compressor_8 : decode cX4_compressor 8 = .ok (.astore_n 3, 1) := by decide +kernel
theorem dX4_compressor_9 : decode cX4_compressor 9 = .ok (.aload_n 3, 1) := by decide +kernel
theorem dX4_compressor_10 : decode cX4_compressor 10 = .ok (.ifnonnull 13, 3) := by decide +kernel
theorem dX4_compressor_13 : decode cX4_compressor 13 = .ok (.new 97, 3) := by decide +kernel
theorem dX4_compressor_16 : decode cX4_compressor 16 = .ok (.dup, 1) := by decide +kernel
theorem dX4_compressor_17 : decode cX4_compressor 17 = .ok (.ldc 99, 2) := by decide +kernel
theorem dX4_compressor_19 : decode cX4_compressor 19 = .ok (.invokespecial 101, 3) := by decide +kernel
theorem dX4_compressor_22 : decode cX4_compressor 22 = .ok (.athrow, 1) := by decide +kernel
theorem dX4_compressor_23 : decode cX4_compressor 23 = .ok (.iload_n 2, 1) := by decide +kernel
theorem dX4_compressor_24 : decode cX4_compressor 24 = .ok (.iconst 0, 1) := by decide +kernel
theorem dX4_compressor_25 : decode cX4_compressor 25 = .ok (.bipush 9, 2) := by decide +kernel
theorem dX4_compressor_27 : decode cX4_compressor 27 = .ok (.invokestatic 33, 3) := by decide +kernel
theorem dX4_compressor_30 : decode cX4_compressor 30 = .ok (.ifCond .ne 13, 3) := by decide +kernel
theorem dX4_compressor_33 : decode cX4_compressor 33 = .ok (.new 37, 3) := by decide +kernel
theorem dX4_compressor_36 : decode cX4_compressor 36 = .ok (.dup, 1) := by decide +kernel
theorem dX4_compressor_37 : decode cX4_compressor 37 = .ok (.ldc 138, 2) := by decide +kernel
theorem dX4_compressor_39 : decode cX4_compressor 39 = .ok (.invokespecial 41, 3) := by decide +kernel
theorem dX4_compressor_42 : decode cX4_compressor 42 = .ok (.athrow, 1) := by decide +kernel
theorem dX4_compressor_43 : decode cX4_compressor 43 = .ok (.aload_n 0, 1) := by decide +kernel
theorem dX4_compressor_44 : decode cX4_compressor 44 = .ok (.getfield 10, 3) := by decide +kernel
theorem dX4_compressor_47 : decode cX4_compressor 47 = .ok (.aload_n 3, 1) := by decide +kernel
theorem dX4_compressor_48 : decode cX4_compressor 48 = .ok (.iload_n 2, 1) := by decide +kernel
theorem dX4_compressor_49 : decode cX4_compressor 49 = .ok (.invokevirtual 140, 3) := by decide +kernel
theorem dX4_compressor_52 : decode cX4_compressor 52 = .ok (.ireturn, 1) := by decide +kernel
theorem dX4_atStage_0 : decode cX4_atStage 0 = .ok (.iload_n 1, 1) := by decide +kernel
theorem dX4_atStage_1 : decode cX4_atStage 1 = .ok (.iconst 0, 1) := by decide +kernel
theorem dX4_atStage_2 : decode cX4_atStage 2 = .ok (.aload_n 0, 1) := by decide +kernel
theorem dX4_atStage_3 : decode cX4_atStage 3 = .ok (.getfield 10, 3) := by decide +kernel
theorem dX4_atStage_6 : decode cX4_atStage 6 = .ok (.getfield 84, 3) := by decide +kernel
theorem dX4_atStage_9 : decode cX4_atStage 9 = .ok (.iconst 1, 1) := by decide +kernel
theorem dX4_atStage_10 : decode cX4_atStage 10 = .ok (.isub, 1) := by decide +kernel
theorem dX4_atStage_11 : decode cX4_atStage 11 = .ok (.invokestatic 33, 3) := by decide +kernel
theorem dX4_atStage_14 : decode cX4_atStage 14 = .ok (.ifCond .ne 13, 3) := by decide +kernel
theorem dX4_atStage_17 : decode cX4_atStage 17 = .ok (.new 97, 3) := by decide +kernel
theorem dX4_atStage_20 : decode cX4_atStage 20 = .ok (.dup, 1) := by decide +kernel
theorem dX4_atStage_21 : decode cX4_atStage 21 = .ok (.ldc 144, 2) := by decide +kernel
theorem dX4_atStage_23 : decode cX4_atStage 23 = .ok (.invokespecial 101, 3) := by decide +kernel
theorem dX4_atStage_26 : decode cX4_atStage 26 = .ok (.athrow, 1) := by decide +kernel
theorem dX4_atStage_27 : decode cX4_atStage 27 = .ok (.aload_n 0, 1) := by decide +kernel
theorem dX4_atStage_28 : decode cX4_atStage 28 = .ok (.getfield 10, 3) := by decide +kernel
theorem dX4_atStage_31 : decode cX4_atStage 31 = .ok (.iload_n 1, 1) := by decide +kernel
theorem dX4_atStage_32 : decode cX4_atStage 32 = .ok (.invokevirtual 146, 3) := by decide +kernel
theorem dX4_atStage_35 : decode cX4_atStage 35 = .ok (.ireturn, 1) := by decide +kernel
theorem dX4_value_0 : decode cX4_value 0 = .ok (.iload_n 1, 1) := by decide +kernel
theorem dX4_value_1 : decode cX4_value 1 = .ok (.iconst 0, 1) := by decide +kernel
theorem dX4_value_2 : decode cX4_value 2 = .ok (.bipush 11, 2) := by decide +kernel
theorem dX4_value_4 : decode cX4_value 4 = .ok (.invokestatic 33, 3) := by decide +kernel
theorem dX4_value_7 : decode cX4_value 7 = .ok (.ifCond .ne 13, 3) := by decide +kernel
theorem dX4_value_10 : decode cX4_value 10 = .ok (.new 37, 3) := by decide +kernel
theorem dX4_value_13 : decode cX4_value 13 = .ok (.dup, 1) := by decide +kernel
theorem dX4_value_14 : decode cX4_value 14 = .ok (.ldc 149, 2) := by decide +kernel
theorem dX4_value_16 : decode cX4_value 16 = .ok (.invokespecial 41, 3) := by decide +kernel
theorem dX4_value_19 : decode cX4_value 19 = .ok (.athrow, 1) := by decide +kernel
theorem dX4_value_20 : decode cX4_value 20 = .ok (.aload_n 0, 1) := by decide +kernel
theorem dX4_value_21 : decode cX4_value 21 = .ok (.getfield 10, 3) := by decide +kernel
theorem dX4_value_24 : decode cX4_value 24 = .ok (.iload_n 1, 1) := by decide +kernel
theorem dX4_value_25 : decode cX4_value 25 = .ok (.invokevirtual 151, 3) := by decide +kernel
theorem dX4_value_28 : decode cX4_value 28 = .ok (.ireturn, 1) := by decide +kernel
theorem dX4_setting_0 : decode cX4_setting 0 = .ok (.iload_n 1, 1) := by decide +kernel
theorem dX4_setting_1 : decode cX4_setting 1 = .ok (.iconst 0, 1) := by decide +kernel
theorem dX4_setting_2 : decode cX4_setting 2 = .ok (.bipush 7, 2) := by decide +kernel
theorem dX4_setting_4 : decode cX4_setting 4 = .ok (.invokestatic 33, 3) := by decide +kernel
theorem dX4_setting_7 : decode cX4_setting 7 = .ok (.ifCond .ne 13, 3) := by decide +kernel
theorem dX4_setting_10 : decode cX4_setting 10 = .ok (.new 37, 3) := by decide +kernel
theorem dX4_setting_13 : decode cX4_setting 13 = .ok (.dup, 1) := by decide +kernel
theorem dX4_setting_14 : decode cX4_setting 14 = .ok (.ldc 72, 2) := by decide +kernel
theorem dX4_setting_16 : decode cX4_setting 16 = .ok (.invokespecial 41, 3) := by decide +kernel
theorem dX4_setting_19 : decode cX4_setting 19 = .ok (.athrow, 1) := by decide +kernel
theorem dX4_setting_20 : decode cX4_setting 20 = .ok (.aload_n 0, 1) := by decide +kernel
theorem dX4_setting_21 : decode cX4_setting 21 = .ok (.getfield 10, 3) := by decide +kernel
theorem dX4_setting_24 : decode cX4_setting 24 = .ok (.getfield 52, 3) := by decide +kernel
theorem dX4_setting_27 : decode cX4_setting 27 = .ok (.iload_n 1, 1) := by decide +kernel
theorem dX4_setting_28 : decode cX4_setting 28 = .ok (.iaload, 1) := by decide +kernel
theorem dX4_setting_29 : decode cX4_setting 29 = .ok (.ireturn, 1) := by decide +kernel
theorem dX4_booked_0 : decode cX4_booked 0 = .ok (.iload_n 1, 1) := by decide +kernel
theorem dX4_booked_1 : decode cX4_booked 1 = .ok (.iconst 0, 1) := by decide +kernel
theorem dX4_booked_2 : decode cX4_booked 2 = .ok (.iconst 5, 1) := by decide +kernel
theorem dX4_booked_3 : decode cX4_booked 3 = .ok (.invokestatic 33, 3) := by decide +kernel
theorem dX4_booked_6 : decode cX4_booked 6 = .ok (.ifCond .ne 13, 3) := by decide +kernel
theorem dX4_booked_9 : decode cX4_booked 9 = .ok (.new 37, 3) := by decide +kernel
theorem dX4_booked_12 : decode cX4_booked 12 = .ok (.dup, 1) := by decide +kernel
theorem dX4_booked_13 : decode cX4_booked 13 = .ok (.ldc 154, 2) := by decide +kernel
theorem dX4_booked_15 : decode cX4_booked 15 = .ok (.invokespecial 41, 3) := by decide +kernel
theorem dX4_booked_18 : decode cX4_booked 18 = .ok (.athrow, 1) := by decide +kernel
theorem dX4_booked_19 : decode cX4_booked 19 = .ok (.aload_n 0, 1) := by decide +kernel
theorem dX4_booked_20 : decode cX4_booked 20 = .ok (.getfield 10, 3) := by decide +kernel
theorem dX4_booked_23 : decode cX4_booked 23 = .ok (.getfield 156, 3) := by decide +kernel
theorem dX4_booked_26 : decode cX4_booked 26 = .ok (.iload_n 1, 1) := by decide +kernel
theorem dX4_booked_27 : decode cX4_booked 27 = .ok (.laload, 1) := by decide +kernel
theorem dX4_booked_28 : decode cX4_booked 28 = .ok (.lreturn, 1) := by decide +kernel
theorem dX4_next_0 : decode cX4_next 0 = .ok (.aload_n 0, 1) := by decide +kernel
theorem dX4_next_1 : decode cX4_next 1 = .ok (.getfield 10, 3) := by decide +kernel
theorem dX4_next_4 : decode cX4_next 4 = .ok (.iload_n 1, 1) := by decide +kernel
theorem dX4_next_5 : decode cX4_next 5 = .ok (.invokevirtual 93, 3) := by decide +kernel
theorem dX4_next_8 : decode cX4_next 8 = .ok (.astore_n 2, 1) := by decide +kernel
theorem dX4_next_9 : decode cX4_next 9 = .ok (.aload_n 2, 1) := by decide +kernel
theorem dX4_next_10 : decode cX4_next 10 = .ok (.ifnonnull 13, 3) := by decide +kernel
theorem dX4_next_13 : decode cX4_next 13 = .ok (.new 97, 3) := by decide +kernel
theorem dX4_next_16 : decode cX4_next 16 = .ok (.dup, 1) := by decide +kernel
theorem dX4_next_17 : decode cX4_next 17 = .ok (.ldc 99, 2) := by decide +kernel
theorem dX4_next_19 : decode cX4_next 19 = .ok (.invokespecial 101, 3) := by decide +kernel
theorem dX4_next_22 : decode cX4_next 22 = .ok (.athrow, 1) := by decide +kernel
theorem dX4_next_23 : decode cX4_next 23 = .ok (.aload_n 0, 1) := by decide +kernel
theorem dX4_next_24 : decode cX4_next 24 = .ok (.getfield 10, 3) := by decide +kernel
theorem dX4_next_27 : decode cX4_next 27 = .ok (.aload_n 2, 1) := by decide +kernel
theorem dX4_next_28 : decode cX4_next 28 = .ok (.aload_n 0, 1) := by decide +kernel
theorem dX4_next_29 : decode cX4_next 29 = .ok (.getfield 10, 3) := by decide +kernel
theorem dX4_next_32 : decode cX4_next 32 = .ok (.invokevirtual 68, 3) := by decide +kernel
theorem dX4_next_35 : decode cX4_next 35 = .ok (.invokevirtual 168, 3) := by decide +kernel
theorem dX4_next_38 : decode cX4_next 38 = .ok (.ireturn, 1) := by decide +kernel
theorem dX4_minutesToLoad_0 : decode cX4_minutesToLoad 0 = .ok (.aload_n 0, 1) := by decide +kernel
theorem dX4_minutesToLoad_1 : decode cX4_minutesToLoad 1 = .ok (.getfield 16, 3) := by decide +kernel
theorem dX4_minutesToLoad_4 : decode cX4_minutesToLoad 4 = .ok (.aload_n 0, 1) := by decide +kernel
theorem dX4_minutesToLoad_5 : decode cX4_minutesToLoad 5 = .ok (.getfield 10, 3) := by decide +kernel
theorem dX4_minutesToLoad_8 : decode cX4_minutesToLoad 8 = .ok (.invokevirtual 171, 3) := by decide +kernel
theorem dX4_minutesToLoad_11 : decode cX4_minutesToLoad 11 = .ok (.iconst 1, 1) := by decide +kernel
theorem dX4_minutesToLoad_12 : decode cX4_minutesToLoad 12 = .ok (.istore_n 1, 1) := by decide +kernel
theorem dX4_minutesToLoad_13 : decode cX4_minutesToLoad 13 = .ok (.iload_n 1, 1) := by decide +kernel
theorem dX4_minutesToLoad_14 : decode cX4_minutesToLoad 14 = .ok (.sipush 600, 3) := by decide +kernel
theorem dX4_minutesToLoad_17 : decode cX4_minutesToLoad 17 = .ok (.if_icmp .gt 21, 3) := by decide +kernel
theorem dX4_minutesToLoad_20 : decode cX4_minutesToLoad 20 = .ok (.aload_n 0, 1) := by decide +kernel
theorem dX4_minutesToLoad_21 : decode cX4_minutesToLoad 21 = .ok (.getfield 16, 3) := by decide +kernel
theorem dX4_minutesToLoad_24 : decode cX4_minutesToLoad 24 = .ok (.invokevirtual 174, 3) := by decide +kernel
theorem dX4_minutesToLoad_27 : decode cX4_minutesToLoad 27 = .ok (.ifCond .eq 5, 3) := by decide +kernel
theorem dX4_minutesToLoad_30 : decode cX4_minutesToLoad 30 = .ok (.iload_n 1, 1) := by decide +kernel
theorem dX4_minutesToLoad_31 : decode cX4_minutesToLoad 31 = .ok (.ireturn, 1) := by decide +kernel
theorem dX4_minutesToLoad_32 : decode cX4_minutesToLoad 32 = .ok (.iinc 1 1, 3) := by decide +kernel
theorem dX4_minutesToLoad_35 : decode cX4_minutesToLoad 35 = .ok (.goto (-22), 3) := by decide +kernel
theorem dX4_minutesToLoad_38 : decode cX4_minutesToLoad 38 = .ok (.iconst (-1), 1) := by decide +kernel
theorem dX4_minutesToLoad_39 : decode cX4_minutesToLoad 39 = .ok (.ireturn, 1) := by decide +kernel
theorem dX4_undo_0 : decode cX4_undo 0 = .ok (.aload_n 0, 1) := by decide +kernel
theorem dX4_undo_1 : decode cX4_undo 1 = .ok (.getfield 22, 3) := by decide +kernel
theorem dX4_undo_4 : decode cX4_undo 4 = .ok (.getfield 229, 3) := by decide +kernel
theorem dX4_undo_7 : decode cX4_undo 7 = .ok (.ifCond .ne 13, 3) := by decide +kernel
theorem dX4_undo_10 : decode cX4_undo 10 = .ok (.new 56, 3) := by decide +kernel
theorem dX4_undo_13 : decode cX4_undo 13 = .ok (.dup, 1) := by decide +kernel
theorem dX4_undo_14 : decode cX4_undo 14 = .ok (.ldc 230, 2) := by decide +kernel
theorem dX4_undo_16 : decode cX4_undo 16 = .ok (.invokespecial 60, 3) := by decide +kernel
theorem dX4_undo_19 : decode cX4_undo 19 = .ok (.athrow, 1) := by decide +kernel
theorem dX4_undo_20 : decode cX4_undo 20 = .ok (.aload_n 0, 1) := by decide +kernel
theorem dX4_undo_21 : decode cX4_undo 21 = .ok (.getfield 22, 3) := by decide +kernel
theorem dX4_undo_24 : decode cX4_undo 24 = .ok (.aload_n 0, 1) := by decide +kernel
theorem dX4_undo_25 : decode cX4_undo 25 = .ok (.getfield 10, 3) := by decide +kernel
theorem dX4_undo_28 : decode cX4_undo 28 = .ok (.invokevirtual 232, 3) := by decide +kernel
theorem dX4_undo_31 : decode cX4_undo 31 = .ok (.aload_n 0, 1) := by decide +kernel
theorem dX4_undo_32 : decode cX4_undo 32 = .ok (.getfield 22, 3) := by decide +kernel
theorem dX4_undo_35 : decode cX4_undo 35 = .ok (.getfield 229, 3) := by decide +kernel
theorem dX4_undo_38 : decode cX4_undo 38 = .ok (.ireturn, 1) := by decide +kernel
theorem dX4_digest_0 : decode cX4_digest 0 = .ok (.ldc2_w 235, 3) := by decide +kernel
theorem dX4_digest_3 : decode cX4_digest 3 = .ok (.aload_n 0, 1) := by decide +kernel
theorem dX4_digest_4 : decode cX4_digest 4 = .ok (.getfield 29, 3) := by decide +kernel
theorem dX4_digest_7 : decode cX4_digest 7 = .ok (.getfield 205, 3) := by decide +kernel
theorem dX4_digest_10 : decode cX4_digest 10 = .ok (.i2l, 1) := by decide +kernel
theorem dX4_digest_11 : decode cX4_digest 11 = .ok (.ladd, 1) := by decide +kernel
theorem dX4_digest_12 : decode cX4_digest 12 = .ok (.lstore_n 1, 1) := by decide +kernel
theorem dX4_digest_13 : decode cX4_digest 13 = .ok (.iconst 0, 1) := by decide +kernel
theorem dX4_digest_14 : decode cX4_digest 14 = .ok (.istore_n 3, 1) := by decide +kernel
theorem dX4_digest_15 : decode cX4_digest 15 = .ok (.iload_n 3, 1) := by decide +kernel
theorem dX4_digest_16 : decode cX4_digest 16 = .ok (.bipush 12, 2) := by decide +kernel
theorem dX4_digest_18 : decode cX4_digest 18 = .ok (.if_icmp .ge 25, 3) := by decide +kernel
theorem dX4_digest_21 : decode cX4_digest 21 = .ok (.ldc2_w 237, 3) := by decide +kernel
theorem dX4_digest_24 : decode cX4_digest 24 = .ok (.lload_n 1, 1) := by decide +kernel
theorem dX4_digest_25 : decode cX4_digest 25 = .ok (.lmul, 1) := by decide +kernel
theorem dX4_digest_26 : decode cX4_digest 26 = .ok (.aload_n 0, 1) := by decide +kernel
theorem dX4_digest_27 : decode cX4_digest 27 = .ok (.getfield 10, 3) := by decide +kernel
theorem dX4_digest_30 : decode cX4_digest 30 = .ok (.iload_n 3, 1) := by decide +kernel
theorem dX4_digest_31 : decode cX4_digest 31 = .ok (.invokevirtual 151, 3) := by decide +kernel
theorem dX4_digest_34 : decode cX4_digest 34 = .ok (.i2l, 1) := by decide +kernel
theorem dX4_digest_35 : decode cX4_digest 35 = .ok (.ladd, 1) := by decide +kernel
theorem dX4_digest_36 : decode cX4_digest 36 = .ok (.lstore_n 1, 1) := by decide +kernel
theorem dX4_digest_37 : decode cX4_digest 37 = .ok (.iinc 3 1, 3) := by decide +kernel
theorem dX4_digest_40 : decode cX4_digest 40 = .ok (.goto (-25), 3) := by decide +kernel
theorem dX4_digest_43 : decode cX4_digest 43 = .ok (.iconst 0, 1) := by decide +kernel
theorem dX4_digest_44 : decode cX4_digest 44 = .ok (.istore_n 3, 1) := by decide +kernel
theorem dX4_digest_45 : decode cX4_digest 45 = .ok (.iload_n 3, 1) := by decide +kernel
theorem dX4_digest_46 : decode cX4_digest 46 = .ok (.bipush 8, 2) := by decide +kernel
theorem dX4_digest_48 : decode cX4_digest 48 = .ok (.if_icmp .ge 26, 3) := by decide +kernel
theorem dX4_digest_51 : decode cX4_digest 51 = .ok (.ldc2_w 237, 3) := by decide +kernel
theorem dX4_digest_54 : decode cX4_digest 54 = .ok (.lload_n 1, 1) := by decide +kernel
theorem dX4_digest_55 : decode cX4_digest 55 = .ok (.lmul, 1) := by decide +kernel
theorem dX4_digest_56 : decode cX4_digest 56 = .ok (.aload_n 0, 1) := by decide +kernel
theorem dX4_digest_57 : decode cX4_digest 57 = .ok (.getfield 10, 3) := by decide +kernel
theorem dX4_digest_60 : decode cX4_digest 60 = .ok (.getfield 52, 3) := by decide +kernel
theorem dX4_digest_63 : decode cX4_digest 63 = .ok (.iload_n 3, 1) := by decide +kernel
theorem dX4_digest_64 : decode cX4_digest 64 = .ok (.iaload, 1) := by decide +kernel
theorem dX4_digest_65 : decode cX4_digest 65 = .ok (.i2l, 1) := by decide +kernel
theorem dX4_digest_66 : decode cX4_digest 66 = .ok (.ladd, 1) := by decide +kernel
theorem dX4_digest_67 : decode cX4_digest 67 = .ok (.lstore_n 1, 1) := by decide +kernel
theorem dX4_digest_68 : decode cX4_digest 68 = .ok (.iinc 3 1, 3) := by decide +kernel
theorem dX4_digest_71 : decode cX4_digest 71 = .ok (.goto (-26), 3) := by decide +kernel
theorem dX4_digest_74 : decode cX4_digest 74 = .ok (.iconst 0, 1) := by decide +kernel
theorem dX4_digest_75 : decode cX4_digest 75 = .ok (.istore_n 3, 1) := by decide +kernel
theorem dX4_digest_76 : decode cX4_digest 76 = .ok (.iload_n 3, 1) := by decide +kernel
theorem dX4_digest_77 : decode cX4_digest 77 = .ok (.bipush 6, 2) := by decide +kernel
theorem dX4_digest_79 : decode cX4_digest 79 = .ok (.if_icmp .ge 25, 3) := by decide +kernel
theorem dX4_digest_82 : decode cX4_digest 82 = .ok (.ldc2_w 237, 3) := by decide +kernel
theorem dX4_digest_85 : decode cX4_digest 85 = .ok (.lload_n 1, 1) := by decide +kernel
theorem dX4_digest_86 : decode cX4_digest 86 = .ok (.lmul, 1) := by decide +kernel
theorem dX4_digest_87 : decode cX4_digest 87 = .ok (.aload_n 0, 1) := by decide +kernel
theorem dX4_digest_88 : decode cX4_digest 88 = .ok (.getfield 10, 3) := by decide +kernel
theorem dX4_digest_91 : decode cX4_digest 91 = .ok (.getfield 156, 3) := by decide +kernel
theorem dX4_digest_94 : decode cX4_digest 94 = .ok (.iload_n 3, 1) := by decide +kernel
theorem dX4_digest_95 : decode cX4_digest 95 = .ok (.laload, 1) := by decide +kernel
theorem dX4_digest_96 : decode cX4_digest 96 = .ok (.ladd, 1) := by decide +kernel
theorem dX4_digest_97 : decode cX4_digest 97 = .ok (.lstore_n 1, 1) := by decide +kernel
theorem dX4_digest_98 : decode cX4_digest 98 = .ok (.iinc 3 1, 3) := by decide +kernel
theorem dX4_digest_101 : decode cX4_digest 101 = .ok (.goto (-25), 3) := by decide +kernel
theorem dX4_digest_104 : decode cX4_digest 104 = .ok (.iconst 0, 1) := by decide +kernel
theorem dX4_digest_105 : decode cX4_digest 105 = .ok (.istore_n 3, 1) := by decide +kernel
theorem dX4_digest_106 : decode cX4_digest 106 = .ok (.iload_n 3, 1) := by decide +kernel
theorem dX4_digest_107 : decode cX4_digest 107 = .ok (.iconst 5, 1) := by decide +kernel
theorem dX4_digest_108 : decode cX4_digest 108 = .ok (.if_icmp .ge 23, 3) := by decide +kernel
theorem dX4_digest_111 : decode cX4_digest 111 = .ok (.aload_n 0, 1) := by decide +kernel
theorem dX4_digest_112 : decode cX4_digest 112 = .ok (.lload_n 1, 1) := by decide +kernel
theorem dX4_digest_113 : decode cX4_digest 113 = .ok (.aload_n 0, 1) := by decide +kernel
theorem dX4_digest_114 : decode cX4_digest 114 = .ok (.getfield 10, 3) := by decide +kernel
theorem dX4_digest_117 : decode cX4_digest 117 = .ok (.iload_n 3, 1) := by decide +kernel
theorem dX4_digest_118 : decode cX4_digest 118 = .ok (.invokevirtual 93, 3) := by decide +kernel
theorem dX4_digest_121 : decode cX4_digest 121 = .ok (.invokevirtual 239, 3) := by decide +kernel
theorem dX4_digest_124 : decode cX4_digest 124 = .ok (.lstore_n 1, 1) := by decide +kernel
theorem dX4_digest_125 : decode cX4_digest 125 = .ok (.iinc 3 1, 3) := by decide +kernel
theorem dX4_digest_128 : decode cX4_digest 128 = .ok (.goto (-22), 3) := by decide +kernel
theorem dX4_digest_131 : decode cX4_digest 131 = .ok (.iconst 0, 1) := by decide +kernel
theorem dX4_digest_132 : decode cX4_digest 132 = .ok (.istore_n 3, 1) := by decide +kernel
theorem dX4_digest_133 : decode cX4_digest 133 = .ok (.iload_n 3, 1) := by decide +kernel
theorem dX4_digest_134 : decode cX4_digest 134 = .ok (.aload_n 0, 1) := by decide +kernel
theorem dX4_digest_135 : decode cX4_digest 135 = .ok (.getfield 10, 3) := by decide +kernel
theorem dX4_digest_138 : decode cX4_digest 138 = .ok (.getfield 160, 3) := by decide +kernel
theorem dX4_digest_141 : decode cX4_digest 141 = .ok (.if_icmp .ge 32, 3) := by decide +kernel
theorem dX4_digest_144 : decode cX4_digest 144 = .ok (.iload_n 3, 1) := by decide +kernel
theorem dX4_digest_145 : decode cX4_digest 145 = .ok (.bipush 6, 2) := by decide +kernel
theorem dX4_digest_147 : decode cX4_digest 147 = .ok (.if_icmp .ge 26, 3) := by decide +kernel
theorem dX4_digest_150 : decode cX4_digest 150 = .ok (.ldc2_w 237, 3) := by decide +kernel
theorem dX4_digest_153 : decode cX4_digest 153 = .ok (.lload_n 1, 1) := by decide +kernel
theorem dX4_digest_154 : decode cX4_digest 154 = .ok (.lmul, 1) := by decide +kernel
theorem dX4_digest_155 : decode cX4_digest 155 = .ok (.aload_n 0, 1) := by decide +kernel
theorem dX4_digest_156 : decode cX4_digest 156 = .ok (.getfield 10, 3) := by decide +kernel
theorem dX4_digest_159 : decode cX4_digest 159 = .ok (.getfield 165, 3) := by decide +kernel
theorem dX4_digest_162 : decode cX4_digest 162 = .ok (.iload_n 3, 1) := by decide +kernel
theorem dX4_digest_163 : decode cX4_digest 163 = .ok (.iaload, 1) := by decide +kernel
theorem dX4_digest_164 : decode cX4_digest 164 = .ok (.i2l, 1) := by decide +kernel
theorem dX4_digest_165 : decode cX4_digest 165 = .ok (.ladd, 1) := by decide +kernel
theorem dX4_digest_166 : decode cX4_digest 166 = .ok (.lstore_n 1, 1) := by decide +kernel
theorem dX4_digest_167 : decode cX4_digest 167 = .ok (.iinc 3 1, 3) := by decide +kernel
theorem dX4_digest_170 : decode cX4_digest 170 = .ok (.goto (-37), 3) := by decide +kernel
theorem dX4_digest_173 : decode cX4_digest 173 = .ok (.ldc2_w 237, 3) := by decide +kernel
theorem dX4_digest_176 : decode cX4_digest 176 = .ok (.lload_n 1, 1) := by decide +kernel
theorem dX4_digest_177 : decode cX4_digest 177 = .ok (.lmul, 1) := by decide +kernel
theorem dX4_digest_178 : decode cX4_digest 178 = .ok (.aload_n 0, 1) := by decide +kernel
theorem dX4_digest_179 : decode cX4_digest 179 = .ok (.getfield 22, 3) := by decide +kernel
theorem dX4_digest_182 : decode cX4_digest 182 = .ok (.getfield 229, 3) := by decide +kernel
theorem dX4_digest_185 : decode cX4_digest 185 = .ok (.i2l, 1) := by decide +kernel
theorem dX4_digest_186 : decode cX4_digest 186 = .ok (.ladd, 1) := by decide +kernel
theorem dX4_digest_187 : decode cX4_digest 187 = .ok (.lreturn, 1) := by decide +kernel
theorem dX4_digestWith_0 : decode cX4_digestWith 0 = .ok (.aload_n 3, 1) := by decide +kernel
theorem dX4_digestWith_1 : decode cX4_digestWith 1 = .ok (.ifnonnull 5, 3) := by decide +kernel
theorem dX4_digestWith_4 : decode cX4_digestWith 4 = .ok (.lload_n 1, 1) := by decide +kernel
theorem dX4_digestWith_5 : decode cX4_digestWith 5 = .ok (.lreturn, 1) := by decide +kernel
theorem dX4_digestWith_6 : decode cX4_digestWith 6 = .ok (.lload_n 1, 1) := by decide +kernel
theorem dX4_digestWith_7 : decode cX4_digestWith 7 = .ok (.lstore 4, 2) := by decide +kernel
theorem dX4_digestWith_9 : decode cX4_digestWith 9 = .ok (.iconst 0, 1) := by decide +kernel
theorem dX4_digestWith_10 : decode cX4_digestWith 10 = .ok (.istore 6, 2) := by decide +kernel
theorem dX4_digestWith_12 : decode cX4_digestWith 12 = .ok (.iload 6, 2) := by decide +kernel
theorem dX4_digestWith_14 : decode cX4_digestWith 14 = .ok (.bipush 10, 2) := by decide +kernel
theorem dX4_digestWith_16 : decode cX4_digestWith 16 = .ok (.if_icmp .ge 29, 3) := by decide +kernel
theorem dX4_digestWith_19 : decode cX4_digestWith 19 = .ok (.ldc2_w 237, 3) := by decide +kernel
theorem dX4_digestWith_22 : decode cX4_digestWith 22 = .ok (.lload 4, 2) := by decide +kernel
theorem dX4_digestWith_24 : decode cX4_digestWith 24 = .ok (.lmul, 1) := by decide +kernel
theorem dX4_digestWith_25 : decode cX4_digestWith 25 = .ok (.aload_n 0, 1) := by decide +kernel
theorem dX4_digestWith_26 : decode cX4_digestWith 26 = .ok (.getfield 10, 3) := by decide +kernel
theorem dX4_digestWith_29 : decode cX4_digestWith 29 = .ok (.aload_n 3, 1) := by decide +kernel
theorem dX4_digestWith_30 : decode cX4_digestWith 30 = .ok (.iload 6, 2) := by decide +kernel
theorem dX4_digestWith_32 : decode cX4_digestWith 32 = .ok (.invokevirtual 140, 3) := by decide +kernel
theorem dX4_digestWith_35 : decode cX4_digestWith 35 = .ok (.i2l, 1) := by decide +kernel
theorem dX4_digestWith_36 : decode cX4_digestWith 36 = .ok (.ladd, 1) := by decide +kernel
theorem dX4_digestWith_37 : decode cX4_digestWith 37 = .ok (.lstore 4, 2) := by decide +kernel
theorem dX4_digestWith_39 : decode cX4_digestWith 39 = .ok (.iinc 6 1, 3) := by decide +kernel
theorem dX4_digestWith_42 : decode cX4_digestWith 42 = .ok (.goto (-30), 3) := by decide +kernel
theorem dX4_digestWith_45 : decode cX4_digestWith 45 = .ok (.ldc2_w 237, 3) := by decide +kernel
theorem dX4_digestWith_48 : decode cX4_digestWith 48 = .ok (.lload 4, 2) := by decide +kernel
theorem dX4_digestWith_50 : decode cX4_digestWith 50 = .ok (.lmul, 1) := by decide +kernel
theorem dX4_digestWith_51 : decode cX4_digestWith 51 = .ok (.aload_n 0, 1) := by decide +kernel
theorem dX4_digestWith_52 : decode cX4_digestWith 52 = .ok (.getfield 10, 3) := by decide +kernel
theorem dX4_digestWith_55 : decode cX4_digestWith 55 = .ok (.aload_n 3, 1) := by decide +kernel
theorem dX4_digestWith_56 : decode cX4_digestWith 56 = .ok (.aload_n 0, 1) := by decide +kernel
theorem dX4_digestWith_57 : decode cX4_digestWith 57 = .ok (.getfield 10, 3) := by decide +kernel
theorem dX4_digestWith_60 : decode cX4_digestWith 60 = .ok (.invokevirtual 68, 3) := by decide +kernel
theorem dX4_digestWith_63 : decode cX4_digestWith 63 = .ok (.invokevirtual 168, 3) := by decide +kernel
theorem dX4_digestWith_66 : decode cX4_digestWith 66 = .ok (.i2l, 1) := by decide +kernel
theorem dX4_digestWith_67 : decode cX4_digestWith 67 = .ok (.ladd, 1) := by decide +kernel
theorem dX4_digestWith_68 : decode cX4_digestWith 68 = .ok (.lreturn, 1) := by decide +kernel
theorem dX4_isWithin_0 : decode cX4_isWithin 0 = .ok (.iload_n 0, 1) := by decide +kernel
theorem dX4_isWithin_1 : decode cX4_isWithin 1 = .ok (.iload_n 1, 1) := by decide +kernel
theorem dX4_isWithin_2 : decode cX4_isWithin 2 = .ok (.if_icmp .lt 12, 3) := by decide +kernel
theorem dX4_isWithin_5 : decode cX4_isWithin 5 = .ok (.iload_n 0, 1) := by decide +kernel
theorem dX4_isWithin_6 : decode cX4_isWithin 6 = .ok (.iload_n 2, 1) := by decide +kernel
theorem dX4_isWithin_7 : decode cX4_isWithin 7 = .ok (.if_icmp .gt 7, 3) := by decide +kernel
theorem dX4_isWithin_10 : decode cX4_isWithin 10 = .ok (.iconst 1, 1) := by decide +kernel
theorem dX4_isWithin_11 : decode cX4_isWithin 11 = .ok (.goto 4, 3) := by decide +kernel
theorem dX4_isWithin_14 : decode cX4_isWithin 14 = .ok (.iconst 0, 1) := by decide +kernel
theorem dX4_isWithin_15 : decode cX4_isWithin 15 = .ok (.ireturn, 1) := by decide +kernel
theorem dX4_pressureOf_0 : decode cX4_pressureOf 0 = .ok (.iload_n 1, 1) := by decide +kernel
theorem dX4_pressureOf_1 : decode cX4_pressureOf 1 = .ok (.ifCond .gt 7, 3) := by decide +kernel
theorem dX4_pressureOf_4 : decode cX4_pressureOf 4 = .ok (.iconst 0, 1) := by decide +kernel
end
section
theorem dX4_pressureOf_5 : decode cX4_pressureOf 5 = .ok (.goto 10, 3) := by decide +kernel
theorem dX4_pressureOf_8 : decode cX4_pressureOf 8 = .ok (.iload_n 0, 1) := by decide +kernel
theorem dX4_pressureOf_9 : decode cX4_pressureOf 9 = .ok (.sipush 1000, 3) := by decide +kernel
theorem dX4_pressureOf_12 : decode cX4_pressureOf 12 = .ok (.imul, 1) := by decide +kernel
theorem dX4_pressureOf_13 : decode cX4_pressureOf 13 = .ok (.iload_n 1, 1) := by decide +kernel
theorem dX4_pressureOf_14 : decode cX4_pressureOf 14 = .ok (.idiv, 1) := by decide +kernel
theorem dX4_pressureOf_15 : decode cX4_pressureOf 15 = .ok (.ireturn, 1) := by decide +kernel
theorem dJ9_max_7cf53_0 : decode cJ9_max_7cf53 0 = .ok (.iload_n 0, 1) := by decide +kernel
theorem dJ9_max_7cf53_1 : decode cJ9_max_7cf53 1 = .ok (.iload_n 1, 1) := by decide +kernel
theorem dJ9_max_7cf53_2 : decode cJ9_max_7cf53 2 = .ok (.if_icmp .lt 7, 3) := by decide +kernel
theorem dJ9_max_7cf53_5 : decode cJ9_max_7cf53 5 = .ok (.iload_n 0, 1) := by decide +kernel
theorem dJ9_max_7cf53_6 : decode cJ9_max_7cf53 6 = .ok (.goto 4, 3) := by decide +kernel
theorem dJ9_max_7cf53_9 : decode cJ9_max_7cf53 9 = .ok (.iload_n 1, 1) := by decide +kernel
theorem dJ9_max_7cf53_10 : decode cJ9_max_7cf53 10 = .ok (.ireturn, 1) := by decide +kernel
theorem dJ9_min_7cf53_0 : decode cJ9_min_7cf53 0 = .ok (.iload_n 0, 1) := by decide +kernel
theorem dJ9_min_7cf53_1 : decode cJ9_min_7cf53 1 = .ok (.iload_n 1, 1) := by decide +kernel
theorem dJ9_min_7cf53_2 : decode cJ9_min_7cf53 2 = .ok (.if_icmp .gt 7, 3) := by decide +kernel
theorem dJ9_min_7cf53_5 : decode cJ9_min_7cf53 5 = .ok (.iload_n 0, 1) := by decide +kernel
theorem dJ9_min_7cf53_6 : decode cJ9_min_7cf53 6 = .ok (.goto 4, 3) := by decide +kernel
theorem dJ9_min_7cf53_9 : decode cJ9_min_7cf53 9 = .ok (.iload_n 1, 1) := by decide +kernel
theorem dJ9_min_7cf53_10 : decode cJ9_min_7cf53 10 = .ok (.ireturn, 1) := by decide +kernel
theorem dL_cell_0 : decode cL_cell 0 = .ok (.iload_n 1, 1) := by decide +kernel
theorem dL_cell_1 : decode cL_cell 1 = .ok (.aload_n 0, 1) := by decide +kernel
theorem dL_cell_2 : decode cL_cell 2 = .ok (.arraylength, 1) := by decide +kernel
theorem dL_cell_3 : decode cL_cell 3 = .ok (.if_icmp .ge 9, 3) := by decide +kernel
theorem dL_cell_6 : decode cL_cell 6 = .ok (.aload_n 0, 1) := by decide +kernel
theorem dL_cell_7 : decode cL_cell 7 = .ok (.iload_n 1, 1) := by decide +kernel
theorem dL_cell_8 : decode cL_cell 8 = .ok (.iaload, 1) := by decide +kernel
theorem dL_cell_9 : decode cL_cell 9 = .ok (.goto 9, 3) := by decide +kernel
theorem dL_cell_12 : decode cL_cell 12 = .ok (.ldc 7, 2) := by decide +kernel
theorem dL_cell_14 : decode cL_cell 14 = .ok (.iload_n 1, 1) := by decide +kernel
theorem dL_cell_15 : decode cL_cell 15 = .ok (.iconst 3, 1) := by decide +kernel
theorem dL_cell_16 : decode cL_cell 16 = .ok (.iadd, 1) := by decide +kernel
theorem dL_cell_17 : decode cL_cell 17 = .ok (.imul, 1) := by decide +kernel
theorem dL_cell_18 : decode cL_cell 18 = .ok (.ldc 8, 2) := by decide +kernel
theorem dL_cell_20 : decode cL_cell 20 = .ok (.iand, 1) := by decide +kernel
theorem dL_cell_21 : decode cL_cell 21 = .ok (.ireturn, 1) := by decide +kernel
theorem dL_sets_0 : decode cL_sets 0 = .ok (.aload_n 0, 1) := by decide +kernel
theorem dL_sets_1 : decode cL_sets 1 = .ok (.iload_n 1, 1) := by decide +kernel
theorem dL_sets_2 : decode cL_sets 2 = .ok (.iload_n 2, 1) := by decide +kernel
theorem dL_sets_3 : decode cL_sets 3 = .ok (.invokevirtual 9, 3) := by decide +kernel
theorem dL_sets_6 : decode cL_sets 6 = .ok (.ireturn, 1) := by decide +kernel
theorem dL_sets_7 : decode cL_sets 7 = .ok (.astore_n 3, 1) := by decide +kernel
theorem dL_sets_8 : decode cL_sets 8 = .ok (.ldc 17, 2) := by decide +kernel
theorem dL_sets_10 : decode cL_sets 10 = .ok (.ireturn, 1) := by decide +kernel
theorem dL_adds_0 : decode cL_adds 0 = .ok (.aload_n 0, 1) := by decide +kernel
theorem dL_adds_1 : decode cL_adds 1 = .ok (.iload_n 1, 1) := by decide +kernel
theorem dL_adds_2 : decode cL_adds 2 = .ok (.invokevirtual 18, 3) := by decide +kernel
theorem dL_adds_5 : decode cL_adds 5 = .ok (.ireturn, 1) := by decide +kernel
theorem dL_adds_6 : decode cL_adds 6 = .ok (.astore_n 2, 1) := by decide +kernel
theorem dL_adds_7 : decode cL_adds 7 = .ok (.ldc 17, 2) := by decide +kernel
theorem dL_adds_9 : decode cL_adds 9 = .ok (.ireturn, 1) := by decide +kernel
theorem dL_adds_10 : decode cL_adds 10 = .ok (.astore_n 2, 1) := by decide +kernel
theorem dL_adds_11 : decode cL_adds 11 = .ok (.ldc 24, 2) := by decide +kernel
theorem dL_adds_13 : decode cL_adds 13 = .ok (.ireturn, 1) := by decide +kernel
theorem dL_trips_0 : decode cL_trips 0 = .ok (.aload_n 0, 1) := by decide +kernel
theorem dL_trips_1 : decode cL_trips 1 = .ok (.iload_n 1, 1) := by decide +kernel
theorem dL_trips_2 : decode cL_trips 2 = .ok (.invokevirtual 25, 3) := by decide +kernel
theorem dL_trips_5 : decode cL_trips 5 = .ok (.ireturn, 1) := by decide +kernel
theorem dL_trips_6 : decode cL_trips 6 = .ok (.astore_n 2, 1) := by decide +kernel
theorem dL_trips_7 : decode cL_trips 7 = .ok (.ldc 17, 2) := by decide +kernel
theorem dL_trips_9 : decode cL_trips 9 = .ok (.ireturn, 1) := by decide +kernel
theorem dL_trips_10 : decode cL_trips 10 = .ok (.astore_n 2, 1) := by decide +kernel
theorem dL_trips_11 : decode cL_trips 11 = .ok (.ldc 24, 2) := by decide +kernel
theorem dL_trips_13 : decode cL_trips 13 = .ok (.ireturn, 1) := by decide +kernel
theorem dL_clears_0 : decode cL_clears 0 = .ok (.aload_n 0, 1) := by decide +kernel
theorem dL_clears_1 : decode cL_clears 1 = .ok (.iload_n 1, 1) := by decide +kernel
theorem dL_clears_2 : decode cL_clears 2 = .ok (.invokevirtual 30, 3) := by decide +kernel
theorem dL_clears_5 : decode cL_clears 5 = .ok (.ireturn, 1) := by decide +kernel
theorem dL_clears_6 : decode cL_clears 6 = .ok (.astore_n 2, 1) := by decide +kernel
theorem dL_clears_7 : decode cL_clears 7 = .ok (.ldc 17, 2) := by decide +kernel
theorem dL_clears_9 : decode cL_clears 9 = .ok (.ireturn, 1) := by decide +kernel
theorem dL_clears_10 : decode cL_clears 10 = .ok (.astore_n 2, 1) := by decide +kernel
theorem dL_clears_11 : decode cL_clears 11 = .ok (.ldc 24, 2) := by decide +kernel
theorem dL_clears_13 : decode cL_clears 13 = .ok (.ireturn, 1) := by decide +kernel
theorem dL_passes_0 : decode cL_passes 0 = .ok (.aload_n 0, 1) := by decide +kernel
theorem dL_passes_1 : decode cL_passes 1 = .ok (.iload_n 1, 1) := by decide +kernel
theorem dL_passes_2 : decode cL_passes 2 = .ok (.invokevirtual 33, 3) := by decide +kernel
theorem dL_passes_5 : decode cL_passes 5 = .ok (.ireturn, 1) := by decide +kernel
theorem dL_passes_6 : decode cL_passes 6 = .ok (.astore_n 2, 1) := by decide +kernel
theorem dL_passes_7 : decode cL_passes 7 = .ok (.ldc 17, 2) := by decide +kernel
theorem dL_passes_9 : decode cL_passes 9 = .ok (.ireturn, 1) := by decide +kernel
theorem dL_passes_10 : decode cL_passes 10 = .ok (.astore_n 2, 1) := by decide +kernel
theorem dL_passes_11 : decode cL_passes 11 = .ok (.ldc 24, 2) := by decide +kernel
theorem dL_passes_13 : decode cL_passes 13 = .ok (.ireturn, 1) := by decide +kernel
theorem dL_tests_0 : decode cL_tests 0 = .ok (.aload_n 0, 1) := by decide +kernel
theorem dL_tests_1 : decode cL_tests 1 = .ok (.iload_n 1, 1) := by decide +kernel
theorem dL_tests_2 : decode cL_tests 2 = .ok (.invokevirtual 36, 3) := by decide +kernel
theorem dL_tests_5 : decode cL_tests 5 = .ok (.ireturn, 1) := by decide +kernel
theorem dL_tests_6 : decode cL_tests 6 = .ok (.astore_n 2, 1) := by decide +kernel
theorem dL_tests_7 : decode cL_tests 7 = .ok (.ldc 17, 2) := by decide +kernel
theorem dL_tests_9 : decode cL_tests 9 = .ok (.ireturn, 1) := by decide +kernel
theorem dL_tests_10 : decode cL_tests 10 = .ok (.astore_n 2, 1) := by decide +kernel
theorem dL_tests_11 : decode cL_tests 11 = .ok (.ldc 24, 2) := by decide +kernel
theorem dL_tests_13 : decode cL_tests 13 = .ok (.ireturn, 1) := by decide +kernel
theorem dL_its_0 : decode cL_its 0 = .ok (.aload_n 0, 1) := by decide +kernel
theorem dL_its_1 : decode cL_its 1 = .ok (.iload_n 1, 1) := by decide +kernel
theorem dL_its_2 : decode cL_its 2 = .ok (.iload_n 2, 1) := by decide +kernel
theorem dL_its_3 : decode cL_its 3 = .ok (.invokevirtual 39, 3) := by decide +kernel
theorem dL_its_6 : decode cL_its 6 = .ok (.ireturn, 1) := by decide +kernel
theorem dL_its_7 : decode cL_its 7 = .ok (.astore_n 3, 1) := by decide +kernel
theorem dL_its_8 : decode cL_its 8 = .ok (.ldc 17, 2) := by decide +kernel
theorem dL_its_10 : decode cL_its 10 = .ok (.ireturn, 1) := by decide +kernel
theorem dL_its_11 : decode cL_its 11 = .ok (.astore_n 3, 1) := by decide +kernel
theorem dL_its_12 : decode cL_its 12 = .ok (.ldc 24, 2) := by decide +kernel
theorem dL_its_14 : decode cL_its 14 = .ok (.ireturn, 1) := by decide +kernel
theorem dL_atStage_0 : decode cL_atStage 0 = .ok (.aload_n 0, 1) := by decide +kernel
theorem dL_atStage_1 : decode cL_atStage 1 = .ok (.iload_n 1, 1) := by decide +kernel
theorem dL_atStage_2 : decode cL_atStage 2 = .ok (.invokevirtual 42, 3) := by decide +kernel
theorem dL_atStage_5 : decode cL_atStage 5 = .ok (.ireturn, 1) := by decide +kernel
theorem dL_atStage_6 : decode cL_atStage 6 = .ok (.astore_n 2, 1) := by decide +kernel
theorem dL_atStage_7 : decode cL_atStage 7 = .ok (.ldc 17, 2) := by decide +kernel
theorem dL_atStage_9 : decode cL_atStage 9 = .ok (.ireturn, 1) := by decide +kernel
theorem dL_value_0 : decode cL_value 0 = .ok (.aload_n 0, 1) := by decide +kernel
theorem dL_value_1 : decode cL_value 1 = .ok (.iload_n 1, 1) := by decide +kernel
theorem dL_value_2 : decode cL_value 2 = .ok (.invokevirtual 45, 3) := by decide +kernel
theorem dL_value_5 : decode cL_value 5 = .ok (.ireturn, 1) := by decide +kernel
theorem dL_value_6 : decode cL_value 6 = .ok (.astore_n 2, 1) := by decide +kernel
theorem dL_value_7 : decode cL_value 7 = .ok (.ldc 17, 2) := by decide +kernel
theorem dL_value_9 : decode cL_value 9 = .ok (.ireturn, 1) := by decide +kernel
theorem dL_setting_0 : decode cL_setting 0 = .ok (.aload_n 0, 1) := by decide +kernel
theorem dL_setting_1 : decode cL_setting 1 = .ok (.iload_n 1, 1) := by decide +kernel
theorem dL_setting_2 : decode cL_setting 2 = .ok (.invokevirtual 48, 3) := by decide +kernel
theorem dL_setting_5 : decode cL_setting 5 = .ok (.ireturn, 1) := by decide +kernel
theorem dL_setting_6 : decode cL_setting 6 = .ok (.astore_n 2, 1) := by decide +kernel
theorem dL_setting_7 : decode cL_setting 7 = .ok (.ldc 17, 2) := by decide +kernel
theorem dL_setting_9 : decode cL_setting 9 = .ok (.ireturn, 1) := by decide +kernel
theorem dL_next_0 : decode cL_next 0 = .ok (.aload_n 0, 1) := by decide +kernel
theorem dL_next_1 : decode cL_next 1 = .ok (.iload_n 1, 1) := by decide +kernel
theorem dL_next_2 : decode cL_next 2 = .ok (.invokevirtual 51, 3) := by decide +kernel
theorem dL_next_5 : decode cL_next 5 = .ok (.ireturn, 1) := by decide +kernel
theorem dL_next_6 : decode cL_next 6 = .ok (.astore_n 2, 1) := by decide +kernel
theorem dL_next_7 : decode cL_next 7 = .ok (.ldc 17, 2) := by decide +kernel
theorem dL_next_9 : decode cL_next 9 = .ok (.ireturn, 1) := by decide +kernel
theorem dL_undoes_0 : decode cL_undoes 0 = .ok (.aload_n 0, 1) := by decide +kernel
theorem dL_undoes_1 : decode cL_undoes 1 = .ok (.invokevirtual 54, 3) := by decide +kernel
theorem dL_undoes_4 : decode cL_undoes 4 = .ok (.ireturn, 1) := by decide +kernel
theorem dL_undoes_5 : decode cL_undoes 5 = .ok (.astore_n 1, 1) := by decide +kernel
theorem dL_undoes_6 : decode cL_undoes 6 = .ok (.ldc 17, 2) := by decide +kernel
theorem dL_undoes_8 : decode cL_undoes 8 = .ok (.ireturn, 1) := by decide +kernel
theorem dL_booked_0 : decode cL_booked 0 = .ok (.aload_n 0, 1) := by decide +kernel
theorem dL_booked_1 : decode cL_booked 1 = .ok (.iload_n 1, 1) := by decide +kernel
theorem dL_booked_2 : decode cL_booked 2 = .ok (.invokevirtual 58, 3) := by decide +kernel
theorem dL_booked_5 : decode cL_booked 5 = .ok (.lreturn, 1) := by decide +kernel
theorem dL_booked_6 : decode cL_booked 6 = .ok (.astore_n 2, 1) := by decide +kernel
theorem dL_booked_7 : decode cL_booked 7 = .ok (.ldc2_w 62, 3) := by decide +kernel
theorem dL_booked_10 : decode cL_booked 10 = .ok (.lreturn, 1) := by decide +kernel
theorem dL_holds_0 : decode cL_holds 0 = .ok (.aload_n 0, 1) := by decide +kernel
theorem dL_holds_1 : decode cL_holds 1 = .ok (.iconst 3, 1) := by decide +kernel
theorem dL_holds_2 : decode cL_holds 2 = .ok (.invokestatic 64, 3) := by decide +kernel
theorem dL_holds_5 : decode cL_holds 5 = .ok (.istore_n 1, 1) := by decide +kernel
theorem dL_holds_6 : decode cL_holds 6 = .ok (.iconst 0, 1) := by decide +kernel
theorem dL_holds_7 : decode cL_holds 7 = .ok (.istore_n 2, 1) := by decide +kernel
theorem dL_holds_8 : decode cL_holds 8 = .ok (.iconst 0, 1) := by decide +kernel
theorem dL_holds_9 : decode cL_holds 9 = .ok (.istore_n 3, 1) := by decide +kernel
theorem dL_holds_10 : decode cL_holds 10 = .ok (.iconst 0, 1) := by decide +kernel
theorem dL_holds_11 : decode cL_holds 11 = .ok (.istore 4, 2) := by decide +kernel
theorem dL_holds_13 : decode cL_holds 13 = .ok (.iconst 0, 1) := by decide +kernel
theorem dL_holds_14 : decode cL_holds 14 = .ok (.istore 5, 2) := by decide +kernel
theorem dL_holds_16 : decode cL_holds 16 = .ok (.lconst 0, 1) := by decide +kernel
theorem dL_holds_17 : decode cL_holds 17 = .ok (.lstore 6, 2) := by decide +kernel
theorem dL_holds_19 : decode cL_holds 19 = .ok (.aload_n 0, 1) := by decide +kernel
theorem dL_holds_20 : decode cL_holds 20 = .ok (.iconst 1, 1) := by decide +kernel
theorem dL_holds_21 : decode cL_holds 21 = .ok (.invokestatic 64, 3) := by decide +kernel
theorem dL_holds_24 : decode cL_holds 24 = .ok (.i2l, 1) := by decide +kernel
theorem dL_holds_25 : decode cL_holds 25 = .ok (.aload_n 0, 1) := by decide +kernel
theorem dL_holds_26 : decode cL_holds 26 = .ok (.iconst 1, 1) := by decide +kernel
theorem dL_holds_27 : decode cL_holds 27 = .ok (.invokestatic 69, 3) := by decide +kernel
theorem dL_holds_30 : decode cL_holds 30 = .ok (.ladd, 1) := by decide +kernel
theorem dL_holds_31 : decode cL_holds 31 = .ok (.aload_n 0, 1) := by decide +kernel
theorem dL_holds_32 : decode cL_holds 32 = .ok (.iconst 2, 1) := by decide +kernel
theorem dL_holds_33 : decode cL_holds 33 = .ok (.invokestatic 69, 3) := by decide +kernel
theorem dL_holds_36 : decode cL_holds 36 = .ok (.ladd, 1) := by decide +kernel
theorem dL_holds_37 : decode cL_holds 37 = .ok (.aload_n 0, 1) := by decide +kernel
theorem dL_holds_38 : decode cL_holds 38 = .ok (.iconst 4, 1) := by decide +kernel
theorem dL_holds_39 : decode cL_holds 39 = .ok (.invokestatic 69, 3) := by decide +kernel
theorem dL_holds_42 : decode cL_holds 42 = .ok (.ladd, 1) := by decide +kernel
theorem dL_holds_43 : decode cL_holds 43 = .ok (.aload_n 0, 1) := by decide +kernel
theorem dL_holds_44 : decode cL_holds 44 = .ok (.iconst 0, 1) := by decide +kernel
theorem dL_holds_45 : decode cL_holds 45 = .ok (.invokestatic 69, 3) := by decide +kernel
theorem dL_holds_48 : decode cL_holds 48 = .ok (.lsub, 1) := by decide +kernel
theorem dL_holds_49 : decode cL_holds 49 = .ok (.ldc2_w 72, 3) := by decide +kernel
theorem dL_holds_52 : decode cL_holds 52 = .ok (.lcmp, 1) := by decide +kernel
theorem dL_holds_53 : decode cL_holds 53 = .ok (.ifCond .ne 49, 3) := by decide +kernel
theorem dL_holds_56 : decode cL_holds 56 = .ok (.aload_n 0, 1) := by decide +kernel
theorem dL_holds_57 : decode cL_holds 57 = .ok (.iconst 2, 1) := by decide +kernel
theorem dL_holds_58 : decode cL_holds 58 = .ok (.invokestatic 64, 3) := by decide +kernel
theorem dL_holds_61 : decode cL_holds 61 = .ok (.aload_n 0, 1) := by decide +kernel
theorem dL_holds_62 : decode cL_holds 62 = .ok (.iconst 1, 1) := by decide +kernel
theorem dL_holds_63 : decode cL_holds 63 = .ok (.invokestatic 64, 3) := by decide +kernel
theorem dL_holds_66 : decode cL_holds 66 = .ok (.sipush 1000, 3) := by decide +kernel
theorem dL_holds_69 : decode cL_holds 69 = .ok (.imul, 1) := by decide +kernel
theorem dL_holds_70 : decode cL_holds 70 = .ok (.aload_n 0, 1) := by decide +kernel
theorem dL_holds_71 : decode cL_holds 71 = .ok (.iconst 0, 1) := by decide +kernel
theorem dL_holds_72 : decode cL_holds 72 = .ok (.invokestatic 64, 3) := by decide +kernel
theorem dL_holds_75 : decode cL_holds 75 = .ok (.idiv, 1) := by decide +kernel
theorem dL_holds_76 : decode cL_holds 76 = .ok (.if_icmp .ne 26, 3) := by decide +kernel
theorem dL_holds_79 : decode cL_holds 79 = .ok (.aload_n 0, 1) := by decide +kernel
theorem dL_holds_80 : decode cL_holds 80 = .ok (.iconst 1, 1) := by decide +kernel
theorem dL_holds_81 : decode cL_holds 81 = .ok (.invokestatic 64, 3) := by decide +kernel
theorem dL_holds_84 : decode cL_holds 84 = .ok (.ifCond .lt 18, 3) := by decide +kernel
theorem dL_holds_87 : decode cL_holds 87 = .ok (.aload_n 0, 1) := by decide +kernel
theorem dL_holds_88 : decode cL_holds 88 = .ok (.bipush 11, 2) := by decide +kernel
theorem dL_holds_90 : decode cL_holds 90 = .ok (.invokestatic 64, 3) := by decide +kernel
theorem dL_holds_93 : decode cL_holds 93 = .ok (.bipush 6, 2) := by decide +kernel
theorem dL_holds_95 : decode cL_holds 95 = .ok (.if_icmp .gt 7, 3) := by decide +kernel
theorem dL_holds_98 : decode cL_holds 98 = .ok (.iconst 1, 1) := by decide +kernel
theorem dL_holds_99 : decode cL_holds 99 = .ok (.goto 4, 3) := by decide +kernel
theorem dL_holds_102 : decode cL_holds 102 = .ok (.iconst 0, 1) := by decide +kernel
theorem dL_holds_103 : decode cL_holds 103 = .ok (.istore 8, 2) := by decide +kernel
theorem dL_holds_105 : decode cL_holds 105 = .ok (.iconst 0, 1) := by decide +kernel
theorem dL_holds_106 : decode cL_holds 106 = .ok (.istore 9, 2) := by decide +kernel
theorem dL_holds_108 : decode cL_holds 108 = .ok (.iload 9, 2) := by decide +kernel
theorem dL_holds_110 : decode cL_holds 110 = .ok (.iload_n 1, 1) := by decide +kernel
theorem dL_holds_111 : decode cL_holds 111 = .ok (.if_icmp .ge 249, 3) := by decide +kernel
theorem dL_holds_114 : decode cL_holds 114 = .ok (.iload 8, 2) := by decide +kernel
theorem dL_holds_116 : decode cL_holds 116 = .ok (.ifCond .eq 244, 3) := by decide +kernel
theorem dL_holds_119 : decode cL_holds 119 = .ok (.aload_n 0, 1) := by decide +kernel
theorem dL_holds_120 : decode cL_holds 120 = .ok (.iload 9, 2) := by decide +kernel
theorem dL_holds_122 : decode cL_holds 122 = .ok (.iconst 1, 1) := by decide +kernel
theorem dL_holds_123 : decode cL_holds 123 = .ok (.invokestatic 74, 3) := by decide +kernel
theorem dL_holds_126 : decode cL_holds 126 = .ok (.istore 10, 2) := by decide +kernel
theorem dL_holds_128 : decode cL_holds 128 = .ok (.iload_n 2, 1) := by decide +kernel
theorem dL_holds_129 : decode cL_holds 129 = .ok (.iload 10, 2) := by decide +kernel
theorem dL_holds_131 : decode cL_holds 131 = .ok (.iconst 1, 1) := by decide +kernel
theorem dL_holds_132 : decode cL_holds 132 = .ok (.if_icmp .ne 7, 3) := by decide +kernel
theorem dL_holds_135 : decode cL_holds 135 = .ok (.iconst 1, 1) := by decide +kernel
theorem dL_holds_136 : decode cL_holds 136 = .ok (.goto 4, 3) := by decide +kernel
theorem dL_holds_139 : decode cL_holds 139 = .ok (.iconst 0, 1) := by decide +kernel
theorem dL_holds_140 : decode cL_holds 140 = .ok (.iadd, 1) := by decide +kernel
theorem dL_holds_141 : decode cL_holds 141 = .ok (.istore_n 2, 1) := by decide +kernel
theorem dL_holds_142 : decode cL_holds 142 = .ok (.iload_n 3, 1) := by decide +kernel
theorem dL_holds_143 : decode cL_holds 143 = .ok (.iload 10, 2) := by decide +kernel
theorem dL_holds_145 : decode cL_holds 145 = .ok (.iconst 2, 1) := by decide +kernel
theorem dL_holds_146 : decode cL_holds 146 = .ok (.if_icmp .ne 7, 3) := by decide +kernel
theorem dL_holds_149 : decode cL_holds 149 = .ok (.iconst 1, 1) := by decide +kernel
theorem dL_holds_150 : decode cL_holds 150 = .ok (.goto 4, 3) := by decide +kernel
theorem dL_holds_153 : decode cL_holds 153 = .ok (.iconst 0, 1) := by decide +kernel
theorem dL_holds_154 : decode cL_holds 154 = .ok (.iadd, 1) := by decide +kernel
theorem dL_holds_155 : decode cL_holds 155 = .ok (.istore_n 3, 1) := by decide +kernel
theorem dL_holds_156 : decode cL_holds 156 = .ok (.iload 4, 2) := by decide +kernel
theorem dL_holds_158 : decode cL_holds 158 = .ok (.iload 10, 2) := by decide +kernel
theorem dL_holds_160 : decode cL_holds 160 = .ok (.iconst 3, 1) := by decide +kernel
theorem dL_holds_161 : decode cL_holds 161 = .ok (.if_icmp .ne 7, 3) := by decide +kernel
theorem dL_holds_164 : decode cL_holds 164 = .ok (.iconst 1, 1) := by decide +kernel
theorem dL_holds_165 : decode cL_holds 165 = .ok (.goto 4, 3) := by decide +kernel
theorem dL_holds_168 : decode cL_holds 168 = .ok (.iconst 0, 1) := by decide +kernel
theorem dL_holds_169 : decode cL_holds 169 = .ok (.iadd, 1) := by decide +kernel
theorem dL_holds_170 : decode cL_holds 170 = .ok (.istore 4, 2) := by decide +kernel
theorem dL_holds_172 : decode cL_holds 172 = .ok (.iload 5, 2) := by decide +kernel
theorem dL_holds_174 : decode cL_holds 174 = .ok (.iload 10, 2) := by decide +kernel
theorem dL_holds_176 : decode cL_holds 176 = .ok (.iconst 1, 1) := by decide +kernel
theorem dL_holds_177 : decode cL_holds 177 = .ok (.if_icmp .ne 13, 3) := by decide +kernel
theorem dL_holds_180 : decode cL_holds 180 = .ok (.aload_n 0, 1) := by decide +kernel
theorem dL_holds_181 : decode cL_holds 181 = .ok (.iload 9, 2) := by decide +kernel
theorem dL_holds_183 : decode cL_holds 183 = .ok (.iconst 0, 1) := by decide +kernel
theorem dL_holds_184 : decode cL_holds 184 = .ok (.invokestatic 74, 3) := by decide +kernel
theorem dL_holds_187 : decode cL_holds 187 = .ok (.goto 4, 3) := by decide +kernel
theorem dL_holds_190 : decode cL_holds 190 = .ok (.iconst 0, 1) := by decide +kernel
theorem dL_holds_191 : decode cL_holds 191 = .ok (.iadd, 1) := by decide +kernel
theorem dL_holds_192 : decode cL_holds 192 = .ok (.istore 5, 2) := by decide +kernel
theorem dL_holds_194 : decode cL_holds 194 = .ok (.lload 6, 2) := by decide +kernel
theorem dL_holds_196 : decode cL_holds 196 = .ok (.ldc2_w 78, 3) := by decide +kernel
theorem dL_holds_199 : decode cL_holds 199 = .ok (.aload_n 0, 1) := by decide +kernel
theorem dL_holds_200 : decode cL_holds 200 = .ok (.iload 9, 2) := by decide +kernel
theorem dL_holds_202 : decode cL_holds 202 = .ok (.iconst 0, 1) := by decide +kernel
theorem dL_holds_203 : decode cL_holds 203 = .ok (.invokestatic 74, 3) := by decide +kernel
theorem dL_holds_206 : decode cL_holds 206 = .ok (.i2l, 1) := by decide +kernel
theorem dL_holds_207 : decode cL_holds 207 = .ok (.lmul, 1) := by decide +kernel
theorem dL_holds_208 : decode cL_holds 208 = .ok (.aload_n 0, 1) := by decide +kernel
theorem dL_holds_209 : decode cL_holds 209 = .ok (.iload 9, 2) := by decide +kernel
theorem dL_holds_211 : decode cL_holds 211 = .ok (.iconst 3, 1) := by decide +kernel
theorem dL_holds_212 : decode cL_holds 212 = .ok (.invokestatic 74, 3) := by decide +kernel
theorem dL_holds_215 : decode cL_holds 215 = .ok (.i2l, 1) := by decide +kernel
theorem dL_holds_216 : decode cL_holds 216 = .ok (.lmul, 1) := by decide +kernel
theorem dL_holds_217 : decode cL_holds 217 = .ok (.ldc2_w 80, 3) := by decide +kernel
theorem dL_holds_220 : decode cL_holds 220 = .ok (.aload_n 0, 1) := by decide +kernel
theorem dL_holds_221 : decode cL_holds 221 = .ok (.iload 9, 2) := by decide +kernel
theorem dL_holds_223 : decode cL_holds 223 = .ok (.iconst 0, 1) := by decide +kernel
theorem dL_holds_224 : decode cL_holds 224 = .ok (.invokestatic 74, 3) := by decide +kernel
theorem dL_holds_227 : decode cL_holds 227 = .ok (.i2l, 1) := by decide +kernel
theorem dL_holds_228 : decode cL_holds 228 = .ok (.lmul, 1) := by decide +kernel
theorem dL_holds_229 : decode cL_holds 229 = .ok (.aload_n 0, 1) := by decide +kernel
theorem dL_holds_230 : decode cL_holds 230 = .ok (.iload 9, 2) := by decide +kernel
theorem dL_holds_232 : decode cL_holds 232 = .ok (.iconst 4, 1) := by decide +kernel
theorem dL_holds_233 : decode cL_holds 233 = .ok (.invokestatic 74, 3) := by decide +kernel
theorem dL_holds_236 : decode cL_holds 236 = .ok (.i2l, 1) := by decide +kernel
theorem dL_holds_237 : decode cL_holds 237 = .ok (.lmul, 1) := by decide +kernel
theorem dL_holds_238 : decode cL_holds 238 = .ok (.ladd, 1) := by decide +kernel
theorem dL_holds_239 : decode cL_holds 239 = .ok (.ladd, 1) := by decide +kernel
theorem dL_holds_240 : decode cL_holds 240 = .ok (.lstore 6, 2) := by decide +kernel
theorem dL_holds_242 : decode cL_holds 242 = .ok (.aload_n 0, 1) := by decide +kernel
theorem dL_holds_243 : decode cL_holds 243 = .ok (.aload_n 0, 1) := by decide +kernel
theorem dL_holds_244 : decode cL_holds 244 = .ok (.iload 9, 2) := by decide +kernel
theorem dL_holds_246 : decode cL_holds 246 = .ok (.iconst 2, 1) := by decide +kernel
theorem dL_holds_247 : decode cL_holds 247 = .ok (.invokestatic 74, 3) := by decide +kernel
theorem dL_holds_250 : decode cL_holds 250 = .ok (.invokestatic 82, 3) := by decide +kernel
theorem dL_holds_253 : decode cL_holds 253 = .ok (.iload 9, 2) := by decide +kernel
theorem dL_holds_255 : decode cL_holds 255 = .ok (.if_icmp .ne 96, 3) := by decide +kernel
theorem dL_holds_258 : decode cL_holds 258 = .ok (.aload_n 0, 1) := by decide +kernel
theorem dL_holds_259 : decode cL_holds 259 = .ok (.iload 9, 2) := by decide +kernel
theorem dL_holds_261 : decode cL_holds 261 = .ok (.bipush 9, 2) := by decide +kernel
theorem dL_holds_263 : decode cL_holds 263 = .ok (.invokestatic 74, 3) := by decide +kernel
theorem dL_holds_266 : decode cL_holds 266 = .ok (.aload_n 0, 1) := by decide +kernel
theorem dL_holds_267 : decode cL_holds 267 = .ok (.iload 9, 2) := by decide +kernel
theorem dL_holds_269 : decode cL_holds 269 = .ok (.bipush 8, 2) := by decide +kernel
theorem dL_holds_271 : decode cL_holds 271 = .ok (.invokestatic 74, 3) := by decide +kernel
theorem dL_holds_274 : decode cL_holds 274 = .ok (.isub, 1) := by decide +kernel
theorem dL_holds_275 : decode cL_holds 275 = .ok (.iload_n 1, 1) := by decide +kernel
theorem dL_holds_276 : decode cL_holds 276 = .ok (.iconst 1, 1) := by decide +kernel
theorem dL_holds_277 : decode cL_holds 277 = .ok (.iadd, 1) := by decide +kernel
theorem dL_holds_278 : decode cL_holds 278 = .ok (.aload_n 0, 1) := by decide +kernel
theorem dL_holds_279 : decode cL_holds 279 = .ok (.iconst 1, 1) := by decide +kernel
theorem dL_holds_280 : decode cL_holds 280 = .ok (.invokestatic 84, 3) := by decide +kernel
theorem dL_holds_283 : decode cL_holds 283 = .ok (.imul, 1) := by decide +kernel
theorem dL_holds_284 : decode cL_holds 284 = .ok (.if_icmp .ne 67, 3) := by decide +kernel
theorem dL_holds_287 : decode cL_holds 287 = .ok (.iload 10, 2) := by decide +kernel
theorem dL_holds_289 : decode cL_holds 289 = .ok (.iconst 2, 1) := by decide +kernel
theorem dL_holds_290 : decode cL_holds 290 = .ok (.if_icmp .eq 13, 3) := by decide +kernel
theorem dL_holds_293 : decode cL_holds 293 = .ok (.aload_n 0, 1) := by decide +kernel
theorem dL_holds_294 : decode cL_holds 294 = .ok (.iload 9, 2) := by decide +kernel
theorem dL_holds_296 : decode cL_holds 296 = .ok (.iconst 5, 1) := by decide +kernel
theorem dL_holds_297 : decode cL_holds 297 = .ok (.invokestatic 74, 3) := by decide +kernel
theorem dL_holds_300 : decode cL_holds 300 = .ok (.ifCond .ne 51, 3) := by decide +kernel
theorem dL_holds_303 : decode cL_holds 303 = .ok (.iload 10, 2) := by decide +kernel
theorem dL_holds_305 : decode cL_holds 305 = .ok (.ifCond .eq 14, 3) := by decide +kernel
theorem dL_holds_308 : decode cL_holds 308 = .ok (.aload_n 0, 1) := by decide +kernel
theorem dL_holds_309 : decode cL_holds 309 = .ok (.iload 9, 2) := by decide +kernel
theorem dL_holds_311 : decode cL_holds 311 = .ok (.bipush 6, 2) := by decide +kernel
theorem dL_holds_313 : decode cL_holds 313 = .ok (.invokestatic 74, 3) := by decide +kernel
theorem dL_holds_316 : decode cL_holds 316 = .ok (.ifCond .ne 35, 3) := by decide +kernel
theorem dL_holds_319 : decode cL_holds 319 = .ok (.iload 10, 2) := by decide +kernel
theorem dL_holds_321 : decode cL_holds 321 = .ok (.iconst 3, 1) := by decide +kernel
theorem dL_holds_322 : decode cL_holds 322 = .ok (.if_icmp .ne 7, 3) := by decide +kernel
theorem dL_holds_325 : decode cL_holds 325 = .ok (.iconst 1, 1) := by decide +kernel
theorem dL_holds_326 : decode cL_holds 326 = .ok (.goto 4, 3) := by decide +kernel
theorem dL_holds_329 : decode cL_holds 329 = .ok (.iconst 0, 1) := by decide +kernel
theorem dL_holds_330 : decode cL_holds 330 = .ok (.aload_n 0, 1) := by decide +kernel
theorem dL_holds_331 : decode cL_holds 331 = .ok (.iload 9, 2) := by decide +kernel
theorem dL_holds_333 : decode cL_holds 333 = .ok (.invokestatic 86, 3) := by decide +kernel
theorem dL_holds_336 : decode cL_holds 336 = .ok (.ifCond .ne 7, 3) := by decide +kernel
theorem dL_holds_339 : decode cL_holds 339 = .ok (.iconst 1, 1) := by decide +kernel
theorem dL_holds_340 : decode cL_holds 340 = .ok (.goto 4, 3) := by decide +kernel
theorem dL_holds_343 : decode cL_holds 343 = .ok (.iconst 0, 1) := by decide +kernel
theorem dL_holds_344 : decode cL_holds 344 = .ok (.if_icmp .ne 7, 3) := by decide +kernel
theorem dL_holds_347 : decode cL_holds 347 = .ok (.iconst 1, 1) := by decide +kernel
theorem dL_holds_348 : decode cL_holds 348 = .ok (.goto 4, 3) := by decide +kernel
theorem dL_holds_351 : decode cL_holds 351 = .ok (.iconst 0, 1) := by decide +kernel
theorem dL_holds_352 : decode cL_holds 352 = .ok (.istore 8, 2) := by decide +kernel
theorem dL_holds_354 : decode cL_holds 354 = .ok (.iinc 9 1, 3) := by decide +kernel
theorem dL_holds_357 : decode cL_holds 357 = .ok (.goto (-249), 3) := by decide +kernel
theorem dL_holds_360 : decode cL_holds 360 = .ok (.iconst 1, 1) := by decide +kernel
theorem dL_holds_361 : decode cL_holds 361 = .ok (.istore 9, 2) := by decide +kernel
theorem dL_holds_363 : decode cL_holds 363 = .ok (.iload 9, 2) := by decide +kernel
theorem dL_holds_365 : decode cL_holds 365 = .ok (.iload_n 1, 1) := by decide +kernel
theorem dL_holds_366 : decode cL_holds 366 = .ok (.if_icmp .ge 89, 3) := by decide +kernel
theorem dL_holds_369 : decode cL_holds 369 = .ok (.iload 8, 2) := by decide +kernel
theorem dL_holds_371 : decode cL_holds 371 = .ok (.ifCond .eq 84, 3) := by decide +kernel
theorem dL_holds_374 : decode cL_holds 374 = .ok (.aload_n 0, 1) := by decide +kernel
theorem dL_holds_375 : decode cL_holds 375 = .ok (.iload 9, 2) := by decide +kernel
theorem dL_holds_377 : decode cL_holds 377 = .ok (.iconst 1, 1) := by decide +kernel
theorem dL_holds_378 : decode cL_holds 378 = .ok (.isub, 1) := by decide +kernel
theorem dL_holds_379 : decode cL_holds 379 = .ok (.invokestatic 82, 3) := by decide +kernel
theorem dL_holds_382 : decode cL_holds 382 = .ok (.istore 10, 2) := by decide +kernel
theorem dL_holds_384 : decode cL_holds 384 = .ok (.aload_n 0, 1) := by decide +kernel
theorem dL_holds_385 : decode cL_holds 385 = .ok (.iload 9, 2) := by decide +kernel
theorem dL_holds_387 : decode cL_holds 387 = .ok (.invokestatic 82, 3) := by decide +kernel
theorem dL_holds_390 : decode cL_holds 390 = .ok (.istore 11, 2) := by decide +kernel
theorem dL_holds_392 : decode cL_holds 392 = .ok (.aload_n 0, 1) := by decide +kernel
theorem dL_holds_393 : decode cL_holds 393 = .ok (.iload 10, 2) := by decide +kernel
theorem dL_holds_395 : decode cL_holds 395 = .ok (.bipush 8, 2) := by decide +kernel
theorem dL_holds_397 : decode cL_holds 397 = .ok (.invokestatic 74, 3) := by decide +kernel
theorem dL_holds_400 : decode cL_holds 400 = .ok (.aload_n 0, 1) := by decide +kernel
theorem dL_holds_401 : decode cL_holds 401 = .ok (.iload 11, 2) := by decide +kernel
theorem dL_holds_403 : decode cL_holds 403 = .ok (.bipush 8, 2) := by decide +kernel
theorem dL_holds_405 : decode cL_holds 405 = .ok (.invokestatic 74, 3) := by decide +kernel
theorem dL_holds_408 : decode cL_holds 408 = .ok (.isub, 1) := by decide +kernel
theorem dL_holds_409 : decode cL_holds 409 = .ok (.aload_n 0, 1) := by decide +kernel
theorem dL_holds_410 : decode cL_holds 410 = .ok (.iconst 1, 1) := by decide +kernel
theorem dL_holds_411 : decode cL_holds 411 = .ok (.invokestatic 84, 3) := by decide +kernel
theorem dL_holds_414 : decode cL_holds 414 = .ok (.if_icmp .ne 32, 3) := by decide +kernel
theorem dL_holds_417 : decode cL_holds 417 = .ok (.aload_n 0, 1) := by decide +kernel
theorem dL_holds_418 : decode cL_holds 418 = .ok (.iload 10, 2) := by decide +kernel
theorem dL_holds_420 : decode cL_holds 420 = .ok (.bipush 9, 2) := by decide +kernel
theorem dL_holds_422 : decode cL_holds 422 = .ok (.invokestatic 74, 3) := by decide +kernel
theorem dL_holds_425 : decode cL_holds 425 = .ok (.aload_n 0, 1) := by decide +kernel
theorem dL_holds_426 : decode cL_holds 426 = .ok (.iload 11, 2) := by decide +kernel
theorem dL_holds_428 : decode cL_holds 428 = .ok (.bipush 9, 2) := by decide +kernel
theorem dL_holds_430 : decode cL_holds 430 = .ok (.invokestatic 74, 3) := by decide +kernel
theorem dL_holds_433 : decode cL_holds 433 = .ok (.isub, 1) := by decide +kernel
theorem dL_holds_434 : decode cL_holds 434 = .ok (.aload_n 0, 1) := by decide +kernel
theorem dL_holds_435 : decode cL_holds 435 = .ok (.iconst 1, 1) := by decide +kernel
theorem dL_holds_436 : decode cL_holds 436 = .ok (.invokestatic 84, 3) := by decide +kernel
theorem dL_holds_439 : decode cL_holds 439 = .ok (.if_icmp .ne 7, 3) := by decide +kernel
theorem dL_holds_442 : decode cL_holds 442 = .ok (.iconst 1, 1) := by decide +kernel
theorem dL_holds_443 : decode cL_holds 443 = .ok (.goto 4, 3) := by decide +kernel
theorem dL_holds_446 : decode cL_holds 446 = .ok (.iconst 0, 1) := by decide +kernel
theorem dL_holds_447 : decode cL_holds 447 = .ok (.istore 8, 2) := by decide +kernel
theorem dL_holds_449 : decode cL_holds 449 = .ok (.iinc 9 1, 3) := by decide +kernel
theorem dL_holds_452 : decode cL_holds 452 = .ok (.goto (-89), 3) := by decide +kernel
theorem dL_holds_455 : decode cL_holds 455 = .ok (.iload 8, 2) := by decide +kernel
theorem dL_holds_457 : decode cL_holds 457 = .ok (.ifCond .eq 58, 3) := by decide +kernel
theorem dL_holds_460 : decode cL_holds 460 = .ok (.aload_n 0, 1) := by decide +kernel
end
section
theorem dL_holds_461 : decode cL_holds 461 = .ok (.iconst 4, 1) := by decide +kernel
theorem dL_holds_462 : decode cL_holds 462 = .ok (.invokestatic 64, 3) := by decide +kernel
theorem dL_holds_465 : decode cL_holds 465 = .ok (.iload_n 2, 1) := by decide +kernel
theorem dL_holds_466 : decode cL_holds 466 = .ok (.if_icmp .ne 49, 3) := by decide +kernel
theorem dL_holds_469 : decode cL_holds 469 = .ok (.aload_n 0, 1) := by decide +kernel
theorem dL_holds_470 : decode cL_holds 470 = .ok (.iconst 5, 1) := by decide +kernel
theorem dL_holds_471 : decode cL_holds 471 = .ok (.invokestatic 64, 3) := by decide +kernel
theorem dL_holds_474 : decode cL_holds 474 = .ok (.iload_n 3, 1) := by decide +kernel
theorem dL_holds_475 : decode cL_holds 475 = .ok (.if_icmp .ne 40, 3) := by decide +kernel
theorem dL_holds_478 : decode cL_holds 478 = .ok (.aload_n 0, 1) := by decide +kernel
theorem dL_holds_479 : decode cL_holds 479 = .ok (.bipush 6, 2) := by decide +kernel
theorem dL_holds_481 : decode cL_holds 481 = .ok (.invokestatic 64, 3) := by decide +kernel
theorem dL_holds_484 : decode cL_holds 484 = .ok (.iload 4, 2) := by decide +kernel
theorem dL_holds_486 : decode cL_holds 486 = .ok (.if_icmp .ne 29, 3) := by decide +kernel
theorem dL_holds_489 : decode cL_holds 489 = .ok (.aload_n 0, 1) := by decide +kernel
theorem dL_holds_490 : decode cL_holds 490 = .ok (.bipush 10, 2) := by decide +kernel
theorem dL_holds_492 : decode cL_holds 492 = .ok (.invokestatic 64, 3) := by decide +kernel
theorem dL_holds_495 : decode cL_holds 495 = .ok (.iload 5, 2) := by decide +kernel
theorem dL_holds_497 : decode cL_holds 497 = .ok (.if_icmp .ne 18, 3) := by decide +kernel
theorem dL_holds_500 : decode cL_holds 500 = .ok (.aload_n 0, 1) := by decide +kernel
theorem dL_holds_501 : decode cL_holds 501 = .ok (.iconst 5, 1) := by decide +kernel
theorem dL_holds_502 : decode cL_holds 502 = .ok (.invokestatic 69, 3) := by decide +kernel
theorem dL_holds_505 : decode cL_holds 505 = .ok (.lload 6, 2) := by decide +kernel
theorem dL_holds_507 : decode cL_holds 507 = .ok (.lcmp, 1) := by decide +kernel
theorem dL_holds_508 : decode cL_holds 508 = .ok (.ifCond .ne 7, 3) := by decide +kernel
theorem dL_holds_511 : decode cL_holds 511 = .ok (.iconst 1, 1) := by decide +kernel
theorem dL_holds_512 : decode cL_holds 512 = .ok (.goto 4, 3) := by decide +kernel
theorem dL_holds_515 : decode cL_holds 515 = .ok (.iconst 0, 1) := by decide +kernel
theorem dL_holds_516 : decode cL_holds 516 = .ok (.ireturn, 1) := by decide +kernel
theorem dL_law_0 : decode cL_law 0 = .ok (.new 10, 3) := by decide +kernel
theorem dL_law_3 : decode cL_law 3 = .ok (.dup, 1) := by decide +kernel
theorem dL_law_4 : decode cL_law 4 = .ok (.invokespecial 88, 3) := by decide +kernel
theorem dL_law_7 : decode cL_law 7 = .ok (.astore_n 1, 1) := by decide +kernel
theorem dL_law_8 : decode cL_law 8 = .ok (.aload_n 1, 1) := by decide +kernel
theorem dL_law_9 : decode cL_law 9 = .ok (.invokestatic 89, 3) := by decide +kernel
theorem dL_law_12 : decode cL_law 12 = .ok (.istore_n 2, 1) := by decide +kernel
theorem dL_law_13 : decode cL_law 13 = .ok (.iconst 0, 1) := by decide +kernel
theorem dL_law_14 : decode cL_law 14 = .ok (.istore_n 3, 1) := by decide +kernel
theorem dL_law_15 : decode cL_law 15 = .ok (.iload_n 3, 1) := by decide +kernel
theorem dL_law_16 : decode cL_law 16 = .ok (.iconst 4, 1) := by decide +kernel
theorem dL_law_17 : decode cL_law 17 = .ok (.if_icmp .ge 46, 3) := by decide +kernel
theorem dL_law_20 : decode cL_law 20 = .ok (.iload_n 2, 1) := by decide +kernel
theorem dL_law_21 : decode cL_law 21 = .ok (.ifCond .eq 42, 3) := by decide +kernel
theorem dL_law_24 : decode cL_law 24 = .ok (.aload_n 1, 1) := by decide +kernel
theorem dL_law_25 : decode cL_law 25 = .ok (.bipush 10, 2) := by decide +kernel
theorem dL_law_27 : decode cL_law 27 = .ok (.aload_n 0, 1) := by decide +kernel
theorem dL_law_28 : decode cL_law 28 = .ok (.iload_n 3, 1) := by decide +kernel
theorem dL_law_29 : decode cL_law 29 = .ok (.invokestatic 93, 3) := by decide +kernel
theorem dL_law_32 : decode cL_law 32 = .ok (.sipush 300, 3) := by decide +kernel
theorem dL_law_35 : decode cL_law 35 = .ok (.irem, 1) := by decide +kernel
theorem dL_law_36 : decode cL_law 36 = .ok (.iadd, 1) := by decide +kernel
theorem dL_law_37 : decode cL_law 37 = .ok (.invokestatic 97, 3) := by decide +kernel
theorem dL_law_40 : decode cL_law 40 = .ok (.iload_n 3, 1) := by decide +kernel
theorem dL_law_41 : decode cL_law 41 = .ok (.if_icmp .ne 14, 3) := by decide +kernel
theorem dL_law_44 : decode cL_law 44 = .ok (.aload_n 1, 1) := by decide +kernel
theorem dL_law_45 : decode cL_law 45 = .ok (.invokestatic 89, 3) := by decide +kernel
theorem dL_law_48 : decode cL_law 48 = .ok (.ifCond .eq 7, 3) := by decide +kernel
theorem dL_law_51 : decode cL_law 51 = .ok (.iconst 1, 1) := by decide +kernel
theorem dL_law_52 : decode cL_law 52 = .ok (.goto 4, 3) := by decide +kernel
theorem dL_law_55 : decode cL_law 55 = .ok (.iconst 0, 1) := by decide +kernel
theorem dL_law_56 : decode cL_law 56 = .ok (.istore_n 2, 1) := by decide +kernel
theorem dL_law_57 : decode cL_law 57 = .ok (.iinc 3 1, 3) := by decide +kernel
theorem dL_law_60 : decode cL_law 60 = .ok (.goto (-45), 3) := by decide +kernel
theorem dL_law_63 : decode cL_law 63 = .ok (.iload_n 2, 1) := by decide +kernel
theorem dL_law_64 : decode cL_law 64 = .ok (.ifCond .eq 30, 3) := by decide +kernel
theorem dL_law_67 : decode cL_law 67 = .ok (.aload_n 1, 1) := by decide +kernel
theorem dL_law_68 : decode cL_law 68 = .ok (.bipush 7, 2) := by decide +kernel
theorem dL_law_70 : decode cL_law 70 = .ok (.bipush 10, 2) := by decide +kernel
theorem dL_law_72 : decode cL_law 72 = .ok (.aload_n 0, 1) := by decide +kernel
theorem dL_law_73 : decode cL_law 73 = .ok (.iconst 4, 1) := by decide +kernel
theorem dL_law_74 : decode cL_law 74 = .ok (.invokestatic 93, 3) := by decide +kernel
theorem dL_law_77 : decode cL_law 77 = .ok (.bipush 60, 2) := by decide +kernel
theorem dL_law_79 : decode cL_law 79 = .ok (.irem, 1) := by decide +kernel
theorem dL_law_80 : decode cL_law 80 = .ok (.iadd, 1) := by decide +kernel
theorem dL_law_81 : decode cL_law 81 = .ok (.invokestatic 100, 3) := by decide +kernel
theorem dL_law_84 : decode cL_law 84 = .ok (.sipush 480, 3) := by decide +kernel
theorem dL_law_87 : decode cL_law 87 = .ok (.if_icmp .ne 7, 3) := by decide +kernel
theorem dL_law_90 : decode cL_law 90 = .ok (.iconst 1, 1) := by decide +kernel
theorem dL_law_91 : decode cL_law 91 = .ok (.goto 4, 3) := by decide +kernel
theorem dL_law_94 : decode cL_law 94 = .ok (.iconst 0, 1) := by decide +kernel
theorem dL_law_95 : decode cL_law 95 = .ok (.istore_n 2, 1) := by decide +kernel
theorem dL_law_96 : decode cL_law 96 = .ok (.iconst 0, 1) := by decide +kernel
theorem dL_law_97 : decode cL_law 97 = .ok (.istore_n 3, 1) := by decide +kernel
theorem dL_law_98 : decode cL_law 98 = .ok (.iload_n 3, 1) := by decide +kernel
theorem dL_law_99 : decode cL_law 99 = .ok (.bipush 30, 2) := by decide +kernel
theorem dL_law_101 : decode cL_law 101 = .ok (.if_icmp .ge 514, 3) := by decide +kernel
theorem dL_law_104 : decode cL_law 104 = .ok (.iload_n 2, 1) := by decide +kernel
theorem dL_law_105 : decode cL_law 105 = .ok (.ifCond .eq 510, 3) := by decide +kernel
theorem dL_law_108 : decode cL_law 108 = .ok (.aload_n 0, 1) := by decide +kernel
theorem dL_law_109 : decode cL_law 109 = .ok (.iconst 5, 1) := by decide +kernel
theorem dL_law_110 : decode cL_law 110 = .ok (.iload_n 3, 1) := by decide +kernel
theorem dL_law_111 : decode cL_law 111 = .ok (.iadd, 1) := by decide +kernel
theorem dL_law_112 : decode cL_law 112 = .ok (.invokestatic 93, 3) := by decide +kernel
theorem dL_law_115 : decode cL_law 115 = .ok (.istore 4, 2) := by decide +kernel
theorem dL_law_117 : decode cL_law 117 = .ok (.iload 4, 2) := by decide +kernel
theorem dL_law_119 : decode cL_law 119 = .ok (.bipush 8, 2) := by decide +kernel
theorem dL_law_121 : decode cL_law 121 = .ok (.idiv, 1) := by decide +kernel
theorem dL_law_122 : decode cL_law 122 = .ok (.istore 5, 2) := by decide +kernel
theorem dL_law_124 : decode cL_law 124 = .ok (.aload_n 1, 1) := by decide +kernel
theorem dL_law_125 : decode cL_law 125 = .ok (.bipush 7, 2) := by decide +kernel
theorem dL_law_127 : decode cL_law 127 = .ok (.invokestatic 64, 3) := by decide +kernel
theorem dL_law_130 : decode cL_law 130 = .ok (.istore 6, 2) := by decide +kernel
theorem dL_law_132 : decode cL_law 132 = .ok (.iload 4, 2) := by decide +kernel
theorem dL_law_134 : decode cL_law 134 = .ok (.bipush 8, 2) := by decide +kernel
theorem dL_law_136 : decode cL_law 136 = .ok (.irem, 1) := by decide +kernel
theorem dL_law_137 : decode cL_law 137 = .ok (.tableswitch 404 0 4 #[35, 74, 102, 204, 274], 35) := by decide +kernel
theorem dL_law_172 : decode cL_law 172 = .ok (.aload_n 1, 1) := by decide +kernel
theorem dL_law_173 : decode cL_law 173 = .ok (.bipush 6, 2) := by decide +kernel
theorem dL_law_175 : decode cL_law 175 = .ok (.iload 5, 2) := by decide +kernel
theorem dL_law_177 : decode cL_law 177 = .ok (.sipush 1200, 3) := by decide +kernel
theorem dL_law_180 : decode cL_law 180 = .ok (.irem, 1) := by decide +kernel
theorem dL_law_181 : decode cL_law 181 = .ok (.invokestatic 100, 3) := by decide +kernel
theorem dL_law_184 : decode cL_law 184 = .ok (.ifCond .lt 22, 3) := by decide +kernel
theorem dL_law_187 : decode cL_law 187 = .ok (.aload_n 1, 1) := by decide +kernel
theorem dL_law_188 : decode cL_law 188 = .ok (.bipush 6, 2) := by decide +kernel
theorem dL_law_190 : decode cL_law 190 = .ok (.invokestatic 84, 3) := by decide +kernel
theorem dL_law_193 : decode cL_law 193 = .ok (.iload 5, 2) := by decide +kernel
theorem dL_law_195 : decode cL_law 195 = .ok (.sipush 1200, 3) := by decide +kernel
theorem dL_law_198 : decode cL_law 198 = .ok (.irem, 1) := by decide +kernel
theorem dL_law_199 : decode cL_law 199 = .ok (.if_icmp .ne 7, 3) := by decide +kernel
theorem dL_law_202 : decode cL_law 202 = .ok (.iconst 1, 1) := by decide +kernel
theorem dL_law_203 : decode cL_law 203 = .ok (.goto 4, 3) := by decide +kernel
theorem dL_law_206 : decode cL_law 206 = .ok (.iconst 0, 1) := by decide +kernel
theorem dL_law_207 : decode cL_law 207 = .ok (.istore_n 2, 1) := by decide +kernel
theorem dL_law_208 : decode cL_law 208 = .ok (.goto 384, 3) := by decide +kernel
theorem dL_law_211 : decode cL_law 211 = .ok (.aload_n 1, 1) := by decide +kernel
theorem dL_law_212 : decode cL_law 212 = .ok (.iconst 1, 1) := by decide +kernel
theorem dL_law_213 : decode cL_law 213 = .ok (.bipush 10, 2) := by decide +kernel
theorem dL_law_215 : decode cL_law 215 = .ok (.iload 5, 2) := by decide +kernel
theorem dL_law_217 : decode cL_law 217 = .ok (.sipush 491, 3) := by decide +kernel
theorem dL_law_220 : decode cL_law 220 = .ok (.irem, 1) := by decide +kernel
theorem dL_law_221 : decode cL_law 221 = .ok (.iadd, 1) := by decide +kernel
theorem dL_law_222 : decode cL_law 222 = .ok (.invokestatic 100, 3) := by decide +kernel
theorem dL_law_225 : decode cL_law 225 = .ok (.bipush 10, 2) := by decide +kernel
theorem dL_law_227 : decode cL_law 227 = .ok (.if_icmp .lt 7, 3) := by decide +kernel
theorem dL_law_230 : decode cL_law 230 = .ok (.iconst 1, 1) := by decide +kernel
theorem dL_law_231 : decode cL_law 231 = .ok (.goto 4, 3) := by decide +kernel
theorem dL_law_234 : decode cL_law 234 = .ok (.iconst 0, 1) := by decide +kernel
theorem dL_law_235 : decode cL_law 235 = .ok (.istore_n 2, 1) := by decide +kernel
theorem dL_law_236 : decode cL_law 236 = .ok (.goto 356, 3) := by decide +kernel
theorem dL_law_239 : decode cL_law 239 = .ok (.iload 5, 2) := by decide +kernel
theorem dL_law_241 : decode cL_law 241 = .ok (.iconst 4, 1) := by decide +kernel
theorem dL_law_242 : decode cL_law 242 = .ok (.irem, 1) := by decide +kernel
theorem dL_law_243 : decode cL_law 243 = .ok (.istore 7, 2) := by decide +kernel
theorem dL_law_245 : decode cL_law 245 = .ok (.aload_n 1, 1) := by decide +kernel
theorem dL_law_246 : decode cL_law 246 = .ok (.iload 7, 2) := by decide +kernel
theorem dL_law_248 : decode cL_law 248 = .ok (.iconst 1, 1) := by decide +kernel
theorem dL_law_249 : decode cL_law 249 = .ok (.invokestatic 74, 3) := by decide +kernel
theorem dL_law_252 : decode cL_law 252 = .ok (.istore 8, 2) := by decide +kernel
theorem dL_law_254 : decode cL_law 254 = .ok (.iload 8, 2) := by decide +kernel
theorem dL_law_256 : decode cL_law 256 = .ok (.iconst 3, 1) := by decide +kernel
theorem dL_law_257 : decode cL_law 257 = .ok (.if_icmp .ne 53, 3) := by decide +kernel
theorem dL_law_260 : decode cL_law 260 = .ok (.aload_n 1, 1) := by decide +kernel
theorem dL_law_261 : decode cL_law 261 = .ok (.iload 7, 2) := by decide +kernel
theorem dL_law_263 : decode cL_law 263 = .ok (.invokestatic 103, 3) := by decide +kernel
theorem dL_law_266 : decode cL_law 266 = .ok (.aload_n 1, 1) := by decide +kernel
theorem dL_law_267 : decode cL_law 267 = .ok (.iload 7, 2) := by decide +kernel
theorem dL_law_269 : decode cL_law 269 = .ok (.iconst 2, 1) := by decide +kernel
theorem dL_law_270 : decode cL_law 270 = .ok (.invokestatic 74, 3) := by decide +kernel
theorem dL_law_273 : decode cL_law 273 = .ok (.if_icmp .ne 33, 3) := by decide +kernel
theorem dL_law_276 : decode cL_law 276 = .ok (.aload_n 1, 1) := by decide +kernel
theorem dL_law_277 : decode cL_law 277 = .ok (.iload 7, 2) := by decide +kernel
theorem dL_law_279 : decode cL_law 279 = .ok (.iconst 1, 1) := by decide +kernel
theorem dL_law_280 : decode cL_law 280 = .ok (.invokestatic 74, 3) := by decide +kernel
theorem dL_law_283 : decode cL_law 283 = .ok (.ifCond .ne 23, 3) := by decide +kernel
theorem dL_law_286 : decode cL_law 286 = .ok (.aload_n 1, 1) := by decide +kernel
theorem dL_law_287 : decode cL_law 287 = .ok (.iload 7, 2) := by decide +kernel
theorem dL_law_289 : decode cL_law 289 = .ok (.bipush 6, 2) := by decide +kernel
theorem dL_law_291 : decode cL_law 291 = .ok (.invokestatic 74, 3) := by decide +kernel
theorem dL_law_294 : decode cL_law 294 = .ok (.aload_n 1, 1) := by decide +kernel
theorem dL_law_295 : decode cL_law 295 = .ok (.iconst 4, 1) := by decide +kernel
theorem dL_law_296 : decode cL_law 296 = .ok (.invokestatic 84, 3) := by decide +kernel
theorem dL_law_299 : decode cL_law 299 = .ok (.if_icmp .ne 7, 3) := by decide +kernel
theorem dL_law_302 : decode cL_law 302 = .ok (.iconst 1, 1) := by decide +kernel
theorem dL_law_303 : decode cL_law 303 = .ok (.goto 34, 3) := by decide +kernel
theorem dL_law_306 : decode cL_law 306 = .ok (.iconst 0, 1) := by decide +kernel
theorem dL_law_307 : decode cL_law 307 = .ok (.goto 30, 3) := by decide +kernel
theorem dL_law_310 : decode cL_law 310 = .ok (.aload_n 1, 1) := by decide +kernel
theorem dL_law_311 : decode cL_law 311 = .ok (.iload 7, 2) := by decide +kernel
theorem dL_law_313 : decode cL_law 313 = .ok (.invokestatic 106, 3) := by decide +kernel
theorem dL_law_316 : decode cL_law 316 = .ok (.iload 8, 2) := by decide +kernel
theorem dL_law_318 : decode cL_law 318 = .ok (.if_icmp .ne 18, 3) := by decide +kernel
theorem dL_law_321 : decode cL_law 321 = .ok (.aload_n 1, 1) := by decide +kernel
theorem dL_law_322 : decode cL_law 322 = .ok (.iload 7, 2) := by decide +kernel
theorem dL_law_324 : decode cL_law 324 = .ok (.iconst 1, 1) := by decide +kernel
theorem dL_law_325 : decode cL_law 325 = .ok (.invokestatic 74, 3) := by decide +kernel
theorem dL_law_328 : decode cL_law 328 = .ok (.iconst 3, 1) := by decide +kernel
theorem dL_law_329 : decode cL_law 329 = .ok (.if_icmp .ne 7, 3) := by decide +kernel
theorem dL_law_332 : decode cL_law 332 = .ok (.iconst 1, 1) := by decide +kernel
theorem dL_law_333 : decode cL_law 333 = .ok (.goto 4, 3) := by decide +kernel
theorem dL_law_336 : decode cL_law 336 = .ok (.iconst 0, 1) := by decide +kernel
theorem dL_law_337 : decode cL_law 337 = .ok (.istore_n 2, 1) := by decide +kernel
theorem dL_law_338 : decode cL_law 338 = .ok (.goto 254, 3) := by decide +kernel
theorem dL_law_341 : decode cL_law 341 = .ok (.iconst 1, 1) := by decide +kernel
theorem dL_law_342 : decode cL_law 342 = .ok (.iload 5, 2) := by decide +kernel
theorem dL_law_344 : decode cL_law 344 = .ok (.bipush 20, 2) := by decide +kernel
theorem dL_law_346 : decode cL_law 346 = .ok (.irem, 1) := by decide +kernel
theorem dL_law_347 : decode cL_law 347 = .ok (.iadd, 1) := by decide +kernel
theorem dL_law_348 : decode cL_law 348 = .ok (.istore 9, 2) := by decide +kernel
theorem dL_law_350 : decode cL_law 350 = .ok (.aload_n 1, 1) := by decide +kernel
theorem dL_law_351 : decode cL_law 351 = .ok (.iconst 1, 1) := by decide +kernel
theorem dL_law_352 : decode cL_law 352 = .ok (.invokestatic 69, 3) := by decide +kernel
theorem dL_law_355 : decode cL_law 355 = .ok (.l2i, 1) := by decide +kernel
theorem dL_law_356 : decode cL_law 356 = .ok (.istore 10, 2) := by decide +kernel
theorem dL_law_358 : decode cL_law 358 = .ok (.aload_n 1, 1) := by decide +kernel
theorem dL_law_359 : decode cL_law 359 = .ok (.iload 9, 2) := by decide +kernel
theorem dL_law_361 : decode cL_law 361 = .ok (.invokestatic 109, 3) := by decide +kernel
theorem dL_law_364 : decode cL_law 364 = .ok (.istore 11, 2) := by decide +kernel
theorem dL_law_366 : decode cL_law 366 = .ok (.iload 11, 2) := by decide +kernel
theorem dL_law_368 : decode cL_law 368 = .ok (.aload_n 1, 1) := by decide +kernel
theorem dL_law_369 : decode cL_law 369 = .ok (.iconst 1, 1) := by decide +kernel
theorem dL_law_370 : decode cL_law 370 = .ok (.invokestatic 69, 3) := by decide +kernel
theorem dL_law_373 : decode cL_law 373 = .ok (.l2i, 1) := by decide +kernel
theorem dL_law_374 : decode cL_law 374 = .ok (.iload 10, 2) := by decide +kernel
theorem dL_law_376 : decode cL_law 376 = .ok (.isub, 1) := by decide +kernel
theorem dL_law_377 : decode cL_law 377 = .ok (.if_icmp .ne 29, 3) := by decide +kernel
theorem dL_law_380 : decode cL_law 380 = .ok (.aload_n 1, 1) := by decide +kernel
theorem dL_law_381 : decode cL_law 381 = .ok (.bipush 7, 2) := by decide +kernel
theorem dL_law_383 : decode cL_law 383 = .ok (.invokestatic 64, 3) := by decide +kernel
theorem dL_law_386 : decode cL_law 386 = .ok (.iload 6, 2) := by decide +kernel
theorem dL_law_388 : decode cL_law 388 = .ok (.iload 9, 2) := by decide +kernel
theorem dL_law_390 : decode cL_law 390 = .ok (.iadd, 1) := by decide +kernel
theorem dL_law_391 : decode cL_law 391 = .ok (.if_icmp .ne 15, 3) := by decide +kernel
theorem dL_law_394 : decode cL_law 394 = .ok (.aload_n 1, 1) := by decide +kernel
theorem dL_law_395 : decode cL_law 395 = .ok (.iconst 4, 1) := by decide +kernel
theorem dL_law_396 : decode cL_law 396 = .ok (.invokestatic 64, 3) := by decide +kernel
theorem dL_law_399 : decode cL_law 399 = .ok (.ifCond .ne 7, 3) := by decide +kernel
theorem dL_law_402 : decode cL_law 402 = .ok (.iconst 1, 1) := by decide +kernel
theorem dL_law_403 : decode cL_law 403 = .ok (.goto 4, 3) := by decide +kernel
theorem dL_law_406 : decode cL_law 406 = .ok (.iconst 0, 1) := by decide +kernel
theorem dL_law_407 : decode cL_law 407 = .ok (.istore_n 2, 1) := by decide +kernel
theorem dL_law_408 : decode cL_law 408 = .ok (.goto 184, 3) := by decide +kernel
theorem dL_law_411 : decode cL_law 411 = .ok (.aload_n 1, 1) := by decide +kernel
theorem dL_law_412 : decode cL_law 412 = .ok (.bipush 9, 2) := by decide +kernel
theorem dL_law_414 : decode cL_law 414 = .ok (.invokestatic 64, 3) := by decide +kernel
theorem dL_law_417 : decode cL_law 417 = .ok (.istore 12, 2) := by decide +kernel
theorem dL_law_419 : decode cL_law 419 = .ok (.aload_n 1, 1) := by decide +kernel
theorem dL_law_420 : decode cL_law 420 = .ok (.invokevirtual 112, 3) := by decide +kernel
theorem dL_law_423 : decode cL_law 423 = .ok (.ifCond .lt 29, 3) := by decide +kernel
theorem dL_law_426 : decode cL_law 426 = .ok (.aload_n 1, 1) := by decide +kernel
theorem dL_law_427 : decode cL_law 427 = .ok (.bipush 9, 2) := by decide +kernel
theorem dL_law_429 : decode cL_law 429 = .ok (.invokestatic 64, 3) := by decide +kernel
theorem dL_law_432 : decode cL_law 432 = .ok (.iload 12, 2) := by decide +kernel
theorem dL_law_434 : decode cL_law 434 = .ok (.iconst 1, 1) := by decide +kernel
theorem dL_law_435 : decode cL_law 435 = .ok (.iadd, 1) := by decide +kernel
theorem dL_law_436 : decode cL_law 436 = .ok (.if_icmp .ne 16, 3) := by decide +kernel
theorem dL_law_439 : decode cL_law 439 = .ok (.aload_n 1, 1) := by decide +kernel
theorem dL_law_440 : decode cL_law 440 = .ok (.bipush 8, 2) := by decide +kernel
theorem dL_law_442 : decode cL_law 442 = .ok (.invokestatic 64, 3) := by decide +kernel
theorem dL_law_445 : decode cL_law 445 = .ok (.ifCond .ne 7, 3) := by decide +kernel
theorem dL_law_448 : decode cL_law 448 = .ok (.iconst 1, 1) := by decide +kernel
theorem dL_law_449 : decode cL_law 449 = .ok (.goto 4, 3) := by decide +kernel
theorem dL_law_452 : decode cL_law 452 = .ok (.iconst 0, 1) := by decide +kernel
theorem dL_law_453 : decode cL_law 453 = .ok (.istore_n 2, 1) := by decide +kernel
theorem dL_law_454 : decode cL_law 454 = .ok (.iconst 1, 1) := by decide +kernel
theorem dL_law_455 : decode cL_law 455 = .ok (.istore 13, 2) := by decide +kernel
theorem dL_law_457 : decode cL_law 457 = .ok (.iload 13, 2) := by decide +kernel
theorem dL_law_459 : decode cL_law 459 = .ok (.iconst 4, 1) := by decide +kernel
theorem dL_law_460 : decode cL_law 460 = .ok (.if_icmp .ge 78, 3) := by decide +kernel
theorem dL_law_463 : decode cL_law 463 = .ok (.iload_n 2, 1) := by decide +kernel
theorem dL_law_464 : decode cL_law 464 = .ok (.ifCond .eq 74, 3) := by decide +kernel
theorem dL_law_467 : decode cL_law 467 = .ok (.aload_n 1, 1) := by decide +kernel
theorem dL_law_468 : decode cL_law 468 = .ok (.iload 13, 2) := by decide +kernel
theorem dL_law_470 : decode cL_law 470 = .ok (.iconst 1, 1) := by decide +kernel
theorem dL_law_471 : decode cL_law 471 = .ok (.isub, 1) := by decide +kernel
theorem dL_law_472 : decode cL_law 472 = .ok (.invokestatic 82, 3) := by decide +kernel
theorem dL_law_475 : decode cL_law 475 = .ok (.istore 14, 2) := by decide +kernel
theorem dL_law_477 : decode cL_law 477 = .ok (.aload_n 1, 1) := by decide +kernel
theorem dL_law_478 : decode cL_law 478 = .ok (.iload 13, 2) := by decide +kernel
theorem dL_law_480 : decode cL_law 480 = .ok (.invokestatic 82, 3) := by decide +kernel
theorem dL_law_483 : decode cL_law 483 = .ok (.istore 15, 2) := by decide +kernel
theorem dL_law_485 : decode cL_law 485 = .ok (.aload_n 1, 1) := by decide +kernel
theorem dL_law_486 : decode cL_law 486 = .ok (.iload 14, 2) := by decide +kernel
theorem dL_law_488 : decode cL_law 488 = .ok (.iconst 3, 1) := by decide +kernel
theorem dL_law_489 : decode cL_law 489 = .ok (.invokestatic 74, 3) := by decide +kernel
theorem dL_law_492 : decode cL_law 492 = .ok (.aload_n 1, 1) := by decide +kernel
theorem dL_law_493 : decode cL_law 493 = .ok (.iload 15, 2) := by decide +kernel
theorem dL_law_495 : decode cL_law 495 = .ok (.iconst 3, 1) := by decide +kernel
theorem dL_law_496 : decode cL_law 496 = .ok (.invokestatic 74, 3) := by decide +kernel
theorem dL_law_499 : decode cL_law 499 = .ok (.if_icmp .lt 27, 3) := by decide +kernel
theorem dL_law_502 : decode cL_law 502 = .ok (.aload_n 1, 1) := by decide +kernel
theorem dL_law_503 : decode cL_law 503 = .ok (.iload 14, 2) := by decide +kernel
theorem dL_law_505 : decode cL_law 505 = .ok (.iconst 3, 1) := by decide +kernel
theorem dL_law_506 : decode cL_law 506 = .ok (.invokestatic 74, 3) := by decide +kernel
theorem dL_law_509 : decode cL_law 509 = .ok (.aload_n 1, 1) := by decide +kernel
theorem dL_law_510 : decode cL_law 510 = .ok (.iload 15, 2) := by decide +kernel
theorem dL_law_512 : decode cL_law 512 = .ok (.iconst 3, 1) := by decide +kernel
theorem dL_law_513 : decode cL_law 513 = .ok (.invokestatic 74, 3) := by decide +kernel
theorem dL_law_516 : decode cL_law 516 = .ok (.if_icmp .ne 14, 3) := by decide +kernel
theorem dL_law_519 : decode cL_law 519 = .ok (.iload 14, 2) := by decide +kernel
theorem dL_law_521 : decode cL_law 521 = .ok (.iload 15, 2) := by decide +kernel
theorem dL_law_523 : decode cL_law 523 = .ok (.if_icmp .ge 7, 3) := by decide +kernel
theorem dL_law_526 : decode cL_law 526 = .ok (.iconst 1, 1) := by decide +kernel
theorem dL_law_527 : decode cL_law 527 = .ok (.goto 4, 3) := by decide +kernel
theorem dL_law_530 : decode cL_law 530 = .ok (.iconst 0, 1) := by decide +kernel
theorem dL_law_531 : decode cL_law 531 = .ok (.istore_n 2, 1) := by decide +kernel
theorem dL_law_532 : decode cL_law 532 = .ok (.iinc 13 1, 3) := by decide +kernel
theorem dL_law_535 : decode cL_law 535 = .ok (.goto (-78), 3) := by decide +kernel
theorem dL_law_538 : decode cL_law 538 = .ok (.goto 54, 3) := by decide +kernel
theorem dL_law_541 : decode cL_law 541 = .ok (.iconst 1, 1) := by decide +kernel
theorem dL_law_542 : decode cL_law 542 = .ok (.iload 5, 2) := by decide +kernel
theorem dL_law_544 : decode cL_law 544 = .ok (.bipush 50, 2) := by decide +kernel
theorem dL_law_546 : decode cL_law 546 = .ok (.irem, 1) := by decide +kernel
theorem dL_law_547 : decode cL_law 547 = .ok (.iadd, 1) := by decide +kernel
theorem dL_law_548 : decode cL_law 548 = .ok (.istore 13, 2) := by decide +kernel
theorem dL_law_550 : decode cL_law 550 = .ok (.aload_n 1, 1) := by decide +kernel
theorem dL_law_551 : decode cL_law 551 = .ok (.iload 13, 2) := by decide +kernel
theorem dL_law_553 : decode cL_law 553 = .ok (.invokestatic 115, 3) := by decide +kernel
theorem dL_law_556 : decode cL_law 556 = .ok (.ifCond .lt 34, 3) := by decide +kernel
theorem dL_law_559 : decode cL_law 559 = .ok (.aload_n 1, 1) := by decide +kernel
theorem dL_law_560 : decode cL_law 560 = .ok (.bipush 7, 2) := by decide +kernel
theorem dL_law_562 : decode cL_law 562 = .ok (.invokestatic 64, 3) := by decide +kernel
theorem dL_law_565 : decode cL_law 565 = .ok (.iload 6, 2) := by decide +kernel
theorem dL_law_567 : decode cL_law 567 = .ok (.iload 13, 2) := by decide +kernel
theorem dL_law_569 : decode cL_law 569 = .ok (.iadd, 1) := by decide +kernel
theorem dL_law_570 : decode cL_law 570 = .ok (.if_icmp .ne 20, 3) := by decide +kernel
theorem dL_law_573 : decode cL_law 573 = .ok (.aload_n 1, 1) := by decide +kernel
theorem dL_law_574 : decode cL_law 574 = .ok (.iconst 2, 1) := by decide +kernel
theorem dL_law_575 : decode cL_law 575 = .ok (.invokestatic 64, 3) := by decide +kernel
theorem dL_law_578 : decode cL_law 578 = .ok (.aload_n 1, 1) := by decide +kernel
theorem dL_law_579 : decode cL_law 579 = .ok (.iconst 2, 1) := by decide +kernel
theorem dL_law_580 : decode cL_law 580 = .ok (.invokestatic 84, 3) := by decide +kernel
theorem dL_law_583 : decode cL_law 583 = .ok (.if_icmp .gt 7, 3) := by decide +kernel
theorem dL_law_586 : decode cL_law 586 = .ok (.iconst 1, 1) := by decide +kernel
theorem dL_law_587 : decode cL_law 587 = .ok (.goto 4, 3) := by decide +kernel
theorem dL_law_590 : decode cL_law 590 = .ok (.iconst 0, 1) := by decide +kernel
theorem dL_law_591 : decode cL_law 591 = .ok (.istore_n 2, 1) := by decide +kernel
theorem dL_law_592 : decode cL_law 592 = .ok (.iload_n 2, 1) := by decide +kernel
theorem dL_law_593 : decode cL_law 593 = .ok (.ifCond .eq 14, 3) := by decide +kernel
theorem dL_law_596 : decode cL_law 596 = .ok (.aload_n 1, 1) := by decide +kernel
theorem dL_law_597 : decode cL_law 597 = .ok (.invokestatic 89, 3) := by decide +kernel
theorem dL_law_600 : decode cL_law 600 = .ok (.ifCond .eq 7, 3) := by decide +kernel
theorem dL_law_603 : decode cL_law 603 = .ok (.iconst 1, 1) := by decide +kernel
theorem dL_law_604 : decode cL_law 604 = .ok (.goto 4, 3) := by decide +kernel
theorem dL_law_607 : decode cL_law 607 = .ok (.iconst 0, 1) := by decide +kernel
theorem dL_law_608 : decode cL_law 608 = .ok (.istore_n 2, 1) := by decide +kernel
theorem dL_law_609 : decode cL_law 609 = .ok (.iinc 3 1, 3) := by decide +kernel
theorem dL_law_612 : decode cL_law 612 = .ok (.goto (-514), 3) := by decide +kernel
theorem dL_law_615 : decode cL_law 615 = .ok (.aload_n 1, 1) := by decide +kernel
theorem dL_law_616 : decode cL_law 616 = .ok (.iconst 1, 1) := by decide +kernel
theorem dL_law_617 : decode cL_law 617 = .ok (.invokestatic 64, 3) := by decide +kernel
theorem dL_law_620 : decode cL_law 620 = .ok (.istore_n 3, 1) := by decide +kernel
theorem dL_law_621 : decode cL_law 621 = .ok (.aload_n 1, 1) := by decide +kernel
theorem dL_law_622 : decode cL_law 622 = .ok (.iconst 5, 1) := by decide +kernel
theorem dL_law_623 : decode cL_law 623 = .ok (.invokestatic 69, 3) := by decide +kernel
theorem dL_law_626 : decode cL_law 626 = .ok (.lstore 4, 2) := by decide +kernel
theorem dL_law_628 : decode cL_law 628 = .ok (.aload_n 1, 1) := by decide +kernel
theorem dL_law_629 : decode cL_law 629 = .ok (.invokevirtual 118, 3) := by decide +kernel
theorem dL_law_632 : decode cL_law 632 = .ok (.lstore 6, 2) := by decide +kernel
theorem dL_law_634 : decode cL_law 634 = .ok (.iload_n 2, 1) := by decide +kernel
theorem dL_law_635 : decode cL_law 635 = .ok (.ifCond .eq 45, 3) := by decide +kernel
theorem dL_law_638 : decode cL_law 638 = .ok (.aload_n 1, 1) := by decide +kernel
theorem dL_law_639 : decode cL_law 639 = .ok (.iconst 0, 1) := by decide +kernel
theorem dL_law_640 : decode cL_law 640 = .ok (.invokestatic 115, 3) := by decide +kernel
theorem dL_law_643 : decode cL_law 643 = .ok (.ldc 17, 2) := by decide +kernel
theorem dL_law_645 : decode cL_law 645 = .ok (.if_icmp .ne 35, 3) := by decide +kernel
theorem dL_law_648 : decode cL_law 648 = .ok (.aload_n 1, 1) := by decide +kernel
theorem dL_law_649 : decode cL_law 649 = .ok (.iconst 4, 1) := by decide +kernel
theorem dL_law_650 : decode cL_law 650 = .ok (.invokestatic 106, 3) := by decide +kernel
theorem dL_law_653 : decode cL_law 653 = .ok (.ldc 17, 2) := by decide +kernel
theorem dL_law_655 : decode cL_law 655 = .ok (.if_icmp .ne 25, 3) := by decide +kernel
theorem dL_law_658 : decode cL_law 658 = .ok (.aload_n 1, 1) := by decide +kernel
theorem dL_law_659 : decode cL_law 659 = .ok (.invokevirtual 122, 3) := by decide +kernel
theorem dL_law_662 : decode cL_law 662 = .ok (.iconst (-1), 1) := by decide +kernel
theorem dL_law_663 : decode cL_law 663 = .ok (.if_icmp .lt 17, 3) := by decide +kernel
theorem dL_law_666 : decode cL_law 666 = .ok (.aload_n 1, 1) := by decide +kernel
theorem dL_law_667 : decode cL_law 667 = .ok (.invokevirtual 118, 3) := by decide +kernel
theorem dL_law_670 : decode cL_law 670 = .ok (.lload 6, 2) := by decide +kernel
theorem dL_law_672 : decode cL_law 672 = .ok (.lcmp, 1) := by decide +kernel
theorem dL_law_673 : decode cL_law 673 = .ok (.ifCond .ne 7, 3) := by decide +kernel
theorem dL_law_676 : decode cL_law 676 = .ok (.iconst 1, 1) := by decide +kernel
theorem dL_law_677 : decode cL_law 677 = .ok (.goto 4, 3) := by decide +kernel
theorem dL_law_680 : decode cL_law 680 = .ok (.iconst 0, 1) := by decide +kernel
theorem dL_law_681 : decode cL_law 681 = .ok (.istore_n 2, 1) := by decide +kernel
theorem dL_law_682 : decode cL_law 682 = .ok (.iload_n 2, 1) := by decide +kernel
theorem dL_law_683 : decode cL_law 683 = .ok (.ifCond .eq 50, 3) := by decide +kernel
theorem dL_law_686 : decode cL_law 686 = .ok (.aload_n 1, 1) := by decide +kernel
theorem dL_law_687 : decode cL_law 687 = .ok (.bipush 30, 2) := by decide +kernel
theorem dL_law_689 : decode cL_law 689 = .ok (.invokestatic 115, 3) := by decide +kernel
theorem dL_law_692 : decode cL_law 692 = .ok (.ifCond .lt 41, 3) := by decide +kernel
theorem dL_law_695 : decode cL_law 695 = .ok (.aload_n 1, 1) := by decide +kernel
theorem dL_law_696 : decode cL_law 696 = .ok (.invokestatic 89, 3) := by decide +kernel
theorem dL_law_699 : decode cL_law 699 = .ok (.ifCond .eq 34, 3) := by decide +kernel
theorem dL_law_702 : decode cL_law 702 = .ok (.aload_n 1, 1) := by decide +kernel
theorem dL_law_703 : decode cL_law 703 = .ok (.invokestatic 125, 3) := by decide +kernel
theorem dL_law_706 : decode cL_law 706 = .ok (.ifCond .lt 27, 3) := by decide +kernel
theorem dL_law_709 : decode cL_law 709 = .ok (.aload_n 1, 1) := by decide +kernel
theorem dL_law_710 : decode cL_law 710 = .ok (.iconst 1, 1) := by decide +kernel
theorem dL_law_711 : decode cL_law 711 = .ok (.invokestatic 64, 3) := by decide +kernel
theorem dL_law_714 : decode cL_law 714 = .ok (.iload_n 3, 1) := by decide +kernel
theorem dL_law_715 : decode cL_law 715 = .ok (.if_icmp .ne 18, 3) := by decide +kernel
theorem dL_law_718 : decode cL_law 718 = .ok (.aload_n 1, 1) := by decide +kernel
theorem dL_law_719 : decode cL_law 719 = .ok (.iconst 5, 1) := by decide +kernel
theorem dL_law_720 : decode cL_law 720 = .ok (.invokestatic 69, 3) := by decide +kernel
theorem dL_law_723 : decode cL_law 723 = .ok (.lload 4, 2) := by decide +kernel
theorem dL_law_725 : decode cL_law 725 = .ok (.lcmp, 1) := by decide +kernel
theorem dL_law_726 : decode cL_law 726 = .ok (.ifCond .ne 7, 3) := by decide +kernel
theorem dL_law_729 : decode cL_law 729 = .ok (.iconst 1, 1) := by decide +kernel
theorem dL_law_730 : decode cL_law 730 = .ok (.goto 4, 3) := by decide +kernel
theorem dL_law_733 : decode cL_law 733 = .ok (.iconst 0, 1) := by decide +kernel
theorem dL_law_734 : decode cL_law 734 = .ok (.ireturn, 1) := by decide +kernel
end
section
def wsL_law0_r1 : List Cond := [Cond.classLink RL 10 RX4, Cond.instantiable RX4 4, Cond.initialized RX4, Cond.constant RL 17 (-2000001), Cond.methodLink RL 88 yX4_init, Cond.instanceMethod yX4_init, Cond.code yX4_init cX4_init 1 none, Cond.methodLink RX4 1 objectInit, Cond.instanceMethod objectInit, Cond.code objectInit ⟨#[0xb1]⟩ 1 none, Cond.classLink RX4 7 RX3, Cond.instantiable RX3 11, Cond.initialized RX3, Cond.fieldLink RX4 10 "AirStation" "state" "LAirStation$State;", Cond.fieldLink RX4 16 "AirStation" "trial" "LAirStation$State;", Cond.classLink RX4 19 RX1, Cond.instantiable RX1 3, Cond.initialized RX1, Cond.fieldLink RX4 22 "AirStation" "history" "LAirStation$History;", Cond.classLink RX4 26 RX2, Cond.instantiable RX2 7, Cond.initialized RX2, Cond.fieldLink RX4 29 "AirStation" "program" "LAirStation$Program;", Cond.methodLink RX4 9 yX3_init]
def wsL_law0_r2 : List Cond := [Cond.instanceMethod yX3_init, Cond.code yX3_init cX3_init 2 none, Cond.methodLink RX3 3 objectInit, Cond.fieldLink RX3 9 "AirStation$State" "volume" "I", Cond.fieldLink RX3 15 "AirStation$State" "air" "I", Cond.arrayClass .int, Cond.fieldLink RX3 18 "AirStation$State" "settings" "[I", Cond.arrayClass .long, Cond.fieldLink RX3 22 "AirStation$State" "amounts" "[J", Cond.fieldLink RX3 26 "AirStation$State" "results" "[I", Cond.classLink RX3 29 RX0, Cond.fieldLink RX3 31 "AirStation$State" "compressors" "[LAirStation$Compressor;", Cond.methodLink RX3 38 arraycopyName, Cond.native arraycopyName, Cond.static arraycopyName, Cond.initialized "java/lang/System", Cond.instantiable RX0 8, Cond.initialized RX0, Cond.instanceMethod yX0_init, Cond.code yX0_init cX0_init 1 none, Cond.methodLink RX0 3 objectInit, Cond.methodLink RX4 21 yX1_init, Cond.instanceMethod yX1_init, Cond.code yX1_init cX1_init 2 none]
def wsL_law0_r3 : List Cond := [Cond.methodLink RX1 3 objectInit, Cond.classLink RX1 9 RX3, Cond.fieldLink RX1 11 "AirStation$History" "saved" "[LAirStation$State;", Cond.methodLink RX1 17 yX3_init, Cond.instanceMethod yX2_init, Cond.code yX2_init cX2_init 1 none, Cond.methodLink RX2 3 objectInit, Cond.fieldLink RX2 9 "AirStation$Program" "bytes" "[I", Cond.fieldLink RX2 15 "AirStation$Program" "kinds" "[I", Cond.fieldLink RX2 18 "AirStation$Program" "numbers" "[I", Cond.methodLink RL 89 yL_holds, Cond.static yL_holds, Cond.initialized RL, Cond.code yL_holds cL_holds 12 (some .boolean), Cond.constantLong RL 72 (6000), Cond.constantLong RL 78 (10), Cond.constantLong RL 80 (3), Cond.methodLink RL 64 yL_value, Cond.static yL_value, Cond.codeWith yL_value cL_value 3 (some .int) [(0, 5, 6, 15)], Cond.classLink RL 15 "java/lang/IllegalArgumentException", Cond.methodLink RL 45 yX4_value, Cond.instanceMethod yX4_value, Cond.selects RX4 yX4_value yX4_value]
def wsL_law0_r4 : List Cond := [Cond.code yX4_value cX4_value 2 (some .int), Cond.classLink RX4 37 "java/lang/IllegalArgumentException", Cond.initialized "java/lang/IllegalArgumentException", Cond.methodLink RX4 33 yX4_isWithin, Cond.static yX4_isWithin, Cond.code yX4_isWithin cX4_isWithin 3 (some .boolean), Cond.methodLink RX4 151 yX3_numberOf, Cond.instanceMethod yX3_numberOf, Cond.selects RX3 yX3_numberOf yX3_numberOf, Cond.code yX3_numberOf cX3_numberOf 2 (some .int), Cond.fieldLink RX3 54 "AirStation$State" "count" "I", Cond.fieldLink RX3 45 "AirStation$State" "time" "I", Cond.fieldLink RX3 48 "AirStation$State" "sinceRotation" "I", Cond.fieldLink RX3 51 "AirStation$State" "rotations" "I", Cond.fieldLink RX3 57 "AirStation$State" "kept" "I", Cond.methodLink RX3 80 yX3_pressure, Cond.instanceMethod yX3_pressure, Cond.selects RX3 yX3_pressure yX3_pressure, Cond.code yX3_pressure cX3_pressure 1 (some .int), Cond.static yX4_pressureOf, Cond.code yX4_pressureOf cX4_pressureOf 2 (some .int), Cond.methodLink RX3 84 yX3_countOf, Cond.instanceMethod yX3_countOf, Cond.selects RX3 yX3_countOf yX3_countOf]
def wsL_law0_r5 : List Cond := [Cond.code yX3_countOf cX3_countOf 5 (some .int), Cond.fieldLink RX3 94 "AirStation$Compressor" "mode" "I", Cond.methodLink RX3 60 yX3_numbered, Cond.instanceMethod yX3_numbered, Cond.selects RX3 yX3_numbered yX3_numbered, Cond.code yX3_numbered cX3_numbered 2 (some (.object "AirStation$Compressor")), Cond.methodLink RX3 88 yX3_capacityOf, Cond.instanceMethod yX3_capacityOf, Cond.selects RX3 yX3_capacityOf yX3_capacityOf, Cond.code yX3_capacityOf cX3_capacityOf 5 (some .int), Cond.fieldLink RX3 91 "AirStation$Compressor" "capacity" "I", Cond.methodLink RL 69 yL_booked, Cond.static yL_booked, Cond.codeWith yL_booked cL_booked 3 (some .long) [(0, 5, 6, 15)], Cond.constantLong RL 62 (-2000001), Cond.methodLink RL 58 yX4_booked, Cond.instanceMethod yX4_booked, Cond.selects RX4 yX4_booked yX4_booked, Cond.code yX4_booked cX4_booked 2 (some .long), Cond.fieldLink RX4 156 "AirStation$State" "amounts" "[J", Cond.methodLink RL 74 yL_its, Cond.static yL_its, Cond.codeWith yL_its cL_its 4 (some .int) [(0, 6, 7, 28), (0, 6, 11, 15)], Cond.classLink RL 28 "java/lang/IndexOutOfBoundsException"]
def wsL_law0_r6 : List Cond := [Cond.constant RL 24 (-2000002), Cond.methodLink RL 39 yX4_compressor, Cond.instanceMethod yX4_compressor, Cond.selects RX4 yX4_compressor yX4_compressor, Cond.code yX4_compressor cX4_compressor 4 (some .int), Cond.classLink RX4 97 "java/lang/IndexOutOfBoundsException", Cond.initialized "java/lang/IndexOutOfBoundsException", Cond.methodLink RX4 93 yX3_numbered, Cond.methodLink RX4 140 yX3_numberAbout, Cond.instanceMethod yX3_numberAbout, Cond.selects RX3 yX3_numberAbout yX3_numberAbout, Cond.code yX3_numberAbout cX3_numberAbout 3 (some .int), Cond.fieldLink RX3 76 "AirStation$Compressor" "stage" "I", Cond.fieldLink RX3 97 "AirStation$Compressor" "loadedMinutes" "I", Cond.fieldLink RX3 100 "AirStation$Compressor" "unloadedMinutes" "I", Cond.fieldLink RX3 103 "AirStation$Compressor" "timer" "I", Cond.fieldLink RX3 106 "AirStation$Compressor" "rest" "I", Cond.fieldLink RX3 109 "AirStation$Compressor" "starts" "I", Cond.methodLink RX3 112 yX3_limitForLoading, Cond.instanceMethod yX3_limitForLoading, Cond.selects RX3 yX3_limitForLoading yX3_limitForLoading, Cond.code yX3_limitForLoading cX3_limitForLoading 2 (some .int), Cond.methodLink RX3 116 yX3_limitForUnloading, Cond.instanceMethod yX3_limitForUnloading]
def wsL_law0_r7 : List Cond := [Cond.selects RX3 yX3_limitForUnloading yX3_limitForUnloading, Cond.code yX3_limitForUnloading cX3_limitForUnloading 2 (some .int), Cond.methodLink RL 82 yL_atStage, Cond.static yL_atStage, Cond.codeWith yL_atStage cL_atStage 3 (some .int) [(0, 5, 6, 28)], Cond.methodLink RL 42 yX4_atStage, Cond.instanceMethod yX4_atStage, Cond.selects RX4 yX4_atStage yX4_atStage, Cond.code yX4_atStage cX4_atStage 2 (some .int), Cond.fieldLink RX4 84 "AirStation$State" "count" "I", Cond.methodLink RX4 146 yX3_numberAtStage, Cond.instanceMethod yX3_numberAtStage, Cond.selects RX3 yX3_numberAtStage yX3_numberAtStage, Cond.code yX3_numberAtStage cX3_numberAtStage 4 (some .int), Cond.methodLink RL 84 yL_setting, Cond.static yL_setting, Cond.codeWith yL_setting cL_setting 3 (some .int) [(0, 5, 6, 15)], Cond.methodLink RL 48 yX4_setting, Cond.instanceMethod yX4_setting, Cond.selects RX4 yX4_setting yX4_setting, Cond.code yX4_setting cX4_setting 2 (some .int), Cond.fieldLink RX4 52 "AirStation$State" "settings" "[I", Cond.methodLink RL 86 yL_next, Cond.static yL_next]
def wsL_law0_r8 : List Cond := [Cond.codeWith yL_next cL_next 3 (some .int) [(0, 5, 6, 28)], Cond.methodLink RL 51 yX4_next, Cond.instanceMethod yX4_next, Cond.selects RX4 yX4_next yX4_next, Cond.code yX4_next cX4_next 3 (some .int), Cond.methodLink RX4 68 yX3_pressure, Cond.methodLink RX4 168 yX3_doingOf, Cond.instanceMethod yX3_doingOf, Cond.selects RX3 yX3_doingOf yX3_doingOf, Cond.code yX3_doingOf cX3_doingOf 3 (some .int), Cond.methodLink RL 93 yL_cell, Cond.static yL_cell, Cond.code yL_cell cL_cell 2 (some .int), Cond.constant RL 7 (40503), Cond.constant RL 8 (2147483647), Cond.methodLink RL 97 yL_adds, Cond.static yL_adds, Cond.codeWith yL_adds cL_adds 3 (some .int) [(0, 5, 6, 15), (0, 5, 10, 22)], Cond.classLink RL 22 "java/lang/IllegalStateException", Cond.methodLink RL 18 yX4_addCompressor, Cond.instanceMethod yX4_addCompressor, Cond.selects RX4 yX4_addCompressor yX4_addCompressor, Cond.code yX4_addCompressor cX4_addCompressor 2 (some .int), Cond.classLink RX4 56 "java/lang/IllegalStateException"]
def wsL_law0_r9 : List Cond := [Cond.initialized "java/lang/IllegalStateException", Cond.methodLink RX4 61 yX1_save, Cond.instanceMethod yX1_save, Cond.selects RX1 yX1_save yX1_save, Cond.code yX1_save cX1_save 3 none, Cond.fieldLink RX1 18 "AirStation$History" "newest" "I", Cond.fieldLink RX1 30 "AirStation$History" "kept" "I", Cond.methodLink RX1 33 Lib.Math.min.name, Cond.static Lib.Math.min.name, Cond.initialized "java/lang/Math", Cond.code Lib.Math.min.name Lib.Math.min.code 2 (some .int), Cond.methodLink RX1 22 yX1_savedAt, Cond.instanceMethod yX1_savedAt, Cond.selects RX1 yX1_savedAt yX1_savedAt, Cond.code yX1_savedAt cX1_savedAt 2 (some (.object "AirStation$State")), Cond.methodLink RX1 26 yX3_takeOver, Cond.instanceMethod yX3_takeOver, Cond.selects RX3 yX3_takeOver yX3_takeOver, Cond.code yX3_takeOver cX3_takeOver 5 none, Cond.methodLink RX3 64 yX0_takeOver, Cond.instanceMethod yX0_takeOver, Cond.selects RX0 yX0_takeOver yX0_takeOver, Cond.code yX0_takeOver cX0_takeOver 2 none, Cond.fieldLink RX0 9 "AirStation$Compressor" "capacity" "I"]
def wsL_law0_r10 : List Cond := [Cond.fieldLink RX0 15 "AirStation$Compressor" "mode" "I", Cond.fieldLink RX0 18 "AirStation$Compressor" "stage" "I", Cond.fieldLink RX0 21 "AirStation$Compressor" "loadedMinutes" "I", Cond.fieldLink RX0 24 "AirStation$Compressor" "unloadedMinutes" "I", Cond.fieldLink RX0 27 "AirStation$Compressor" "timer" "I", Cond.fieldLink RX0 30 "AirStation$Compressor" "rest" "I", Cond.fieldLink RX0 33 "AirStation$Compressor" "starts" "I", Cond.methodLink RX4 89 yX3_install, Cond.instanceMethod yX3_install, Cond.selects RX3 yX3_install yX3_install, Cond.code yX3_install cX3_install 4 (some .int), Cond.methodLink RX3 68 yX0_begin, Cond.instanceMethod yX0_begin, Cond.selects RX0 yX0_begin yX0_begin, Cond.code yX0_begin cX0_begin 3 none, Cond.methodLink RL 100 yL_sets, Cond.static yL_sets, Cond.codeWith yL_sets cL_sets 4 (some .int) [(0, 6, 7, 15)], Cond.methodLink RL 9 yX4_set, Cond.instanceMethod yX4_set, Cond.selects RX4 yX4_set yX4_set, Cond.code yX4_set cX4_set 4 (some .int), Cond.fieldLink RX4 74 "AirStation" "LEAST_SETTINGS" "[I", Cond.fieldLink RX4 77 "AirStation" "GREATEST_SETTINGS" "[I"]
def wsL_law0_r11 : List Cond := [Cond.methodLink RL 103 yL_clears, Cond.static yL_clears, Cond.codeWith yL_clears cL_clears 3 (some .int) [(0, 5, 6, 28), (0, 5, 10, 22)], Cond.methodLink RL 30 yX4_clear, Cond.instanceMethod yX4_clear, Cond.selects RX4 yX4_clear yX4_clear, Cond.code yX4_clear cX4_clear 3 (some .int), Cond.fieldLink RX4 102 "AirStation$Compressor" "mode" "I", Cond.fieldLink RX4 118 "AirStation$Compressor" "stage" "I", Cond.methodLink RX4 114 yX0_stop, Cond.instanceMethod yX0_stop, Cond.selects RX0 yX0_stop yX0_stop, Cond.code yX0_stop cX0_stop 2 none, Cond.methodLink RL 106 yL_trips, Cond.static yL_trips, Cond.codeWith yL_trips cL_trips 3 (some .int) [(0, 5, 6, 28), (0, 5, 10, 22)], Cond.methodLink RL 25 yX4_trip, Cond.instanceMethod yX4_trip, Cond.selects RX4 yX4_trip yX4_trip, Cond.code yX4_trip cX4_trip 4 (some .int), Cond.methodLink RX4 109 yX0_fail, Cond.instanceMethod yX0_fail, Cond.selects RX0 yX0_fail yX0_fail, Cond.code yX0_fail cX0_fail 1 none]
def wsL_law0_r12 : List Cond := [Cond.methodLink RL 109 yL_tests, Cond.static yL_tests, Cond.codeWith yL_tests cL_tests 3 (some .int) [(0, 5, 6, 15), (0, 5, 10, 22)], Cond.methodLink RL 36 yX4_leakTest, Cond.instanceMethod yX4_leakTest, Cond.selects RX4 yX4_leakTest yX4_leakTest, Cond.code yX4_leakTest cX4_leakTest 2 (some .int), Cond.methodLink RX4 126 yX3_hasTimeFor, Cond.instanceMethod yX3_hasTimeFor, Cond.selects RX3 yX3_hasTimeFor yX3_hasTimeFor, Cond.code yX3_hasTimeFor cX3_hasTimeFor 2 (some .boolean), Cond.constant RX3 79 (100000), Cond.methodLink RX4 135 yX3_runLeakTest, Cond.instanceMethod yX3_runLeakTest, Cond.selects RX3 yX3_runLeakTest yX3_runLeakTest, Cond.code yX3_runLeakTest cX3_runLeakTest 4 (some .int), Cond.methodLink RX3 144 yX3_unloadAll, Cond.instanceMethod yX3_unloadAll, Cond.selects RX3 yX3_unloadAll yX3_unloadAll, Cond.code yX3_unloadAll cX3_unloadAll 3 none, Cond.methodLink RX3 151 yX0_unload, Cond.instanceMethod yX0_unload, Cond.selects RX0 yX0_unload yX0_unload, Cond.code yX0_unload cX0_unload 1 none]
def wsL_law0_r13 : List Cond := [Cond.methodLink RX3 134 yX3_reorder, Cond.instanceMethod yX3_reorder, Cond.selects RX3 yX3_reorder yX3_reorder, Cond.code yX3_reorder cX3_reorder 5 (some .int), Cond.methodLink RX3 121 yX3_stageByMinutes, Cond.instanceMethod yX3_stageByMinutes, Cond.selects RX3 yX3_stageByMinutes yX3_stageByMinutes, Cond.code yX3_stageByMinutes cX3_stageByMinutes 6 (some .int), Cond.methodLink RX3 141 yX3_runFlows, Cond.instanceMethod yX3_runFlows, Cond.selects RX3 yX3_runFlows yX3_runFlows, Cond.code yX3_runFlows cX3_runFlows 5 (some .int), Cond.methodLink RX3 154 Lib.Math.min.name, Cond.methodLink RX3 166 yX3_runCompressors, Cond.instanceMethod yX3_runCompressors, Cond.selects RX3 yX3_runCompressors yX3_runCompressors, Cond.code yX3_runCompressors cX3_runCompressors 3 none, Cond.methodLink RX3 169 yX3_leakAt, Cond.instanceMethod yX3_leakAt, Cond.selects RX3 yX3_leakAt yX3_leakAt, Cond.code yX3_leakAt cX3_leakAt 2 (some .int), Cond.methodLink RX3 172 yX3_blowOff, Cond.instanceMethod yX3_blowOff, Cond.selects RX3 yX3_blowOff yX3_blowOff]
def wsL_law0_r14 : List Cond := [Cond.code yX3_blowOff cX3_blowOff 2 none, Cond.methodLink RX3 147 yX3_keepResult, Cond.instanceMethod yX3_keepResult, Cond.selects RX3 yX3_keepResult yX3_keepResult, Cond.code yX3_keepResult cX3_keepResult 3 none, Cond.methodLink RL 112 yX4_rotate, Cond.instanceMethod yX4_rotate, Cond.selects RX4 yX4_rotate yX4_rotate, Cond.code yX4_rotate cX4_rotate 1 (some .int), Cond.methodLink RX4 121 yX3_reorder, Cond.methodLink RL 115 yL_passes, Cond.static yL_passes, Cond.codeWith yL_passes cL_passes 3 (some .int) [(0, 5, 6, 15), (0, 5, 10, 22)], Cond.methodLink RL 33 yX4_pass, Cond.instanceMethod yX4_pass, Cond.selects RX4 yX4_pass yX4_pass, Cond.code yX4_pass cX4_pass 2 (some .int), Cond.methodLink RX4 132 yX3_runMinutes, Cond.instanceMethod yX3_runMinutes, Cond.selects RX3 yX3_runMinutes yX3_runMinutes, Cond.code yX3_runMinutes cX3_runMinutes 3 none, Cond.methodLink RX3 130 yX3_runMinute, Cond.instanceMethod yX3_runMinute, Cond.selects RX3 yX3_runMinute yX3_runMinute]
def wsL_law0_r15 : List Cond := [Cond.code yX3_runMinute cX3_runMinute 3 (some .boolean), Cond.methodLink RX3 137 yX3_lookAtAll, Cond.instanceMethod yX3_lookAtAll, Cond.selects RX3 yX3_lookAtAll yX3_lookAtAll, Cond.code yX3_lookAtAll cX3_lookAtAll 6 (some .boolean), Cond.methodLink RX3 159 yX3_doingOf, Cond.methodLink RX3 163 yX0_carryOn, Cond.instanceMethod yX0_carryOn, Cond.selects RX0 yX0_carryOn yX0_carryOn, Cond.code yX0_carryOn cX0_carryOn 3 none, Cond.methodLink RX0 36 yX0_load, Cond.instanceMethod yX0_load, Cond.selects RX0 yX0_load yX0_load, Cond.code yX0_load cX0_load 1 none, Cond.methodLink RX0 39 yX0_unload, Cond.methodLink RX0 42 yX0_stop, Cond.methodLink RL 118 yX4_digest, Cond.instanceMethod yX4_digest, Cond.selects RX4 yX4_digest yX4_digest, Cond.code yX4_digest cX4_digest 4 (some .long), Cond.constantLong RX4 235 (112561), Cond.fieldLink RX4 205 "AirStation$Program" "length" "I", Cond.constantLong RX4 237 (31), Cond.fieldLink RX4 160 "AirStation$State" "kept" "I"]
def wsL_law0_r16 : List Cond := [Cond.fieldLink RX4 165 "AirStation$State" "results" "[I", Cond.fieldLink RX4 229 "AirStation$History" "kept" "I", Cond.methodLink RX4 239 yX4_digestWith, Cond.instanceMethod yX4_digestWith, Cond.selects RX4 yX4_digestWith yX4_digestWith, Cond.code yX4_digestWith cX4_digestWith 7 (some .long), Cond.methodLink RL 122 yX4_minutesToLoad, Cond.instanceMethod yX4_minutesToLoad, Cond.selects RX4 yX4_minutesToLoad yX4_minutesToLoad, Cond.code yX4_minutesToLoad cX4_minutesToLoad 2 (some .int), Cond.methodLink RX4 171 yX3_takeOver, Cond.methodLink RX4 174 yX3_runMinute, Cond.methodLink RL 125 yL_undoes, Cond.static yL_undoes, Cond.codeWith yL_undoes cL_undoes 2 (some .int) [(0, 4, 5, 22)], Cond.methodLink RL 54 yX4_undo, Cond.instanceMethod yX4_undo, Cond.selects RX4 yX4_undo yX4_undo, Cond.code yX4_undo cX4_undo 1 (some .int), Cond.methodLink RX4 232 yX1_restore, Cond.instanceMethod yX1_restore, Cond.selects RX1 yX1_restore yX1_restore, Cond.code yX1_restore cX1_restore 3 none, Cond.methodLink RX1 39 Lib.Math.max.name]
def wsL_law0_r17 : List Cond := [Cond.static Lib.Math.max.name, Cond.code Lib.Math.max.name Lib.Math.max.code 2 (some .int)]
def wsL_law0 : List Cond := (wsL_law0_r1 ++ (wsL_law0_r2 ++ (wsL_law0_r3 ++ (wsL_law0_r4 ++ (wsL_law0_r5 ++ (wsL_law0_r6 ++ (wsL_law0_r7 ++ (wsL_law0_r8 ++ (wsL_law0_r9 ++ (wsL_law0_r10 ++ (wsL_law0_r11 ++ (wsL_law0_r12 ++ (wsL_law0_r13 ++ (wsL_law0_r14 ++ (wsL_law0_r15 ++ (wsL_law0_r16 ++ wsL_law0_r17)))))))))))))))) ++ wsX40 ++ wsX30 ++ wsX10 ++ wsX20 ++ wsX00 ++ ([] : List Cond)
def wsL_law : List Cond := wsL_law0 ++ (vx_atS RX4 41 "java/lang/IllegalArgumentException" ["java/lang/RuntimeException", "java/lang/Exception"]).filter goodWord ++ (vx_atS RX4 101 "java/lang/IndexOutOfBoundsException" ["java/lang/RuntimeException", "java/lang/Exception"]).filter goodWord ++ (vx_atS RX4 60 "java/lang/IllegalStateException" ["java/lang/RuntimeException", "java/lang/Exception"]).filter goodWord
theorem q_R {w : Cond} (h : w ∈ wsL_law0_r1 ++ (wsL_law0_r2 ++ (wsL_law0_r3 ++ (wsL_law0_r4 ++ (wsL_law0_r5 ++ (wsL_law0_r6 ++ (wsL_law0_r7 ++ (wsL_law0_r8 ++ (wsL_law0_r9 ++ (wsL_law0_r10 ++ (wsL_law0_r11 ++ (wsL_law0_r12 ++ (wsL_law0_r13 ++ (wsL_law0_r14 ++ (wsL_law0_r15 ++ (wsL_law0_r16 ++ (wsL_law0_r17))))))))))))))))) : w ∈ wsL_law := List.mem_append_left _ (List.mem_append_left _ (List.mem_append_left _ (List.mem_append_left _ (List.mem_append_left _ (List.mem_append_left _ (List.mem_append_left _ (List.mem_append_left _ (List.mem_append_left _ h))))))))
theorem q_r1 {w : Cond} (h : w ∈ wsL_law0_r1) : w ∈ wsL_law := q_R (List.mem_append_left _ h)
theorem q_r2 {w : Cond} (h : w ∈ wsL_law0_r2) : w ∈ wsL_law := q_R (List.mem_append_right _ (List.mem_append_left _ h))
theorem q_r3 {w : Cond} (h : w ∈ wsL_law0_r3) : w ∈ wsL_law := q_R (List.mem_append_right _ (List.mem_append_right _ (List.mem_append_left _ h)))
theorem q_r4 {w : Cond} (h : w ∈ wsL_law0_r4) : w ∈ wsL_law := q_R (List.mem_append_right _ (List.mem_append_right _ (List.mem_append_right _ (List.mem_append_left _ h))))
theorem q_r5 {w : Cond} (h : w ∈ wsL_law0_r5) : w ∈ wsL_law := q_R (List.mem_append_right _ (List.mem_append_right _ (List.mem_append_right _ (List.mem_append_right _ (List.mem_append_left _ h)))))
theorem q_r6 {w : Cond} (h : w ∈ wsL_law0_r6) : w ∈ wsL_law := q_R (List.mem_append_right _ (List.mem_append_right _ (List.mem_append_right _ (List.mem_append_right _ (List.mem_append_right _ (List.mem_append_left _ h))))))
theorem q_r7 {w : Cond} (h : w ∈ wsL_law0_r7) : w ∈ wsL_law := q_R (List.mem_append_right _ (List.mem_append_right _ (List.mem_append_right _ (List.mem_append_right _ (List.mem_append_right _ (List.mem_append_right _ (List.mem_append_left _ h)))))))
theorem q_r8 {w : Cond} (h : w ∈ wsL_law0_r8) : w ∈ wsL_law := q_R (List.mem_append_right _ (List.mem_append_right _ (List.mem_append_right _ (List.mem_append_right _ (List.mem_append_right _ (List.mem_append_right _ (List.mem_append_right _ (List.mem_append_left _ h))))))))
theorem q_r9 {w : Cond} (h : w ∈ wsL_law0_r9) : w ∈ wsL_law := q_R (List.mem_append_right _ (List.mem_append_right _ (List.mem_append_right _ (List.mem_append_right _ (List.mem_append_right _ (List.mem_append_right _ (List.mem_append_right _ (List.mem_append_right _ (List.mem_append_left _ h)))))))))
theorem q_r10 {w : Cond} (h : w ∈ wsL_law0_r10) : w ∈ wsL_law := q_R (List.mem_append_right _ (List.mem_append_right _ (List.mem_append_right _ (List.mem_append_right _ (List.mem_append_right _ (List.mem_append_right _ (List.mem_append_right _ (List.mem_append_right _ (List.mem_append_right _ (List.mem_append_left _ h))))))))))
theorem q_r11 {w : Cond} (h : w ∈ wsL_law0_r11) : w ∈ wsL_law := q_R (List.mem_append_right _ (List.mem_append_right _ (List.mem_append_right _ (List.mem_append_right _ (List.mem_append_right _ (List.mem_append_right _ (List.mem_append_right _ (List.mem_append_right _ (List.mem_append_right _ (List.mem_append_right _ (List.mem_append_left _ h)))))))))))
theorem q_r12 {w : Cond} (h : w ∈ wsL_law0_r12) : w ∈ wsL_law := q_R (List.mem_append_right _ (List.mem_append_right _ (List.mem_append_right _ (List.mem_append_right _ (List.mem_append_right _ (List.mem_append_right _ (List.mem_append_right _ (List.mem_append_right _ (List.mem_append_right _ (List.mem_append_right _ (List.mem_append_right _ (List.mem_append_left _ h))))))))))))
theorem q_r13 {w : Cond} (h : w ∈ wsL_law0_r13) : w ∈ wsL_law := q_R (List.mem_append_right _ (List.mem_append_right _ (List.mem_append_right _ (List.mem_append_right _ (List.mem_append_right _ (List.mem_append_right _ (List.mem_append_right _ (List.mem_append_right _ (List.mem_append_right _ (List.mem_append_right _ (List.mem_append_right _ (List.mem_append_right _ (List.mem_append_left _ h)))))))))))))
theorem q_r14 {w : Cond} (h : w ∈ wsL_law0_r14) : w ∈ wsL_law := q_R (List.mem_append_right _ (List.mem_append_right _ (List.mem_append_right _ (List.mem_append_right _ (List.mem_append_right _ (List.mem_append_right _ (List.mem_append_right _ (List.mem_append_right _ (List.mem_append_right _ (List.mem_append_right _ (List.mem_append_right _ (List.mem_append_right _ (List.mem_append_right _ (List.mem_append_left _ h))))))))))))))
theorem q_r15 {w : Cond} (h : w ∈ wsL_law0_r15) : w ∈ wsL_law := q_R (List.mem_append_right _ (List.mem_append_right _ (List.mem_append_right _ (List.mem_append_right _ (List.mem_append_right _ (List.mem_append_right _ (List.mem_append_right _ (List.mem_append_right _ (List.mem_append_right _ (List.mem_append_right _ (List.mem_append_right _ (List.mem_append_right _ (List.mem_append_right _ (List.mem_append_right _ (List.mem_append_left _ h)))))))))))))))
theorem q_r16 {w : Cond} (h : w ∈ wsL_law0_r16) : w ∈ wsL_law := q_R (List.mem_append_right _ (List.mem_append_right _ (List.mem_append_right _ (List.mem_append_right _ (List.mem_append_right _ (List.mem_append_right _ (List.mem_append_right _ (List.mem_append_right _ (List.mem_append_right _ (List.mem_append_right _ (List.mem_append_right _ (List.mem_append_right _ (List.mem_append_right _ (List.mem_append_right _ (List.mem_append_right _ (List.mem_append_left _ h))))))))))))))))
theorem q_r17 {w : Cond} (h : w ∈ wsL_law0_r17) : w ∈ wsL_law := q_R (List.mem_append_right _ (List.mem_append_right _ (List.mem_append_right _ (List.mem_append_right _ (List.mem_append_right _ (List.mem_append_right _ (List.mem_append_right _ (List.mem_append_right _ (List.mem_append_right _ (List.mem_append_right _ (List.mem_append_right _ (List.mem_append_right _ (List.mem_append_right _ (List.mem_append_right _ (List.mem_append_right _ (List.mem_append_right _ (h)))))))))))))))))
theorem q1_0 : Cond.classLink RL 10 RX4 ∈ wsL_law := q_r1 (List.mem_of_getElem? (i := 0) rfl)
theorem q1_1 : Cond.instantiable RX4 4 ∈ wsL_law := q_r1 (List.mem_of_getElem? (i := 1) rfl)
theorem q1_2 : Cond.initialized RX4 ∈ wsL_law := q_r1 (List.mem_of_getElem? (i := 2) rfl)
theorem q1_3 : Cond.constant RL 17 (-2000001) ∈ wsL_law := q_r1 (List.mem_of_getElem? (i := 3) rfl)
theorem q1_4 : Cond.methodLink RL 88 yX4_init ∈ wsL_law := q_r1 (List.mem_of_getElem? (i := 4) rfl)
theorem q1_5 : Cond.instanceMethod yX4_init ∈ wsL_law := q_r1 (List.mem_of_getElem? (i := 5) rfl)
theorem q1_6 : Cond.code yX4_init cX4_init 1 none ∈ wsL_law := q_r1 (List.mem_of_getElem? (i := 6) rfl)
theorem q1_7 : Cond.methodLink RX4 1 objectInit ∈ wsL_law := q_r1 (List.mem_of_getElem? (i := 7) rfl)
theorem q1_8 : Cond.instanceMethod objectInit ∈ wsL_law := q_r1 (List.mem_of_getElem? (i := 8) rfl)
theorem q1_9 : Cond.code objectInit ⟨#[0xb1]⟩ 1 none ∈ wsL_law := q_r1 (List.mem_of_getElem? (i := 9) rfl)
theorem q1_10 : Cond.classLink RX4 7 RX3 ∈ wsL_law := q_r1 (List.mem_of_getElem? (i := 10) rfl)
theorem q1_11 : Cond.instantiable RX3 11 ∈ wsL_law := q_r1 (List.mem_of_getElem? (i := 11) rfl)
theorem q1_12 : Cond.initialized RX3 ∈ wsL_law := q_r1 (List.mem_of_getElem? (i := 12) rfl)
theorem q1_13 : Cond.fieldLink RX4 10 "AirStation" "state" "LAirStation$State;" ∈ wsL_law := q_r1 (List.mem_of_getElem? (i := 13) rfl)
theorem q1_14 : Cond.fieldLink RX4 16 "AirStation" "trial" "LAirStation$State;" ∈ wsL_law := q_r1 (List.mem_of_getElem? (i := 14) rfl)
theorem q1_15 : Cond.classLink RX4 19 RX1 ∈ wsL_law := q_r1 (List.mem_of_getElem? (i := 15) rfl)
theorem q1_16 : Cond.instantiable RX1 3 ∈ wsL_law := q_r1 (List.mem_of_getElem? (i := 16) rfl)
theorem q1_17 : Cond.initialized RX1 ∈ wsL_law := q_r1 (List.mem_of_getElem? (i := 17) rfl)
theorem q1_18 : Cond.fieldLink RX4 22 "AirStation" "history" "LAirStation$History;" ∈ wsL_law := q_r1 (List.mem_of_getElem? (i := 18) rfl)
theorem q1_19 : Cond.classLink RX4 26 RX2 ∈ wsL_law := q_r1 (List.mem_of_getElem? (i := 19) rfl)
theorem q1_20 : Cond.instantiable RX2 7 ∈ wsL_law := q_r1 (List.mem_of_getElem? (i := 20) rfl)
theorem q1_21 : Cond.initialized RX2 ∈ wsL_law := q_r1 (List.mem_of_getElem? (i := 21) rfl)
theorem q1_22 : Cond.fieldLink RX4 29 "AirStation" "program" "LAirStation$Program;" ∈ wsL_law := q_r1 (List.mem_of_getElem? (i := 22) rfl)
theorem q1_23 : Cond.methodLink RX4 9 yX3_init ∈ wsL_law := q_r1 (List.mem_of_getElem? (i := 23) rfl)
theorem q2_0 : Cond.instanceMethod yX3_init ∈ wsL_law := q_r2 (List.mem_of_getElem? (i := 0) rfl)
theorem q2_1 : Cond.code yX3_init cX3_init 2 none ∈ wsL_law := q_r2 (List.mem_of_getElem? (i := 1) rfl)
theorem q2_2 : Cond.methodLink RX3 3 objectInit ∈ wsL_law := q_r2 (List.mem_of_getElem? (i := 2) rfl)
theorem q2_3 : Cond.fieldLink RX3 9 "AirStation$State" "volume" "I" ∈ wsL_law := q_r2 (List.mem_of_getElem? (i := 3) rfl)
theorem q2_4 : Cond.fieldLink RX3 15 "AirStation$State" "air" "I" ∈ wsL_law := q_r2 (List.mem_of_getElem? (i := 4) rfl)
theorem q2_5 : Cond.arrayClass .int ∈ wsL_law := q_r2 (List.mem_of_getElem? (i := 5) rfl)
theorem q2_6 : Cond.fieldLink RX3 18 "AirStation$State" "settings" "[I" ∈ wsL_law := q_r2 (List.mem_of_getElem? (i := 6) rfl)
theorem q2_7 : Cond.arrayClass .long ∈ wsL_law := q_r2 (List.mem_of_getElem? (i := 7) rfl)
theorem q2_8 : Cond.fieldLink RX3 22 "AirStation$State" "amounts" "[J" ∈ wsL_law := q_r2 (List.mem_of_getElem? (i := 8) rfl)
theorem q2_9 : Cond.fieldLink RX3 26 "AirStation$State" "results" "[I" ∈ wsL_law := q_r2 (List.mem_of_getElem? (i := 9) rfl)
theorem q2_10 : Cond.classLink RX3 29 RX0 ∈ wsL_law := q_r2 (List.mem_of_getElem? (i := 10) rfl)
theorem q2_11 : Cond.fieldLink RX3 31 "AirStation$State" "compressors" "[LAirStation$Compressor;" ∈ wsL_law := q_r2 (List.mem_of_getElem? (i := 11) rfl)
theorem q2_12 : Cond.methodLink RX3 38 arraycopyName ∈ wsL_law := q_r2 (List.mem_of_getElem? (i := 12) rfl)
theorem q2_13 : Cond.native arraycopyName ∈ wsL_law := q_r2 (List.mem_of_getElem? (i := 13) rfl)
theorem q2_14 : Cond.static arraycopyName ∈ wsL_law := q_r2 (List.mem_of_getElem? (i := 14) rfl)
theorem q2_15 : Cond.initialized "java/lang/System" ∈ wsL_law := q_r2 (List.mem_of_getElem? (i := 15) rfl)
theorem q2_16 : Cond.instantiable RX0 8 ∈ wsL_law := q_r2 (List.mem_of_getElem? (i := 16) rfl)
theorem q2_17 : Cond.initialized RX0 ∈ wsL_law := q_r2 (List.mem_of_getElem? (i := 17) rfl)
theorem q2_18 : Cond.instanceMethod yX0_init ∈ wsL_law := q_r2 (List.mem_of_getElem? (i := 18) rfl)
theorem q2_19 : Cond.code yX0_init cX0_init 1 none ∈ wsL_law := q_r2 (List.mem_of_getElem? (i := 19) rfl)
theorem q2_20 : Cond.methodLink RX0 3 objectInit ∈ wsL_law := q_r2 (List.mem_of_getElem? (i := 20) rfl)
theorem q2_21 : Cond.methodLink RX4 21 yX1_init ∈ wsL_law := q_r2 (List.mem_of_getElem? (i := 21) rfl)
theorem q2_22 : Cond.instanceMethod yX1_init ∈ wsL_law := q_r2 (List.mem_of_getElem? (i := 22) rfl)
theorem q2_23 : Cond.code yX1_init cX1_init 2 none ∈ wsL_law := q_r2 (List.mem_of_getElem? (i := 23) rfl)
theorem q3_0 : Cond.methodLink RX1 3 objectInit ∈ wsL_law := q_r3 (List.mem_of_getElem? (i := 0) rfl)
theorem q3_1 : Cond.classLink RX1 9 RX3 ∈ wsL_law := q_r3 (List.mem_of_getElem? (i := 1) rfl)
theorem q3_2 : Cond.fieldLink RX1 11 "AirStation$History" "saved" "[LAirStation$State;" ∈ wsL_law := q_r3 (List.mem_of_getElem? (i := 2) rfl)
theorem q3_3 : Cond.methodLink RX1 17 yX3_init ∈ wsL_law := q_r3 (List.mem_of_getElem? (i := 3) rfl)
theorem q3_4 : Cond.instanceMethod yX2_init ∈ wsL_law := q_r3 (List.mem_of_getElem? (i := 4) rfl)
theorem q3_5 : Cond.code yX2_init cX2_init 1 none ∈ wsL_law := q_r3 (List.mem_of_getElem? (i := 5) rfl)
theorem q3_6 : Cond.methodLink RX2 3 objectInit ∈ wsL_law := q_r3 (List.mem_of_getElem? (i := 6) rfl)
theorem q3_7 : Cond.fieldLink RX2 9 "AirStation$Program" "bytes" "[I" ∈ wsL_law := q_r3 (List.mem_of_getElem? (i := 7) rfl)
theorem q3_8 : Cond.fieldLink RX2 15 "AirStation$Program" "kinds" "[I" ∈ wsL_law := q_r3 (List.mem_of_getElem? (i := 8) rfl)
theorem q3_9 : Cond.fieldLink RX2 18 "AirStation$Program" "numbers" "[I" ∈ wsL_law := q_r3 (List.mem_of_getElem? (i := 9) rfl)
theorem q3_10 : Cond.methodLink RL 89 yL_holds ∈ wsL_law := q_r3 (List.mem_of_getElem? (i := 10) rfl)
theorem q3_11 : Cond.static yL_holds ∈ wsL_law := q_r3 (List.mem_of_getElem? (i := 11) rfl)
theorem q3_12 : Cond.initialized RL ∈ wsL_law := q_r3 (List.mem_of_getElem? (i := 12) rfl)
theorem q3_13 : Cond.code yL_holds cL_holds 12 (some .boolean) ∈ wsL_law := q_r3 (List.mem_of_getElem? (i := 13) rfl)
theorem q3_14 : Cond.constantLong RL 72 (6000) ∈ wsL_law := q_r3 (List.mem_of_getElem? (i := 14) rfl)
theorem q3_15 : Cond.constantLong RL 78 (10) ∈ wsL_law := q_r3 (List.mem_of_getElem? (i := 15) rfl)
theorem q3_16 : Cond.constantLong RL 80 (3) ∈ wsL_law := q_r3 (List.mem_of_getElem? (i := 16) rfl)
theorem q3_17 : Cond.methodLink RL 64 yL_value ∈ wsL_law := q_r3 (List.mem_of_getElem? (i := 17) rfl)
theorem q3_18 : Cond.static yL_value ∈ wsL_law := q_r3 (List.mem_of_getElem? (i := 18) rfl)
theorem q3_19 : Cond.codeWith yL_value cL_value 3 (some .int) [(0, 5, 6, 15)] ∈ wsL_law := q_r3 (List.mem_of_getElem? (i := 19) rfl)
theorem q3_20 : Cond.classLink RL 15 "java/lang/IllegalArgumentException" ∈ wsL_law := q_r3 (List.mem_of_getElem? (i := 20) rfl)
theorem q3_21 : Cond.methodLink RL 45 yX4_value ∈ wsL_law := q_r3 (List.mem_of_getElem? (i := 21) rfl)
theorem q3_22 : Cond.instanceMethod yX4_value ∈ wsL_law := q_r3 (List.mem_of_getElem? (i := 22) rfl)
theorem q3_23 : Cond.selects RX4 yX4_value yX4_value ∈ wsL_law := q_r3 (List.mem_of_getElem? (i := 23) rfl)
theorem q4_0 : Cond.code yX4_value cX4_value 2 (some .int) ∈ wsL_law := q_r4 (List.mem_of_getElem? (i := 0) rfl)
theorem q4_1 : Cond.classLink RX4 37 "java/lang/IllegalArgumentException" ∈ wsL_law := q_r4 (List.mem_of_getElem? (i := 1) rfl)
theorem q4_2 : Cond.initialized "java/lang/IllegalArgumentException" ∈ wsL_law := q_r4 (List.mem_of_getElem? (i := 2) rfl)
theorem q4_3 : Cond.methodLink RX4 33 yX4_isWithin ∈ wsL_law := q_r4 (List.mem_of_getElem? (i := 3) rfl)
theorem q4_4 : Cond.static yX4_isWithin ∈ wsL_law := q_r4 (List.mem_of_getElem? (i := 4) rfl)
theorem q4_5 : Cond.code yX4_isWithin cX4_isWithin 3 (some .boolean) ∈ wsL_law := q_r4 (List.mem_of_getElem? (i := 5) rfl)
theorem q4_6 : Cond.methodLink RX4 151 yX3_numberOf ∈ wsL_law := q_r4 (List.mem_of_getElem? (i := 6) rfl)
theorem q4_7 : Cond.instanceMethod yX3_numberOf ∈ wsL_law := q_r4 (List.mem_of_getElem? (i := 7) rfl)
theorem q4_8 : Cond.selects RX3 yX3_numberOf yX3_numberOf ∈ wsL_law := q_r4 (List.mem_of_getElem? (i := 8) rfl)
theorem q4_9 : Cond.code yX3_numberOf cX3_numberOf 2 (some .int) ∈ wsL_law := q_r4 (List.mem_of_getElem? (i := 9) rfl)
theorem q4_10 : Cond.fieldLink RX3 54 "AirStation$State" "count" "I" ∈ wsL_law := q_r4 (List.mem_of_getElem? (i := 10) rfl)
theorem q4_11 : Cond.fieldLink RX3 45 "AirStation$State" "time" "I" ∈ wsL_law := q_r4 (List.mem_of_getElem? (i := 11) rfl)
theorem q4_12 : Cond.fieldLink RX3 48 "AirStation$State" "sinceRotation" "I" ∈ wsL_law := q_r4 (List.mem_of_getElem? (i := 12) rfl)
theorem q4_13 : Cond.fieldLink RX3 51 "AirStation$State" "rotations" "I" ∈ wsL_law := q_r4 (List.mem_of_getElem? (i := 13) rfl)
theorem q4_14 : Cond.fieldLink RX3 57 "AirStation$State" "kept" "I" ∈ wsL_law := q_r4 (List.mem_of_getElem? (i := 14) rfl)
theorem q4_15 : Cond.methodLink RX3 80 yX3_pressure ∈ wsL_law := q_r4 (List.mem_of_getElem? (i := 15) rfl)
theorem q4_16 : Cond.instanceMethod yX3_pressure ∈ wsL_law := q_r4 (List.mem_of_getElem? (i := 16) rfl)
theorem q4_17 : Cond.selects RX3 yX3_pressure yX3_pressure ∈ wsL_law := q_r4 (List.mem_of_getElem? (i := 17) rfl)
theorem q4_18 : Cond.code yX3_pressure cX3_pressure 1 (some .int) ∈ wsL_law := q_r4 (List.mem_of_getElem? (i := 18) rfl)
theorem q4_19 : Cond.static yX4_pressureOf ∈ wsL_law := q_r4 (List.mem_of_getElem? (i := 19) rfl)
theorem q4_20 : Cond.code yX4_pressureOf cX4_pressureOf 2 (some .int) ∈ wsL_law := q_r4 (List.mem_of_getElem? (i := 20) rfl)
theorem q4_21 : Cond.methodLink RX3 84 yX3_countOf ∈ wsL_law := q_r4 (List.mem_of_getElem? (i := 21) rfl)
theorem q4_22 : Cond.instanceMethod yX3_countOf ∈ wsL_law := q_r4 (List.mem_of_getElem? (i := 22) rfl)
theorem q4_23 : Cond.selects RX3 yX3_countOf yX3_countOf ∈ wsL_law := q_r4 (List.mem_of_getElem? (i := 23) rfl)
theorem q5_0 : Cond.code yX3_countOf cX3_countOf 5 (some .int) ∈ wsL_law := q_r5 (List.mem_of_getElem? (i := 0) rfl)
theorem q5_1 : Cond.fieldLink RX3 94 "AirStation$Compressor" "mode" "I" ∈ wsL_law := q_r5 (List.mem_of_getElem? (i := 1) rfl)
theorem q5_2 : Cond.methodLink RX3 60 yX3_numbered ∈ wsL_law := q_r5 (List.mem_of_getElem? (i := 2) rfl)
theorem q5_3 : Cond.instanceMethod yX3_numbered ∈ wsL_law := q_r5 (List.mem_of_getElem? (i := 3) rfl)
theorem q5_4 : Cond.selects RX3 yX3_numbered yX3_numbered ∈ wsL_law := q_r5 (List.mem_of_getElem? (i := 4) rfl)
theorem q5_5 : Cond.code yX3_numbered cX3_numbered 2 (some (.object "AirStation$Compressor")) ∈ wsL_law := q_r5 (List.mem_of_getElem? (i := 5) rfl)
theorem q5_6 : Cond.methodLink RX3 88 yX3_capacityOf ∈ wsL_law := q_r5 (List.mem_of_getElem? (i := 6) rfl)
theorem q5_7 : Cond.instanceMethod yX3_capacityOf ∈ wsL_law := q_r5 (List.mem_of_getElem? (i := 7) rfl)
theorem q5_8 : Cond.selects RX3 yX3_capacityOf yX3_capacityOf ∈ wsL_law := q_r5 (List.mem_of_getElem? (i := 8) rfl)
theorem q5_9 : Cond.code yX3_capacityOf cX3_capacityOf 5 (some .int) ∈ wsL_law := q_r5 (List.mem_of_getElem? (i := 9) rfl)
theorem q5_10 : Cond.fieldLink RX3 91 "AirStation$Compressor" "capacity" "I" ∈ wsL_law := q_r5 (List.mem_of_getElem? (i := 10) rfl)
theorem q5_11 : Cond.methodLink RL 69 yL_booked ∈ wsL_law := q_r5 (List.mem_of_getElem? (i := 11) rfl)
theorem q5_12 : Cond.static yL_booked ∈ wsL_law := q_r5 (List.mem_of_getElem? (i := 12) rfl)
theorem q5_13 : Cond.codeWith yL_booked cL_booked 3 (some .long) [(0, 5, 6, 15)] ∈ wsL_law := q_r5 (List.mem_of_getElem? (i := 13) rfl)
theorem q5_14 : Cond.constantLong RL 62 (-2000001) ∈ wsL_law := q_r5 (List.mem_of_getElem? (i := 14) rfl)
theorem q5_15 : Cond.methodLink RL 58 yX4_booked ∈ wsL_law := q_r5 (List.mem_of_getElem? (i := 15) rfl)
theorem q5_16 : Cond.instanceMethod yX4_booked ∈ wsL_law := q_r5 (List.mem_of_getElem? (i := 16) rfl)
theorem q5_17 : Cond.selects RX4 yX4_booked yX4_booked ∈ wsL_law := q_r5 (List.mem_of_getElem? (i := 17) rfl)
theorem q5_18 : Cond.code yX4_booked cX4_booked 2 (some .long) ∈ wsL_law := q_r5 (List.mem_of_getElem? (i := 18) rfl)
theorem q5_19 : Cond.fieldLink RX4 156 "AirStation$State" "amounts" "[J" ∈ wsL_law := q_r5 (List.mem_of_getElem? (i := 19) rfl)
theorem q5_20 : Cond.methodLink RL 74 yL_its ∈ wsL_law := q_r5 (List.mem_of_getElem? (i := 20) rfl)
theorem q5_21 : Cond.static yL_its ∈ wsL_law := q_r5 (List.mem_of_getElem? (i := 21) rfl)
theorem q5_22 : Cond.codeWith yL_its cL_its 4 (some .int) [(0, 6, 7, 28), (0, 6, 11, 15)] ∈ wsL_law := q_r5 (List.mem_of_getElem? (i := 22) rfl)
theorem q5_23 : Cond.classLink RL 28 "java/lang/IndexOutOfBoundsException" ∈ wsL_law := q_r5 (List.mem_of_getElem? (i := 23) rfl)
theorem q6_0 : Cond.constant RL 24 (-2000002) ∈ wsL_law := q_r6 (List.mem_of_getElem? (i := 0) rfl)
theorem q6_1 : Cond.methodLink RL 39 yX4_compressor ∈ wsL_law := q_r6 (List.mem_of_getElem? (i := 1) rfl)
theorem q6_2 : Cond.instanceMethod yX4_compressor ∈ wsL_law := q_r6 (List.mem_of_getElem? (i := 2) rfl)
theorem q6_3 : Cond.selects RX4 yX4_compressor yX4_compressor ∈ wsL_law := q_r6 (List.mem_of_getElem? (i := 3) rfl)
theorem q6_4 : Cond.code yX4_compressor cX4_compressor 4 (some .int) ∈ wsL_law := q_r6 (List.mem_of_getElem? (i := 4) rfl)
theorem q6_5 : Cond.classLink RX4 97 "java/lang/IndexOutOfBoundsException" ∈ wsL_law := q_r6 (List.mem_of_getElem? (i := 5) rfl)
theorem q6_6 : Cond.initialized "java/lang/IndexOutOfBoundsException" ∈ wsL_law := q_r6 (List.mem_of_getElem? (i := 6) rfl)
theorem q6_7 : Cond.methodLink RX4 93 yX3_numbered ∈ wsL_law := q_r6 (List.mem_of_getElem? (i := 7) rfl)
theorem q6_8 : Cond.methodLink RX4 140 yX3_numberAbout ∈ wsL_law := q_r6 (List.mem_of_getElem? (i := 8) rfl)
theorem q6_9 : Cond.instanceMethod yX3_numberAbout ∈ wsL_law := q_r6 (List.mem_of_getElem? (i := 9) rfl)
theorem q6_10 : Cond.selects RX3 yX3_numberAbout yX3_numberAbout ∈ wsL_law := q_r6 (List.mem_of_getElem? (i := 10) rfl)
theorem q6_11 : Cond.code yX3_numberAbout cX3_numberAbout 3 (some .int) ∈ wsL_law := q_r6 (List.mem_of_getElem? (i := 11) rfl)
theorem q6_12 : Cond.fieldLink RX3 76 "AirStation$Compressor" "stage" "I" ∈ wsL_law := q_r6 (List.mem_of_getElem? (i := 12) rfl)
theorem q6_13 : Cond.fieldLink RX3 97 "AirStation$Compressor" "loadedMinutes" "I" ∈ wsL_law := q_r6 (List.mem_of_getElem? (i := 13) rfl)
theorem q6_14 : Cond.fieldLink RX3 100 "AirStation$Compressor" "unloadedMinutes" "I" ∈ wsL_law := q_r6 (List.mem_of_getElem? (i := 14) rfl)
theorem q6_15 : Cond.fieldLink RX3 103 "AirStation$Compressor" "timer" "I" ∈ wsL_law := q_r6 (List.mem_of_getElem? (i := 15) rfl)
theorem q6_16 : Cond.fieldLink RX3 106 "AirStation$Compressor" "rest" "I" ∈ wsL_law := q_r6 (List.mem_of_getElem? (i := 16) rfl)
theorem q6_17 : Cond.fieldLink RX3 109 "AirStation$Compressor" "starts" "I" ∈ wsL_law := q_r6 (List.mem_of_getElem? (i := 17) rfl)
theorem q6_18 : Cond.methodLink RX3 112 yX3_limitForLoading ∈ wsL_law := q_r6 (List.mem_of_getElem? (i := 18) rfl)
theorem q6_19 : Cond.instanceMethod yX3_limitForLoading ∈ wsL_law := q_r6 (List.mem_of_getElem? (i := 19) rfl)
theorem q6_20 : Cond.selects RX3 yX3_limitForLoading yX3_limitForLoading ∈ wsL_law := q_r6 (List.mem_of_getElem? (i := 20) rfl)
theorem q6_21 : Cond.code yX3_limitForLoading cX3_limitForLoading 2 (some .int) ∈ wsL_law := q_r6 (List.mem_of_getElem? (i := 21) rfl)
theorem q6_22 : Cond.methodLink RX3 116 yX3_limitForUnloading ∈ wsL_law := q_r6 (List.mem_of_getElem? (i := 22) rfl)
theorem q6_23 : Cond.instanceMethod yX3_limitForUnloading ∈ wsL_law := q_r6 (List.mem_of_getElem? (i := 23) rfl)
theorem q7_0 : Cond.selects RX3 yX3_limitForUnloading yX3_limitForUnloading ∈ wsL_law := q_r7 (List.mem_of_getElem? (i := 0) rfl)
theorem q7_1 : Cond.code yX3_limitForUnloading cX3_limitForUnloading 2 (some .int) ∈ wsL_law := q_r7 (List.mem_of_getElem? (i := 1) rfl)
theorem q7_2 : Cond.methodLink RL 82 yL_atStage ∈ wsL_law := q_r7 (List.mem_of_getElem? (i := 2) rfl)
theorem q7_3 : Cond.static yL_atStage ∈ wsL_law := q_r7 (List.mem_of_getElem? (i := 3) rfl)
theorem q7_4 : Cond.codeWith yL_atStage cL_atStage 3 (some .int) [(0, 5, 6, 28)] ∈ wsL_law := q_r7 (List.mem_of_getElem? (i := 4) rfl)
theorem q7_5 : Cond.methodLink RL 42 yX4_atStage ∈ wsL_law := q_r7 (List.mem_of_getElem? (i := 5) rfl)
theorem q7_6 : Cond.instanceMethod yX4_atStage ∈ wsL_law := q_r7 (List.mem_of_getElem? (i := 6) rfl)
theorem q7_7 : Cond.selects RX4 yX4_atStage yX4_atStage ∈ wsL_law := q_r7 (List.mem_of_getElem? (i := 7) rfl)
theorem q7_8 : Cond.code yX4_atStage cX4_atStage 2 (some .int) ∈ wsL_law := q_r7 (List.mem_of_getElem? (i := 8) rfl)
theorem q7_9 : Cond.fieldLink RX4 84 "AirStation$State" "count" "I" ∈ wsL_law := q_r7 (List.mem_of_getElem? (i := 9) rfl)
theorem q7_10 : Cond.methodLink RX4 146 yX3_numberAtStage ∈ wsL_law := q_r7 (List.mem_of_getElem? (i := 10) rfl)
theorem q7_11 : Cond.instanceMethod yX3_numberAtStage ∈ wsL_law := q_r7 (List.mem_of_getElem? (i := 11) rfl)
theorem q7_12 : Cond.selects RX3 yX3_numberAtStage yX3_numberAtStage ∈ wsL_law := q_r7 (List.mem_of_getElem? (i := 12) rfl)
theorem q7_13 : Cond.code yX3_numberAtStage cX3_numberAtStage 4 (some .int) ∈ wsL_law := q_r7 (List.mem_of_getElem? (i := 13) rfl)
theorem q7_14 : Cond.methodLink RL 84 yL_setting ∈ wsL_law := q_r7 (List.mem_of_getElem? (i := 14) rfl)
theorem q7_15 : Cond.static yL_setting ∈ wsL_law := q_r7 (List.mem_of_getElem? (i := 15) rfl)
theorem q7_16 : Cond.codeWith yL_setting cL_setting 3 (some .int) [(0, 5, 6, 15)] ∈ wsL_law := q_r7 (List.mem_of_getElem? (i := 16) rfl)
theorem q7_17 : Cond.methodLink RL 48 yX4_setting ∈ wsL_law := q_r7 (List.mem_of_getElem? (i := 17) rfl)
theorem q7_18 : Cond.instanceMethod yX4_setting ∈ wsL_law := q_r7 (List.mem_of_getElem? (i := 18) rfl)
theorem q7_19 : Cond.selects RX4 yX4_setting yX4_setting ∈ wsL_law := q_r7 (List.mem_of_getElem? (i := 19) rfl)
theorem q7_20 : Cond.code yX4_setting cX4_setting 2 (some .int) ∈ wsL_law := q_r7 (List.mem_of_getElem? (i := 20) rfl)
theorem q7_21 : Cond.fieldLink RX4 52 "AirStation$State" "settings" "[I" ∈ wsL_law := q_r7 (List.mem_of_getElem? (i := 21) rfl)
theorem q7_22 : Cond.methodLink RL 86 yL_next ∈ wsL_law := q_r7 (List.mem_of_getElem? (i := 22) rfl)
theorem q7_23 : Cond.static yL_next ∈ wsL_law := q_r7 (List.mem_of_getElem? (i := 23) rfl)
theorem q8_0 : Cond.codeWith yL_next cL_next 3 (some .int) [(0, 5, 6, 28)] ∈ wsL_law := q_r8 (List.mem_of_getElem? (i := 0) rfl)
theorem q8_1 : Cond.methodLink RL 51 yX4_next ∈ wsL_law := q_r8 (List.mem_of_getElem? (i := 1) rfl)
theorem q8_2 : Cond.instanceMethod yX4_next ∈ wsL_law := q_r8 (List.mem_of_getElem? (i := 2) rfl)
theorem q8_3 : Cond.selects RX4 yX4_next yX4_next ∈ wsL_law := q_r8 (List.mem_of_getElem? (i := 3) rfl)
theorem q8_4 : Cond.code yX4_next cX4_next 3 (some .int) ∈ wsL_law := q_r8 (List.mem_of_getElem? (i := 4) rfl)
theorem q8_5 : Cond.methodLink RX4 68 yX3_pressure ∈ wsL_law := q_r8 (List.mem_of_getElem? (i := 5) rfl)
theorem q8_6 : Cond.methodLink RX4 168 yX3_doingOf ∈ wsL_law := q_r8 (List.mem_of_getElem? (i := 6) rfl)
theorem q8_7 : Cond.instanceMethod yX3_doingOf ∈ wsL_law := q_r8 (List.mem_of_getElem? (i := 7) rfl)
theorem q8_8 : Cond.selects RX3 yX3_doingOf yX3_doingOf ∈ wsL_law := q_r8 (List.mem_of_getElem? (i := 8) rfl)
theorem q8_9 : Cond.code yX3_doingOf cX3_doingOf 3 (some .int) ∈ wsL_law := q_r8 (List.mem_of_getElem? (i := 9) rfl)
theorem q8_10 : Cond.methodLink RL 93 yL_cell ∈ wsL_law := q_r8 (List.mem_of_getElem? (i := 10) rfl)
theorem q8_11 : Cond.static yL_cell ∈ wsL_law := q_r8 (List.mem_of_getElem? (i := 11) rfl)
theorem q8_12 : Cond.code yL_cell cL_cell 2 (some .int) ∈ wsL_law := q_r8 (List.mem_of_getElem? (i := 12) rfl)
theorem q8_13 : Cond.constant RL 7 (40503) ∈ wsL_law := q_r8 (List.mem_of_getElem? (i := 13) rfl)
theorem q8_14 : Cond.constant RL 8 (2147483647) ∈ wsL_law := q_r8 (List.mem_of_getElem? (i := 14) rfl)
theorem q8_15 : Cond.methodLink RL 97 yL_adds ∈ wsL_law := q_r8 (List.mem_of_getElem? (i := 15) rfl)
theorem q8_16 : Cond.static yL_adds ∈ wsL_law := q_r8 (List.mem_of_getElem? (i := 16) rfl)
theorem q8_17 : Cond.codeWith yL_adds cL_adds 3 (some .int) [(0, 5, 6, 15), (0, 5, 10, 22)] ∈ wsL_law := q_r8 (List.mem_of_getElem? (i := 17) rfl)
theorem q8_18 : Cond.classLink RL 22 "java/lang/IllegalStateException" ∈ wsL_law := q_r8 (List.mem_of_getElem? (i := 18) rfl)
theorem q8_19 : Cond.methodLink RL 18 yX4_addCompressor ∈ wsL_law := q_r8 (List.mem_of_getElem? (i := 19) rfl)
theorem q8_20 : Cond.instanceMethod yX4_addCompressor ∈ wsL_law := q_r8 (List.mem_of_getElem? (i := 20) rfl)
theorem q8_21 : Cond.selects RX4 yX4_addCompressor yX4_addCompressor ∈ wsL_law := q_r8 (List.mem_of_getElem? (i := 21) rfl)
theorem q8_22 : Cond.code yX4_addCompressor cX4_addCompressor 2 (some .int) ∈ wsL_law := q_r8 (List.mem_of_getElem? (i := 22) rfl)
theorem q8_23 : Cond.classLink RX4 56 "java/lang/IllegalStateException" ∈ wsL_law := q_r8 (List.mem_of_getElem? (i := 23) rfl)
theorem q9_0 : Cond.initialized "java/lang/IllegalStateException" ∈ wsL_law := q_r9 (List.mem_of_getElem? (i := 0) rfl)
theorem q9_1 : Cond.methodLink RX4 61 yX1_save ∈ wsL_law := q_r9 (List.mem_of_getElem? (i := 1) rfl)
theorem q9_2 : Cond.instanceMethod yX1_save ∈ wsL_law := q_r9 (List.mem_of_getElem? (i := 2) rfl)
theorem q9_3 : Cond.selects RX1 yX1_save yX1_save ∈ wsL_law := q_r9 (List.mem_of_getElem? (i := 3) rfl)
theorem q9_4 : Cond.code yX1_save cX1_save 3 none ∈ wsL_law := q_r9 (List.mem_of_getElem? (i := 4) rfl)
theorem q9_5 : Cond.fieldLink RX1 18 "AirStation$History" "newest" "I" ∈ wsL_law := q_r9 (List.mem_of_getElem? (i := 5) rfl)
theorem q9_6 : Cond.fieldLink RX1 30 "AirStation$History" "kept" "I" ∈ wsL_law := q_r9 (List.mem_of_getElem? (i := 6) rfl)
theorem q9_7 : Cond.methodLink RX1 33 Lib.Math.min.name ∈ wsL_law := q_r9 (List.mem_of_getElem? (i := 7) rfl)
theorem q9_8 : Cond.static Lib.Math.min.name ∈ wsL_law := q_r9 (List.mem_of_getElem? (i := 8) rfl)
theorem q9_9 : Cond.initialized "java/lang/Math" ∈ wsL_law := q_r9 (List.mem_of_getElem? (i := 9) rfl)
theorem q9_10 : Cond.code Lib.Math.min.name Lib.Math.min.code 2 (some .int) ∈ wsL_law := q_r9 (List.mem_of_getElem? (i := 10) rfl)
theorem q9_11 : Cond.methodLink RX1 22 yX1_savedAt ∈ wsL_law := q_r9 (List.mem_of_getElem? (i := 11) rfl)
theorem q9_12 : Cond.instanceMethod yX1_savedAt ∈ wsL_law := q_r9 (List.mem_of_getElem? (i := 12) rfl)
theorem q9_13 : Cond.selects RX1 yX1_savedAt yX1_savedAt ∈ wsL_law := q_r9 (List.mem_of_getElem? (i := 13) rfl)
theorem q9_14 : Cond.code yX1_savedAt cX1_savedAt 2 (some (.object "AirStation$State")) ∈ wsL_law := q_r9 (List.mem_of_getElem? (i := 14) rfl)
theorem q9_15 : Cond.methodLink RX1 26 yX3_takeOver ∈ wsL_law := q_r9 (List.mem_of_getElem? (i := 15) rfl)
theorem q9_16 : Cond.instanceMethod yX3_takeOver ∈ wsL_law := q_r9 (List.mem_of_getElem? (i := 16) rfl)
theorem q9_17 : Cond.selects RX3 yX3_takeOver yX3_takeOver ∈ wsL_law := q_r9 (List.mem_of_getElem? (i := 17) rfl)
theorem q9_18 : Cond.code yX3_takeOver cX3_takeOver 5 none ∈ wsL_law := q_r9 (List.mem_of_getElem? (i := 18) rfl)
theorem q9_19 : Cond.methodLink RX3 64 yX0_takeOver ∈ wsL_law := q_r9 (List.mem_of_getElem? (i := 19) rfl)
theorem q9_20 : Cond.instanceMethod yX0_takeOver ∈ wsL_law := q_r9 (List.mem_of_getElem? (i := 20) rfl)
theorem q9_21 : Cond.selects RX0 yX0_takeOver yX0_takeOver ∈ wsL_law := q_r9 (List.mem_of_getElem? (i := 21) rfl)
theorem q9_22 : Cond.code yX0_takeOver cX0_takeOver 2 none ∈ wsL_law := q_r9 (List.mem_of_getElem? (i := 22) rfl)
theorem q9_23 : Cond.fieldLink RX0 9 "AirStation$Compressor" "capacity" "I" ∈ wsL_law := q_r9 (List.mem_of_getElem? (i := 23) rfl)
theorem q10_0 : Cond.fieldLink RX0 15 "AirStation$Compressor" "mode" "I" ∈ wsL_law := q_r10 (List.mem_of_getElem? (i := 0) rfl)
theorem q10_1 : Cond.fieldLink RX0 18 "AirStation$Compressor" "stage" "I" ∈ wsL_law := q_r10 (List.mem_of_getElem? (i := 1) rfl)
theorem q10_2 : Cond.fieldLink RX0 21 "AirStation$Compressor" "loadedMinutes" "I" ∈ wsL_law := q_r10 (List.mem_of_getElem? (i := 2) rfl)
theorem q10_3 : Cond.fieldLink RX0 24 "AirStation$Compressor" "unloadedMinutes" "I" ∈ wsL_law := q_r10 (List.mem_of_getElem? (i := 3) rfl)
theorem q10_4 : Cond.fieldLink RX0 27 "AirStation$Compressor" "timer" "I" ∈ wsL_law := q_r10 (List.mem_of_getElem? (i := 4) rfl)
theorem q10_5 : Cond.fieldLink RX0 30 "AirStation$Compressor" "rest" "I" ∈ wsL_law := q_r10 (List.mem_of_getElem? (i := 5) rfl)
theorem q10_6 : Cond.fieldLink RX0 33 "AirStation$Compressor" "starts" "I" ∈ wsL_law := q_r10 (List.mem_of_getElem? (i := 6) rfl)
theorem q10_7 : Cond.methodLink RX4 89 yX3_install ∈ wsL_law := q_r10 (List.mem_of_getElem? (i := 7) rfl)
theorem q10_8 : Cond.instanceMethod yX3_install ∈ wsL_law := q_r10 (List.mem_of_getElem? (i := 8) rfl)
theorem q10_9 : Cond.selects RX3 yX3_install yX3_install ∈ wsL_law := q_r10 (List.mem_of_getElem? (i := 9) rfl)
theorem q10_10 : Cond.code yX3_install cX3_install 4 (some .int) ∈ wsL_law := q_r10 (List.mem_of_getElem? (i := 10) rfl)
theorem q10_11 : Cond.methodLink RX3 68 yX0_begin ∈ wsL_law := q_r10 (List.mem_of_getElem? (i := 11) rfl)
theorem q10_12 : Cond.instanceMethod yX0_begin ∈ wsL_law := q_r10 (List.mem_of_getElem? (i := 12) rfl)
theorem q10_13 : Cond.selects RX0 yX0_begin yX0_begin ∈ wsL_law := q_r10 (List.mem_of_getElem? (i := 13) rfl)
theorem q10_14 : Cond.code yX0_begin cX0_begin 3 none ∈ wsL_law := q_r10 (List.mem_of_getElem? (i := 14) rfl)
theorem q10_15 : Cond.methodLink RL 100 yL_sets ∈ wsL_law := q_r10 (List.mem_of_getElem? (i := 15) rfl)
theorem q10_16 : Cond.static yL_sets ∈ wsL_law := q_r10 (List.mem_of_getElem? (i := 16) rfl)
theorem q10_17 : Cond.codeWith yL_sets cL_sets 4 (some .int) [(0, 6, 7, 15)] ∈ wsL_law := q_r10 (List.mem_of_getElem? (i := 17) rfl)
theorem q10_18 : Cond.methodLink RL 9 yX4_set ∈ wsL_law := q_r10 (List.mem_of_getElem? (i := 18) rfl)
theorem q10_19 : Cond.instanceMethod yX4_set ∈ wsL_law := q_r10 (List.mem_of_getElem? (i := 19) rfl)
theorem q10_20 : Cond.selects RX4 yX4_set yX4_set ∈ wsL_law := q_r10 (List.mem_of_getElem? (i := 20) rfl)
theorem q10_21 : Cond.code yX4_set cX4_set 4 (some .int) ∈ wsL_law := q_r10 (List.mem_of_getElem? (i := 21) rfl)
theorem q10_22 : Cond.fieldLink RX4 74 "AirStation" "LEAST_SETTINGS" "[I" ∈ wsL_law := q_r10 (List.mem_of_getElem? (i := 22) rfl)
theorem q10_23 : Cond.fieldLink RX4 77 "AirStation" "GREATEST_SETTINGS" "[I" ∈ wsL_law := q_r10 (List.mem_of_getElem? (i := 23) rfl)
theorem q11_0 : Cond.methodLink RL 103 yL_clears ∈ wsL_law := q_r11 (List.mem_of_getElem? (i := 0) rfl)
theorem q11_1 : Cond.static yL_clears ∈ wsL_law := q_r11 (List.mem_of_getElem? (i := 1) rfl)
theorem q11_2 : Cond.codeWith yL_clears cL_clears 3 (some .int) [(0, 5, 6, 28), (0, 5, 10, 22)] ∈ wsL_law := q_r11 (List.mem_of_getElem? (i := 2) rfl)
theorem q11_3 : Cond.methodLink RL 30 yX4_clear ∈ wsL_law := q_r11 (List.mem_of_getElem? (i := 3) rfl)
theorem q11_4 : Cond.instanceMethod yX4_clear ∈ wsL_law := q_r11 (List.mem_of_getElem? (i := 4) rfl)
theorem q11_5 : Cond.selects RX4 yX4_clear yX4_clear ∈ wsL_law := q_r11 (List.mem_of_getElem? (i := 5) rfl)
theorem q11_6 : Cond.code yX4_clear cX4_clear 3 (some .int) ∈ wsL_law := q_r11 (List.mem_of_getElem? (i := 6) rfl)
theorem q11_7 : Cond.fieldLink RX4 102 "AirStation$Compressor" "mode" "I" ∈ wsL_law := q_r11 (List.mem_of_getElem? (i := 7) rfl)
theorem q11_8 : Cond.fieldLink RX4 118 "AirStation$Compressor" "stage" "I" ∈ wsL_law := q_r11 (List.mem_of_getElem? (i := 8) rfl)
theorem q11_9 : Cond.methodLink RX4 114 yX0_stop ∈ wsL_law := q_r11 (List.mem_of_getElem? (i := 9) rfl)
theorem q11_10 : Cond.instanceMethod yX0_stop ∈ wsL_law := q_r11 (List.mem_of_getElem? (i := 10) rfl)
theorem q11_11 : Cond.selects RX0 yX0_stop yX0_stop ∈ wsL_law := q_r11 (List.mem_of_getElem? (i := 11) rfl)
theorem q11_12 : Cond.code yX0_stop cX0_stop 2 none ∈ wsL_law := q_r11 (List.mem_of_getElem? (i := 12) rfl)
theorem q11_13 : Cond.methodLink RL 106 yL_trips ∈ wsL_law := q_r11 (List.mem_of_getElem? (i := 13) rfl)
theorem q11_14 : Cond.static yL_trips ∈ wsL_law := q_r11 (List.mem_of_getElem? (i := 14) rfl)
theorem q11_15 : Cond.codeWith yL_trips cL_trips 3 (some .int) [(0, 5, 6, 28), (0, 5, 10, 22)] ∈ wsL_law := q_r11 (List.mem_of_getElem? (i := 15) rfl)
theorem q11_16 : Cond.methodLink RL 25 yX4_trip ∈ wsL_law := q_r11 (List.mem_of_getElem? (i := 16) rfl)
theorem q11_17 : Cond.instanceMethod yX4_trip ∈ wsL_law := q_r11 (List.mem_of_getElem? (i := 17) rfl)
theorem q11_18 : Cond.selects RX4 yX4_trip yX4_trip ∈ wsL_law := q_r11 (List.mem_of_getElem? (i := 18) rfl)
theorem q11_19 : Cond.code yX4_trip cX4_trip 4 (some .int) ∈ wsL_law := q_r11 (List.mem_of_getElem? (i := 19) rfl)
theorem q11_20 : Cond.methodLink RX4 109 yX0_fail ∈ wsL_law := q_r11 (List.mem_of_getElem? (i := 20) rfl)
theorem q11_21 : Cond.instanceMethod yX0_fail ∈ wsL_law := q_r11 (List.mem_of_getElem? (i := 21) rfl)
theorem q11_22 : Cond.selects RX0 yX0_fail yX0_fail ∈ wsL_law := q_r11 (List.mem_of_getElem? (i := 22) rfl)
theorem q11_23 : Cond.code yX0_fail cX0_fail 1 none ∈ wsL_law := q_r11 (List.mem_of_getElem? (i := 23) rfl)
theorem q12_0 : Cond.methodLink RL 109 yL_tests ∈ wsL_law := q_r12 (List.mem_of_getElem? (i := 0) rfl)
theorem q12_1 : Cond.static yL_tests ∈ wsL_law := q_r12 (List.mem_of_getElem? (i := 1) rfl)
theorem q12_2 : Cond.codeWith yL_tests cL_tests 3 (some .int) [(0, 5, 6, 15), (0, 5, 10, 22)] ∈ wsL_law := q_r12 (List.mem_of_getElem? (i := 2) rfl)
theorem q12_3 : Cond.methodLink RL 36 yX4_leakTest ∈ wsL_law := q_r12 (List.mem_of_getElem? (i := 3) rfl)
theorem q12_4 : Cond.instanceMethod yX4_leakTest ∈ wsL_law := q_r12 (List.mem_of_getElem? (i := 4) rfl)
theorem q12_5 : Cond.selects RX4 yX4_leakTest yX4_leakTest ∈ wsL_law := q_r12 (List.mem_of_getElem? (i := 5) rfl)
theorem q12_6 : Cond.code yX4_leakTest cX4_leakTest 2 (some .int) ∈ wsL_law := q_r12 (List.mem_of_getElem? (i := 6) rfl)
theorem q12_7 : Cond.methodLink RX4 126 yX3_hasTimeFor ∈ wsL_law := q_r12 (List.mem_of_getElem? (i := 7) rfl)
theorem q12_8 : Cond.instanceMethod yX3_hasTimeFor ∈ wsL_law := q_r12 (List.mem_of_getElem? (i := 8) rfl)
theorem q12_9 : Cond.selects RX3 yX3_hasTimeFor yX3_hasTimeFor ∈ wsL_law := q_r12 (List.mem_of_getElem? (i := 9) rfl)
theorem q12_10 : Cond.code yX3_hasTimeFor cX3_hasTimeFor 2 (some .boolean) ∈ wsL_law := q_r12 (List.mem_of_getElem? (i := 10) rfl)
theorem q12_11 : Cond.constant RX3 79 (100000) ∈ wsL_law := q_r12 (List.mem_of_getElem? (i := 11) rfl)
theorem q12_12 : Cond.methodLink RX4 135 yX3_runLeakTest ∈ wsL_law := q_r12 (List.mem_of_getElem? (i := 12) rfl)
theorem q12_13 : Cond.instanceMethod yX3_runLeakTest ∈ wsL_law := q_r12 (List.mem_of_getElem? (i := 13) rfl)
theorem q12_14 : Cond.selects RX3 yX3_runLeakTest yX3_runLeakTest ∈ wsL_law := q_r12 (List.mem_of_getElem? (i := 14) rfl)
theorem q12_15 : Cond.code yX3_runLeakTest cX3_runLeakTest 4 (some .int) ∈ wsL_law := q_r12 (List.mem_of_getElem? (i := 15) rfl)
theorem q12_16 : Cond.methodLink RX3 144 yX3_unloadAll ∈ wsL_law := q_r12 (List.mem_of_getElem? (i := 16) rfl)
theorem q12_17 : Cond.instanceMethod yX3_unloadAll ∈ wsL_law := q_r12 (List.mem_of_getElem? (i := 17) rfl)
theorem q12_18 : Cond.selects RX3 yX3_unloadAll yX3_unloadAll ∈ wsL_law := q_r12 (List.mem_of_getElem? (i := 18) rfl)
theorem q12_19 : Cond.code yX3_unloadAll cX3_unloadAll 3 none ∈ wsL_law := q_r12 (List.mem_of_getElem? (i := 19) rfl)
theorem q12_20 : Cond.methodLink RX3 151 yX0_unload ∈ wsL_law := q_r12 (List.mem_of_getElem? (i := 20) rfl)
theorem q12_21 : Cond.instanceMethod yX0_unload ∈ wsL_law := q_r12 (List.mem_of_getElem? (i := 21) rfl)
theorem q12_22 : Cond.selects RX0 yX0_unload yX0_unload ∈ wsL_law := q_r12 (List.mem_of_getElem? (i := 22) rfl)
theorem q12_23 : Cond.code yX0_unload cX0_unload 1 none ∈ wsL_law := q_r12 (List.mem_of_getElem? (i := 23) rfl)
theorem q13_0 : Cond.methodLink RX3 134 yX3_reorder ∈ wsL_law := q_r13 (List.mem_of_getElem? (i := 0) rfl)
theorem q13_1 : Cond.instanceMethod yX3_reorder ∈ wsL_law := q_r13 (List.mem_of_getElem? (i := 1) rfl)
theorem q13_2 : Cond.selects RX3 yX3_reorder yX3_reorder ∈ wsL_law := q_r13 (List.mem_of_getElem? (i := 2) rfl)
theorem q13_3 : Cond.code yX3_reorder cX3_reorder 5 (some .int) ∈ wsL_law := q_r13 (List.mem_of_getElem? (i := 3) rfl)
theorem q13_4 : Cond.methodLink RX3 121 yX3_stageByMinutes ∈ wsL_law := q_r13 (List.mem_of_getElem? (i := 4) rfl)
theorem q13_5 : Cond.instanceMethod yX3_stageByMinutes ∈ wsL_law := q_r13 (List.mem_of_getElem? (i := 5) rfl)
theorem q13_6 : Cond.selects RX3 yX3_stageByMinutes yX3_stageByMinutes ∈ wsL_law := q_r13 (List.mem_of_getElem? (i := 6) rfl)
theorem q13_7 : Cond.code yX3_stageByMinutes cX3_stageByMinutes 6 (some .int) ∈ wsL_law := q_r13 (List.mem_of_getElem? (i := 7) rfl)
theorem q13_8 : Cond.methodLink RX3 141 yX3_runFlows ∈ wsL_law := q_r13 (List.mem_of_getElem? (i := 8) rfl)
theorem q13_9 : Cond.instanceMethod yX3_runFlows ∈ wsL_law := q_r13 (List.mem_of_getElem? (i := 9) rfl)
theorem q13_10 : Cond.selects RX3 yX3_runFlows yX3_runFlows ∈ wsL_law := q_r13 (List.mem_of_getElem? (i := 10) rfl)
theorem q13_11 : Cond.code yX3_runFlows cX3_runFlows 5 (some .int) ∈ wsL_law := q_r13 (List.mem_of_getElem? (i := 11) rfl)
theorem q13_12 : Cond.methodLink RX3 154 Lib.Math.min.name ∈ wsL_law := q_r13 (List.mem_of_getElem? (i := 12) rfl)
theorem q13_13 : Cond.methodLink RX3 166 yX3_runCompressors ∈ wsL_law := q_r13 (List.mem_of_getElem? (i := 13) rfl)
theorem q13_14 : Cond.instanceMethod yX3_runCompressors ∈ wsL_law := q_r13 (List.mem_of_getElem? (i := 14) rfl)
theorem q13_15 : Cond.selects RX3 yX3_runCompressors yX3_runCompressors ∈ wsL_law := q_r13 (List.mem_of_getElem? (i := 15) rfl)
theorem q13_16 : Cond.code yX3_runCompressors cX3_runCompressors 3 none ∈ wsL_law := q_r13 (List.mem_of_getElem? (i := 16) rfl)
theorem q13_17 : Cond.methodLink RX3 169 yX3_leakAt ∈ wsL_law := q_r13 (List.mem_of_getElem? (i := 17) rfl)
theorem q13_18 : Cond.instanceMethod yX3_leakAt ∈ wsL_law := q_r13 (List.mem_of_getElem? (i := 18) rfl)
theorem q13_19 : Cond.selects RX3 yX3_leakAt yX3_leakAt ∈ wsL_law := q_r13 (List.mem_of_getElem? (i := 19) rfl)
theorem q13_20 : Cond.code yX3_leakAt cX3_leakAt 2 (some .int) ∈ wsL_law := q_r13 (List.mem_of_getElem? (i := 20) rfl)
theorem q13_21 : Cond.methodLink RX3 172 yX3_blowOff ∈ wsL_law := q_r13 (List.mem_of_getElem? (i := 21) rfl)
theorem q13_22 : Cond.instanceMethod yX3_blowOff ∈ wsL_law := q_r13 (List.mem_of_getElem? (i := 22) rfl)
theorem q13_23 : Cond.selects RX3 yX3_blowOff yX3_blowOff ∈ wsL_law := q_r13 (List.mem_of_getElem? (i := 23) rfl)
theorem q14_0 : Cond.code yX3_blowOff cX3_blowOff 2 none ∈ wsL_law := q_r14 (List.mem_of_getElem? (i := 0) rfl)
theorem q14_1 : Cond.methodLink RX3 147 yX3_keepResult ∈ wsL_law := q_r14 (List.mem_of_getElem? (i := 1) rfl)
theorem q14_2 : Cond.instanceMethod yX3_keepResult ∈ wsL_law := q_r14 (List.mem_of_getElem? (i := 2) rfl)
theorem q14_3 : Cond.selects RX3 yX3_keepResult yX3_keepResult ∈ wsL_law := q_r14 (List.mem_of_getElem? (i := 3) rfl)
theorem q14_4 : Cond.code yX3_keepResult cX3_keepResult 3 none ∈ wsL_law := q_r14 (List.mem_of_getElem? (i := 4) rfl)
theorem q14_5 : Cond.methodLink RL 112 yX4_rotate ∈ wsL_law := q_r14 (List.mem_of_getElem? (i := 5) rfl)
theorem q14_6 : Cond.instanceMethod yX4_rotate ∈ wsL_law := q_r14 (List.mem_of_getElem? (i := 6) rfl)
theorem q14_7 : Cond.selects RX4 yX4_rotate yX4_rotate ∈ wsL_law := q_r14 (List.mem_of_getElem? (i := 7) rfl)
theorem q14_8 : Cond.code yX4_rotate cX4_rotate 1 (some .int) ∈ wsL_law := q_r14 (List.mem_of_getElem? (i := 8) rfl)
theorem q14_9 : Cond.methodLink RX4 121 yX3_reorder ∈ wsL_law := q_r14 (List.mem_of_getElem? (i := 9) rfl)
theorem q14_10 : Cond.methodLink RL 115 yL_passes ∈ wsL_law := q_r14 (List.mem_of_getElem? (i := 10) rfl)
theorem q14_11 : Cond.static yL_passes ∈ wsL_law := q_r14 (List.mem_of_getElem? (i := 11) rfl)
theorem q14_12 : Cond.codeWith yL_passes cL_passes 3 (some .int) [(0, 5, 6, 15), (0, 5, 10, 22)] ∈ wsL_law := q_r14 (List.mem_of_getElem? (i := 12) rfl)
theorem q14_13 : Cond.methodLink RL 33 yX4_pass ∈ wsL_law := q_r14 (List.mem_of_getElem? (i := 13) rfl)
theorem q14_14 : Cond.instanceMethod yX4_pass ∈ wsL_law := q_r14 (List.mem_of_getElem? (i := 14) rfl)
theorem q14_15 : Cond.selects RX4 yX4_pass yX4_pass ∈ wsL_law := q_r14 (List.mem_of_getElem? (i := 15) rfl)
theorem q14_16 : Cond.code yX4_pass cX4_pass 2 (some .int) ∈ wsL_law := q_r14 (List.mem_of_getElem? (i := 16) rfl)
theorem q14_17 : Cond.methodLink RX4 132 yX3_runMinutes ∈ wsL_law := q_r14 (List.mem_of_getElem? (i := 17) rfl)
theorem q14_18 : Cond.instanceMethod yX3_runMinutes ∈ wsL_law := q_r14 (List.mem_of_getElem? (i := 18) rfl)
theorem q14_19 : Cond.selects RX3 yX3_runMinutes yX3_runMinutes ∈ wsL_law := q_r14 (List.mem_of_getElem? (i := 19) rfl)
theorem q14_20 : Cond.code yX3_runMinutes cX3_runMinutes 3 none ∈ wsL_law := q_r14 (List.mem_of_getElem? (i := 20) rfl)
theorem q14_21 : Cond.methodLink RX3 130 yX3_runMinute ∈ wsL_law := q_r14 (List.mem_of_getElem? (i := 21) rfl)
theorem q14_22 : Cond.instanceMethod yX3_runMinute ∈ wsL_law := q_r14 (List.mem_of_getElem? (i := 22) rfl)
theorem q14_23 : Cond.selects RX3 yX3_runMinute yX3_runMinute ∈ wsL_law := q_r14 (List.mem_of_getElem? (i := 23) rfl)
theorem q15_0 : Cond.code yX3_runMinute cX3_runMinute 3 (some .boolean) ∈ wsL_law := q_r15 (List.mem_of_getElem? (i := 0) rfl)
theorem q15_1 : Cond.methodLink RX3 137 yX3_lookAtAll ∈ wsL_law := q_r15 (List.mem_of_getElem? (i := 1) rfl)
theorem q15_2 : Cond.instanceMethod yX3_lookAtAll ∈ wsL_law := q_r15 (List.mem_of_getElem? (i := 2) rfl)
theorem q15_3 : Cond.selects RX3 yX3_lookAtAll yX3_lookAtAll ∈ wsL_law := q_r15 (List.mem_of_getElem? (i := 3) rfl)
theorem q15_4 : Cond.code yX3_lookAtAll cX3_lookAtAll 6 (some .boolean) ∈ wsL_law := q_r15 (List.mem_of_getElem? (i := 4) rfl)
theorem q15_5 : Cond.methodLink RX3 159 yX3_doingOf ∈ wsL_law := q_r15 (List.mem_of_getElem? (i := 5) rfl)
theorem q15_6 : Cond.methodLink RX3 163 yX0_carryOn ∈ wsL_law := q_r15 (List.mem_of_getElem? (i := 6) rfl)
theorem q15_7 : Cond.instanceMethod yX0_carryOn ∈ wsL_law := q_r15 (List.mem_of_getElem? (i := 7) rfl)
theorem q15_8 : Cond.selects RX0 yX0_carryOn yX0_carryOn ∈ wsL_law := q_r15 (List.mem_of_getElem? (i := 8) rfl)
theorem q15_9 : Cond.code yX0_carryOn cX0_carryOn 3 none ∈ wsL_law := q_r15 (List.mem_of_getElem? (i := 9) rfl)
theorem q15_10 : Cond.methodLink RX0 36 yX0_load ∈ wsL_law := q_r15 (List.mem_of_getElem? (i := 10) rfl)
theorem q15_11 : Cond.instanceMethod yX0_load ∈ wsL_law := q_r15 (List.mem_of_getElem? (i := 11) rfl)
theorem q15_12 : Cond.selects RX0 yX0_load yX0_load ∈ wsL_law := q_r15 (List.mem_of_getElem? (i := 12) rfl)
theorem q15_13 : Cond.code yX0_load cX0_load 1 none ∈ wsL_law := q_r15 (List.mem_of_getElem? (i := 13) rfl)
theorem q15_14 : Cond.methodLink RX0 39 yX0_unload ∈ wsL_law := q_r15 (List.mem_of_getElem? (i := 14) rfl)
theorem q15_15 : Cond.methodLink RX0 42 yX0_stop ∈ wsL_law := q_r15 (List.mem_of_getElem? (i := 15) rfl)
theorem q15_16 : Cond.methodLink RL 118 yX4_digest ∈ wsL_law := q_r15 (List.mem_of_getElem? (i := 16) rfl)
theorem q15_17 : Cond.instanceMethod yX4_digest ∈ wsL_law := q_r15 (List.mem_of_getElem? (i := 17) rfl)
theorem q15_18 : Cond.selects RX4 yX4_digest yX4_digest ∈ wsL_law := q_r15 (List.mem_of_getElem? (i := 18) rfl)
theorem q15_19 : Cond.code yX4_digest cX4_digest 4 (some .long) ∈ wsL_law := q_r15 (List.mem_of_getElem? (i := 19) rfl)
theorem q15_20 : Cond.constantLong RX4 235 (112561) ∈ wsL_law := q_r15 (List.mem_of_getElem? (i := 20) rfl)
theorem q15_21 : Cond.fieldLink RX4 205 "AirStation$Program" "length" "I" ∈ wsL_law := q_r15 (List.mem_of_getElem? (i := 21) rfl)
theorem q15_22 : Cond.constantLong RX4 237 (31) ∈ wsL_law := q_r15 (List.mem_of_getElem? (i := 22) rfl)
theorem q15_23 : Cond.fieldLink RX4 160 "AirStation$State" "kept" "I" ∈ wsL_law := q_r15 (List.mem_of_getElem? (i := 23) rfl)
theorem q16_0 : Cond.fieldLink RX4 165 "AirStation$State" "results" "[I" ∈ wsL_law := q_r16 (List.mem_of_getElem? (i := 0) rfl)
theorem q16_1 : Cond.fieldLink RX4 229 "AirStation$History" "kept" "I" ∈ wsL_law := q_r16 (List.mem_of_getElem? (i := 1) rfl)
theorem q16_2 : Cond.methodLink RX4 239 yX4_digestWith ∈ wsL_law := q_r16 (List.mem_of_getElem? (i := 2) rfl)
theorem q16_3 : Cond.instanceMethod yX4_digestWith ∈ wsL_law := q_r16 (List.mem_of_getElem? (i := 3) rfl)
theorem q16_4 : Cond.selects RX4 yX4_digestWith yX4_digestWith ∈ wsL_law := q_r16 (List.mem_of_getElem? (i := 4) rfl)
theorem q16_5 : Cond.code yX4_digestWith cX4_digestWith 7 (some .long) ∈ wsL_law := q_r16 (List.mem_of_getElem? (i := 5) rfl)
theorem q16_6 : Cond.methodLink RL 122 yX4_minutesToLoad ∈ wsL_law := q_r16 (List.mem_of_getElem? (i := 6) rfl)
theorem q16_7 : Cond.instanceMethod yX4_minutesToLoad ∈ wsL_law := q_r16 (List.mem_of_getElem? (i := 7) rfl)
theorem q16_8 : Cond.selects RX4 yX4_minutesToLoad yX4_minutesToLoad ∈ wsL_law := q_r16 (List.mem_of_getElem? (i := 8) rfl)
theorem q16_9 : Cond.code yX4_minutesToLoad cX4_minutesToLoad 2 (some .int) ∈ wsL_law := q_r16 (List.mem_of_getElem? (i := 9) rfl)
theorem q16_10 : Cond.methodLink RX4 171 yX3_takeOver ∈ wsL_law := q_r16 (List.mem_of_getElem? (i := 10) rfl)
theorem q16_11 : Cond.methodLink RX4 174 yX3_runMinute ∈ wsL_law := q_r16 (List.mem_of_getElem? (i := 11) rfl)
theorem q16_12 : Cond.methodLink RL 125 yL_undoes ∈ wsL_law := q_r16 (List.mem_of_getElem? (i := 12) rfl)
theorem q16_13 : Cond.static yL_undoes ∈ wsL_law := q_r16 (List.mem_of_getElem? (i := 13) rfl)
theorem q16_14 : Cond.codeWith yL_undoes cL_undoes 2 (some .int) [(0, 4, 5, 22)] ∈ wsL_law := q_r16 (List.mem_of_getElem? (i := 14) rfl)
theorem q16_15 : Cond.methodLink RL 54 yX4_undo ∈ wsL_law := q_r16 (List.mem_of_getElem? (i := 15) rfl)
theorem q16_16 : Cond.instanceMethod yX4_undo ∈ wsL_law := q_r16 (List.mem_of_getElem? (i := 16) rfl)
theorem q16_17 : Cond.selects RX4 yX4_undo yX4_undo ∈ wsL_law := q_r16 (List.mem_of_getElem? (i := 17) rfl)
theorem q16_18 : Cond.code yX4_undo cX4_undo 1 (some .int) ∈ wsL_law := q_r16 (List.mem_of_getElem? (i := 18) rfl)
theorem q16_19 : Cond.methodLink RX4 232 yX1_restore ∈ wsL_law := q_r16 (List.mem_of_getElem? (i := 19) rfl)
theorem q16_20 : Cond.instanceMethod yX1_restore ∈ wsL_law := q_r16 (List.mem_of_getElem? (i := 20) rfl)
theorem q16_21 : Cond.selects RX1 yX1_restore yX1_restore ∈ wsL_law := q_r16 (List.mem_of_getElem? (i := 21) rfl)
theorem q16_22 : Cond.code yX1_restore cX1_restore 3 none ∈ wsL_law := q_r16 (List.mem_of_getElem? (i := 22) rfl)
theorem q16_23 : Cond.methodLink RX1 39 Lib.Math.max.name ∈ wsL_law := q_r16 (List.mem_of_getElem? (i := 23) rfl)
theorem q17_0 : Cond.static Lib.Math.max.name ∈ wsL_law := q_r17 (List.mem_of_getElem? (i := 0) rfl)
theorem q17_1 : Cond.code Lib.Math.max.name Lib.Math.max.code 2 (some .int) ∈ wsL_law := q_r17 (List.mem_of_getElem? (i := 1) rfl)
theorem inlX0 : ∀ w ∈ wsX00, w ∈ wsL_law := fun _ h => List.mem_append_left _ (List.mem_append_left _ (List.mem_append_left _ (List.mem_append_left _ (List.mem_append_right _ h))))
theorem inlX1 : ∀ w ∈ wsX10, w ∈ wsL_law := fun _ h => List.mem_append_left _ (List.mem_append_left _ (List.mem_append_left _ (List.mem_append_left _ (List.mem_append_left _ (List.mem_append_left _ (List.mem_append_right _ h))))))
theorem inlX2 : ∀ w ∈ wsX20, w ∈ wsL_law := fun _ h => List.mem_append_left _ (List.mem_append_left _ (List.mem_append_left _ (List.mem_append_left _ (List.mem_append_left _ (List.mem_append_right _ h)))))
theorem inlX3 : ∀ w ∈ wsX30, w ∈ wsL_law := fun _ h => List.mem_append_left _ (List.mem_append_left _ (List.mem_append_left _ (List.mem_append_left _ (List.mem_append_left _ (List.mem_append_left _ (List.mem_append_left _ (List.mem_append_right _ h)))))))
theorem inlX4 : ∀ w ∈ wsX40, w ∈ wsL_law := fun _ h => List.mem_append_left _ (List.mem_append_left _ (List.mem_append_left _ (List.mem_append_left _ (List.mem_append_left _ (List.mem_append_left _ (List.mem_append_left _ (List.mem_append_left _ (List.mem_append_right _ h))))))))
end
section
/-! My own layer: one world of numbered cells (module g, region r) for every object of the law's run; memory is a function. -/
abbrev WE : Type := va_G × (Nat → ClassId) × (Nat → Nat → Nat)
abbrev ad (E : WE) (g r : Nat) : Nat := E.2.2 g r
def sg {α : Type} (G : Nat → α) (g : Nat) (x : α) : Nat → α := fun j => if j = g then x else G j
theorem sg_eq {α : Type} (G : Nat → α) (g : Nat) (x : α) : sg G g x g = x := if_pos rfl
theorem sg_ne {α : Type} (G : Nat → α) {g j : Nat} (x : α) (h : j ≠ g) : sg G g x j = G j := if_neg h
theorem sg_self {α : Type} (G : Nat → α) (g : Nat) : sg G g (G g) = G := by
  funext j
  by_cases h : j = g
  · rw [h, sg_eq]
  · rw [sg_ne _ _ h]
theorem sg_sg {α : Type} (G : Nat → α) (g : Nat) (x y : α) : sg (sg G g x) g y = sg G g y := by
  funext j
  by_cases h : j = g
  · rw [h, sg_eq, sg_eq]
  · rw [sg_ne _ _ h, sg_ne _ _ h, sg_ne _ _ h]
abbrev M1 : Type := Nat → Int32
abbrev J1 : Type := Nat → Int64
abbrev M2 : Type := Nat → M1
abbrev J2 : Type := Nat → J1
abbrev M3 : Type := Nat → M2
abbrev J3 : Type := Nat → J2
def up2 {α : Type} (M : Nat → Nat → α) (r k : Nat) (v : α) : Nat → Nat → α := sg M r (sg (M r) k v)
def up3 {α : Type} (G : Nat → Nat → Nat → α) (g r k : Nat) (v : α) : Nat → Nat → Nat → α := sg G g (up2 (G g) r k v)
/-- the cells of a station's state, of the station and its history, of a program, of the reference; the answers' row -/
def celS (E : WE) (g r : Nat) (x : M1) (y : J1) : va_E := match r with
  | 0 => .inr (3, [.int (x 0), .int (x 1), .int (x 2), .int (x 3), .int (x 4), .int (x 5), .int (x 6), .ref (ad E g 1), .ref (ad E g 2), .ref (ad E g 3), .ref (ad E g 4)])
  | 1 => .inl (E.2.1 0, 8, .inl x)
  | 2 => .inl (E.2.1 1, 6, .inr (.inl y))
  | 3 => .inl (E.2.1 0, 6, .inl x)
  | 4 => .inl (E.2.1 2, 5, .inr (.inr (.inr (.inr (fun i => if i < 5 then some (ad E g (5 + i)) else none)))))
  | _ => .inr (0, [.int (x 0), .int (x 1), .int (x 2), .int (x 3), .int (x 4), .int (x 5), .int (x 6), .int (x 7)])
def cel6 (E : WE) (r : Nat) (x : M1) (_ : J1) : va_E := match r with
  | 0 => .inr (4, [.ref (ad E 0 0), .ref (ad E 1 0), .ref (ad E 6 1), .ref (ad E 7 0)])
  | 1 => .inr (1, [.int (x 0), .int (x 1), .ref (ad E 6 2)])
  | _ => .inl (E.2.1 3, 4, .inr (.inr (.inr (.inr (fun i => if i < 4 then some (ad E (2 + i) 0) else none)))))
def cel7 (E : WE) (r : Nat) (x : M1) (_ : J1) : va_E := match r with
  | 0 => .inr (2, [.int (x 0), .int (x 1), .int (x 2), .int (x 3), .ref (ad E 7 1), .ref (ad E 7 2), .ref (ad E 7 3)])
  | _ => .inl (E.2.1 0, 100, .inl x)
def cel (E : WE) (g r : Nat) (x : M1) (y : J1) : va_E :=
  if g < 6 then celS E g r x y else if g = 6 then cel6 E r x y else cel7 E r x y
theorem cel_S {E : WE} {g r : Nat} {x : M1} {y : J1} (h : g < 6) : cel E g r x y = celS E g r x y := if_pos h
theorem cel_C {E : WE} {g r : Nat} {x : M1} {y : J1} (h : g < 6) (hr : 5 ≤ r) : cel E g r x y = .inr (0, [.int (x 0), .int (x 1), .int (x 2), .int (x 3), .int (x 4), .int (x 5), .int (x 6), .int (x 7)]) := by
  rw [cel_S h]
  obtain ⟨n, rfl⟩ : ∃ n, r = n + 5 := ⟨r - 5, by omega⟩
  rfl
theorem cel_6 {E : WE} {r : Nat} {x : M1} {y : J1} : cel E 6 r x y = cel6 E r x y := rfl
theorem cel_7 {E : WE} {r : Nat} {x : M1} {y : J1} : cel E 7 r x y = cel7 E r x y := rfl
def ixs : List (Nat × Nat) := [(0,0),(0,1),(0,2),(0,3),(0,4),(0,5),(0,6),(0,7),(0,8),(0,9),(1,0),(1,1),(1,2),(1,3),(1,4),(1,5),(1,6),(1,7),(1,8),(1,9),(2,0),(2,1),(2,2),(2,3),(2,4),(2,5),(2,6),(2,7),(2,8),(2,9),(3,0),(3,1),(3,2),(3,3),(3,4),(3,5),(3,6),(3,7),(3,8),(3,9),(4,0),(4,1),(4,2),(4,3),(4,4),(4,5),(4,6),(4,7),(4,8),(4,9),(5,0),(5,1),(5,2),(5,3),(5,4),(5,5),(5,6),(5,7),(5,8),(5,9),(6,0),(6,1),(6,2),(7,0),(7,1),(7,2),(7,3)]
def vld (g r : Nat) : Prop := (g < 6 ∧ r < 10) ∨ (g = 6 ∧ r < 3) ∨ (g = 7 ∧ r < 4)
def pl (g r : Nat) : Nat := if g < 6 then 10 * g + r else if g = 6 then 60 + r else 63 + r
set_option maxRecDepth 10000 in
theorem ix_in : ∀ k, k < 67 → ∃ q, ixs[k]? = some q ∧ pl q.1 q.2 = k ∧ ((q.1 < 6 ∧ q.2 < 10) ∨ (q.1 = 6 ∧ q.2 < 3) ∨ (q.1 = 7 ∧ q.2 < 4)) := by
  intro k hk
  obtain ⟨q, h⟩ : ∃ q, ixs[k]? = some q := ⟨_, List.getElem?_eq_getElem (show k < ixs.length from hk)⟩
  have H : ∀ k : Fin 67, (match ixs[k.val]? with | some q => decide (pl q.1 q.2 = k.val) && decide ((q.1 < 6 ∧ q.2 < 10) ∨ (q.1 = 6 ∧ q.2 < 3) ∨ (q.1 = 7 ∧ q.2 < 4)) | none => false) = true := by decide +kernel
  have h2 := H ⟨k, hk⟩
  simp only [h, Bool.and_eq_true, decide_eq_true_eq] at h2
  exact ⟨q, h, h2.1, h2.2⟩
theorem pl_lt {g r : Nat} (h : vld g r) : pl g r < 67 := by
  unfold pl
  unfold vld at h
  split
  · omega
  · split <;> omega
theorem pl_inj {g r g' r' : Nat} (h : vld g r) (h' : vld g' r') (e : pl g r = pl g' r') : g = g' ∧ r = r' := by
  unfold pl at e
  unfold vld at h h'
  split at e <;> split at e <;> (repeat' split at e) <;> omega
theorem ix_of {g r : Nat} (h : vld g r) : ixs[pl g r]? = some (g, r) := by
  obtain ⟨q, h1, h2, h3⟩ := ix_in _ (pl_lt h)
  obtain ⟨e1, e2⟩ := pl_inj h3 h h2
  rw [h1, ← e1, ← e2]
def Wl (E : WE) (G : M3) (K : J3) : va_W := ixs.map (fun q => (ad E q.1 q.2, cel E q.1 q.2 (G q.1 q.2) (K q.1 q.2)))
theorem Wl_get {E : WE} {G : M3} {K : J3} {g r : Nat} (h : vld g r) : (Wl E G K)[pl g r]? = some (ad E g r, cel E g r (G g r) (K g r)) := by
  rw [Wl, List.getElem?_map, ix_of h]
  rfl
theorem Wl_ix {E : WE} {G : M3} {K : J3} {k : Nat} {q : Nat × va_E} (h : (Wl E G K)[k]? = some q) : ∃ g r, vld g r ∧ pl g r = k ∧ q = (ad E g r, cel E g r (G g r) (K g r)) := by
  rw [Wl, List.getElem?_map] at h
  cases hk : ixs[k]? with
  | none => rw [hk] at h; cases h
  | some p =>
    rw [hk] at h
    have hl : k < 67 := (List.getElem?_eq_some_iff.mp hk).1
    obtain ⟨p', h1, h2, h3⟩ := ix_in k hl
    rw [hk] at h1
    cases h1
    exact ⟨p.1, p.2, h3, h2, (Option.some.inj h).symm⟩
theorem Wl_set {E : WE} {G : M3} {K : J3} {g r : Nat} (h : vld g r) (x : M1) (y : J1) : (Wl E G K).set (pl g r) (ad E g r, cel E g r x y) = Wl E (sg G g (sg (G g) r x)) (sg K g (sg (K g) r y)) := by
  apply List.ext_getElem?
  intro k
  by_cases hk : k = pl g r
  · subst hk
    rw [Wl_get h, sg_eq, sg_eq, sg_eq, sg_eq, List.getElem?_set_self]
    rw [Wl, List.length_map]
    exact pl_lt h
  · rw [List.getElem?_set_ne (Ne.symm hk), Wl, Wl, List.getElem?_map, List.getElem?_map]
    cases hq : ixs[k]? with
    | none => rfl
    | some p =>
      have hl : k < 67 := (List.getElem?_eq_some_iff.mp hq).1
      obtain ⟨p', h1, h2, h3⟩ := ix_in k hl
      rw [hq] at h1
      cases h1
      have e : ∀ {α : Type} (G : Nat → Nat → α) (x : α), sg G g (sg (G g) r x) p.1 p.2 = G p.1 p.2 := by
        intro α G x
        by_cases e1 : p.1 = g
        · rw [e1, sg_eq, sg_ne]
          intro e2
          exact hk (by rw [← h2, e1, e2])
        · rw [sg_ne _ _ e1]
      show some (ad E p.1 p.2, cel E p.1 p.2 (G p.1 p.2) (K p.1 p.2)) = some (ad E p.1 p.2, cel E p.1 p.2 (sg G g (sg (G g) r x) p.1 p.2) (sg K g (sg (K g) r y) p.1 p.2))
      rw [e, e]
theorem Wl_setI {E : WE} {G : M3} {K : J3} {g r : Nat} (h : vld g r) (x : M1) : (Wl E G K).set (pl g r) (ad E g r, cel E g r x (K g r)) = Wl E (sg G g (sg (G g) r x)) K := by
  rw [Wl_set h, sg_self, sg_self]
theorem Wl_setJ {E : WE} {G : M3} {K : J3} {g r : Nat} (h : vld g r) (y : J1) : (Wl E G K).set (pl g r) (ad E g r, cel E g r (G g r) y) = Wl E G (sg K g (sg (K g) r y)) := by
  rw [Wl_set h, sg_self, sg_self]
/-- which addresses are ours, and those that come -/
def AA (E : WE) (sz : Nat) : Nat → Prop := fun q => (∃ g r, vld g r ∧ ad E g r = q) ∨ sz ≤ q
def Inj (E : WE) : Prop := ∀ g r g' r', vld g r → vld g' r' → ad E g r = ad E g' r' → g = g' ∧ r = r'
theorem Wl_D {E : WE} {A : Nat → Prop} (hI : Inj E) (hA : ∀ g r, vld g r → A (ad E g r)) (G : M3) (K : J3) : va_D A (Wl E G K) := by
  refine ⟨fun i j p q hi hj h => ?_, fun k q hk => ?_⟩
  · obtain ⟨g, r, v1, e1, rfl⟩ := Wl_ix hi
    obtain ⟨g', r', v2, e2, rfl⟩ := Wl_ix hj
    obtain ⟨rfl, rfl⟩ := hI g r g' r' v1 v2 h
    rw [← e1, ← e2]
  · obtain ⟨g, r, v1, -, rfl⟩ := Wl_ix hk
    exact hA g r v1
theorem Wl_A {E : WE} {G : M3} {K : J3} {sz q : Nat} (h : va_A (Wl E G K) sz q) : AA E sz q := by
  rcases h with ⟨k, e, h⟩ | h
  · obtain ⟨g, r, v1, -, h2⟩ := Wl_ix h
    exact Or.inl ⟨g, r, v1, (congrArg Prod.fst h2).symm⟩
  · exact Or.inr h
/-! what stays: the tables' words that no list of good words holds, the static rows, the texts -/
def nestW : List Cond := [.methodLinkNest "AirStation$State" 72 yX4_pressureOf "AirStation",
  .castable "java/lang/IllegalArgumentException" "java/lang/IllegalArgumentException", .castable "java/lang/IllegalStateException" "java/lang/IllegalStateException", .castable "java/lang/IndexOutOfBoundsException" "java/lang/IndexOutOfBoundsException",
  .declares (Bundle.initS "java/lang/RuntimeException"), .declares (Bundle.initS "java/lang/Exception"), .declares (Bundle.initS "java/lang/Throwable")]
def txtW : List (Nat × String) := [(72, "there is no such setting"), (80, "the value is out of range"), (82, "the capacity is out of range"), (87, "there are as many compressors as there can be"), (99, "there is no such compressor"), (107, "the compressor is tripped"), (112, "the compressor is not tripped"), (124, "the minutes are out of range"), (130, "the time would be too great"), (138, "there is no such number of a compressor"), (144, "there are not so many stages"), (149, "there is no such number"), (154, "there is no such amount"), (230, "there is no saved state")]
def ncW : List (String × String) := []
def rowZ (n : String) (f : Nat → Int32) (A : Nat → Prop) (U : State) (H : Heap) : Prop := ∃ b, va_Z "AirStation" n "[I" (.ref b) A U H ∧ va_X b 8 f U H ∧ b < H.size ∧ ¬ A b
def lsF (l : List Int32) : Nat → Int32 := fun i => l.getD i 0
def rowFirst : Nat → Int32 := lsF [6500, 200, 10000, 5, 3, 2, 100, 480]
def rowLeast : Nat → Int32 := lsF [1000, 10, 2000, 1, 0, 0, 0, 10]
def rowMost : Nat → Int32 := lsF [12000, 500, 16000, 60, 30, 50, 3000, 5000]
def SS (A : Nat → Prop) (U : State) (H : Heap) : Prop :=
  rowZ "LEAST_SETTINGS" rowLeast A U H ∧ rowZ "GREATEST_SETTINGS" rowMost A U H ∧
  vx_Zq Bundle.tN "UNASSIGNED_STACK" Bundle.steD A U H ∧ vx_Zq Bundle.tN "SUPPRESSED_SENTINEL" Bundle.listD A U H
abbrev tyW (E : WE) : List (ClassId × FieldType) := [(E.2.1 0, .int), (E.2.1 1, .long), (E.2.1 2, .object "AirStation$Compressor"), (E.2.1 3, .object "AirStation$State")]
def KK (E : WE) (A : Nat → Prop) (U : State) (H : Heap) : Prop :=
  va_K E.1 vwCl (tyW E) U ∧ Inj E ∧ (∀ w ∈ nestW, va_Nw w U) ∧ SS A U H ∧ (∀ q ∈ txtW, ∃ a, vk_R "AirStation" q.1 q.2 a U) ∧ (∀ q ∈ ncW, va_Nc q.1 q.2 U)
theorem rowZ.mv {n : String} {f : Nat → Int32} {A B : Nat → Prop} {s U : State} {H H1 : Heap} (h : rowZ n f A s H) (hvm : s.vm.Alike U.vm) (hq : ∀ a : Nat, a < H.size → ¬ A a → H1[a]? = H[a]?) (hz : H.size ≤ H1.size) (hB : ∀ q, B q → A q) : rowZ n f B U H1 := by
  obtain ⟨b, h1, h2, h3, h4⟩ := h
  exact ⟨b, va_Z.narrow (va_Z.moved hvm (h1.kept hq)) hB, va_X.moved hvm (h2.kept (hq b h3 h4)), Nat.lt_of_lt_of_le h3 hz, fun h => h4 (hB b h)⟩
theorem KK.mv {E : WE} {A B : Nat → Prop} {s U : State} {H : Heap} {locs : List Loc} (h : KK E A s s.heap) (hS : va_S A s.heap H locs) (hW : s.WarmedH U.vm) (hH : U.heap = H) (hB : ∀ q, B q → A q) : KK E B U U.heap := by
  obtain ⟨h1, h2, h3, ⟨h4, h5, h6, h7⟩, h11, h12⟩ := h
  rw [hH]
  refine ⟨va_K.moved hW.alike h1, h2, ?_, ⟨h4.mv hW.alike hS.2.1 hS.1 hB, h5.mv hW.alike hS.2.1 hS.1 hB, (vx_Zq.moved hW.alike (h6.kept hS.2.1)).narrow hB, (vx_Zq.moved hW.alike (h7.kept hS.2.1)).narrow hB⟩, fun q hq => ?_, fun q hq => (h12 q hq).moved hW.alike⟩
  · intro w hw
    have h8 := h3 w hw
    simp only [nestW, List.mem_cons, List.not_mem_nil, or_false] at hw
    rcases hw with rfl | rfl | rfl | rfl | rfl | rfl | rfl
    · exact va_Nw.warmM hW h8
    · exact va_Nw.warmC hW h8
    · exact va_Nw.warmC hW h8
    · exact va_Nw.warmC hW h8
    · exact va_Nw.warmD hW h8
    · exact va_Nw.warmD hW h8
    · exact va_Nw.warmD hW h8
  · obtain ⟨a, ha⟩ := h11 q hq
    exact ⟨a, vk_R.warm hW ha⟩
/-- a contract's start: the whole world, of a heap of size sz -/
def PreM (E : WE) (G : M3) (K : J3) (sz : Nat) (U : State) : Prop := U.heap.size = sz ∧ va_P E.1 vwCl (Wl E G K) U.heap ∧ KK E (AA E sz) U U.heap
def PosM (E : WE) (G : M3) (K : J3) (t : State) : Prop := va_P E.1 vwCl (Wl E G K) t.heap
theorem PreM.blind {E : WE} {G : M3} {K : J3} {sz : Nat} {a : List Value} : FrameBlind (va_Pc a (PreM E G K sz)) := by
  rintro b U g mk ⟨h1, h2, h3, h4, h5, h6, ⟨h7, h8, h9, h10⟩, h11, h12⟩
  have hA : U.vm.Alike (U.calling g mk b).vm := Vm.Alike.refl U.vm
  refine ⟨h1, h2, h3, va_K.moved (u := U) (U := U.calling g mk b) hA h4, h5, fun w hw => ?_, ⟨h7.mv hA (fun _ _ _ => rfl) (Nat.le_refl _) (fun _ h => h), h8.mv hA (fun _ _ _ => rfl) (Nat.le_refl _) (fun _ h => h), vx_Zq.moved hA h9, vx_Zq.moved hA h10⟩, fun q hq => ?_, fun q hq => (h12 q hq).moved hA⟩
  · have h8 := h6 w hw
    simp only [nestW, List.mem_cons, List.not_mem_nil, or_false] at hw
    rcases hw with rfl | rfl | rfl | rfl | rfl | rfl | rfl <;> exact va_Nw.same rfl (u := U) (U := U.calling g mk b) rfl h8
  · obtain ⟨a, ha⟩ := h11 q hq
    exact ⟨a, vk_R.same (u := U) (U := U.calling g mk b) rfl ha⟩
/-- the room of a method, and the words: its code first, then all good words of the law -/
abbrev wsM (w0 : Cond) : List Cond := w0 :: wsL_law
/-- an effect contract by the kind of answer -/
abbrev MtI (l : Launch) (y : MethodName) (w0 : Cond) (rm : Room) (E : WE) (as : List Value) (G : M3) (K : J3) (r : Int32) (G' : M3) (K' : J3) : Prop := ∀ sz, Met l y (wsM w0) rm (va_Pc as (PreM E G K sz)) (va_Qi (fun (r1 : Int32) (_ : Unit) => r1 = r) (fun _ t => PosM E G' K' t) (AA E sz)) 0 0 (AA E sz)
abbrev MtL (l : Launch) (y : MethodName) (w0 : Cond) (rm : Room) (E : WE) (as : List Value) (G : M3) (K : J3) (r : Int64) (G' : M3) (K' : J3) : Prop := ∀ sz, Met l y (wsM w0) rm (va_Pc as (PreM E G K sz)) (va_Ql (fun (r1 : Int64) (_ : Unit) => r1 = r) (fun _ t => PosM E G' K' t) (AA E sz)) 0 0 (AA E sz)
abbrev MtD (l : Launch) (y : MethodName) (w0 : Cond) (rm : Room) (E : WE) (as : List Value) (G : M3) (K : J3) (r : UInt64) (G' : M3) (K' : J3) : Prop := ∀ sz, Met l y (wsM w0) rm (va_Pc as (PreM E G K sz)) (va_Qd (fun (r1 : UInt64) (_ : Unit) => r1 = r) (fun _ t => PosM E G' K' t) (AA E sz)) 0 0 (AA E sz)
abbrev MtV (l : Launch) (y : MethodName) (w0 : Cond) (rm : Room) (E : WE) (as : List Value) (G : M3) (K : J3) (G' : M3) (K' : J3) : Prop := ∀ sz, Met l y (wsM w0) rm (va_Pc as (PreM E G K sz)) (va_Qv (fun (_ : Unit) => True) (fun _ t => PosM E G' K' t) (AA E sz)) 0 0 (AA E sz)
abbrev MtQ (l : Launch) (y : MethodName) (w0 : Cond) (rm : Room) (E : WE) (as : List Value) (G : M3) (K : J3) (r : Option Nat) (G' : M3) (K' : J3) : Prop := ∀ sz, Met l y (wsM w0) rm (va_Pc as (PreM E G K sz)) (va_Qq (fun (r1 : Option Nat) (_ : Unit) => r1 = r) (fun _ t => PosM E G' K' t) (AA E sz)) 0 0 (AA E sz)
/-- what a walk has at hand and keeps -/
def Cx (E : WE) (A : Nat → Prop) (p : Program) (s : State) (m : MethodId) (args : Array Value) (meth : Method) (c : Code) (w0 : Cond) (cc : ByteArray) (nL : Nat) (ret : Option FieldType) (own : String) : Prop :=
  p.tables.exec = Jvm.exec ∧ c.code = cc ∧ meth.sig.returnType = ret ∧ c.maxLocals = nL ∧ s.vm.findClass own = some m.cls ∧ (∀ w ∈ wsM w0, w.before args s = true) ∧ meth.locks = false ∧ KK E A s s.heap ∧ (∀ q, s.heap.size ≤ q → A q) ∧ (∀ g r, vld g r → A (ad E g r))
/-- what a walk has at hand and changes -/
def Wd (E : WE) (A : Nat → Prop) (s : State) (G : M3) (K : J3) (H : Heap) (locs : List Loc) : Prop := va_P E.1 vwCl (Wl E G K) H ∧ va_S A s.heap H locs
theorem Wd.ofS {E : WE} {A : Nat → Prop} {s : State} {G : M3} {K : J3} {H : Heap} {locs : List Loc} (g : Nat) (h : Wd E A s G K H locs) : Wd E A s (sg G g (G g)) (sg K g (K g)) H locs := by
  rw [sg_self, sg_self]; exact h
/-- the checks of the functions that I read off the code -/
abbrev inb (i : Int32) (n : Nat) : Prop := 0 ≤ i.toInt ∧ i.toInt < (n : Int)
theorem inb_in {i : Int32} {n : Nat} (h : inb i n) : vp_in i n := vp_in_iff.mpr h
def chk {α : Type} (c : Prop) [Decidable c] (t : Option α) : Option α := if c then t else none
theorem chk_of {α : Type} {c : Prop} [Decidable c] {t : Option α} {r : α} (h : chk c t = some r) : c ∧ t = some r := by
  unfold chk at h
  split at h
  · exact ⟨by assumption, h⟩
  · cases h
def bnd {α β : Type} (e : α) (f : α → β) : β := f e
theorem bnd_of {α β : Type} {e x : α} {f : α → β} {r : β} (h : bnd e f = r) (hx : x = e) : f x = r := by subst hx; exact h
theorem bind_of {α β : Type} {o : Option α} {f : α → Option β} {r : β} (h : o.bind f = some r) : ∃ x, o = some x ∧ f x = some r := by
  cases o with
  | none => cases h
  | some x => exact ⟨x, rfl, h⟩
def oc {α : Type} (q : Option Nat) (a : α) (b : Nat → α) : α := match q with
  | none => a
  | some r => b r
theorem oc_n {α : Type} {a : α} {b : Nat → α} {r : α} (h : oc none a b = r) : a = r := h
theorem oc_s {α : Type} {a : α} {b : Nat → α} {r : α} {q : Nat} (h : oc (some q) a b = r) : b q = r := h
theorem ite_t {α : Type} {c : Prop} [Decidable c] {a b r : α} (h : (if c then a else b) = r) (hc : c) : a = r := by rw [if_pos hc] at h; exact h
theorem ite_f {α : Type} {c : Prop} [Decidable c] {a b r : α} (h : (if c then a else b) = r) (hc : ¬ c) : b = r := by rw [if_neg hc] at h; exact h
def itr {α : Type} (st : α → α) (z : α) : Nat → α
  | 0 => z
  | n + 1 => st (itr st z n)
abbrev isC (q : Nat) : Prop := 5 ≤ q ∧ q < 10
abbrev isS (g : Nat) : Prop := g < 6
theorem vS {g : Nat} (h : g < 6) {r : Nat} (hr : r < 10) : vld g r := Or.inl ⟨h, hr⟩
theorem vC {g q : Nat} (h : g < 6) (hq : isC q) : vld g q := Or.inl ⟨h, hq.2⟩
theorem v6 {r : Nat} (hr : r < 3) : vld 6 r := Or.inr (Or.inl ⟨rfl, hr⟩)
theorem v7 {r : Nat} (hr : r < 4) : vld 7 r := Or.inr (Or.inr ⟨rfl, hr⟩)
abbrev QI (E : WE) (A : Nat → Prop) (below : List Frame) (args : Array Value) (s : State) (r : Int32) (G' : M3) (K' : J3) : State → Prop := MQ below (va_Qi (fun (r1 : Int32) (_ : Unit) => r1 = r) (fun _ t => PosM E G' K' t) A) args s 0 0 A
abbrev QL (E : WE) (A : Nat → Prop) (below : List Frame) (args : Array Value) (s : State) (r : Int64) (G' : M3) (K' : J3) : State → Prop := MQ below (va_Ql (fun (r1 : Int64) (_ : Unit) => r1 = r) (fun _ t => PosM E G' K' t) A) args s 0 0 A
abbrev QD (E : WE) (A : Nat → Prop) (below : List Frame) (args : Array Value) (s : State) (r : UInt64) (G' : M3) (K' : J3) : State → Prop := MQ below (va_Qd (fun (r1 : UInt64) (_ : Unit) => r1 = r) (fun _ t => PosM E G' K' t) A) args s 0 0 A
abbrev QV (E : WE) (A : Nat → Prop) (below : List Frame) (args : Array Value) (s : State) (G' : M3) (K' : J3) : State → Prop := MQ below (va_Qv (fun (_ : Unit) => True) (fun _ t => PosM E G' K' t) A) args s 0 0 A
abbrev QQ (E : WE) (A : Nat → Prop) (below : List Frame) (args : Array Value) (s : State) (r : Option Nat) (G' : M3) (K' : J3) : State → Prop := MQ below (va_Qq (fun (r1 : Option Nat) (_ : Unit) => r1 = r) (fun _ t => PosM E G' K' t) A) args s 0 0 A
end
section
section XR
variable {E : WE} {A : Nat → Prop} {p : Program} {l : Launch} {e : Env} {R : Room} {s : State} {m : MethodId} {args : Array Value} {below : List Frame} {meth : Method} {c : Code} {H : Heap} {locs : List Loc} {cells slots : Nat} {Q : State → Prop}
variable {w0 : Cond} {cc : ByteArray} {nL : Nat} {ret : Option FieldType} {own : String} {pc index : Nat} {ls : Array Slot} {rest : List Value} {G : M3} {K : J3}
theorem x_hts (C : Cx E A p s m args meth c w0 cc nL ret own) {w : Cond} (h : w ∈ wsL_law) : w.before args s = true := C.2.2.2.2.2.1 _ (List.mem_cons_of_mem _ h)
theorem x_D (C : Cx E A p s m args meth c w0 cc nL ret own) : va_D A (Wl E G K) := Wl_D C.2.2.2.2.2.2.2.1.2.1 C.2.2.2.2.2.2.2.2.2 G K
theorem x_get {ci N k g r : Nat} {T : u_T} {Cn : String} {fs : List Value} {v : Value} (C : Cx E A p s m args meth c w0 cc nL ret own) (w : Wd E A s G K H locs) (hv : vld g r) (hc : cel E g r (G g r) (K g r) = .inr (ci, fs)) (hcl : vwCl[ci]? = some (Cn, T, N)) (hin : ∀ w ∈ u_ws Cn T N, w ∈ wsL_law) (hk : k < N) (hw : Cond.fieldLink own index (T k).1 (T k).2.1 (T k).2.2.1 ∈ wsL_law) (hf : fs[k]? = some v) (hd : decode cc pc = .ok (.getfield index, 3))
    (kk : W p l e R s m args below meth c H locs cells slots Q (F0 m (pc + 3) ls (v :: rest))) : W p l e R s m args below meth c H locs cells slots Q (F0 m pc ls (.ref (ad E g r) :: rest)) := by
  obtain ⟨hx, hb, -, -, hown, hts, -, hKK, -, -⟩ := id C
  have he := Wl_get (E := E) (G := G) (K := K) hv
  rw [hc] at he
  exact va_get (D := E.1) hx hb hts (fun w h => List.mem_cons_of_mem _ (hin w h)) hown hKK.1 w.1 (pl g r) he hcl k hk (x_hts C hw) (fun _ h => h) hf hd kk
theorem x_put {ci N k g r : Nat} {T : u_T} {Cn : String} {fs : M1 → List Value} {x : Int32} {ty : FieldType} {ty0 : Nat → FieldType} (C : Cx E A p s m args meth c w0 cc nL ret own) (w : Wd E A s G K H locs) (hv : vld g r) (hc : ∀ x y, cel E g r x y = .inr (ci, fs x)) (hcl : vwCl[ci]? = some (Cn, T, N)) (hin : ∀ w ∈ u_ws Cn T N, w ∈ wsL_law) (hk : k < N) (hw : Cond.fieldLink own index (T k).1 (T k).2.1 (T k).2.2.1 ∈ wsL_law) (hty : ∀ k, k < N → parseFieldDescriptor (T k).2.2.1 = some (ty0 k)) (hnm : ∀ a, a < N → ∀ b, b < N → a ≠ b → (T a).2.1 ≠ (T b).2.1) (hfin : (T k).2.2.2 = false) (hdd : parseFieldDescriptor (T k).2.2.1 = some ty) (hn : narrow ty (.int x) = .int x) (hfit : fits ty (.int x) = true) (hl : k < (fs (G g r)).length) (hs : fs (sg (G g r) k x) = (fs (G g r)).set k (.int x)) (hd : decode cc pc = .ok (.putfield index, 3))
    (kk : ∀ (H1 : Heap) (locs1 : List Loc), Wd E A s (up3 G g r k x) K H1 locs1 → W p l e R s m args below meth c H1 locs1 cells slots Q (F0 m (pc + 3) ls rest)) : W p l e R s m args below meth c H locs cells slots Q (F0 m pc ls (.int x :: .ref (ad E g r) :: rest)) := by
  obtain ⟨hx, hb, -, -, hown, hts, -, hKK, -, -⟩ := id C
  have he := Wl_get (E := E) (G := G) (K := K) hv
  rw [hc] at he
  refine va_put (D := E.1) hx hb hts (fun w h => List.mem_cons_of_mem _ (hin w h)) ty0 hty hnm hown hKK.1 w.1 (x_D C) w.2 (pl g r) he hcl k hk (x_hts C hw) (fun _ h => h) hfin hdd hn hfit hl hd (fun H1 locs1 hP _ hS => kk H1 locs1 ⟨?_, hS⟩)
  rw [← hs, ← hc (sg (G g r) k x) (K g r), Wl_setI hv] at hP
  exact hP
theorem x_aldI {n g r ki : Nat} {i : Int32} (C : Cx E A p s m args meth c w0 cc nL ret own) (w : Wd E A s G K H locs) (hv : vld g r) (hc : ∀ x y, cel E g r x y = .inl (E.2.1 0, n, .inl x)) (hi : inb i n) (hk : i.toNatClampNeg = ki) (hd : decode cc pc = .ok (.iaload, 1))
    (kk : W p l e R s m args below meth c H locs cells slots Q (F0 m (pc + 1) ls (.int (G g r ki) :: rest))) : W p l e R s m args below meth c H locs cells slots Q (F0 m pc ls (.int i :: .ref (ad E g r) :: rest)) := by
  obtain ⟨hx, hb, -, -, hown, hts, -, hKK, -, -⟩ := id C
  have he := Wl_get (E := E) (G := G) (K := K) hv
  rw [hc] at he
  subst hk
  exact va_iald (D := E.1) hx hb hKK.1 w.1 (pl g r) 0 he rfl (inb_in hi) hd kk
theorem x_aldJ {n g r ki : Nat} {i : Int32} (C : Cx E A p s m args meth c w0 cc nL ret own) (w : Wd E A s G K H locs) (hv : vld g r) (hc : ∀ x y, cel E g r x y = .inl (E.2.1 1, n, .inr (.inl y))) (hi : inb i n) (hk : i.toNatClampNeg = ki) (hd : decode cc pc = .ok (.laload, 1))
    (kk : W p l e R s m args below meth c H locs cells slots Q (F0 m (pc + 1) ls (.long (K g r ki) :: rest))) : W p l e R s m args below meth c H locs cells slots Q (F0 m pc ls (.int i :: .ref (ad E g r) :: rest)) := by
  obtain ⟨hx, hb, -, -, hown, hts, -, hKK, -, -⟩ := id C
  have he := Wl_get (E := E) (G := G) (K := K) hv
  rw [hc] at he
  subst hk
  exact va_lald (D := E.1) hx hb hKK.1 w.1 (pl g r) 1 he rfl (inb_in hi) hd kk
theorem x_astI {n g r ki : Nat} {i x : Int32} (C : Cx E A p s m args meth c w0 cc nL ret own) (w : Wd E A s G K H locs) (hv : vld g r) (hc : ∀ x y, cel E g r x y = .inl (E.2.1 0, n, .inl x)) (hi : inb i n) (hk : i.toNatClampNeg = ki) (hd : decode cc pc = .ok (.iastore, 1))
    (kk : ∀ (H1 : Heap) (locs1 : List Loc), Wd E A s (up3 G g r ki x) K H1 locs1 → W p l e R s m args below meth c H1 locs1 cells slots Q (F0 m (pc + 1) ls rest)) : W p l e R s m args below meth c H locs cells slots Q (F0 m pc ls (.int x :: .int i :: .ref (ad E g r) :: rest)) := by
  obtain ⟨hx, hb, -, -, hown, hts, -, hKK, -, -⟩ := id C
  have he := Wl_get (E := E) (G := G) (K := K) hv
  rw [hc] at he
  subst hk
  refine va_iast (D := E.1) hx hb hKK.1 w.1 (x_D C) w.2 (pl g r) 0 he rfl (inb_in hi) hd (fun H1 locs1 hP _ hS => kk H1 locs1 ⟨?_, hS⟩)
  rw [show upd (G g r) i.toNatClampNeg x = sg (G g r) i.toNatClampNeg x from rfl, ← hc (sg (G g r) i.toNatClampNeg x) (K g r), Wl_setI hv] at hP
  exact hP
theorem x_astJ {n g r ki : Nat} {i : Int32} {x : Int64} (C : Cx E A p s m args meth c w0 cc nL ret own) (w : Wd E A s G K H locs) (hv : vld g r) (hc : ∀ x y, cel E g r x y = .inl (E.2.1 1, n, .inr (.inl y))) (hi : inb i n) (hk : i.toNatClampNeg = ki) (hd : decode cc pc = .ok (.lastore, 1))
    (kk : ∀ (H1 : Heap) (locs1 : List Loc), Wd E A s G (up3 K g r ki x) H1 locs1 → W p l e R s m args below meth c H1 locs1 cells slots Q (F0 m (pc + 1) ls rest)) : W p l e R s m args below meth c H locs cells slots Q (F0 m pc ls (.long x :: .int i :: .ref (ad E g r) :: rest)) := by
  obtain ⟨hx, hb, -, -, hown, hts, -, hKK, -, -⟩ := id C
  have he := Wl_get (E := E) (G := G) (K := K) hv
  rw [hc] at he
  subst hk
  refine va_last (D := E.1) hx hb hKK.1 w.1 (x_D C) w.2 (pl g r) 1 he rfl (inb_in hi) hd (fun H1 locs1 hP _ hS => kk H1 locs1 ⟨?_, hS⟩)
  rw [show vp_updL (K g r) i.toNatClampNeg x = sg (K g r) i.toNatClampNeg x from rfl, ← hc (G g r) (sg (K g r) i.toNatClampNeg x), Wl_setJ hv] at hP
  exact hP
theorem x_alen {n g r : Nat} {v : Int32} {ty : FieldType} {t0 : Nat} {X : ClassId} {Y : (Nat → Int32) ⊕ _} (C : Cx E A p s m args meth c w0 cc nL ret own) (w : Wd E A s G K H locs) (hv : vld g r) (hc : cel E g r (G g r) (K g r) = .inl (X, n, Y)) (ht : (tyW E)[t0]? = some (X, ty)) (hvv : Int32.ofNat n = v) (hd : decode cc pc = .ok (.arraylength, 1))
    (kk : W p l e R s m args below meth c H locs cells slots Q (F0 m (pc + 1) ls (.int v :: rest))) : W p l e R s m args below meth c H locs cells slots Q (F0 m pc ls (.ref (ad E g r) :: rest)) := by
  obtain ⟨hx, hb, -, -, hown, hts, -, hKK, -, -⟩ := id C
  have he := Wl_get (E := E) (G := G) (K := K) hv
  rw [hc] at he
  exact va_alen (D := E.1) hx hb hKK.1 w.1 (pl g r) t0 he ht hvv hd kk
theorem inb_lt {i : Int32} {n : Nat} (h : inb i n) : i.toNatClampNeg < n := by
  obtain ⟨h1, h2⟩ := h
  show i.toInt.toNat < n
  omega
/-- a compressor out of its row; a saved state out of its row -/
theorem x_aldC {g : Nat} {i : Int32} (C : Cx E A p s m args meth c w0 cc nL ret own) (w : Wd E A s G K H locs) (hg : g < 6) (hi : inb i 5) (hd : decode cc pc = .ok (.aaload, 1))
    (kk : W p l e R s m args below meth c H locs cells slots Q (F0 m (pc + 1) ls (.ref (ad E g (5 + i.toNatClampNeg)) :: rest))) : W p l e R s m args below meth c H locs cells slots Q (F0 m pc ls (.int i :: .ref (ad E g 4) :: rest)) := by
  obtain ⟨hx, hb, -, -, hown, hts, -, hKK, -, -⟩ := id C
  have he := Wl_get (E := E) (G := G) (K := K) (vS hg (show 4 < 10 by omega))
  rw [cel_S hg] at he
  refine va_aldq (D := E.1) hx hb hKK.1 w.1 (pl g 4) 2 he rfl (inb_in hi) hd ?_
  rw [if_pos (inb_lt hi)]
  exact kk
theorem x_aldS {i : Int32} (C : Cx E A p s m args meth c w0 cc nL ret own) (w : Wd E A s G K H locs) (hi : inb i 4) (hd : decode cc pc = .ok (.aaload, 1))
    (kk : W p l e R s m args below meth c H locs cells slots Q (F0 m (pc + 1) ls (.ref (ad E (2 + i.toNatClampNeg) 0) :: rest))) : W p l e R s m args below meth c H locs cells slots Q (F0 m pc ls (.int i :: .ref (ad E 6 2) :: rest)) := by
  obtain ⟨hx, hb, -, -, hown, hts, -, hKK, -, -⟩ := id C
  have he := Wl_get (E := E) (G := G) (K := K) (v6 (show 2 < 3 by omega))
  refine va_aldq (D := E.1) hx hb hKK.1 w.1 (pl 6 2) 3 he rfl (inb_in hi) hd ?_
  rw [if_pos (inb_lt hi)]
  exact kk
/-- a static row: its address, then a place of it -/
theorem x_srow {n : String} {f : Nat → Int32} (C : Cx E A p s m args meth c w0 cc nL ret own) (w : Wd E A s G K H locs) (hZ : rowZ n f A s s.heap) (hw : Cond.fieldLink own index "AirStation" n "[I" ∈ wsL_law) (hd : decode cc pc = .ok (.getstatic index, 3))
    (kk : ∀ b : Nat, va_X b 8 f s s.heap → b < s.heap.size → ¬ A b → W p l e R s m args below meth c H locs cells slots Q (F0 m (pc + 3) ls (.ref b :: rest))) : W p l e R s m args below meth c H locs cells slots Q (F0 m pc ls rest) := by
  obtain ⟨hx, hb, -, -, hown, hts, -, hKK, -, -⟩ := id C
  obtain ⟨b, h1, h2, h3, h4⟩ := hZ
  exact va_gets hx hb h1 w.2 hown (x_hts C hw) (fun _ h => h) hd (kk b h2 h3 h4)
theorem x_srowN {n : String} {f : Nat → Int32} {host : String} (C : Cx E A p s m args meth c w0 cc nL ret own) (w : Wd E A s G K H locs) (hZ : rowZ n f A s s.heap) (hw : Cond.fieldLinkNest own index "AirStation" n "[I" host ∈ nestW) (hd : decode cc pc = .ok (.getstatic index, 3))
    (kk : ∀ b : Nat, va_X b 8 f s s.heap → b < s.heap.size → ¬ A b → W p l e R s m args below meth c H locs cells slots Q (F0 m (pc + 3) ls (.ref b :: rest))) : W p l e R s m args below meth c H locs cells slots Q (F0 m pc ls rest) := by
  obtain ⟨hx, hb, -, -, hown, hts, -, hKK, -, -⟩ := id C
  obtain ⟨b, h1, h2, h3, h4⟩ := hZ
  exact va_getsN hx hb h1 w.2 hown (va_Nw.use rfl (hKK.2.2.1 _ hw)) (fun _ h => h) hd (kk b h2 h3 h4)
theorem x_sld {b ki : Nat} {f : Nat → Int32} {i : Int32} (C : Cx E A p s m args meth c w0 cc nL ret own) (w : Wd E A s G K H locs) (hX : va_X b 8 f s s.heap) (hbl : b < s.heap.size) (hbA : ¬ A b) (hi : inb i 8) (hk : i.toNatClampNeg = ki) (hd : decode cc pc = .ok (.iaload, 1))
    (kk : W p l e R s m args below meth c H locs cells slots Q (F0 m (pc + 1) ls (.int (f ki) :: rest))) : W p l e R s m args below meth c H locs cells slots Q (F0 m pc ls (.int i :: .ref b :: rest)) := by
  subst hk
  exact va_sld C.1 C.2.1 hX hbl hbA w.2 (inb_in hi) hd kk
theorem x_min {x y : Int32} (C : Cx E A p s m args meth c w0 cc nL ret own) (hl : ls.size = nL) (q1 : Cond.methodLink own index Lib.Math.min.name ∈ wsL_law) (q2 : Cond.static Lib.Math.min.name ∈ wsL_law) (q3 : Cond.initialized "java/lang/Math" ∈ wsL_law) (q4 : Cond.code Lib.Math.min.name Lib.Math.min.code 2 (some .int) ∈ wsL_law) (hf : 1 ≤ R.frames) (hlo : (rest.map fun v => v.category).sum + 13 ≤ R.locals) (hc : cells ≤ R.cells) (hs : slots ≤ R.slots) (hd : decode cc pc = .ok (.invokestatic index, 3))
    (kk : W p l e R s m args below meth c H locs cells slots Q (F0 m (pc + 3) ls (.int (if y < x then y else x) :: rest))) : W p l e R s m args below meth c H locs cells slots Q (F0 m pc ls (.int y :: .int x :: rest)) := by
  obtain ⟨hx, hb, -, hml, hown, hts, -, hKK, -, -⟩ := id C
  exact va_mmin hx hb (hml.trans hl.symm) hown (x_hts C q1) (x_hts C q2) (x_hts C q3) (x_hts C q4) hf hlo hc hs hd kk
theorem x_max {x y : Int32} (C : Cx E A p s m args meth c w0 cc nL ret own) (hl : ls.size = nL) (q1 : Cond.methodLink own index Lib.Math.max.name ∈ wsL_law) (q2 : Cond.static Lib.Math.max.name ∈ wsL_law) (q3 : Cond.initialized "java/lang/Math" ∈ wsL_law) (q4 : Cond.code Lib.Math.max.name Lib.Math.max.code 2 (some .int) ∈ wsL_law) (hf : 1 ≤ R.frames) (hlo : (rest.map fun v => v.category).sum + 13 ≤ R.locals) (hc : cells ≤ R.cells) (hs : slots ≤ R.slots) (hd : decode cc pc = .ok (.invokestatic index, 3))
    (kk : W p l e R s m args below meth c H locs cells slots Q (F0 m (pc + 3) ls (.int (if x < y then y else x) :: rest))) : W p l e R s m args below meth c H locs cells slots Q (F0 m pc ls (.int y :: .int x :: rest)) := by
  obtain ⟨hx, hb, -, hml, hown, hts, -, hKK, -, -⟩ := id C
  exact va_mmax hx hb (hml.trans hl.symm) hown (x_hts C q1) (x_hts C q2) (x_hts C q3) (x_hts C q4) hf hlo hc hs hd kk
/-- System.arraycopy(row, 0, row, 0, n) between two rows of the world -/
def cpy {α : Type} (f g : Nat → α) (n : Nat) : Nat → α := fun i => if i < n then f i else g i
theorem cpy_va {α : Type} (f g : Nat → α) (n : Nat) : va_cpy f g 0 0 n = cpy f g n := by
  funext i
  simp [va_cpy, cpy]
theorem x_cpyI {n0 n1 g r g' r' kn : Nat} {n : Int32} (C : Cx E A p s m args meth c w0 cc nL ret own) (w : Wd E A s G K H locs) (hl : ls.size = nL) (hv' : vld g' r') (hv : vld g r) (hc' : ∀ x y, cel E g' r' x y = .inl (E.2.1 0, n0, .inl x)) (hc : ∀ x y, cel E g r x y = .inl (E.2.1 0, n1, .inl x)) (hn : ¬ n < 0) (hk : n.toNatClampNeg = kn) (h4 : kn ≤ n0) (h5 : kn ≤ n1)
    (q1 : Cond.methodLink own index arraycopyName ∈ wsL_law) (q2 : Cond.native arraycopyName ∈ wsL_law) (q3 : Cond.static arraycopyName ∈ wsL_law) (q4 : Cond.initialized "java/lang/System" ∈ wsL_law) (hf : 1 ≤ R.frames) (hlo : (rest.map fun v => v.category).sum + (nativeFrameWords "java/lang/System" "arraycopy" 5 + 11) ≤ R.locals) (hd : decode cc pc = .ok (.invokestatic index, 3))
    (kk : ∀ (H1 : Heap) (locs1 : List Loc), Wd E A s (sg G g (sg (G g) r (cpy (G g' r') (G g r) kn))) K H1 locs1 → W p l e R s m args below meth c H1 locs1 cells slots Q (F0 m (pc + 3) ls rest)) : W p l e R s m args below meth c H locs cells slots Q (F0 m pc ls (.int n :: .int 0 :: .ref (ad E g r) :: .int 0 :: .ref (ad E g' r') :: rest)) := by
  obtain ⟨hx, hb, -, hml, hown, hts, -, hKK, -, -⟩ := id C
  have he := Wl_get (E := E) (G := G) (K := K) hv
  have he' := Wl_get (E := E) (G := G) (K := K) hv'
  rw [hc] at he
  rw [hc'] at he'
  subst hk
  have z0 : (0 : Int32).toNatClampNeg = 0 := by decide
  refine va_copyi (D := E.1) hx hb (hml.trans hl.symm) hown (x_hts C q1) (x_hts C q2) (x_hts C q3) (x_hts C q4) hKK.1 w.1 (x_D C) w.2 (pl g' r') (pl g r) 0 0 he' he rfl rfl rfl (by decide) (by decide) hn (by rw [z0]; omega) (by rw [z0]; omega) (fun i _ => rfl) hf hlo hd (fun H1 locs1 hP _ hS => kk H1 locs1 ⟨?_, hS⟩)
  rw [z0, cpy_va, ← hc (cpy (G g' r') (G g r) n.toNatClampNeg) (K g r), Wl_setI hv] at hP
  exact hP
theorem x_cpyJ {n0 n1 g r g' r' kn : Nat} {n : Int32} (C : Cx E A p s m args meth c w0 cc nL ret own) (w : Wd E A s G K H locs) (hl : ls.size = nL) (hv' : vld g' r') (hv : vld g r) (hc' : ∀ x y, cel E g' r' x y = .inl (E.2.1 1, n0, .inr (.inl y))) (hc : ∀ x y, cel E g r x y = .inl (E.2.1 1, n1, .inr (.inl y))) (hn : ¬ n < 0) (hk : n.toNatClampNeg = kn) (h4 : kn ≤ n0) (h5 : kn ≤ n1)
    (q1 : Cond.methodLink own index arraycopyName ∈ wsL_law) (q2 : Cond.native arraycopyName ∈ wsL_law) (q3 : Cond.static arraycopyName ∈ wsL_law) (q4 : Cond.initialized "java/lang/System" ∈ wsL_law) (hf : 1 ≤ R.frames) (hlo : (rest.map fun v => v.category).sum + (nativeFrameWords "java/lang/System" "arraycopy" 5 + 11) ≤ R.locals) (hd : decode cc pc = .ok (.invokestatic index, 3))
    (kk : ∀ (H1 : Heap) (locs1 : List Loc), Wd E A s G (sg K g (sg (K g) r (cpy (K g' r') (K g r) kn))) H1 locs1 → W p l e R s m args below meth c H1 locs1 cells slots Q (F0 m (pc + 3) ls rest)) : W p l e R s m args below meth c H locs cells slots Q (F0 m pc ls (.int n :: .int 0 :: .ref (ad E g r) :: .int 0 :: .ref (ad E g' r') :: rest)) := by
  obtain ⟨hx, hb, -, hml, hown, hts, -, hKK, -, -⟩ := id C
  have he := Wl_get (E := E) (G := G) (K := K) hv
  have he' := Wl_get (E := E) (G := G) (K := K) hv'
  rw [hc] at he
  rw [hc'] at he'
  subst hk
  have z0 : (0 : Int32).toNatClampNeg = 0 := by decide
  refine va_copyl (D := E.1) hx hb (hml.trans hl.symm) hown (x_hts C q1) (x_hts C q2) (x_hts C q3) (x_hts C q4) hKK.1 w.1 (x_D C) w.2 (pl g' r') (pl g r) 1 1 he' he rfl rfl rfl (by decide) (by decide) hn (by rw [z0]; omega) (by rw [z0]; omega) (fun i _ => rfl) hf hlo hd (fun H1 locs1 hP _ hS => kk H1 locs1 ⟨?_, hS⟩)
  rw [z0, cpy_va, ← hc (G g r) (cpy (K g' r') (K g r) n.toNatClampNeg), Wl_setJ hv] at hP
  exact hP
/-! ends -/
theorem x_fr (C : Cx E A p s m args meth c w0 cc nL ret own) (w : Wd E A s G K H locs) {t : State} (ht : t.heap = H) : PosM E G K t ∧ va_F A s t := ⟨by rw [PosM, ht]; exact w.1, w.2.F ht⟩

theorem x_ri {G' : M3} {K' : J3} {v r : Int32} (C : Cx E A p s m args meth c w0 cc nL (some .int) own) (w : Wd E A s G K H locs) (hv : v = r) (hG : G = G') (hK : K = K') (hd : decode cc pc = .ok (.ireturn, 1)) : W p l e R s m args below meth c H locs cells slots (MQ below (va_Qi (fun (r1 : Int32) (_ : Unit) => r1 = r) (fun _ t => PosM E G' K' t) A) args s cells slots A) (F0 m pc ls [.int v]) := by
  obtain ⟨hx, hb, hr, -, -, -, hlocks, -, -, -⟩ := id C
  subst hG hK
  exact W.iret hx hb hr (fun t ht _ => ⟨⟨v, (), rfl, hv, (x_fr C w ht).1⟩, (x_fr C w ht).2⟩) w.2.2.2 hd

theorem x_rl {G' : M3} {K' : J3} {v r : Int64} (C : Cx E A p s m args meth c w0 cc nL (some .long) own) (w : Wd E A s G K H locs) (hv : v = r) (hG : G = G') (hK : K = K') (hd : decode cc pc = .ok (.lreturn, 1)) : W p l e R s m args below meth c H locs cells slots (MQ below (va_Ql (fun (r1 : Int64) (_ : Unit) => r1 = r) (fun _ t => PosM E G' K' t) A) args s cells slots A) (F0 m pc ls [.long v]) := by
  obtain ⟨hx, hb, hr, -, -, -, hlocks, -, -, -⟩ := id C
  subst hG hK
  exact W.lret hx hb hr (fun t ht _ => ⟨⟨v, (), rfl, hv, (x_fr C w ht).1⟩, (x_fr C w ht).2⟩) w.2.2.2 hd

theorem x_rd {G' : M3} {K' : J3} {v r : UInt64} (C : Cx E A p s m args meth c w0 cc nL (some .double) own) (w : Wd E A s G K H locs) (hv : v = r) (hG : G = G') (hK : K = K') (hd : decode cc pc = .ok (.dreturn, 1)) : W p l e R s m args below meth c H locs cells slots (MQ below (va_Qd (fun (r1 : UInt64) (_ : Unit) => r1 = r) (fun _ t => PosM E G' K' t) A) args s cells slots A) (F0 m pc ls [.double v]) := by
  obtain ⟨hx, hb, hr, -, -, -, hlocks, -, -, -⟩ := id C
  subst hG hK
  exact W.dret hx hb hr (fun t ht _ => ⟨⟨v, (), rfl, hv, (x_fr C w ht).1⟩, (x_fr C w ht).2⟩) w.2.2.2 hd

theorem x_rz {G' : M3} {K' : J3} {v r : Int32} (C : Cx E A p s m args meth c w0 cc nL (some .boolean) own) (w : Wd E A s G K H locs) (hz : v = 0 ∨ v = 1) (hv : v = r) (hG : G = G') (hK : K = K') (hd : decode cc pc = .ok (.ireturn, 1)) : W p l e R s m args below meth c H locs cells slots (MQ below (va_Qi (fun (r1 : Int32) (_ : Unit) => r1 = r) (fun _ t => PosM E G' K' t) A) args s cells slots A) (F0 m pc ls [.int v]) := by
  obtain ⟨hx, hb, hr, -, -, -, hlocks, -, -, -⟩ := id C
  subst hG hK
  exact W.zret hx hb hr (by rcases hz with rfl | rfl <;> rfl) (fun t ht _ => ⟨⟨v, (), rfl, hv, (x_fr C w ht).1⟩, (x_fr C w ht).2⟩) w.2.2.2 hd
theorem x_rv {G' : M3} {K' : J3} (C : Cx E A p s m args meth c w0 cc nL none own) (w : Wd E A s G K H locs) (hG : G = G') (hK : K = K') (hd : decode cc pc = .ok (.return_, 1)) : W p l e R s m args below meth c H locs cells slots (MQ below (va_Qv (fun (_ : Unit) => True) (fun _ t => PosM E G' K' t) A) args s cells slots A) (F0 m pc ls []) := by
  obtain ⟨hx, hb, hr, -, -, -, hlocks, -, -, -⟩ := id C
  subst hG hK
  exact W.vret hx hb hr (fun t ht _ => ⟨⟨(), rfl, trivial, (x_fr C w ht).1⟩, (x_fr C w ht).2⟩) w.2.2.2 hd
theorem x_rq {G' : M3} {K' : J3} {v r : Option Nat} {cn : String} (C : Cx E A p s m args meth c w0 cc nL (some (.object cn)) own) (w : Wd E A s G K H locs) {x : Value} (hx1 : x = va_rf v) (hv : v = r) (hG : G = G') (hK : K = K') (hd : decode cc pc = .ok (.areturn, 1)) : W p l e R s m args below meth c H locs cells slots (MQ below (va_Qq (fun (r1 : Option Nat) (_ : Unit) => r1 = r) (fun _ t => PosM E G' K' t) A) args s cells slots A) (F0 m pc ls [x]) := by
  obtain ⟨hx, hb, hr, -, -, -, hlocks, -, -, -⟩ := id C
  subst hG hK hx1
  exact W.aret hx hb hr (Or.inl ⟨_, rfl⟩) (by cases v with | none => exact Or.inl rfl | some a => exact Or.inr ⟨a, rfl⟩) (fun t ht _ => ⟨⟨v, (), rfl, hv, (x_fr C w ht).1⟩, (x_fr C w ht).2⟩) w.2.2.2 hd

/-! calls -/
theorem x_goodAll : wsL_law.all goodWord = true := by decide +kernel
theorem x_good {w1 w2 : Cond} (h : w2 ∈ wsL_law) : GoodIn (wsM w1) (wsM w2) := by
  intro w hw
  have h2 : w ∈ wsL_law := by
    rcases List.mem_cons.mp hw with rfl | h3
    · exact h
    · exact h3
  exact ⟨List.mem_cons_of_mem _ h2, good_of_word (List.all_eq_true.mp x_goodAll w h2)⟩
theorem x_goodV {w1 w2 : Cond} {idx : Nat} {Cn : String} {y : MethodName} (h : w2 ∈ wsL_law) (q1 : Cond.methodLink own idx y ∈ wsL_law) (q2 : Cond.instanceMethod y ∈ wsL_law) (q3 : Cond.selects Cn y y ∈ wsL_law) (q4 : Cond.initialized Cn ∈ wsL_law) : GoodIn (wsM w1) (wsV own idx Cn y (wsM w2)) := by
  refine goodIn_app (fun w hw => ?_) (x_good h)
  have h2 : w ∈ wsL_law := by
    simp only [List.mem_cons, List.not_mem_nil, or_false] at hw
    rcases hw with rfl | rfl | rfl | rfl <;> assumption
  exact ⟨List.mem_cons_of_mem _ h2, good_of_word (List.all_eq_true.mp x_goodAll w h2)⟩
theorem x_goodS {w1 w2 : Cond} {idx : Nat} {y : MethodName} (h : w2 ∈ wsL_law) (q1 : Cond.methodLink own idx y ∈ wsL_law) (q2 : Cond.static y ∈ wsL_law) (q4 : Cond.initialized own ∈ wsL_law) : GoodIn (wsM w1) (wsS own idx y (wsM w2)) := by
  refine goodIn_app (fun w hw => ?_) (x_good h)
  have h2 : w ∈ wsL_law := by
    simp only [List.mem_cons, List.not_mem_nil, or_false] at hw
    rcases hw with rfl | rfl | rfl <;> assumption
  exact ⟨List.mem_cons_of_mem _ h2, good_of_word (List.all_eq_true.mp x_goodAll w h2)⟩
theorem x_pre (C : Cx E A p s m args meth c w0 cc nL ret own) (w : Wd E A s G K H locs) {U : State} (hU : U.heap = H) (hW : s.WarmedH U.vm) : PreM E G K H.size U := by
  obtain ⟨-, -, -, -, -, -, -, hKK, hA1, hA2⟩ := id C
  refine ⟨by rw [hU], by rw [hU]; exact w.1, KK.mv hKK w.2 hW hU (fun q h => ?_)⟩
  rcases h with ⟨g, r, hv, rfl⟩ | h
  · exact hA2 g r hv
  · exact hA1 q (Nat.le_trans w.2.1 h)
theorem x_sub (C : Cx E A p s m args meth c w0 cc nL ret own) (w : Wd E A s G K H locs) : ∀ q, AA E H.size q → A q := by
  obtain ⟨-, -, -, -, -, -, -, -, hA1, hA2⟩ := id C
  rintro q (⟨g, r, hv, rfl⟩ | h)
  · exact hA2 g r hv
  · exact hA1 q (Nat.le_trans w.2.1 h)

theorem x_cVi {y : MethodName} {cc2 : ByteArray} {n2 : Nat} {ret2 : Option FieldType} {rm2 : Room} {g r ci N : Nat} {fs : List Value} {Cn : String} {T : u_T} {st As : List Value} {v : Int32} {G' : M3} {K' : J3} (C : Cx E A p s m args meth c w0 cc nL ret own) (w : Wd E A s G K H locs) (hvl : vld g r) (hc : cel E g r (G g r) (K g r) = .inr (ci, fs)) (hcl : vwCl[ci]? = some (Cn, T, N))
    (hM : MtI l y (Cond.code y cc2 n2 ret2) rm2 E (.ref (ad E g r) :: As) G K v G' K') (q1 : Cond.methodLink own index y ∈ wsL_law) (q2 : Cond.instanceMethod y ∈ wsL_law) (q3 : Cond.selects Cn y y ∈ wsL_law) (q4 : Cond.initialized Cn ∈ wsL_law) (q5 : Cond.code y cc2 n2 ret2 ∈ wsL_law)
    (hd1 : y.cls = Cn ∧ y.cls ≠ "java/lang/invoke/MethodHandle" ∧ y.cls ≠ "java/lang/invoke/VarHandle" ∧ (parseMethodDescriptor y.desc).map (fun d => d.parameters.length) = some As.length) (h00 : rm2.cells = 0 ∧ rm2.slots = 0) (hR : rm2.frames + 1 ≤ R.frames ∧ 8 + (n2 + 11) + rm2.locals ≤ R.locals) (hcs : cells ≤ R.cells ∧ slots ≤ R.slots) (hl : ls.size = nL) (hst : (rest.map fun v => v.category).sum ≤ 8) (hst2 : st = As.reverse ++ .ref (ad E g r) :: rest) (hd : decode cc pc = .ok (.invokevirtual index, 3))
    (kk : ∀ (H1 : Heap) (locs1 : List Loc), Wd E A s G' K' H1 locs1 → W p l e R s m args below meth c H1 locs1 cells slots Q (F0 m (pc + 3) ls (.int v :: rest))) : W p l e R s m args below meth c H locs cells slots Q (F0 m pc ls st) := by
  obtain ⟨hx, hb, -, hml, hown, hts, -, hKK, -, -⟩ := id C
  have he := Wl_get (E := E) (G := G) (K := K) hvl
  rw [hc] at he
  refine va_calli (va_runV (As := As) (rest := rest) ⟨hx, hb, hml, hown, hts⟩ (hM H.size) (cwV As.length hts (x_goodV q5 q1 q2 q3 q4) rfl h00.1 h00.2 hd1 hR) ⟨PreM.blind, va_recv hKK.1 w.1 hcl he, fun U hU hW => ⟨rfl, x_pre C w hU hW⟩⟩ rfl rfl hl hst2 (lv_room hst) hd hcs) w.2 (fun q _ h => x_sub C w q h) (x_sub C w) (fun r u t H1 locs1 ht _ hw hB _ _ hS => by subst hw; exact kk H1 locs1 ⟨by rw [← ht]; exact hB, hS⟩)
theorem x_cSi {y : MethodName} {cc2 : ByteArray} {n2 : Nat} {ret2 : Option FieldType} {rm2 : Room} {st As : List Value} {v : Int32} {G' : M3} {K' : J3} (C : Cx E A p s m args meth c w0 cc nL ret own) (w : Wd E A s G K H locs)
    (hM : MtI l y (Cond.code y cc2 n2 ret2) rm2 E As G K v G' K') (q1 : Cond.methodLink own index y ∈ wsL_law) (q2 : Cond.static y ∈ wsL_law) (q4 : Cond.initialized own ∈ wsL_law) (q5 : Cond.code y cc2 n2 ret2 ∈ wsL_law)
    (hd1 : y.cls = own ∧ y.cls ≠ "java/lang/invoke/MethodHandle" ∧ y.cls ≠ "java/lang/invoke/VarHandle" ∧ (parseMethodDescriptor y.desc).map (fun d => d.parameters.length) = some As.length) (h00 : rm2.cells = 0 ∧ rm2.slots = 0) (hR : rm2.frames + 1 ≤ R.frames ∧ 8 + (n2 + 11) + rm2.locals ≤ R.locals) (hcs : cells ≤ R.cells ∧ slots ≤ R.slots) (hl : ls.size = nL) (hst : (rest.map fun v => v.category).sum ≤ 8) (hst2 : st = As.reverse ++ rest) (hd : decode cc pc = .ok (.invokestatic index, 3))
    (kk : ∀ (H1 : Heap) (locs1 : List Loc), Wd E A s G' K' H1 locs1 → W p l e R s m args below meth c H1 locs1 cells slots Q (F0 m (pc + 3) ls (.int v :: rest))) : W p l e R s m args below meth c H locs cells slots Q (F0 m pc ls st) := by
  obtain ⟨hx, hb, -, hml, hown, hts, -, hKK, -, -⟩ := id C
  refine va_calli (va_runS (As := As) (rest := rest) ⟨hx, hb, hml, hown, hts⟩ (hM H.size) (cwS As.length hts (x_goodS q5 q1 q2 q4) rfl h00.1 h00.2 hd1 hR) ⟨PreM.blind, fun U hU hW => ⟨rfl, x_pre C w hU hW⟩⟩ rfl rfl hl hst2 (lv_room hst) hd hcs) w.2 (fun q _ h => x_sub C w q h) (x_sub C w) (fun r u t H1 locs1 ht _ hw hB _ _ hS => by subst hw; exact kk H1 locs1 ⟨by rw [← ht]; exact hB, hS⟩)

theorem x_cVl {y : MethodName} {cc2 : ByteArray} {n2 : Nat} {ret2 : Option FieldType} {rm2 : Room} {g r ci N : Nat} {fs : List Value} {Cn : String} {T : u_T} {st As : List Value} {v : Int64} {G' : M3} {K' : J3} (C : Cx E A p s m args meth c w0 cc nL ret own) (w : Wd E A s G K H locs) (hvl : vld g r) (hc : cel E g r (G g r) (K g r) = .inr (ci, fs)) (hcl : vwCl[ci]? = some (Cn, T, N))
    (hM : MtL l y (Cond.code y cc2 n2 ret2) rm2 E (.ref (ad E g r) :: As) G K v G' K') (q1 : Cond.methodLink own index y ∈ wsL_law) (q2 : Cond.instanceMethod y ∈ wsL_law) (q3 : Cond.selects Cn y y ∈ wsL_law) (q4 : Cond.initialized Cn ∈ wsL_law) (q5 : Cond.code y cc2 n2 ret2 ∈ wsL_law)
    (hd1 : y.cls = Cn ∧ y.cls ≠ "java/lang/invoke/MethodHandle" ∧ y.cls ≠ "java/lang/invoke/VarHandle" ∧ (parseMethodDescriptor y.desc).map (fun d => d.parameters.length) = some As.length) (h00 : rm2.cells = 0 ∧ rm2.slots = 0) (hR : rm2.frames + 1 ≤ R.frames ∧ 8 + (n2 + 11) + rm2.locals ≤ R.locals) (hcs : cells ≤ R.cells ∧ slots ≤ R.slots) (hl : ls.size = nL) (hst : (rest.map fun v => v.category).sum ≤ 8) (hst2 : st = As.reverse ++ .ref (ad E g r) :: rest) (hd : decode cc pc = .ok (.invokevirtual index, 3))
    (kk : ∀ (H1 : Heap) (locs1 : List Loc), Wd E A s G' K' H1 locs1 → W p l e R s m args below meth c H1 locs1 cells slots Q (F0 m (pc + 3) ls (.long v :: rest))) : W p l e R s m args below meth c H locs cells slots Q (F0 m pc ls st) := by
  obtain ⟨hx, hb, -, hml, hown, hts, -, hKK, -, -⟩ := id C
  have he := Wl_get (E := E) (G := G) (K := K) hvl
  rw [hc] at he
  refine va_calll (va_runV (As := As) (rest := rest) ⟨hx, hb, hml, hown, hts⟩ (hM H.size) (cwV As.length hts (x_goodV q5 q1 q2 q3 q4) rfl h00.1 h00.2 hd1 hR) ⟨PreM.blind, va_recv hKK.1 w.1 hcl he, fun U hU hW => ⟨rfl, x_pre C w hU hW⟩⟩ rfl rfl hl hst2 (lv_room hst) hd hcs) w.2 (fun q _ h => x_sub C w q h) (x_sub C w) (fun r u t H1 locs1 ht _ hw hB _ _ hS => by subst hw; exact kk H1 locs1 ⟨by rw [← ht]; exact hB, hS⟩)
theorem x_cSl {y : MethodName} {cc2 : ByteArray} {n2 : Nat} {ret2 : Option FieldType} {rm2 : Room} {st As : List Value} {v : Int64} {G' : M3} {K' : J3} (C : Cx E A p s m args meth c w0 cc nL ret own) (w : Wd E A s G K H locs)
    (hM : MtL l y (Cond.code y cc2 n2 ret2) rm2 E As G K v G' K') (q1 : Cond.methodLink own index y ∈ wsL_law) (q2 : Cond.static y ∈ wsL_law) (q4 : Cond.initialized own ∈ wsL_law) (q5 : Cond.code y cc2 n2 ret2 ∈ wsL_law)
    (hd1 : y.cls = own ∧ y.cls ≠ "java/lang/invoke/MethodHandle" ∧ y.cls ≠ "java/lang/invoke/VarHandle" ∧ (parseMethodDescriptor y.desc).map (fun d => d.parameters.length) = some As.length) (h00 : rm2.cells = 0 ∧ rm2.slots = 0) (hR : rm2.frames + 1 ≤ R.frames ∧ 8 + (n2 + 11) + rm2.locals ≤ R.locals) (hcs : cells ≤ R.cells ∧ slots ≤ R.slots) (hl : ls.size = nL) (hst : (rest.map fun v => v.category).sum ≤ 8) (hst2 : st = As.reverse ++ rest) (hd : decode cc pc = .ok (.invokestatic index, 3))
    (kk : ∀ (H1 : Heap) (locs1 : List Loc), Wd E A s G' K' H1 locs1 → W p l e R s m args below meth c H1 locs1 cells slots Q (F0 m (pc + 3) ls (.long v :: rest))) : W p l e R s m args below meth c H locs cells slots Q (F0 m pc ls st) := by
  obtain ⟨hx, hb, -, hml, hown, hts, -, hKK, -, -⟩ := id C
  refine va_calll (va_runS (As := As) (rest := rest) ⟨hx, hb, hml, hown, hts⟩ (hM H.size) (cwS As.length hts (x_goodS q5 q1 q2 q4) rfl h00.1 h00.2 hd1 hR) ⟨PreM.blind, fun U hU hW => ⟨rfl, x_pre C w hU hW⟩⟩ rfl rfl hl hst2 (lv_room hst) hd hcs) w.2 (fun q _ h => x_sub C w q h) (x_sub C w) (fun r u t H1 locs1 ht _ hw hB _ _ hS => by subst hw; exact kk H1 locs1 ⟨by rw [← ht]; exact hB, hS⟩)

theorem x_cVd {y : MethodName} {cc2 : ByteArray} {n2 : Nat} {ret2 : Option FieldType} {rm2 : Room} {g r ci N : Nat} {fs : List Value} {Cn : String} {T : u_T} {st As : List Value} {v : UInt64} {G' : M3} {K' : J3} (C : Cx E A p s m args meth c w0 cc nL ret own) (w : Wd E A s G K H locs) (hvl : vld g r) (hc : cel E g r (G g r) (K g r) = .inr (ci, fs)) (hcl : vwCl[ci]? = some (Cn, T, N))
    (hM : MtD l y (Cond.code y cc2 n2 ret2) rm2 E (.ref (ad E g r) :: As) G K v G' K') (q1 : Cond.methodLink own index y ∈ wsL_law) (q2 : Cond.instanceMethod y ∈ wsL_law) (q3 : Cond.selects Cn y y ∈ wsL_law) (q4 : Cond.initialized Cn ∈ wsL_law) (q5 : Cond.code y cc2 n2 ret2 ∈ wsL_law)
    (hd1 : y.cls = Cn ∧ y.cls ≠ "java/lang/invoke/MethodHandle" ∧ y.cls ≠ "java/lang/invoke/VarHandle" ∧ (parseMethodDescriptor y.desc).map (fun d => d.parameters.length) = some As.length) (h00 : rm2.cells = 0 ∧ rm2.slots = 0) (hR : rm2.frames + 1 ≤ R.frames ∧ 8 + (n2 + 11) + rm2.locals ≤ R.locals) (hcs : cells ≤ R.cells ∧ slots ≤ R.slots) (hl : ls.size = nL) (hst : (rest.map fun v => v.category).sum ≤ 8) (hst2 : st = As.reverse ++ .ref (ad E g r) :: rest) (hd : decode cc pc = .ok (.invokevirtual index, 3))
    (kk : ∀ (H1 : Heap) (locs1 : List Loc), Wd E A s G' K' H1 locs1 → W p l e R s m args below meth c H1 locs1 cells slots Q (F0 m (pc + 3) ls (.double v :: rest))) : W p l e R s m args below meth c H locs cells slots Q (F0 m pc ls st) := by
  obtain ⟨hx, hb, -, hml, hown, hts, -, hKK, -, -⟩ := id C
  have he := Wl_get (E := E) (G := G) (K := K) hvl
  rw [hc] at he
  refine va_calld (va_runV (As := As) (rest := rest) ⟨hx, hb, hml, hown, hts⟩ (hM H.size) (cwV As.length hts (x_goodV q5 q1 q2 q3 q4) rfl h00.1 h00.2 hd1 hR) ⟨PreM.blind, va_recv hKK.1 w.1 hcl he, fun U hU hW => ⟨rfl, x_pre C w hU hW⟩⟩ rfl rfl hl hst2 (lv_room hst) hd hcs) w.2 (fun q _ h => x_sub C w q h) (x_sub C w) (fun r u t H1 locs1 ht _ hw hB _ _ hS => by subst hw; exact kk H1 locs1 ⟨by rw [← ht]; exact hB, hS⟩)
theorem x_cSd {y : MethodName} {cc2 : ByteArray} {n2 : Nat} {ret2 : Option FieldType} {rm2 : Room} {st As : List Value} {v : UInt64} {G' : M3} {K' : J3} (C : Cx E A p s m args meth c w0 cc nL ret own) (w : Wd E A s G K H locs)
    (hM : MtD l y (Cond.code y cc2 n2 ret2) rm2 E As G K v G' K') (q1 : Cond.methodLink own index y ∈ wsL_law) (q2 : Cond.static y ∈ wsL_law) (q4 : Cond.initialized own ∈ wsL_law) (q5 : Cond.code y cc2 n2 ret2 ∈ wsL_law)
    (hd1 : y.cls = own ∧ y.cls ≠ "java/lang/invoke/MethodHandle" ∧ y.cls ≠ "java/lang/invoke/VarHandle" ∧ (parseMethodDescriptor y.desc).map (fun d => d.parameters.length) = some As.length) (h00 : rm2.cells = 0 ∧ rm2.slots = 0) (hR : rm2.frames + 1 ≤ R.frames ∧ 8 + (n2 + 11) + rm2.locals ≤ R.locals) (hcs : cells ≤ R.cells ∧ slots ≤ R.slots) (hl : ls.size = nL) (hst : (rest.map fun v => v.category).sum ≤ 8) (hst2 : st = As.reverse ++ rest) (hd : decode cc pc = .ok (.invokestatic index, 3))
    (kk : ∀ (H1 : Heap) (locs1 : List Loc), Wd E A s G' K' H1 locs1 → W p l e R s m args below meth c H1 locs1 cells slots Q (F0 m (pc + 3) ls (.double v :: rest))) : W p l e R s m args below meth c H locs cells slots Q (F0 m pc ls st) := by
  obtain ⟨hx, hb, -, hml, hown, hts, -, hKK, -, -⟩ := id C
  refine va_calld (va_runS (As := As) (rest := rest) ⟨hx, hb, hml, hown, hts⟩ (hM H.size) (cwS As.length hts (x_goodS q5 q1 q2 q4) rfl h00.1 h00.2 hd1 hR) ⟨PreM.blind, fun U hU hW => ⟨rfl, x_pre C w hU hW⟩⟩ rfl rfl hl hst2 (lv_room hst) hd hcs) w.2 (fun q _ h => x_sub C w q h) (x_sub C w) (fun r u t H1 locs1 ht _ hw hB _ _ hS => by subst hw; exact kk H1 locs1 ⟨by rw [← ht]; exact hB, hS⟩)

theorem x_cVq {y : MethodName} {cc2 : ByteArray} {n2 : Nat} {ret2 : Option FieldType} {rm2 : Room} {g r ci N : Nat} {fs : List Value} {Cn : String} {T : u_T} {st As : List Value} {v : Option Nat} {G' : M3} {K' : J3} (C : Cx E A p s m args meth c w0 cc nL ret own) (w : Wd E A s G K H locs) (hvl : vld g r) (hc : cel E g r (G g r) (K g r) = .inr (ci, fs)) (hcl : vwCl[ci]? = some (Cn, T, N))
    (hM : MtQ l y (Cond.code y cc2 n2 ret2) rm2 E (.ref (ad E g r) :: As) G K v G' K') (q1 : Cond.methodLink own index y ∈ wsL_law) (q2 : Cond.instanceMethod y ∈ wsL_law) (q3 : Cond.selects Cn y y ∈ wsL_law) (q4 : Cond.initialized Cn ∈ wsL_law) (q5 : Cond.code y cc2 n2 ret2 ∈ wsL_law)
    (hd1 : y.cls = Cn ∧ y.cls ≠ "java/lang/invoke/MethodHandle" ∧ y.cls ≠ "java/lang/invoke/VarHandle" ∧ (parseMethodDescriptor y.desc).map (fun d => d.parameters.length) = some As.length) (h00 : rm2.cells = 0 ∧ rm2.slots = 0) (hR : rm2.frames + 1 ≤ R.frames ∧ 8 + (n2 + 11) + rm2.locals ≤ R.locals) (hcs : cells ≤ R.cells ∧ slots ≤ R.slots) (hl : ls.size = nL) (hst : (rest.map fun v => v.category).sum ≤ 8) (hst2 : st = As.reverse ++ .ref (ad E g r) :: rest) (hd : decode cc pc = .ok (.invokevirtual index, 3))
    (kk : ∀ (H1 : Heap) (locs1 : List Loc), Wd E A s G' K' H1 locs1 → W p l e R s m args below meth c H1 locs1 cells slots Q (F0 m (pc + 3) ls (va_rf v :: rest))) : W p l e R s m args below meth c H locs cells slots Q (F0 m pc ls st) := by
  obtain ⟨hx, hb, -, hml, hown, hts, -, hKK, -, -⟩ := id C
  have he := Wl_get (E := E) (G := G) (K := K) hvl
  rw [hc] at he
  refine va_callq (va_runV (As := As) (rest := rest) ⟨hx, hb, hml, hown, hts⟩ (hM H.size) (cwV As.length hts (x_goodV q5 q1 q2 q3 q4) rfl h00.1 h00.2 hd1 hR) ⟨PreM.blind, va_recv hKK.1 w.1 hcl he, fun U hU hW => ⟨rfl, x_pre C w hU hW⟩⟩ rfl rfl hl hst2 (lv_room hst) hd hcs) w.2 (fun q _ h => x_sub C w q h) (x_sub C w) (fun r u t H1 locs1 ht _ hw hB _ _ hS => by subst hw; exact kk H1 locs1 ⟨by rw [← ht]; exact hB, hS⟩)
theorem x_cSq {y : MethodName} {cc2 : ByteArray} {n2 : Nat} {ret2 : Option FieldType} {rm2 : Room} {st As : List Value} {v : Option Nat} {G' : M3} {K' : J3} (C : Cx E A p s m args meth c w0 cc nL ret own) (w : Wd E A s G K H locs)
    (hM : MtQ l y (Cond.code y cc2 n2 ret2) rm2 E As G K v G' K') (q1 : Cond.methodLink own index y ∈ wsL_law) (q2 : Cond.static y ∈ wsL_law) (q4 : Cond.initialized own ∈ wsL_law) (q5 : Cond.code y cc2 n2 ret2 ∈ wsL_law)
    (hd1 : y.cls = own ∧ y.cls ≠ "java/lang/invoke/MethodHandle" ∧ y.cls ≠ "java/lang/invoke/VarHandle" ∧ (parseMethodDescriptor y.desc).map (fun d => d.parameters.length) = some As.length) (h00 : rm2.cells = 0 ∧ rm2.slots = 0) (hR : rm2.frames + 1 ≤ R.frames ∧ 8 + (n2 + 11) + rm2.locals ≤ R.locals) (hcs : cells ≤ R.cells ∧ slots ≤ R.slots) (hl : ls.size = nL) (hst : (rest.map fun v => v.category).sum ≤ 8) (hst2 : st = As.reverse ++ rest) (hd : decode cc pc = .ok (.invokestatic index, 3))
    (kk : ∀ (H1 : Heap) (locs1 : List Loc), Wd E A s G' K' H1 locs1 → W p l e R s m args below meth c H1 locs1 cells slots Q (F0 m (pc + 3) ls (va_rf v :: rest))) : W p l e R s m args below meth c H locs cells slots Q (F0 m pc ls st) := by
  obtain ⟨hx, hb, -, hml, hown, hts, -, hKK, -, -⟩ := id C
  refine va_callq (va_runS (As := As) (rest := rest) ⟨hx, hb, hml, hown, hts⟩ (hM H.size) (cwS As.length hts (x_goodS q5 q1 q2 q4) rfl h00.1 h00.2 hd1 hR) ⟨PreM.blind, fun U hU hW => ⟨rfl, x_pre C w hU hW⟩⟩ rfl rfl hl hst2 (lv_room hst) hd hcs) w.2 (fun q _ h => x_sub C w q h) (x_sub C w) (fun r u t H1 locs1 ht _ hw hB _ _ hS => by subst hw; exact kk H1 locs1 ⟨by rw [← ht]; exact hB, hS⟩)

theorem x_cVv {y : MethodName} {cc2 : ByteArray} {n2 : Nat} {ret2 : Option FieldType} {rm2 : Room} {g r ci N : Nat} {fs : List Value} {Cn : String} {T : u_T} {st As : List Value} {G' : M3} {K' : J3} (C : Cx E A p s m args meth c w0 cc nL ret own) (w : Wd E A s G K H locs) (hvl : vld g r) (hc : cel E g r (G g r) (K g r) = .inr (ci, fs)) (hcl : vwCl[ci]? = some (Cn, T, N))
    (hM : MtV l y (Cond.code y cc2 n2 ret2) rm2 E (.ref (ad E g r) :: As) G K G' K') (q1 : Cond.methodLink own index y ∈ wsL_law) (q2 : Cond.instanceMethod y ∈ wsL_law) (q3 : Cond.selects Cn y y ∈ wsL_law) (q4 : Cond.initialized Cn ∈ wsL_law) (q5 : Cond.code y cc2 n2 ret2 ∈ wsL_law)
    (hd1 : y.cls = Cn ∧ y.cls ≠ "java/lang/invoke/MethodHandle" ∧ y.cls ≠ "java/lang/invoke/VarHandle" ∧ (parseMethodDescriptor y.desc).map (fun d => d.parameters.length) = some As.length) (h00 : rm2.cells = 0 ∧ rm2.slots = 0) (hR : rm2.frames + 1 ≤ R.frames ∧ 8 + (n2 + 11) + rm2.locals ≤ R.locals) (hcs : cells ≤ R.cells ∧ slots ≤ R.slots) (hl : ls.size = nL) (hst : (rest.map fun v => v.category).sum ≤ 8) (hst2 : st = As.reverse ++ .ref (ad E g r) :: rest) (hd : decode cc pc = .ok (.invokevirtual index, 3))
    (kk : ∀ (H1 : Heap) (locs1 : List Loc), Wd E A s G' K' H1 locs1 → W p l e R s m args below meth c H1 locs1 cells slots Q (F0 m (pc + 3) ls (rest))) : W p l e R s m args below meth c H locs cells slots Q (F0 m pc ls st) := by
  obtain ⟨hx, hb, -, hml, hown, hts, -, hKK, -, -⟩ := id C
  have he := Wl_get (E := E) (G := G) (K := K) hvl
  rw [hc] at he
  refine va_callv (va_runV (As := As) (rest := rest) ⟨hx, hb, hml, hown, hts⟩ (hM H.size) (cwV As.length hts (x_goodV q5 q1 q2 q3 q4) rfl h00.1 h00.2 hd1 hR) ⟨PreM.blind, va_recv hKK.1 w.1 hcl he, fun U hU hW => ⟨rfl, x_pre C w hU hW⟩⟩ rfl rfl hl hst2 (lv_room hst) hd hcs) w.2 (fun q _ h => x_sub C w q h) (x_sub C w) (fun u t H1 locs1 ht _ hw hB _ _ hS => kk H1 locs1 ⟨by rw [← ht]; exact hB, hS⟩)
theorem x_cSv {y : MethodName} {cc2 : ByteArray} {n2 : Nat} {ret2 : Option FieldType} {rm2 : Room} {st As : List Value} {G' : M3} {K' : J3} (C : Cx E A p s m args meth c w0 cc nL ret own) (w : Wd E A s G K H locs)
    (hM : MtV l y (Cond.code y cc2 n2 ret2) rm2 E As G K G' K') (q1 : Cond.methodLink own index y ∈ wsL_law) (q2 : Cond.static y ∈ wsL_law) (q4 : Cond.initialized own ∈ wsL_law) (q5 : Cond.code y cc2 n2 ret2 ∈ wsL_law)
    (hd1 : y.cls = own ∧ y.cls ≠ "java/lang/invoke/MethodHandle" ∧ y.cls ≠ "java/lang/invoke/VarHandle" ∧ (parseMethodDescriptor y.desc).map (fun d => d.parameters.length) = some As.length) (h00 : rm2.cells = 0 ∧ rm2.slots = 0) (hR : rm2.frames + 1 ≤ R.frames ∧ 8 + (n2 + 11) + rm2.locals ≤ R.locals) (hcs : cells ≤ R.cells ∧ slots ≤ R.slots) (hl : ls.size = nL) (hst : (rest.map fun v => v.category).sum ≤ 8) (hst2 : st = As.reverse ++ rest) (hd : decode cc pc = .ok (.invokestatic index, 3))
    (kk : ∀ (H1 : Heap) (locs1 : List Loc), Wd E A s G' K' H1 locs1 → W p l e R s m args below meth c H1 locs1 cells slots Q (F0 m (pc + 3) ls (rest))) : W p l e R s m args below meth c H locs cells slots Q (F0 m pc ls st) := by
  obtain ⟨hx, hb, -, hml, hown, hts, -, hKK, -, -⟩ := id C
  refine va_callv (va_runS (As := As) (rest := rest) ⟨hx, hb, hml, hown, hts⟩ (hM H.size) (cwS As.length hts (x_goodS q5 q1 q2 q4) rfl h00.1 h00.2 hd1 hR) ⟨PreM.blind, fun U hU hW => ⟨rfl, x_pre C w hU hW⟩⟩ rfl rfl hl hst2 (lv_room hst) hd hcs) w.2 (fun q _ h => x_sub C w q h) (x_sub C w) (fun u t H1 locs1 ht _ hw hB _ _ hS => kk H1 locs1 ⟨by rw [← ht]; exact hB, hS⟩)

theorem x_cNi {y : MethodName} {cc2 : ByteArray} {n2 : Nat} {ret2 : Option FieldType} {rm2 : Room} {st As : List Value} {v : Int32} {host : String} {G' : M3} {K' : J3} (C : Cx E A p s m args meth c w0 cc nL ret own) (w : Wd E A s G K H locs)
    (hM : MtI l y (Cond.code y cc2 n2 ret2) rm2 E As G K v G' K') (q1 : Cond.methodLinkNest own index y host ∈ nestW) (q2 : Cond.static y ∈ wsL_law) (q4 : Cond.initialized y.cls ∈ wsL_law) (q5 : Cond.code y cc2 n2 ret2 ∈ wsL_law)
    (hd1 : y.cls ≠ "java/lang/invoke/MethodHandle" ∧ y.cls ≠ "java/lang/invoke/VarHandle" ∧ (parseMethodDescriptor y.desc).map (fun d => d.parameters.length) = some As.length) (h00 : rm2.cells = 0 ∧ rm2.slots = 0) (hR : rm2.frames + 1 ≤ R.frames ∧ 8 + (n2 + 11) + rm2.locals ≤ R.locals) (hcs : cells ≤ R.cells ∧ slots ≤ R.slots) (hl : ls.size = nL) (hst : (rest.map fun v => v.category).sum ≤ 8) (hst2 : st = As.reverse ++ rest) (hd : decode cc pc = .ok (.invokestatic index, 3))
    (kk : ∀ (H1 : Heap) (locs1 : List Loc), Wd E A s G' K' H1 locs1 → W p l e R s m args below meth c H1 locs1 cells slots Q (F0 m (pc + 3) ls (.int v :: rest))) : W p l e R s m args below meth c H locs cells slots Q (F0 m pc ls st) := by
  obtain ⟨hx, hb, -, hml, hown, hts, -, hKK, -, -⟩ := id C
  refine va_calli (va_runSN (As := As) (rest := rest) ⟨hx, hb, hml, hown, hts⟩ (hM H.size) ⟨va_cnB As.length hts (x_good q5) rfl h00.1 h00.2 (hKK.2.2.1 _ q1) (x_hts C q4) hd1 hR, x_hts C q2, trivial⟩ ⟨PreM.blind, fun U hU hW => ⟨rfl, x_pre C w hU hW⟩⟩ rfl rfl hl hst2 (lv_room hst) hd hcs) w.2 (fun q _ h => x_sub C w q h) (x_sub C w) (fun r u t H1 locs1 ht _ hw hB _ _ hS => by subst hw; exact kk H1 locs1 ⟨by rw [← ht]; exact hB, hS⟩)
/-- a contract from a walk -/
theorem Cx.of {y : MethodName} {n : Nat} {rm : Room} {as : List Value} {s₁ : State} (B : BodyLoose p l y (headSpec (wsM w0) rm) cc n ret e s m args below meth c s₁) (hy : y.cls = own) (hml : c.maxLocals = n) {sz : Nat} (hv : va_Pc as (PreM E G K sz) args s) : args = as.toArray ∧ Cx E (AA E sz) p s m args meth c w0 cc n ret own ∧ Wd E (AA E sz) s G K s.heap [] := by
  obtain ⟨rfl, rfl, hP, hKK⟩ := hv
  refine ⟨rfl, ⟨B.exec, B.bytes, B.returns, hml, ?_, atoms_spec (ws := wsM w0) B.pre, B.notSynchronized, hKK, fun q h => Or.inr h, fun g r h => Or.inl ⟨g, r, h, rfl⟩⟩, hP, va_S.rf⟩
  rw [← hy]
  exact findClass_of_methodNamed B.named
end XR
end
section
section XF
variable {E : WE} {A : Nat → Prop} {p : Program} {l : Launch} {e : Env} {R : Room} {s : State} {m : MethodId} {args : Array Value} {below : List Frame} {meth : Method} {c : Code} {H : Heap} {locs : List Loc} {cells slots : Nat} {Q : State → Prop}
variable {w0 : Cond} {cc : ByteArray} {nL : Nat} {ret : Option FieldType} {own : String} {pc index : Nat} {ls : Array Slot} {rest : List Value} {G : M3} {K : J3} {M : M2} {J : J2}
theorem up3_L {α : Type} (G : Nat → Nat → Nat → α) (M : Nat → Nat → α) (g r k : Nat) (v : α) : up3 (sg G g M) g r k v = sg G g (up2 M r k v) := by
  unfold up3
  rw [sg_eq, sg_sg]
theorem x_aldI_L {n g r ki : Nat} {i : Int32} (C : Cx E A p s m args meth c w0 cc nL ret own) (w : Wd E A s (sg G g M) (sg K g J) H locs) (hv : vld g r) (hc : ∀ x y, cel E g r x y = .inl (E.2.1 0, n, .inl x)) (hi : inb i n) (hk : i.toNatClampNeg = ki) (hd : decode cc pc = .ok (.iaload, 1))
    (kk : W p l e R s m args below meth c H locs cells slots Q (F0 m (pc + 1) ls (.int (M r ki) :: rest))) : W p l e R s m args below meth c H locs cells slots Q (F0 m pc ls (.int i :: .ref (ad E g r) :: rest)) :=
  x_aldI C w hv hc hi hk hd (by rw [sg_eq]; exact kk)
theorem x_aldJ_L {n g r ki : Nat} {i : Int32} (C : Cx E A p s m args meth c w0 cc nL ret own) (w : Wd E A s (sg G g M) (sg K g J) H locs) (hv : vld g r) (hc : ∀ x y, cel E g r x y = .inl (E.2.1 1, n, .inr (.inl y))) (hi : inb i n) (hk : i.toNatClampNeg = ki) (hd : decode cc pc = .ok (.laload, 1))
    (kk : W p l e R s m args below meth c H locs cells slots Q (F0 m (pc + 1) ls (.long (J r ki) :: rest))) : W p l e R s m args below meth c H locs cells slots Q (F0 m pc ls (.int i :: .ref (ad E g r) :: rest)) :=
  x_aldJ C w hv hc hi hk hd (by rw [sg_eq]; exact kk)
theorem x_astI_L {n g r ki : Nat} {i x : Int32} (C : Cx E A p s m args meth c w0 cc nL ret own) (w : Wd E A s (sg G g M) (sg K g J) H locs) (hv : vld g r) (hc : ∀ x y, cel E g r x y = .inl (E.2.1 0, n, .inl x)) (hi : inb i n) (hk : i.toNatClampNeg = ki) (hd : decode cc pc = .ok (.iastore, 1))
    (kk : ∀ (M1 : M2) (H1 : Heap) (locs1 : List Loc), M1 = up2 M r ki x → Wd E A s (sg G g M1) (sg K g J) H1 locs1 → W p l e R s m args below meth c H1 locs1 cells slots Q (F0 m (pc + 1) ls rest)) : W p l e R s m args below meth c H locs cells slots Q (F0 m pc ls (.int x :: .int i :: .ref (ad E g r) :: rest)) :=
  x_astI C w hv hc hi hk hd (fun H1 locs1 w1 => kk _ H1 locs1 rfl (by rw [up3_L] at w1; exact w1))
theorem x_astJ_L {n g r ki : Nat} {i : Int32} {x : Int64} (C : Cx E A p s m args meth c w0 cc nL ret own) (w : Wd E A s (sg G g M) (sg K g J) H locs) (hv : vld g r) (hc : ∀ x y, cel E g r x y = .inl (E.2.1 1, n, .inr (.inl y))) (hi : inb i n) (hk : i.toNatClampNeg = ki) (hd : decode cc pc = .ok (.lastore, 1))
    (kk : ∀ (J1 : J2) (H1 : Heap) (locs1 : List Loc), J1 = up2 J r ki x → Wd E A s (sg G g M) (sg K g J1) H1 locs1 → W p l e R s m args below meth c H1 locs1 cells slots Q (F0 m (pc + 1) ls rest)) : W p l e R s m args below meth c H locs cells slots Q (F0 m pc ls (.long x :: .int i :: .ref (ad E g r) :: rest)) :=
  x_astJ C w hv hc hi hk hd (fun H1 locs1 w1 => kk _ H1 locs1 rfl (by rw [up3_L] at w1; exact w1))
theorem x_astI_G {n g r ki : Nat} {i x : Int32} (C : Cx E A p s m args meth c w0 cc nL ret own) (w : Wd E A s G K H locs) (hv : vld g r) (hc : ∀ x y, cel E g r x y = .inl (E.2.1 0, n, .inl x)) (hi : inb i n) (hk : i.toNatClampNeg = ki) (hd : decode cc pc = .ok (.iastore, 1))
    (kk : ∀ (G1 : M3) (H1 : Heap) (locs1 : List Loc), G1 = up3 G g r ki x → Wd E A s G1 K H1 locs1 → W p l e R s m args below meth c H1 locs1 cells slots Q (F0 m (pc + 1) ls rest)) : W p l e R s m args below meth c H locs cells slots Q (F0 m pc ls (.int x :: .int i :: .ref (ad E g r) :: rest)) :=
  x_astI C w hv hc hi hk hd (fun H1 locs1 w1 => kk _ H1 locs1 rfl w1)
theorem x_astJ_G {n g r ki : Nat} {i : Int32} {x : Int64} (C : Cx E A p s m args meth c w0 cc nL ret own) (w : Wd E A s G K H locs) (hv : vld g r) (hc : ∀ x y, cel E g r x y = .inl (E.2.1 1, n, .inr (.inl y))) (hi : inb i n) (hk : i.toNatClampNeg = ki) (hd : decode cc pc = .ok (.lastore, 1))
    (kk : ∀ (K1 : J3) (H1 : Heap) (locs1 : List Loc), K1 = up3 K g r ki x → Wd E A s G K1 H1 locs1 → W p l e R s m args below meth c H1 locs1 cells slots Q (F0 m (pc + 1) ls rest)) : W p l e R s m args below meth c H locs cells slots Q (F0 m pc ls (.long x :: .int i :: .ref (ad E g r) :: rest)) :=
  x_astJ C w hv hc hi hk hd (fun H1 locs1 w1 => kk _ H1 locs1 rfl w1)
theorem Wd.up {g : Nat} (w : Wd E A s G K H locs) {x : M2} {y : J2} (h : Wd E A s (sg G g x) (sg K g y) H locs) : Wd E A s (sg G g x) (sg K g y) H locs := h
theorem Wd.back {g : Nat} (w : Wd E A s (sg G g (G g)) (sg K g (K g)) H locs) : Wd E A s G K H locs := by
  rw [sg_self, sg_self] at w; exact w

theorem gG_X0_capacity {g q : Nat} (hg : g < 6) (hq : isC q) (C : Cx E A p s m args meth c w0 cc nL ret own) (w : Wd E A s G K H locs) (hw : Cond.fieldLink own index "AirStation$Compressor" "capacity" "I" ∈ wsL_law) (hd : decode cc pc = .ok (.getfield index, 3)) (kk : W p l e R s m args below meth c H locs cells slots Q (F0 m (pc + 3) ls (.int (G g q 0) :: rest))) : W p l e R s m args below meth c H locs cells slots Q (F0 m pc ls (.ref (ad E g q) :: rest)) :=
  x_get C w (vC hg hq) (cel_C hg hq.1) rfl inlX0 (k := 0) (by decide) hw rfl hd kk
theorem gL_X0_capacity {g q : Nat} (hg : g < 6) (hq : isC q) (C : Cx E A p s m args meth c w0 cc nL ret own) (w : Wd E A s (sg G g M) (sg K g J) H locs) (hw : Cond.fieldLink own index "AirStation$Compressor" "capacity" "I" ∈ wsL_law) (hd : decode cc pc = .ok (.getfield index, 3)) (kk : W p l e R s m args below meth c H locs cells slots Q (F0 m (pc + 3) ls (.int (M q 0) :: rest))) : W p l e R s m args below meth c H locs cells slots Q (F0 m pc ls (.ref (ad E g q) :: rest)) :=
  gG_X0_capacity hg hq C w hw hd (by rw [sg_eq]; exact kk)
theorem pG_X0_capacity {g q : Nat} (hg : g < 6) (hq : isC q) {x : Int32} (C : Cx E A p s m args meth c w0 cc nL ret own) (w : Wd E A s G K H locs) (hw : Cond.fieldLink own index "AirStation$Compressor" "capacity" "I" ∈ wsL_law) (hd : decode cc pc = .ok (.putfield index, 3)) (kk : ∀ (G1 : M3) (H1 : Heap) (locs1 : List Loc), G1 = up3 G g q 0 x → Wd E A s G1 K H1 locs1 → W p l e R s m args below meth c H1 locs1 cells slots Q (F0 m (pc + 3) ls rest)) : W p l e R s m args below meth c H locs cells slots Q (F0 m pc ls (.int x :: .ref (ad E g q) :: rest)) :=
  x_put C w (vC hg hq) (fun x y => cel_C hg hq.1) rfl inlX0 (k := 0) (ty := .int) (by decide) hw tyX0_ok nmX0 rfl (by decide +kernel) rfl rfl (Nat.le_of_ble_eq_true rfl) rfl hd (fun H1 locs1 w1 => kk _ H1 locs1 rfl w1)
theorem pL_X0_capacity {g q : Nat} (hg : g < 6) (hq : isC q) {x : Int32} (C : Cx E A p s m args meth c w0 cc nL ret own) (w : Wd E A s (sg G g M) (sg K g J) H locs) (hw : Cond.fieldLink own index "AirStation$Compressor" "capacity" "I" ∈ wsL_law) (hd : decode cc pc = .ok (.putfield index, 3)) (kk : ∀ (M1 : M2) (H1 : Heap) (locs1 : List Loc), M1 = up2 M q 0 x → Wd E A s (sg G g M1) (sg K g J) H1 locs1 → W p l e R s m args below meth c H1 locs1 cells slots Q (F0 m (pc + 3) ls rest)) : W p l e R s m args below meth c H locs cells slots Q (F0 m pc ls (.int x :: .ref (ad E g q) :: rest)) :=
  pG_X0_capacity hg hq C w hw hd (fun G1 H1 locs1 e1 w1 => kk _ H1 locs1 rfl (by rw [e1, up3_L] at w1; exact w1))
theorem gG_X0_mode {g q : Nat} (hg : g < 6) (hq : isC q) (C : Cx E A p s m args meth c w0 cc nL ret own) (w : Wd E A s G K H locs) (hw : Cond.fieldLink own index "AirStation$Compressor" "mode" "I" ∈ wsL_law) (hd : decode cc pc = .ok (.getfield index, 3)) (kk : W p l e R s m args below meth c H locs cells slots Q (F0 m (pc + 3) ls (.int (G g q 1) :: rest))) : W p l e R s m args below meth c H locs cells slots Q (F0 m pc ls (.ref (ad E g q) :: rest)) :=
  x_get C w (vC hg hq) (cel_C hg hq.1) rfl inlX0 (k := 1) (by decide) hw rfl hd kk
theorem gL_X0_mode {g q : Nat} (hg : g < 6) (hq : isC q) (C : Cx E A p s m args meth c w0 cc nL ret own) (w : Wd E A s (sg G g M) (sg K g J) H locs) (hw : Cond.fieldLink own index "AirStation$Compressor" "mode" "I" ∈ wsL_law) (hd : decode cc pc = .ok (.getfield index, 3)) (kk : W p l e R s m args below meth c H locs cells slots Q (F0 m (pc + 3) ls (.int (M q 1) :: rest))) : W p l e R s m args below meth c H locs cells slots Q (F0 m pc ls (.ref (ad E g q) :: rest)) :=
  gG_X0_mode hg hq C w hw hd (by rw [sg_eq]; exact kk)
theorem pG_X0_mode {g q : Nat} (hg : g < 6) (hq : isC q) {x : Int32} (C : Cx E A p s m args meth c w0 cc nL ret own) (w : Wd E A s G K H locs) (hw : Cond.fieldLink own index "AirStation$Compressor" "mode" "I" ∈ wsL_law) (hd : decode cc pc = .ok (.putfield index, 3)) (kk : ∀ (G1 : M3) (H1 : Heap) (locs1 : List Loc), G1 = up3 G g q 1 x → Wd E A s G1 K H1 locs1 → W p l e R s m args below meth c H1 locs1 cells slots Q (F0 m (pc + 3) ls rest)) : W p l e R s m args below meth c H locs cells slots Q (F0 m pc ls (.int x :: .ref (ad E g q) :: rest)) :=
  x_put C w (vC hg hq) (fun x y => cel_C hg hq.1) rfl inlX0 (k := 1) (ty := .int) (by decide) hw tyX0_ok nmX0 rfl (by decide +kernel) rfl rfl (Nat.le_of_ble_eq_true rfl) rfl hd (fun H1 locs1 w1 => kk _ H1 locs1 rfl w1)
theorem pL_X0_mode {g q : Nat} (hg : g < 6) (hq : isC q) {x : Int32} (C : Cx E A p s m args meth c w0 cc nL ret own) (w : Wd E A s (sg G g M) (sg K g J) H locs) (hw : Cond.fieldLink own index "AirStation$Compressor" "mode" "I" ∈ wsL_law) (hd : decode cc pc = .ok (.putfield index, 3)) (kk : ∀ (M1 : M2) (H1 : Heap) (locs1 : List Loc), M1 = up2 M q 1 x → Wd E A s (sg G g M1) (sg K g J) H1 locs1 → W p l e R s m args below meth c H1 locs1 cells slots Q (F0 m (pc + 3) ls rest)) : W p l e R s m args below meth c H locs cells slots Q (F0 m pc ls (.int x :: .ref (ad E g q) :: rest)) :=
  pG_X0_mode hg hq C w hw hd (fun G1 H1 locs1 e1 w1 => kk _ H1 locs1 rfl (by rw [e1, up3_L] at w1; exact w1))
theorem gG_X0_stage {g q : Nat} (hg : g < 6) (hq : isC q) (C : Cx E A p s m args meth c w0 cc nL ret own) (w : Wd E A s G K H locs) (hw : Cond.fieldLink own index "AirStation$Compressor" "stage" "I" ∈ wsL_law) (hd : decode cc pc = .ok (.getfield index, 3)) (kk : W p l e R s m args below meth c H locs cells slots Q (F0 m (pc + 3) ls (.int (G g q 2) :: rest))) : W p l e R s m args below meth c H locs cells slots Q (F0 m pc ls (.ref (ad E g q) :: rest)) :=
  x_get C w (vC hg hq) (cel_C hg hq.1) rfl inlX0 (k := 2) (by decide) hw rfl hd kk
theorem gL_X0_stage {g q : Nat} (hg : g < 6) (hq : isC q) (C : Cx E A p s m args meth c w0 cc nL ret own) (w : Wd E A s (sg G g M) (sg K g J) H locs) (hw : Cond.fieldLink own index "AirStation$Compressor" "stage" "I" ∈ wsL_law) (hd : decode cc pc = .ok (.getfield index, 3)) (kk : W p l e R s m args below meth c H locs cells slots Q (F0 m (pc + 3) ls (.int (M q 2) :: rest))) : W p l e R s m args below meth c H locs cells slots Q (F0 m pc ls (.ref (ad E g q) :: rest)) :=
  gG_X0_stage hg hq C w hw hd (by rw [sg_eq]; exact kk)
theorem pG_X0_stage {g q : Nat} (hg : g < 6) (hq : isC q) {x : Int32} (C : Cx E A p s m args meth c w0 cc nL ret own) (w : Wd E A s G K H locs) (hw : Cond.fieldLink own index "AirStation$Compressor" "stage" "I" ∈ wsL_law) (hd : decode cc pc = .ok (.putfield index, 3)) (kk : ∀ (G1 : M3) (H1 : Heap) (locs1 : List Loc), G1 = up3 G g q 2 x → Wd E A s G1 K H1 locs1 → W p l e R s m args below meth c H1 locs1 cells slots Q (F0 m (pc + 3) ls rest)) : W p l e R s m args below meth c H locs cells slots Q (F0 m pc ls (.int x :: .ref (ad E g q) :: rest)) :=
  x_put C w (vC hg hq) (fun x y => cel_C hg hq.1) rfl inlX0 (k := 2) (ty := .int) (by decide) hw tyX0_ok nmX0 rfl (by decide +kernel) rfl rfl (Nat.le_of_ble_eq_true rfl) rfl hd (fun H1 locs1 w1 => kk _ H1 locs1 rfl w1)
theorem pL_X0_stage {g q : Nat} (hg : g < 6) (hq : isC q) {x : Int32} (C : Cx E A p s m args meth c w0 cc nL ret own) (w : Wd E A s (sg G g M) (sg K g J) H locs) (hw : Cond.fieldLink own index "AirStation$Compressor" "stage" "I" ∈ wsL_law) (hd : decode cc pc = .ok (.putfield index, 3)) (kk : ∀ (M1 : M2) (H1 : Heap) (locs1 : List Loc), M1 = up2 M q 2 x → Wd E A s (sg G g M1) (sg K g J) H1 locs1 → W p l e R s m args below meth c H1 locs1 cells slots Q (F0 m (pc + 3) ls rest)) : W p l e R s m args below meth c H locs cells slots Q (F0 m pc ls (.int x :: .ref (ad E g q) :: rest)) :=
  pG_X0_stage hg hq C w hw hd (fun G1 H1 locs1 e1 w1 => kk _ H1 locs1 rfl (by rw [e1, up3_L] at w1; exact w1))
theorem gG_X0_loadedMinutes {g q : Nat} (hg : g < 6) (hq : isC q) (C : Cx E A p s m args meth c w0 cc nL ret own) (w : Wd E A s G K H locs) (hw : Cond.fieldLink own index "AirStation$Compressor" "loadedMinutes" "I" ∈ wsL_law) (hd : decode cc pc = .ok (.getfield index, 3)) (kk : W p l e R s m args below meth c H locs cells slots Q (F0 m (pc + 3) ls (.int (G g q 3) :: rest))) : W p l e R s m args below meth c H locs cells slots Q (F0 m pc ls (.ref (ad E g q) :: rest)) :=
  x_get C w (vC hg hq) (cel_C hg hq.1) rfl inlX0 (k := 3) (by decide) hw rfl hd kk
theorem gL_X0_loadedMinutes {g q : Nat} (hg : g < 6) (hq : isC q) (C : Cx E A p s m args meth c w0 cc nL ret own) (w : Wd E A s (sg G g M) (sg K g J) H locs) (hw : Cond.fieldLink own index "AirStation$Compressor" "loadedMinutes" "I" ∈ wsL_law) (hd : decode cc pc = .ok (.getfield index, 3)) (kk : W p l e R s m args below meth c H locs cells slots Q (F0 m (pc + 3) ls (.int (M q 3) :: rest))) : W p l e R s m args below meth c H locs cells slots Q (F0 m pc ls (.ref (ad E g q) :: rest)) :=
  gG_X0_loadedMinutes hg hq C w hw hd (by rw [sg_eq]; exact kk)
theorem pG_X0_loadedMinutes {g q : Nat} (hg : g < 6) (hq : isC q) {x : Int32} (C : Cx E A p s m args meth c w0 cc nL ret own) (w : Wd E A s G K H locs) (hw : Cond.fieldLink own index "AirStation$Compressor" "loadedMinutes" "I" ∈ wsL_law) (hd : decode cc pc = .ok (.putfield index, 3)) (kk : ∀ (G1 : M3) (H1 : Heap) (locs1 : List Loc), G1 = up3 G g q 3 x → Wd E A s G1 K H1 locs1 → W p l e R s m args below meth c H1 locs1 cells slots Q (F0 m (pc + 3) ls rest)) : W p l e R s m args below meth c H locs cells slots Q (F0 m pc ls (.int x :: .ref (ad E g q) :: rest)) :=
  x_put C w (vC hg hq) (fun x y => cel_C hg hq.1) rfl inlX0 (k := 3) (ty := .int) (by decide) hw tyX0_ok nmX0 rfl (by decide +kernel) rfl rfl (Nat.le_of_ble_eq_true rfl) rfl hd (fun H1 locs1 w1 => kk _ H1 locs1 rfl w1)
theorem pL_X0_loadedMinutes {g q : Nat} (hg : g < 6) (hq : isC q) {x : Int32} (C : Cx E A p s m args meth c w0 cc nL ret own) (w : Wd E A s (sg G g M) (sg K g J) H locs) (hw : Cond.fieldLink own index "AirStation$Compressor" "loadedMinutes" "I" ∈ wsL_law) (hd : decode cc pc = .ok (.putfield index, 3)) (kk : ∀ (M1 : M2) (H1 : Heap) (locs1 : List Loc), M1 = up2 M q 3 x → Wd E A s (sg G g M1) (sg K g J) H1 locs1 → W p l e R s m args below meth c H1 locs1 cells slots Q (F0 m (pc + 3) ls rest)) : W p l e R s m args below meth c H locs cells slots Q (F0 m pc ls (.int x :: .ref (ad E g q) :: rest)) :=
  pG_X0_loadedMinutes hg hq C w hw hd (fun G1 H1 locs1 e1 w1 => kk _ H1 locs1 rfl (by rw [e1, up3_L] at w1; exact w1))
theorem gG_X0_unloadedMinutes {g q : Nat} (hg : g < 6) (hq : isC q) (C : Cx E A p s m args meth c w0 cc nL ret own) (w : Wd E A s G K H locs) (hw : Cond.fieldLink own index "AirStation$Compressor" "unloadedMinutes" "I" ∈ wsL_law) (hd : decode cc pc = .ok (.getfield index, 3)) (kk : W p l e R s m args below meth c H locs cells slots Q (F0 m (pc + 3) ls (.int (G g q 4) :: rest))) : W p l e R s m args below meth c H locs cells slots Q (F0 m pc ls (.ref (ad E g q) :: rest)) :=
  x_get C w (vC hg hq) (cel_C hg hq.1) rfl inlX0 (k := 4) (by decide) hw rfl hd kk
theorem gL_X0_unloadedMinutes {g q : Nat} (hg : g < 6) (hq : isC q) (C : Cx E A p s m args meth c w0 cc nL ret own) (w : Wd E A s (sg G g M) (sg K g J) H locs) (hw : Cond.fieldLink own index "AirStation$Compressor" "unloadedMinutes" "I" ∈ wsL_law) (hd : decode cc pc = .ok (.getfield index, 3)) (kk : W p l e R s m args below meth c H locs cells slots Q (F0 m (pc + 3) ls (.int (M q 4) :: rest))) : W p l e R s m args below meth c H locs cells slots Q (F0 m pc ls (.ref (ad E g q) :: rest)) :=
  gG_X0_unloadedMinutes hg hq C w hw hd (by rw [sg_eq]; exact kk)
theorem pG_X0_unloadedMinutes {g q : Nat} (hg : g < 6) (hq : isC q) {x : Int32} (C : Cx E A p s m args meth c w0 cc nL ret own) (w : Wd E A s G K H locs) (hw : Cond.fieldLink own index "AirStation$Compressor" "unloadedMinutes" "I" ∈ wsL_law) (hd : decode cc pc = .ok (.putfield index, 3)) (kk : ∀ (G1 : M3) (H1 : Heap) (locs1 : List Loc), G1 = up3 G g q 4 x → Wd E A s G1 K H1 locs1 → W p l e R s m args below meth c H1 locs1 cells slots Q (F0 m (pc + 3) ls rest)) : W p l e R s m args below meth c H locs cells slots Q (F0 m pc ls (.int x :: .ref (ad E g q) :: rest)) :=
  x_put C w (vC hg hq) (fun x y => cel_C hg hq.1) rfl inlX0 (k := 4) (ty := .int) (by decide) hw tyX0_ok nmX0 rfl (by decide +kernel) rfl rfl (Nat.le_of_ble_eq_true rfl) rfl hd (fun H1 locs1 w1 => kk _ H1 locs1 rfl w1)
theorem pL_X0_unloadedMinutes {g q : Nat} (hg : g < 6) (hq : isC q) {x : Int32} (C : Cx E A p s m args meth c w0 cc nL ret own) (w : Wd E A s (sg G g M) (sg K g J) H locs) (hw : Cond.fieldLink own index "AirStation$Compressor" "unloadedMinutes" "I" ∈ wsL_law) (hd : decode cc pc = .ok (.putfield index, 3)) (kk : ∀ (M1 : M2) (H1 : Heap) (locs1 : List Loc), M1 = up2 M q 4 x → Wd E A s (sg G g M1) (sg K g J) H1 locs1 → W p l e R s m args below meth c H1 locs1 cells slots Q (F0 m (pc + 3) ls rest)) : W p l e R s m args below meth c H locs cells slots Q (F0 m pc ls (.int x :: .ref (ad E g q) :: rest)) :=
  pG_X0_unloadedMinutes hg hq C w hw hd (fun G1 H1 locs1 e1 w1 => kk _ H1 locs1 rfl (by rw [e1, up3_L] at w1; exact w1))
theorem gG_X0_timer {g q : Nat} (hg : g < 6) (hq : isC q) (C : Cx E A p s m args meth c w0 cc nL ret own) (w : Wd E A s G K H locs) (hw : Cond.fieldLink own index "AirStation$Compressor" "timer" "I" ∈ wsL_law) (hd : decode cc pc = .ok (.getfield index, 3)) (kk : W p l e R s m args below meth c H locs cells slots Q (F0 m (pc + 3) ls (.int (G g q 5) :: rest))) : W p l e R s m args below meth c H locs cells slots Q (F0 m pc ls (.ref (ad E g q) :: rest)) :=
  x_get C w (vC hg hq) (cel_C hg hq.1) rfl inlX0 (k := 5) (by decide) hw rfl hd kk
theorem gL_X0_timer {g q : Nat} (hg : g < 6) (hq : isC q) (C : Cx E A p s m args meth c w0 cc nL ret own) (w : Wd E A s (sg G g M) (sg K g J) H locs) (hw : Cond.fieldLink own index "AirStation$Compressor" "timer" "I" ∈ wsL_law) (hd : decode cc pc = .ok (.getfield index, 3)) (kk : W p l e R s m args below meth c H locs cells slots Q (F0 m (pc + 3) ls (.int (M q 5) :: rest))) : W p l e R s m args below meth c H locs cells slots Q (F0 m pc ls (.ref (ad E g q) :: rest)) :=
  gG_X0_timer hg hq C w hw hd (by rw [sg_eq]; exact kk)
theorem pG_X0_timer {g q : Nat} (hg : g < 6) (hq : isC q) {x : Int32} (C : Cx E A p s m args meth c w0 cc nL ret own) (w : Wd E A s G K H locs) (hw : Cond.fieldLink own index "AirStation$Compressor" "timer" "I" ∈ wsL_law) (hd : decode cc pc = .ok (.putfield index, 3)) (kk : ∀ (G1 : M3) (H1 : Heap) (locs1 : List Loc), G1 = up3 G g q 5 x → Wd E A s G1 K H1 locs1 → W p l e R s m args below meth c H1 locs1 cells slots Q (F0 m (pc + 3) ls rest)) : W p l e R s m args below meth c H locs cells slots Q (F0 m pc ls (.int x :: .ref (ad E g q) :: rest)) :=
  x_put C w (vC hg hq) (fun x y => cel_C hg hq.1) rfl inlX0 (k := 5) (ty := .int) (by decide) hw tyX0_ok nmX0 rfl (by decide +kernel) rfl rfl (Nat.le_of_ble_eq_true rfl) rfl hd (fun H1 locs1 w1 => kk _ H1 locs1 rfl w1)
theorem pL_X0_timer {g q : Nat} (hg : g < 6) (hq : isC q) {x : Int32} (C : Cx E A p s m args meth c w0 cc nL ret own) (w : Wd E A s (sg G g M) (sg K g J) H locs) (hw : Cond.fieldLink own index "AirStation$Compressor" "timer" "I" ∈ wsL_law) (hd : decode cc pc = .ok (.putfield index, 3)) (kk : ∀ (M1 : M2) (H1 : Heap) (locs1 : List Loc), M1 = up2 M q 5 x → Wd E A s (sg G g M1) (sg K g J) H1 locs1 → W p l e R s m args below meth c H1 locs1 cells slots Q (F0 m (pc + 3) ls rest)) : W p l e R s m args below meth c H locs cells slots Q (F0 m pc ls (.int x :: .ref (ad E g q) :: rest)) :=
  pG_X0_timer hg hq C w hw hd (fun G1 H1 locs1 e1 w1 => kk _ H1 locs1 rfl (by rw [e1, up3_L] at w1; exact w1))
theorem gG_X0_rest {g q : Nat} (hg : g < 6) (hq : isC q) (C : Cx E A p s m args meth c w0 cc nL ret own) (w : Wd E A s G K H locs) (hw : Cond.fieldLink own index "AirStation$Compressor" "rest" "I" ∈ wsL_law) (hd : decode cc pc = .ok (.getfield index, 3)) (kk : W p l e R s m args below meth c H locs cells slots Q (F0 m (pc + 3) ls (.int (G g q 6) :: rest))) : W p l e R s m args below meth c H locs cells slots Q (F0 m pc ls (.ref (ad E g q) :: rest)) :=
  x_get C w (vC hg hq) (cel_C hg hq.1) rfl inlX0 (k := 6) (by decide) hw rfl hd kk
theorem gL_X0_rest {g q : Nat} (hg : g < 6) (hq : isC q) (C : Cx E A p s m args meth c w0 cc nL ret own) (w : Wd E A s (sg G g M) (sg K g J) H locs) (hw : Cond.fieldLink own index "AirStation$Compressor" "rest" "I" ∈ wsL_law) (hd : decode cc pc = .ok (.getfield index, 3)) (kk : W p l e R s m args below meth c H locs cells slots Q (F0 m (pc + 3) ls (.int (M q 6) :: rest))) : W p l e R s m args below meth c H locs cells slots Q (F0 m pc ls (.ref (ad E g q) :: rest)) :=
  gG_X0_rest hg hq C w hw hd (by rw [sg_eq]; exact kk)
theorem pG_X0_rest {g q : Nat} (hg : g < 6) (hq : isC q) {x : Int32} (C : Cx E A p s m args meth c w0 cc nL ret own) (w : Wd E A s G K H locs) (hw : Cond.fieldLink own index "AirStation$Compressor" "rest" "I" ∈ wsL_law) (hd : decode cc pc = .ok (.putfield index, 3)) (kk : ∀ (G1 : M3) (H1 : Heap) (locs1 : List Loc), G1 = up3 G g q 6 x → Wd E A s G1 K H1 locs1 → W p l e R s m args below meth c H1 locs1 cells slots Q (F0 m (pc + 3) ls rest)) : W p l e R s m args below meth c H locs cells slots Q (F0 m pc ls (.int x :: .ref (ad E g q) :: rest)) :=
  x_put C w (vC hg hq) (fun x y => cel_C hg hq.1) rfl inlX0 (k := 6) (ty := .int) (by decide) hw tyX0_ok nmX0 rfl (by decide +kernel) rfl rfl (Nat.le_of_ble_eq_true rfl) rfl hd (fun H1 locs1 w1 => kk _ H1 locs1 rfl w1)
theorem pL_X0_rest {g q : Nat} (hg : g < 6) (hq : isC q) {x : Int32} (C : Cx E A p s m args meth c w0 cc nL ret own) (w : Wd E A s (sg G g M) (sg K g J) H locs) (hw : Cond.fieldLink own index "AirStation$Compressor" "rest" "I" ∈ wsL_law) (hd : decode cc pc = .ok (.putfield index, 3)) (kk : ∀ (M1 : M2) (H1 : Heap) (locs1 : List Loc), M1 = up2 M q 6 x → Wd E A s (sg G g M1) (sg K g J) H1 locs1 → W p l e R s m args below meth c H1 locs1 cells slots Q (F0 m (pc + 3) ls rest)) : W p l e R s m args below meth c H locs cells slots Q (F0 m pc ls (.int x :: .ref (ad E g q) :: rest)) :=
  pG_X0_rest hg hq C w hw hd (fun G1 H1 locs1 e1 w1 => kk _ H1 locs1 rfl (by rw [e1, up3_L] at w1; exact w1))
theorem gG_X0_starts {g q : Nat} (hg : g < 6) (hq : isC q) (C : Cx E A p s m args meth c w0 cc nL ret own) (w : Wd E A s G K H locs) (hw : Cond.fieldLink own index "AirStation$Compressor" "starts" "I" ∈ wsL_law) (hd : decode cc pc = .ok (.getfield index, 3)) (kk : W p l e R s m args below meth c H locs cells slots Q (F0 m (pc + 3) ls (.int (G g q 7) :: rest))) : W p l e R s m args below meth c H locs cells slots Q (F0 m pc ls (.ref (ad E g q) :: rest)) :=
  x_get C w (vC hg hq) (cel_C hg hq.1) rfl inlX0 (k := 7) (by decide) hw rfl hd kk
theorem gL_X0_starts {g q : Nat} (hg : g < 6) (hq : isC q) (C : Cx E A p s m args meth c w0 cc nL ret own) (w : Wd E A s (sg G g M) (sg K g J) H locs) (hw : Cond.fieldLink own index "AirStation$Compressor" "starts" "I" ∈ wsL_law) (hd : decode cc pc = .ok (.getfield index, 3)) (kk : W p l e R s m args below meth c H locs cells slots Q (F0 m (pc + 3) ls (.int (M q 7) :: rest))) : W p l e R s m args below meth c H locs cells slots Q (F0 m pc ls (.ref (ad E g q) :: rest)) :=
  gG_X0_starts hg hq C w hw hd (by rw [sg_eq]; exact kk)
theorem pG_X0_starts {g q : Nat} (hg : g < 6) (hq : isC q) {x : Int32} (C : Cx E A p s m args meth c w0 cc nL ret own) (w : Wd E A s G K H locs) (hw : Cond.fieldLink own index "AirStation$Compressor" "starts" "I" ∈ wsL_law) (hd : decode cc pc = .ok (.putfield index, 3)) (kk : ∀ (G1 : M3) (H1 : Heap) (locs1 : List Loc), G1 = up3 G g q 7 x → Wd E A s G1 K H1 locs1 → W p l e R s m args below meth c H1 locs1 cells slots Q (F0 m (pc + 3) ls rest)) : W p l e R s m args below meth c H locs cells slots Q (F0 m pc ls (.int x :: .ref (ad E g q) :: rest)) :=
  x_put C w (vC hg hq) (fun x y => cel_C hg hq.1) rfl inlX0 (k := 7) (ty := .int) (by decide) hw tyX0_ok nmX0 rfl (by decide +kernel) rfl rfl (Nat.le_of_ble_eq_true rfl) rfl hd (fun H1 locs1 w1 => kk _ H1 locs1 rfl w1)
theorem pL_X0_starts {g q : Nat} (hg : g < 6) (hq : isC q) {x : Int32} (C : Cx E A p s m args meth c w0 cc nL ret own) (w : Wd E A s (sg G g M) (sg K g J) H locs) (hw : Cond.fieldLink own index "AirStation$Compressor" "starts" "I" ∈ wsL_law) (hd : decode cc pc = .ok (.putfield index, 3)) (kk : ∀ (M1 : M2) (H1 : Heap) (locs1 : List Loc), M1 = up2 M q 7 x → Wd E A s (sg G g M1) (sg K g J) H1 locs1 → W p l e R s m args below meth c H1 locs1 cells slots Q (F0 m (pc + 3) ls rest)) : W p l e R s m args below meth c H locs cells slots Q (F0 m pc ls (.int x :: .ref (ad E g q) :: rest)) :=
  pG_X0_starts hg hq C w hw hd (fun G1 H1 locs1 e1 w1 => kk _ H1 locs1 rfl (by rw [e1, up3_L] at w1; exact w1))
theorem gG_X1_kept  (C : Cx E A p s m args meth c w0 cc nL ret own) (w : Wd E A s G K H locs) (hw : Cond.fieldLink own index "AirStation$History" "kept" "I" ∈ wsL_law) (hd : decode cc pc = .ok (.getfield index, 3)) (kk : W p l e R s m args below meth c H locs cells slots Q (F0 m (pc + 3) ls (.int (G 6 1 0) :: rest))) : W p l e R s m args below meth c H locs cells slots Q (F0 m pc ls (.ref (ad E 6 1) :: rest)) :=
  x_get C w (v6 (by decide)) cel_6 rfl inlX1 (k := 0) (by decide) hw rfl hd kk
theorem gL_X1_kept  (C : Cx E A p s m args meth c w0 cc nL ret own) (w : Wd E A s (sg G 6 M) (sg K 6 J) H locs) (hw : Cond.fieldLink own index "AirStation$History" "kept" "I" ∈ wsL_law) (hd : decode cc pc = .ok (.getfield index, 3)) (kk : W p l e R s m args below meth c H locs cells slots Q (F0 m (pc + 3) ls (.int (M 1 0) :: rest))) : W p l e R s m args below meth c H locs cells slots Q (F0 m pc ls (.ref (ad E 6 1) :: rest)) :=
  gG_X1_kept C w hw hd (by rw [sg_eq]; exact kk)
theorem pG_X1_kept  {x : Int32} (C : Cx E A p s m args meth c w0 cc nL ret own) (w : Wd E A s G K H locs) (hw : Cond.fieldLink own index "AirStation$History" "kept" "I" ∈ wsL_law) (hd : decode cc pc = .ok (.putfield index, 3)) (kk : ∀ (G1 : M3) (H1 : Heap) (locs1 : List Loc), G1 = up3 G 6 1 0 x → Wd E A s G1 K H1 locs1 → W p l e R s m args below meth c H1 locs1 cells slots Q (F0 m (pc + 3) ls rest)) : W p l e R s m args below meth c H locs cells slots Q (F0 m pc ls (.int x :: .ref (ad E 6 1) :: rest)) :=
  x_put C w (v6 (by decide)) (fun x y => cel_6) rfl inlX1 (k := 0) (ty := .int) (by decide) hw tyX1_ok nmX1 rfl (by decide +kernel) rfl rfl (Nat.le_of_ble_eq_true rfl) rfl hd (fun H1 locs1 w1 => kk _ H1 locs1 rfl w1)
theorem pL_X1_kept  {x : Int32} (C : Cx E A p s m args meth c w0 cc nL ret own) (w : Wd E A s (sg G 6 M) (sg K 6 J) H locs) (hw : Cond.fieldLink own index "AirStation$History" "kept" "I" ∈ wsL_law) (hd : decode cc pc = .ok (.putfield index, 3)) (kk : ∀ (M1 : M2) (H1 : Heap) (locs1 : List Loc), M1 = up2 M 1 0 x → Wd E A s (sg G 6 M1) (sg K 6 J) H1 locs1 → W p l e R s m args below meth c H1 locs1 cells slots Q (F0 m (pc + 3) ls rest)) : W p l e R s m args below meth c H locs cells slots Q (F0 m pc ls (.int x :: .ref (ad E 6 1) :: rest)) :=
  pG_X1_kept C w hw hd (fun G1 H1 locs1 e1 w1 => kk _ H1 locs1 rfl (by rw [e1, up3_L] at w1; exact w1))
theorem gG_X1_newest  (C : Cx E A p s m args meth c w0 cc nL ret own) (w : Wd E A s G K H locs) (hw : Cond.fieldLink own index "AirStation$History" "newest" "I" ∈ wsL_law) (hd : decode cc pc = .ok (.getfield index, 3)) (kk : W p l e R s m args below meth c H locs cells slots Q (F0 m (pc + 3) ls (.int (G 6 1 1) :: rest))) : W p l e R s m args below meth c H locs cells slots Q (F0 m pc ls (.ref (ad E 6 1) :: rest)) :=
  x_get C w (v6 (by decide)) cel_6 rfl inlX1 (k := 1) (by decide) hw rfl hd kk
theorem gL_X1_newest  (C : Cx E A p s m args meth c w0 cc nL ret own) (w : Wd E A s (sg G 6 M) (sg K 6 J) H locs) (hw : Cond.fieldLink own index "AirStation$History" "newest" "I" ∈ wsL_law) (hd : decode cc pc = .ok (.getfield index, 3)) (kk : W p l e R s m args below meth c H locs cells slots Q (F0 m (pc + 3) ls (.int (M 1 1) :: rest))) : W p l e R s m args below meth c H locs cells slots Q (F0 m pc ls (.ref (ad E 6 1) :: rest)) :=
  gG_X1_newest C w hw hd (by rw [sg_eq]; exact kk)
theorem pG_X1_newest  {x : Int32} (C : Cx E A p s m args meth c w0 cc nL ret own) (w : Wd E A s G K H locs) (hw : Cond.fieldLink own index "AirStation$History" "newest" "I" ∈ wsL_law) (hd : decode cc pc = .ok (.putfield index, 3)) (kk : ∀ (G1 : M3) (H1 : Heap) (locs1 : List Loc), G1 = up3 G 6 1 1 x → Wd E A s G1 K H1 locs1 → W p l e R s m args below meth c H1 locs1 cells slots Q (F0 m (pc + 3) ls rest)) : W p l e R s m args below meth c H locs cells slots Q (F0 m pc ls (.int x :: .ref (ad E 6 1) :: rest)) :=
  x_put C w (v6 (by decide)) (fun x y => cel_6) rfl inlX1 (k := 1) (ty := .int) (by decide) hw tyX1_ok nmX1 rfl (by decide +kernel) rfl rfl (Nat.le_of_ble_eq_true rfl) rfl hd (fun H1 locs1 w1 => kk _ H1 locs1 rfl w1)
theorem pL_X1_newest  {x : Int32} (C : Cx E A p s m args meth c w0 cc nL ret own) (w : Wd E A s (sg G 6 M) (sg K 6 J) H locs) (hw : Cond.fieldLink own index "AirStation$History" "newest" "I" ∈ wsL_law) (hd : decode cc pc = .ok (.putfield index, 3)) (kk : ∀ (M1 : M2) (H1 : Heap) (locs1 : List Loc), M1 = up2 M 1 1 x → Wd E A s (sg G 6 M1) (sg K 6 J) H1 locs1 → W p l e R s m args below meth c H1 locs1 cells slots Q (F0 m (pc + 3) ls rest)) : W p l e R s m args below meth c H locs cells slots Q (F0 m pc ls (.int x :: .ref (ad E 6 1) :: rest)) :=
  pG_X1_newest C w hw hd (fun G1 H1 locs1 e1 w1 => kk _ H1 locs1 rfl (by rw [e1, up3_L] at w1; exact w1))
theorem gR_X1_saved  (C : Cx E A p s m args meth c w0 cc nL ret own) (w : Wd E A s G K H locs) (hw : Cond.fieldLink own index "AirStation$History" "saved" "[LAirStation$State;" ∈ wsL_law) (hd : decode cc pc = .ok (.getfield index, 3)) (kk : W p l e R s m args below meth c H locs cells slots Q (F0 m (pc + 3) ls (.ref (ad E 6 2) :: rest))) : W p l e R s m args below meth c H locs cells slots Q (F0 m pc ls (.ref (ad E 6 1) :: rest)) :=
  x_get C w (v6 (by decide)) cel_6 rfl inlX1 (k := 2) (by decide) hw rfl hd kk
theorem gG_X2_length  (C : Cx E A p s m args meth c w0 cc nL ret own) (w : Wd E A s G K H locs) (hw : Cond.fieldLink own index "AirStation$Program" "length" "I" ∈ wsL_law) (hd : decode cc pc = .ok (.getfield index, 3)) (kk : W p l e R s m args below meth c H locs cells slots Q (F0 m (pc + 3) ls (.int (G 7 0 0) :: rest))) : W p l e R s m args below meth c H locs cells slots Q (F0 m pc ls (.ref (ad E 7 0) :: rest)) :=
  x_get C w (v7 (by decide)) cel_7 rfl inlX2 (k := 0) (by decide) hw rfl hd kk
theorem gL_X2_length  (C : Cx E A p s m args meth c w0 cc nL ret own) (w : Wd E A s (sg G 7 M) (sg K 7 J) H locs) (hw : Cond.fieldLink own index "AirStation$Program" "length" "I" ∈ wsL_law) (hd : decode cc pc = .ok (.getfield index, 3)) (kk : W p l e R s m args below meth c H locs cells slots Q (F0 m (pc + 3) ls (.int (M 0 0) :: rest))) : W p l e R s m args below meth c H locs cells slots Q (F0 m pc ls (.ref (ad E 7 0) :: rest)) :=
  gG_X2_length C w hw hd (by rw [sg_eq]; exact kk)
theorem pG_X2_length  {x : Int32} (C : Cx E A p s m args meth c w0 cc nL ret own) (w : Wd E A s G K H locs) (hw : Cond.fieldLink own index "AirStation$Program" "length" "I" ∈ wsL_law) (hd : decode cc pc = .ok (.putfield index, 3)) (kk : ∀ (G1 : M3) (H1 : Heap) (locs1 : List Loc), G1 = up3 G 7 0 0 x → Wd E A s G1 K H1 locs1 → W p l e R s m args below meth c H1 locs1 cells slots Q (F0 m (pc + 3) ls rest)) : W p l e R s m args below meth c H locs cells slots Q (F0 m pc ls (.int x :: .ref (ad E 7 0) :: rest)) :=
  x_put C w (v7 (by decide)) (fun x y => cel_7) rfl inlX2 (k := 0) (ty := .int) (by decide) hw tyX2_ok nmX2 rfl (by decide +kernel) rfl rfl (Nat.le_of_ble_eq_true rfl) rfl hd (fun H1 locs1 w1 => kk _ H1 locs1 rfl w1)
theorem pL_X2_length  {x : Int32} (C : Cx E A p s m args meth c w0 cc nL ret own) (w : Wd E A s (sg G 7 M) (sg K 7 J) H locs) (hw : Cond.fieldLink own index "AirStation$Program" "length" "I" ∈ wsL_law) (hd : decode cc pc = .ok (.putfield index, 3)) (kk : ∀ (M1 : M2) (H1 : Heap) (locs1 : List Loc), M1 = up2 M 0 0 x → Wd E A s (sg G 7 M1) (sg K 7 J) H1 locs1 → W p l e R s m args below meth c H1 locs1 cells slots Q (F0 m (pc + 3) ls rest)) : W p l e R s m args below meth c H locs cells slots Q (F0 m pc ls (.int x :: .ref (ad E 7 0) :: rest)) :=
  pG_X2_length C w hw hd (fun G1 H1 locs1 e1 w1 => kk _ H1 locs1 rfl (by rw [e1, up3_L] at w1; exact w1))
theorem gG_X2_orders  (C : Cx E A p s m args meth c w0 cc nL ret own) (w : Wd E A s G K H locs) (hw : Cond.fieldLink own index "AirStation$Program" "orders" "I" ∈ wsL_law) (hd : decode cc pc = .ok (.getfield index, 3)) (kk : W p l e R s m args below meth c H locs cells slots Q (F0 m (pc + 3) ls (.int (G 7 0 1) :: rest))) : W p l e R s m args below meth c H locs cells slots Q (F0 m pc ls (.ref (ad E 7 0) :: rest)) :=
  x_get C w (v7 (by decide)) cel_7 rfl inlX2 (k := 1) (by decide) hw rfl hd kk
theorem gL_X2_orders  (C : Cx E A p s m args meth c w0 cc nL ret own) (w : Wd E A s (sg G 7 M) (sg K 7 J) H locs) (hw : Cond.fieldLink own index "AirStation$Program" "orders" "I" ∈ wsL_law) (hd : decode cc pc = .ok (.getfield index, 3)) (kk : W p l e R s m args below meth c H locs cells slots Q (F0 m (pc + 3) ls (.int (M 0 1) :: rest))) : W p l e R s m args below meth c H locs cells slots Q (F0 m pc ls (.ref (ad E 7 0) :: rest)) :=
  gG_X2_orders C w hw hd (by rw [sg_eq]; exact kk)
theorem pG_X2_orders  {x : Int32} (C : Cx E A p s m args meth c w0 cc nL ret own) (w : Wd E A s G K H locs) (hw : Cond.fieldLink own index "AirStation$Program" "orders" "I" ∈ wsL_law) (hd : decode cc pc = .ok (.putfield index, 3)) (kk : ∀ (G1 : M3) (H1 : Heap) (locs1 : List Loc), G1 = up3 G 7 0 1 x → Wd E A s G1 K H1 locs1 → W p l e R s m args below meth c H1 locs1 cells slots Q (F0 m (pc + 3) ls rest)) : W p l e R s m args below meth c H locs cells slots Q (F0 m pc ls (.int x :: .ref (ad E 7 0) :: rest)) :=
  x_put C w (v7 (by decide)) (fun x y => cel_7) rfl inlX2 (k := 1) (ty := .int) (by decide) hw tyX2_ok nmX2 rfl (by decide +kernel) rfl rfl (Nat.le_of_ble_eq_true rfl) rfl hd (fun H1 locs1 w1 => kk _ H1 locs1 rfl w1)
theorem pL_X2_orders  {x : Int32} (C : Cx E A p s m args meth c w0 cc nL ret own) (w : Wd E A s (sg G 7 M) (sg K 7 J) H locs) (hw : Cond.fieldLink own index "AirStation$Program" "orders" "I" ∈ wsL_law) (hd : decode cc pc = .ok (.putfield index, 3)) (kk : ∀ (M1 : M2) (H1 : Heap) (locs1 : List Loc), M1 = up2 M 0 1 x → Wd E A s (sg G 7 M1) (sg K 7 J) H1 locs1 → W p l e R s m args below meth c H1 locs1 cells slots Q (F0 m (pc + 3) ls rest)) : W p l e R s m args below meth c H locs cells slots Q (F0 m pc ls (.int x :: .ref (ad E 7 0) :: rest)) :=
  pG_X2_orders C w hw hd (fun G1 H1 locs1 e1 w1 => kk _ H1 locs1 rfl (by rw [e1, up3_L] at w1; exact w1))
theorem gG_X2_position  (C : Cx E A p s m args meth c w0 cc nL ret own) (w : Wd E A s G K H locs) (hw : Cond.fieldLink own index "AirStation$Program" "position" "I" ∈ wsL_law) (hd : decode cc pc = .ok (.getfield index, 3)) (kk : W p l e R s m args below meth c H locs cells slots Q (F0 m (pc + 3) ls (.int (G 7 0 2) :: rest))) : W p l e R s m args below meth c H locs cells slots Q (F0 m pc ls (.ref (ad E 7 0) :: rest)) :=
  x_get C w (v7 (by decide)) cel_7 rfl inlX2 (k := 2) (by decide) hw rfl hd kk
theorem gL_X2_position  (C : Cx E A p s m args meth c w0 cc nL ret own) (w : Wd E A s (sg G 7 M) (sg K 7 J) H locs) (hw : Cond.fieldLink own index "AirStation$Program" "position" "I" ∈ wsL_law) (hd : decode cc pc = .ok (.getfield index, 3)) (kk : W p l e R s m args below meth c H locs cells slots Q (F0 m (pc + 3) ls (.int (M 0 2) :: rest))) : W p l e R s m args below meth c H locs cells slots Q (F0 m pc ls (.ref (ad E 7 0) :: rest)) :=
  gG_X2_position C w hw hd (by rw [sg_eq]; exact kk)
theorem pG_X2_position  {x : Int32} (C : Cx E A p s m args meth c w0 cc nL ret own) (w : Wd E A s G K H locs) (hw : Cond.fieldLink own index "AirStation$Program" "position" "I" ∈ wsL_law) (hd : decode cc pc = .ok (.putfield index, 3)) (kk : ∀ (G1 : M3) (H1 : Heap) (locs1 : List Loc), G1 = up3 G 7 0 2 x → Wd E A s G1 K H1 locs1 → W p l e R s m args below meth c H1 locs1 cells slots Q (F0 m (pc + 3) ls rest)) : W p l e R s m args below meth c H locs cells slots Q (F0 m pc ls (.int x :: .ref (ad E 7 0) :: rest)) :=
  x_put C w (v7 (by decide)) (fun x y => cel_7) rfl inlX2 (k := 2) (ty := .int) (by decide) hw tyX2_ok nmX2 rfl (by decide +kernel) rfl rfl (Nat.le_of_ble_eq_true rfl) rfl hd (fun H1 locs1 w1 => kk _ H1 locs1 rfl w1)
theorem pL_X2_position  {x : Int32} (C : Cx E A p s m args meth c w0 cc nL ret own) (w : Wd E A s (sg G 7 M) (sg K 7 J) H locs) (hw : Cond.fieldLink own index "AirStation$Program" "position" "I" ∈ wsL_law) (hd : decode cc pc = .ok (.putfield index, 3)) (kk : ∀ (M1 : M2) (H1 : Heap) (locs1 : List Loc), M1 = up2 M 0 2 x → Wd E A s (sg G 7 M1) (sg K 7 J) H1 locs1 → W p l e R s m args below meth c H1 locs1 cells slots Q (F0 m (pc + 3) ls rest)) : W p l e R s m args below meth c H locs cells slots Q (F0 m pc ls (.int x :: .ref (ad E 7 0) :: rest)) :=
  pG_X2_position C w hw hd (fun G1 H1 locs1 e1 w1 => kk _ H1 locs1 rfl (by rw [e1, up3_L] at w1; exact w1))
theorem gG_X2_error  (C : Cx E A p s m args meth c w0 cc nL ret own) (w : Wd E A s G K H locs) (hw : Cond.fieldLink own index "AirStation$Program" "error" "I" ∈ wsL_law) (hd : decode cc pc = .ok (.getfield index, 3)) (kk : W p l e R s m args below meth c H locs cells slots Q (F0 m (pc + 3) ls (.int (G 7 0 3) :: rest))) : W p l e R s m args below meth c H locs cells slots Q (F0 m pc ls (.ref (ad E 7 0) :: rest)) :=
  x_get C w (v7 (by decide)) cel_7 rfl inlX2 (k := 3) (by decide) hw rfl hd kk
theorem gL_X2_error  (C : Cx E A p s m args meth c w0 cc nL ret own) (w : Wd E A s (sg G 7 M) (sg K 7 J) H locs) (hw : Cond.fieldLink own index "AirStation$Program" "error" "I" ∈ wsL_law) (hd : decode cc pc = .ok (.getfield index, 3)) (kk : W p l e R s m args below meth c H locs cells slots Q (F0 m (pc + 3) ls (.int (M 0 3) :: rest))) : W p l e R s m args below meth c H locs cells slots Q (F0 m pc ls (.ref (ad E 7 0) :: rest)) :=
  gG_X2_error C w hw hd (by rw [sg_eq]; exact kk)
theorem pG_X2_error  {x : Int32} (C : Cx E A p s m args meth c w0 cc nL ret own) (w : Wd E A s G K H locs) (hw : Cond.fieldLink own index "AirStation$Program" "error" "I" ∈ wsL_law) (hd : decode cc pc = .ok (.putfield index, 3)) (kk : ∀ (G1 : M3) (H1 : Heap) (locs1 : List Loc), G1 = up3 G 7 0 3 x → Wd E A s G1 K H1 locs1 → W p l e R s m args below meth c H1 locs1 cells slots Q (F0 m (pc + 3) ls rest)) : W p l e R s m args below meth c H locs cells slots Q (F0 m pc ls (.int x :: .ref (ad E 7 0) :: rest)) :=
  x_put C w (v7 (by decide)) (fun x y => cel_7) rfl inlX2 (k := 3) (ty := .int) (by decide) hw tyX2_ok nmX2 rfl (by decide +kernel) rfl rfl (Nat.le_of_ble_eq_true rfl) rfl hd (fun H1 locs1 w1 => kk _ H1 locs1 rfl w1)
theorem pL_X2_error  {x : Int32} (C : Cx E A p s m args meth c w0 cc nL ret own) (w : Wd E A s (sg G 7 M) (sg K 7 J) H locs) (hw : Cond.fieldLink own index "AirStation$Program" "error" "I" ∈ wsL_law) (hd : decode cc pc = .ok (.putfield index, 3)) (kk : ∀ (M1 : M2) (H1 : Heap) (locs1 : List Loc), M1 = up2 M 0 3 x → Wd E A s (sg G 7 M1) (sg K 7 J) H1 locs1 → W p l e R s m args below meth c H1 locs1 cells slots Q (F0 m (pc + 3) ls rest)) : W p l e R s m args below meth c H locs cells slots Q (F0 m pc ls (.int x :: .ref (ad E 7 0) :: rest)) :=
  pG_X2_error C w hw hd (fun G1 H1 locs1 e1 w1 => kk _ H1 locs1 rfl (by rw [e1, up3_L] at w1; exact w1))
theorem gR_X2_bytes  (C : Cx E A p s m args meth c w0 cc nL ret own) (w : Wd E A s G K H locs) (hw : Cond.fieldLink own index "AirStation$Program" "bytes" "[I" ∈ wsL_law) (hd : decode cc pc = .ok (.getfield index, 3)) (kk : W p l e R s m args below meth c H locs cells slots Q (F0 m (pc + 3) ls (.ref (ad E 7 1) :: rest))) : W p l e R s m args below meth c H locs cells slots Q (F0 m pc ls (.ref (ad E 7 0) :: rest)) :=
  x_get C w (v7 (by decide)) cel_7 rfl inlX2 (k := 4) (by decide) hw rfl hd kk
theorem gR_X2_kinds  (C : Cx E A p s m args meth c w0 cc nL ret own) (w : Wd E A s G K H locs) (hw : Cond.fieldLink own index "AirStation$Program" "kinds" "[I" ∈ wsL_law) (hd : decode cc pc = .ok (.getfield index, 3)) (kk : W p l e R s m args below meth c H locs cells slots Q (F0 m (pc + 3) ls (.ref (ad E 7 2) :: rest))) : W p l e R s m args below meth c H locs cells slots Q (F0 m pc ls (.ref (ad E 7 0) :: rest)) :=
  x_get C w (v7 (by decide)) cel_7 rfl inlX2 (k := 5) (by decide) hw rfl hd kk
theorem gR_X2_numbers  (C : Cx E A p s m args meth c w0 cc nL ret own) (w : Wd E A s G K H locs) (hw : Cond.fieldLink own index "AirStation$Program" "numbers" "[I" ∈ wsL_law) (hd : decode cc pc = .ok (.getfield index, 3)) (kk : W p l e R s m args below meth c H locs cells slots Q (F0 m (pc + 3) ls (.ref (ad E 7 3) :: rest))) : W p l e R s m args below meth c H locs cells slots Q (F0 m pc ls (.ref (ad E 7 0) :: rest)) :=
  x_get C w (v7 (by decide)) cel_7 rfl inlX2 (k := 6) (by decide) hw rfl hd kk
theorem gG_X3_volume {g : Nat} (hg : g < 6) (C : Cx E A p s m args meth c w0 cc nL ret own) (w : Wd E A s G K H locs) (hw : Cond.fieldLink own index "AirStation$State" "volume" "I" ∈ wsL_law) (hd : decode cc pc = .ok (.getfield index, 3)) (kk : W p l e R s m args below meth c H locs cells slots Q (F0 m (pc + 3) ls (.int (G g 0 0) :: rest))) : W p l e R s m args below meth c H locs cells slots Q (F0 m pc ls (.ref (ad E g 0) :: rest)) :=
  x_get C w (vS hg (by decide)) (cel_S hg) rfl inlX3 (k := 0) (by decide) hw rfl hd kk
theorem gL_X3_volume {g : Nat} (hg : g < 6) (C : Cx E A p s m args meth c w0 cc nL ret own) (w : Wd E A s (sg G g M) (sg K g J) H locs) (hw : Cond.fieldLink own index "AirStation$State" "volume" "I" ∈ wsL_law) (hd : decode cc pc = .ok (.getfield index, 3)) (kk : W p l e R s m args below meth c H locs cells slots Q (F0 m (pc + 3) ls (.int (M 0 0) :: rest))) : W p l e R s m args below meth c H locs cells slots Q (F0 m pc ls (.ref (ad E g 0) :: rest)) :=
  gG_X3_volume hg C w hw hd (by rw [sg_eq]; exact kk)
theorem pG_X3_volume {g : Nat} (hg : g < 6) {x : Int32} (C : Cx E A p s m args meth c w0 cc nL ret own) (w : Wd E A s G K H locs) (hw : Cond.fieldLink own index "AirStation$State" "volume" "I" ∈ wsL_law) (hd : decode cc pc = .ok (.putfield index, 3)) (kk : ∀ (G1 : M3) (H1 : Heap) (locs1 : List Loc), G1 = up3 G g 0 0 x → Wd E A s G1 K H1 locs1 → W p l e R s m args below meth c H1 locs1 cells slots Q (F0 m (pc + 3) ls rest)) : W p l e R s m args below meth c H locs cells slots Q (F0 m pc ls (.int x :: .ref (ad E g 0) :: rest)) :=
  x_put C w (vS hg (by decide)) (fun x y => cel_S hg) rfl inlX3 (k := 0) (ty := .int) (by decide) hw tyX3_ok nmX3 rfl (by decide +kernel) rfl rfl (Nat.le_of_ble_eq_true rfl) rfl hd (fun H1 locs1 w1 => kk _ H1 locs1 rfl w1)
theorem pL_X3_volume {g : Nat} (hg : g < 6) {x : Int32} (C : Cx E A p s m args meth c w0 cc nL ret own) (w : Wd E A s (sg G g M) (sg K g J) H locs) (hw : Cond.fieldLink own index "AirStation$State" "volume" "I" ∈ wsL_law) (hd : decode cc pc = .ok (.putfield index, 3)) (kk : ∀ (M1 : M2) (H1 : Heap) (locs1 : List Loc), M1 = up2 M 0 0 x → Wd E A s (sg G g M1) (sg K g J) H1 locs1 → W p l e R s m args below meth c H1 locs1 cells slots Q (F0 m (pc + 3) ls rest)) : W p l e R s m args below meth c H locs cells slots Q (F0 m pc ls (.int x :: .ref (ad E g 0) :: rest)) :=
  pG_X3_volume hg C w hw hd (fun G1 H1 locs1 e1 w1 => kk _ H1 locs1 rfl (by rw [e1, up3_L] at w1; exact w1))
theorem gG_X3_air {g : Nat} (hg : g < 6) (C : Cx E A p s m args meth c w0 cc nL ret own) (w : Wd E A s G K H locs) (hw : Cond.fieldLink own index "AirStation$State" "air" "I" ∈ wsL_law) (hd : decode cc pc = .ok (.getfield index, 3)) (kk : W p l e R s m args below meth c H locs cells slots Q (F0 m (pc + 3) ls (.int (G g 0 1) :: rest))) : W p l e R s m args below meth c H locs cells slots Q (F0 m pc ls (.ref (ad E g 0) :: rest)) :=
  x_get C w (vS hg (by decide)) (cel_S hg) rfl inlX3 (k := 1) (by decide) hw rfl hd kk
theorem gL_X3_air {g : Nat} (hg : g < 6) (C : Cx E A p s m args meth c w0 cc nL ret own) (w : Wd E A s (sg G g M) (sg K g J) H locs) (hw : Cond.fieldLink own index "AirStation$State" "air" "I" ∈ wsL_law) (hd : decode cc pc = .ok (.getfield index, 3)) (kk : W p l e R s m args below meth c H locs cells slots Q (F0 m (pc + 3) ls (.int (M 0 1) :: rest))) : W p l e R s m args below meth c H locs cells slots Q (F0 m pc ls (.ref (ad E g 0) :: rest)) :=
  gG_X3_air hg C w hw hd (by rw [sg_eq]; exact kk)
theorem pG_X3_air {g : Nat} (hg : g < 6) {x : Int32} (C : Cx E A p s m args meth c w0 cc nL ret own) (w : Wd E A s G K H locs) (hw : Cond.fieldLink own index "AirStation$State" "air" "I" ∈ wsL_law) (hd : decode cc pc = .ok (.putfield index, 3)) (kk : ∀ (G1 : M3) (H1 : Heap) (locs1 : List Loc), G1 = up3 G g 0 1 x → Wd E A s G1 K H1 locs1 → W p l e R s m args below meth c H1 locs1 cells slots Q (F0 m (pc + 3) ls rest)) : W p l e R s m args below meth c H locs cells slots Q (F0 m pc ls (.int x :: .ref (ad E g 0) :: rest)) :=
  x_put C w (vS hg (by decide)) (fun x y => cel_S hg) rfl inlX3 (k := 1) (ty := .int) (by decide) hw tyX3_ok nmX3 rfl (by decide +kernel) rfl rfl (Nat.le_of_ble_eq_true rfl) rfl hd (fun H1 locs1 w1 => kk _ H1 locs1 rfl w1)
theorem pL_X3_air {g : Nat} (hg : g < 6) {x : Int32} (C : Cx E A p s m args meth c w0 cc nL ret own) (w : Wd E A s (sg G g M) (sg K g J) H locs) (hw : Cond.fieldLink own index "AirStation$State" "air" "I" ∈ wsL_law) (hd : decode cc pc = .ok (.putfield index, 3)) (kk : ∀ (M1 : M2) (H1 : Heap) (locs1 : List Loc), M1 = up2 M 0 1 x → Wd E A s (sg G g M1) (sg K g J) H1 locs1 → W p l e R s m args below meth c H1 locs1 cells slots Q (F0 m (pc + 3) ls rest)) : W p l e R s m args below meth c H locs cells slots Q (F0 m pc ls (.int x :: .ref (ad E g 0) :: rest)) :=
  pG_X3_air hg C w hw hd (fun G1 H1 locs1 e1 w1 => kk _ H1 locs1 rfl (by rw [e1, up3_L] at w1; exact w1))
theorem gG_X3_time {g : Nat} (hg : g < 6) (C : Cx E A p s m args meth c w0 cc nL ret own) (w : Wd E A s G K H locs) (hw : Cond.fieldLink own index "AirStation$State" "time" "I" ∈ wsL_law) (hd : decode cc pc = .ok (.getfield index, 3)) (kk : W p l e R s m args below meth c H locs cells slots Q (F0 m (pc + 3) ls (.int (G g 0 2) :: rest))) : W p l e R s m args below meth c H locs cells slots Q (F0 m pc ls (.ref (ad E g 0) :: rest)) :=
  x_get C w (vS hg (by decide)) (cel_S hg) rfl inlX3 (k := 2) (by decide) hw rfl hd kk
theorem gL_X3_time {g : Nat} (hg : g < 6) (C : Cx E A p s m args meth c w0 cc nL ret own) (w : Wd E A s (sg G g M) (sg K g J) H locs) (hw : Cond.fieldLink own index "AirStation$State" "time" "I" ∈ wsL_law) (hd : decode cc pc = .ok (.getfield index, 3)) (kk : W p l e R s m args below meth c H locs cells slots Q (F0 m (pc + 3) ls (.int (M 0 2) :: rest))) : W p l e R s m args below meth c H locs cells slots Q (F0 m pc ls (.ref (ad E g 0) :: rest)) :=
  gG_X3_time hg C w hw hd (by rw [sg_eq]; exact kk)
theorem pG_X3_time {g : Nat} (hg : g < 6) {x : Int32} (C : Cx E A p s m args meth c w0 cc nL ret own) (w : Wd E A s G K H locs) (hw : Cond.fieldLink own index "AirStation$State" "time" "I" ∈ wsL_law) (hd : decode cc pc = .ok (.putfield index, 3)) (kk : ∀ (G1 : M3) (H1 : Heap) (locs1 : List Loc), G1 = up3 G g 0 2 x → Wd E A s G1 K H1 locs1 → W p l e R s m args below meth c H1 locs1 cells slots Q (F0 m (pc + 3) ls rest)) : W p l e R s m args below meth c H locs cells slots Q (F0 m pc ls (.int x :: .ref (ad E g 0) :: rest)) :=
  x_put C w (vS hg (by decide)) (fun x y => cel_S hg) rfl inlX3 (k := 2) (ty := .int) (by decide) hw tyX3_ok nmX3 rfl (by decide +kernel) rfl rfl (Nat.le_of_ble_eq_true rfl) rfl hd (fun H1 locs1 w1 => kk _ H1 locs1 rfl w1)
theorem pL_X3_time {g : Nat} (hg : g < 6) {x : Int32} (C : Cx E A p s m args meth c w0 cc nL ret own) (w : Wd E A s (sg G g M) (sg K g J) H locs) (hw : Cond.fieldLink own index "AirStation$State" "time" "I" ∈ wsL_law) (hd : decode cc pc = .ok (.putfield index, 3)) (kk : ∀ (M1 : M2) (H1 : Heap) (locs1 : List Loc), M1 = up2 M 0 2 x → Wd E A s (sg G g M1) (sg K g J) H1 locs1 → W p l e R s m args below meth c H1 locs1 cells slots Q (F0 m (pc + 3) ls rest)) : W p l e R s m args below meth c H locs cells slots Q (F0 m pc ls (.int x :: .ref (ad E g 0) :: rest)) :=
  pG_X3_time hg C w hw hd (fun G1 H1 locs1 e1 w1 => kk _ H1 locs1 rfl (by rw [e1, up3_L] at w1; exact w1))
theorem gG_X3_sinceRotation {g : Nat} (hg : g < 6) (C : Cx E A p s m args meth c w0 cc nL ret own) (w : Wd E A s G K H locs) (hw : Cond.fieldLink own index "AirStation$State" "sinceRotation" "I" ∈ wsL_law) (hd : decode cc pc = .ok (.getfield index, 3)) (kk : W p l e R s m args below meth c H locs cells slots Q (F0 m (pc + 3) ls (.int (G g 0 3) :: rest))) : W p l e R s m args below meth c H locs cells slots Q (F0 m pc ls (.ref (ad E g 0) :: rest)) :=
  x_get C w (vS hg (by decide)) (cel_S hg) rfl inlX3 (k := 3) (by decide) hw rfl hd kk
theorem gL_X3_sinceRotation {g : Nat} (hg : g < 6) (C : Cx E A p s m args meth c w0 cc nL ret own) (w : Wd E A s (sg G g M) (sg K g J) H locs) (hw : Cond.fieldLink own index "AirStation$State" "sinceRotation" "I" ∈ wsL_law) (hd : decode cc pc = .ok (.getfield index, 3)) (kk : W p l e R s m args below meth c H locs cells slots Q (F0 m (pc + 3) ls (.int (M 0 3) :: rest))) : W p l e R s m args below meth c H locs cells slots Q (F0 m pc ls (.ref (ad E g 0) :: rest)) :=
  gG_X3_sinceRotation hg C w hw hd (by rw [sg_eq]; exact kk)
theorem pG_X3_sinceRotation {g : Nat} (hg : g < 6) {x : Int32} (C : Cx E A p s m args meth c w0 cc nL ret own) (w : Wd E A s G K H locs) (hw : Cond.fieldLink own index "AirStation$State" "sinceRotation" "I" ∈ wsL_law) (hd : decode cc pc = .ok (.putfield index, 3)) (kk : ∀ (G1 : M3) (H1 : Heap) (locs1 : List Loc), G1 = up3 G g 0 3 x → Wd E A s G1 K H1 locs1 → W p l e R s m args below meth c H1 locs1 cells slots Q (F0 m (pc + 3) ls rest)) : W p l e R s m args below meth c H locs cells slots Q (F0 m pc ls (.int x :: .ref (ad E g 0) :: rest)) :=
  x_put C w (vS hg (by decide)) (fun x y => cel_S hg) rfl inlX3 (k := 3) (ty := .int) (by decide) hw tyX3_ok nmX3 rfl (by decide +kernel) rfl rfl (Nat.le_of_ble_eq_true rfl) rfl hd (fun H1 locs1 w1 => kk _ H1 locs1 rfl w1)
theorem pL_X3_sinceRotation {g : Nat} (hg : g < 6) {x : Int32} (C : Cx E A p s m args meth c w0 cc nL ret own) (w : Wd E A s (sg G g M) (sg K g J) H locs) (hw : Cond.fieldLink own index "AirStation$State" "sinceRotation" "I" ∈ wsL_law) (hd : decode cc pc = .ok (.putfield index, 3)) (kk : ∀ (M1 : M2) (H1 : Heap) (locs1 : List Loc), M1 = up2 M 0 3 x → Wd E A s (sg G g M1) (sg K g J) H1 locs1 → W p l e R s m args below meth c H1 locs1 cells slots Q (F0 m (pc + 3) ls rest)) : W p l e R s m args below meth c H locs cells slots Q (F0 m pc ls (.int x :: .ref (ad E g 0) :: rest)) :=
  pG_X3_sinceRotation hg C w hw hd (fun G1 H1 locs1 e1 w1 => kk _ H1 locs1 rfl (by rw [e1, up3_L] at w1; exact w1))
theorem gG_X3_rotations {g : Nat} (hg : g < 6) (C : Cx E A p s m args meth c w0 cc nL ret own) (w : Wd E A s G K H locs) (hw : Cond.fieldLink own index "AirStation$State" "rotations" "I" ∈ wsL_law) (hd : decode cc pc = .ok (.getfield index, 3)) (kk : W p l e R s m args below meth c H locs cells slots Q (F0 m (pc + 3) ls (.int (G g 0 4) :: rest))) : W p l e R s m args below meth c H locs cells slots Q (F0 m pc ls (.ref (ad E g 0) :: rest)) :=
  x_get C w (vS hg (by decide)) (cel_S hg) rfl inlX3 (k := 4) (by decide) hw rfl hd kk
theorem gL_X3_rotations {g : Nat} (hg : g < 6) (C : Cx E A p s m args meth c w0 cc nL ret own) (w : Wd E A s (sg G g M) (sg K g J) H locs) (hw : Cond.fieldLink own index "AirStation$State" "rotations" "I" ∈ wsL_law) (hd : decode cc pc = .ok (.getfield index, 3)) (kk : W p l e R s m args below meth c H locs cells slots Q (F0 m (pc + 3) ls (.int (M 0 4) :: rest))) : W p l e R s m args below meth c H locs cells slots Q (F0 m pc ls (.ref (ad E g 0) :: rest)) :=
  gG_X3_rotations hg C w hw hd (by rw [sg_eq]; exact kk)
theorem pG_X3_rotations {g : Nat} (hg : g < 6) {x : Int32} (C : Cx E A p s m args meth c w0 cc nL ret own) (w : Wd E A s G K H locs) (hw : Cond.fieldLink own index "AirStation$State" "rotations" "I" ∈ wsL_law) (hd : decode cc pc = .ok (.putfield index, 3)) (kk : ∀ (G1 : M3) (H1 : Heap) (locs1 : List Loc), G1 = up3 G g 0 4 x → Wd E A s G1 K H1 locs1 → W p l e R s m args below meth c H1 locs1 cells slots Q (F0 m (pc + 3) ls rest)) : W p l e R s m args below meth c H locs cells slots Q (F0 m pc ls (.int x :: .ref (ad E g 0) :: rest)) :=
  x_put C w (vS hg (by decide)) (fun x y => cel_S hg) rfl inlX3 (k := 4) (ty := .int) (by decide) hw tyX3_ok nmX3 rfl (by decide +kernel) rfl rfl (Nat.le_of_ble_eq_true rfl) rfl hd (fun H1 locs1 w1 => kk _ H1 locs1 rfl w1)
theorem pL_X3_rotations {g : Nat} (hg : g < 6) {x : Int32} (C : Cx E A p s m args meth c w0 cc nL ret own) (w : Wd E A s (sg G g M) (sg K g J) H locs) (hw : Cond.fieldLink own index "AirStation$State" "rotations" "I" ∈ wsL_law) (hd : decode cc pc = .ok (.putfield index, 3)) (kk : ∀ (M1 : M2) (H1 : Heap) (locs1 : List Loc), M1 = up2 M 0 4 x → Wd E A s (sg G g M1) (sg K g J) H1 locs1 → W p l e R s m args below meth c H1 locs1 cells slots Q (F0 m (pc + 3) ls rest)) : W p l e R s m args below meth c H locs cells slots Q (F0 m pc ls (.int x :: .ref (ad E g 0) :: rest)) :=
  pG_X3_rotations hg C w hw hd (fun G1 H1 locs1 e1 w1 => kk _ H1 locs1 rfl (by rw [e1, up3_L] at w1; exact w1))
theorem gG_X3_count {g : Nat} (hg : g < 6) (C : Cx E A p s m args meth c w0 cc nL ret own) (w : Wd E A s G K H locs) (hw : Cond.fieldLink own index "AirStation$State" "count" "I" ∈ wsL_law) (hd : decode cc pc = .ok (.getfield index, 3)) (kk : W p l e R s m args below meth c H locs cells slots Q (F0 m (pc + 3) ls (.int (G g 0 5) :: rest))) : W p l e R s m args below meth c H locs cells slots Q (F0 m pc ls (.ref (ad E g 0) :: rest)) :=
  x_get C w (vS hg (by decide)) (cel_S hg) rfl inlX3 (k := 5) (by decide) hw rfl hd kk
theorem gL_X3_count {g : Nat} (hg : g < 6) (C : Cx E A p s m args meth c w0 cc nL ret own) (w : Wd E A s (sg G g M) (sg K g J) H locs) (hw : Cond.fieldLink own index "AirStation$State" "count" "I" ∈ wsL_law) (hd : decode cc pc = .ok (.getfield index, 3)) (kk : W p l e R s m args below meth c H locs cells slots Q (F0 m (pc + 3) ls (.int (M 0 5) :: rest))) : W p l e R s m args below meth c H locs cells slots Q (F0 m pc ls (.ref (ad E g 0) :: rest)) :=
  gG_X3_count hg C w hw hd (by rw [sg_eq]; exact kk)
theorem pG_X3_count {g : Nat} (hg : g < 6) {x : Int32} (C : Cx E A p s m args meth c w0 cc nL ret own) (w : Wd E A s G K H locs) (hw : Cond.fieldLink own index "AirStation$State" "count" "I" ∈ wsL_law) (hd : decode cc pc = .ok (.putfield index, 3)) (kk : ∀ (G1 : M3) (H1 : Heap) (locs1 : List Loc), G1 = up3 G g 0 5 x → Wd E A s G1 K H1 locs1 → W p l e R s m args below meth c H1 locs1 cells slots Q (F0 m (pc + 3) ls rest)) : W p l e R s m args below meth c H locs cells slots Q (F0 m pc ls (.int x :: .ref (ad E g 0) :: rest)) :=
  x_put C w (vS hg (by decide)) (fun x y => cel_S hg) rfl inlX3 (k := 5) (ty := .int) (by decide) hw tyX3_ok nmX3 rfl (by decide +kernel) rfl rfl (Nat.le_of_ble_eq_true rfl) rfl hd (fun H1 locs1 w1 => kk _ H1 locs1 rfl w1)
theorem pL_X3_count {g : Nat} (hg : g < 6) {x : Int32} (C : Cx E A p s m args meth c w0 cc nL ret own) (w : Wd E A s (sg G g M) (sg K g J) H locs) (hw : Cond.fieldLink own index "AirStation$State" "count" "I" ∈ wsL_law) (hd : decode cc pc = .ok (.putfield index, 3)) (kk : ∀ (M1 : M2) (H1 : Heap) (locs1 : List Loc), M1 = up2 M 0 5 x → Wd E A s (sg G g M1) (sg K g J) H1 locs1 → W p l e R s m args below meth c H1 locs1 cells slots Q (F0 m (pc + 3) ls rest)) : W p l e R s m args below meth c H locs cells slots Q (F0 m pc ls (.int x :: .ref (ad E g 0) :: rest)) :=
  pG_X3_count hg C w hw hd (fun G1 H1 locs1 e1 w1 => kk _ H1 locs1 rfl (by rw [e1, up3_L] at w1; exact w1))
theorem gG_X3_kept {g : Nat} (hg : g < 6) (C : Cx E A p s m args meth c w0 cc nL ret own) (w : Wd E A s G K H locs) (hw : Cond.fieldLink own index "AirStation$State" "kept" "I" ∈ wsL_law) (hd : decode cc pc = .ok (.getfield index, 3)) (kk : W p l e R s m args below meth c H locs cells slots Q (F0 m (pc + 3) ls (.int (G g 0 6) :: rest))) : W p l e R s m args below meth c H locs cells slots Q (F0 m pc ls (.ref (ad E g 0) :: rest)) :=
  x_get C w (vS hg (by decide)) (cel_S hg) rfl inlX3 (k := 6) (by decide) hw rfl hd kk
theorem gL_X3_kept {g : Nat} (hg : g < 6) (C : Cx E A p s m args meth c w0 cc nL ret own) (w : Wd E A s (sg G g M) (sg K g J) H locs) (hw : Cond.fieldLink own index "AirStation$State" "kept" "I" ∈ wsL_law) (hd : decode cc pc = .ok (.getfield index, 3)) (kk : W p l e R s m args below meth c H locs cells slots Q (F0 m (pc + 3) ls (.int (M 0 6) :: rest))) : W p l e R s m args below meth c H locs cells slots Q (F0 m pc ls (.ref (ad E g 0) :: rest)) :=
  gG_X3_kept hg C w hw hd (by rw [sg_eq]; exact kk)
theorem pG_X3_kept {g : Nat} (hg : g < 6) {x : Int32} (C : Cx E A p s m args meth c w0 cc nL ret own) (w : Wd E A s G K H locs) (hw : Cond.fieldLink own index "AirStation$State" "kept" "I" ∈ wsL_law) (hd : decode cc pc = .ok (.putfield index, 3)) (kk : ∀ (G1 : M3) (H1 : Heap) (locs1 : List Loc), G1 = up3 G g 0 6 x → Wd E A s G1 K H1 locs1 → W p l e R s m args below meth c H1 locs1 cells slots Q (F0 m (pc + 3) ls rest)) : W p l e R s m args below meth c H locs cells slots Q (F0 m pc ls (.int x :: .ref (ad E g 0) :: rest)) :=
  x_put C w (vS hg (by decide)) (fun x y => cel_S hg) rfl inlX3 (k := 6) (ty := .int) (by decide) hw tyX3_ok nmX3 rfl (by decide +kernel) rfl rfl (Nat.le_of_ble_eq_true rfl) rfl hd (fun H1 locs1 w1 => kk _ H1 locs1 rfl w1)
theorem pL_X3_kept {g : Nat} (hg : g < 6) {x : Int32} (C : Cx E A p s m args meth c w0 cc nL ret own) (w : Wd E A s (sg G g M) (sg K g J) H locs) (hw : Cond.fieldLink own index "AirStation$State" "kept" "I" ∈ wsL_law) (hd : decode cc pc = .ok (.putfield index, 3)) (kk : ∀ (M1 : M2) (H1 : Heap) (locs1 : List Loc), M1 = up2 M 0 6 x → Wd E A s (sg G g M1) (sg K g J) H1 locs1 → W p l e R s m args below meth c H1 locs1 cells slots Q (F0 m (pc + 3) ls rest)) : W p l e R s m args below meth c H locs cells slots Q (F0 m pc ls (.int x :: .ref (ad E g 0) :: rest)) :=
  pG_X3_kept hg C w hw hd (fun G1 H1 locs1 e1 w1 => kk _ H1 locs1 rfl (by rw [e1, up3_L] at w1; exact w1))
theorem gR_X3_settings {g : Nat} (hg : g < 6) (C : Cx E A p s m args meth c w0 cc nL ret own) (w : Wd E A s G K H locs) (hw : Cond.fieldLink own index "AirStation$State" "settings" "[I" ∈ wsL_law) (hd : decode cc pc = .ok (.getfield index, 3)) (kk : W p l e R s m args below meth c H locs cells slots Q (F0 m (pc + 3) ls (.ref (ad E g 1) :: rest))) : W p l e R s m args below meth c H locs cells slots Q (F0 m pc ls (.ref (ad E g 0) :: rest)) :=
  x_get C w (vS hg (by decide)) (cel_S hg) rfl inlX3 (k := 7) (by decide) hw rfl hd kk
theorem gR_X3_amounts {g : Nat} (hg : g < 6) (C : Cx E A p s m args meth c w0 cc nL ret own) (w : Wd E A s G K H locs) (hw : Cond.fieldLink own index "AirStation$State" "amounts" "[J" ∈ wsL_law) (hd : decode cc pc = .ok (.getfield index, 3)) (kk : W p l e R s m args below meth c H locs cells slots Q (F0 m (pc + 3) ls (.ref (ad E g 2) :: rest))) : W p l e R s m args below meth c H locs cells slots Q (F0 m pc ls (.ref (ad E g 0) :: rest)) :=
  x_get C w (vS hg (by decide)) (cel_S hg) rfl inlX3 (k := 8) (by decide) hw rfl hd kk
theorem gR_X3_results {g : Nat} (hg : g < 6) (C : Cx E A p s m args meth c w0 cc nL ret own) (w : Wd E A s G K H locs) (hw : Cond.fieldLink own index "AirStation$State" "results" "[I" ∈ wsL_law) (hd : decode cc pc = .ok (.getfield index, 3)) (kk : W p l e R s m args below meth c H locs cells slots Q (F0 m (pc + 3) ls (.ref (ad E g 3) :: rest))) : W p l e R s m args below meth c H locs cells slots Q (F0 m pc ls (.ref (ad E g 0) :: rest)) :=
  x_get C w (vS hg (by decide)) (cel_S hg) rfl inlX3 (k := 9) (by decide) hw rfl hd kk
theorem gR_X3_compressors {g : Nat} (hg : g < 6) (C : Cx E A p s m args meth c w0 cc nL ret own) (w : Wd E A s G K H locs) (hw : Cond.fieldLink own index "AirStation$State" "compressors" "[LAirStation$Compressor;" ∈ wsL_law) (hd : decode cc pc = .ok (.getfield index, 3)) (kk : W p l e R s m args below meth c H locs cells slots Q (F0 m (pc + 3) ls (.ref (ad E g 4) :: rest))) : W p l e R s m args below meth c H locs cells slots Q (F0 m pc ls (.ref (ad E g 0) :: rest)) :=
  x_get C w (vS hg (by decide)) (cel_S hg) rfl inlX3 (k := 10) (by decide) hw rfl hd kk
theorem gR_X4_state  (C : Cx E A p s m args meth c w0 cc nL ret own) (w : Wd E A s G K H locs) (hw : Cond.fieldLink own index "AirStation" "state" "LAirStation$State;" ∈ wsL_law) (hd : decode cc pc = .ok (.getfield index, 3)) (kk : W p l e R s m args below meth c H locs cells slots Q (F0 m (pc + 3) ls (.ref (ad E 0 0) :: rest))) : W p l e R s m args below meth c H locs cells slots Q (F0 m pc ls (.ref (ad E 6 0) :: rest)) :=
  x_get C w (v6 (by decide)) cel_6 rfl inlX4 (k := 0) (by decide) hw rfl hd kk
theorem gR_X4_trial  (C : Cx E A p s m args meth c w0 cc nL ret own) (w : Wd E A s G K H locs) (hw : Cond.fieldLink own index "AirStation" "trial" "LAirStation$State;" ∈ wsL_law) (hd : decode cc pc = .ok (.getfield index, 3)) (kk : W p l e R s m args below meth c H locs cells slots Q (F0 m (pc + 3) ls (.ref (ad E 1 0) :: rest))) : W p l e R s m args below meth c H locs cells slots Q (F0 m pc ls (.ref (ad E 6 0) :: rest)) :=
  x_get C w (v6 (by decide)) cel_6 rfl inlX4 (k := 1) (by decide) hw rfl hd kk
theorem gR_X4_history  (C : Cx E A p s m args meth c w0 cc nL ret own) (w : Wd E A s G K H locs) (hw : Cond.fieldLink own index "AirStation" "history" "LAirStation$History;" ∈ wsL_law) (hd : decode cc pc = .ok (.getfield index, 3)) (kk : W p l e R s m args below meth c H locs cells slots Q (F0 m (pc + 3) ls (.ref (ad E 6 1) :: rest))) : W p l e R s m args below meth c H locs cells slots Q (F0 m pc ls (.ref (ad E 6 0) :: rest)) :=
  x_get C w (v6 (by decide)) cel_6 rfl inlX4 (k := 2) (by decide) hw rfl hd kk
theorem gR_X4_program  (C : Cx E A p s m args meth c w0 cc nL ret own) (w : Wd E A s G K H locs) (hw : Cond.fieldLink own index "AirStation" "program" "LAirStation$Program;" ∈ wsL_law) (hd : decode cc pc = .ok (.getfield index, 3)) (kk : W p l e R s m args below meth c H locs cells slots Q (F0 m (pc + 3) ls (.ref (ad E 7 0) :: rest))) : W p l e R s m args below meth c H locs cells slots Q (F0 m pc ls (.ref (ad E 6 0) :: rest)) :=
  x_get C w (v6 (by decide)) cel_6 rfl inlX4 (k := 3) (by decide) hw rfl hd kk
end XF
theorem cS1 {E : WE} {g : Nat} (h : g < 6) : ∀ x y, cel E g 1 x y = .inl (E.2.1 0, 8, .inl x) := fun _ _ => cel_S h
theorem cS2 {E : WE} {g : Nat} (h : g < 6) : ∀ x y, cel E g 2 x y = .inl (E.2.1 1, 6, .inr (.inl y)) := fun _ _ => cel_S h
theorem cS3 {E : WE} {g : Nat} (h : g < 6) : ∀ x y, cel E g 3 x y = .inl (E.2.1 0, 6, .inl x) := fun _ _ => cel_S h

theorem c7_1 {E : WE} : ∀ x y, cel E 7 1 x y = .inl (E.2.1 0, 100, .inl x) := fun _ _ => rfl
theorem c7_2 {E : WE} : ∀ x y, cel E 7 2 x y = .inl (E.2.1 0, 100, .inl x) := fun _ _ => rfl
theorem c7_3 {E : WE} : ∀ x y, cel E 7 3 x y = .inl (E.2.1 0, 100, .inl x) := fun _ _ => rfl
theorem cl_0 : (0 : Int32).toNatClampNeg = 0 := by decide
theorem cl_1 : (1 : Int32).toNatClampNeg = 1 := by decide
theorem cl_2 : (2 : Int32).toNatClampNeg = 2 := by decide
theorem cl_3 : (3 : Int32).toNatClampNeg = 3 := by decide
theorem cl_4 : (4 : Int32).toNatClampNeg = 4 := by decide
theorem cl_5 : (5 : Int32).toNatClampNeg = 5 := by decide
theorem cl_6 : (6 : Int32).toNatClampNeg = 6 := by decide
theorem cl_7 : (7 : Int32).toNatClampNeg = 7 := by decide
theorem cl_8 : (8 : Int32).toNatClampNeg = 8 := by decide
theorem cl_9 : (9 : Int32).toNatClampNeg = 9 := by decide
theorem cl_10 : (10 : Int32).toNatClampNeg = 10 := by decide
theorem cl_11 : (11 : Int32).toNatClampNeg = 11 := by decide
theorem cl_12 : (12 : Int32).toNatClampNeg = 12 := by decide
theorem cl_13 : (13 : Int32).toNatClampNeg = 13 := by decide
theorem cl_14 : (14 : Int32).toNatClampNeg = 14 := by decide
theorem cl_15 : (15 : Int32).toNatClampNeg = 15 := by decide
theorem cl_16 : (16 : Int32).toNatClampNeg = 16 := by decide
theorem cl_17 : (17 : Int32).toNatClampNeg = 17 := by decide
theorem cl_18 : (18 : Int32).toNatClampNeg = 18 := by decide
theorem cl_19 : (19 : Int32).toNatClampNeg = 19 := by decide
theorem cl_20 : (20 : Int32).toNatClampNeg = 20 := by decide
theorem cl_21 : (21 : Int32).toNatClampNeg = 21 := by decide
theorem cl_22 : (22 : Int32).toNatClampNeg = 22 := by decide
theorem cl_23 : (23 : Int32).toNatClampNeg = 23 := by decide
theorem cl_24 : (24 : Int32).toNatClampNeg = 24 := by decide
theorem cl_25 : (25 : Int32).toNatClampNeg = 25 := by decide
theorem cl_26 : (26 : Int32).toNatClampNeg = 26 := by decide
theorem cl_27 : (27 : Int32).toNatClampNeg = 27 := by decide
theorem cl_28 : (28 : Int32).toNatClampNeg = 28 := by decide
theorem cl_29 : (29 : Int32).toNatClampNeg = 29 := by decide
theorem cl_30 : (30 : Int32).toNatClampNeg = 30 := by decide
theorem cl_31 : (31 : Int32).toNatClampNeg = 31 := by decide
theorem cl_32 : (32 : Int32).toNatClampNeg = 32 := by decide
theorem cl_33 : (33 : Int32).toNatClampNeg = 33 := by decide
theorem cl_34 : (34 : Int32).toNatClampNeg = 34 := by decide
theorem cl_35 : (35 : Int32).toNatClampNeg = 35 := by decide
theorem cl_36 : (36 : Int32).toNatClampNeg = 36 := by decide
theorem cl_37 : (37 : Int32).toNatClampNeg = 37 := by decide
theorem cl_38 : (38 : Int32).toNatClampNeg = 38 := by decide
theorem cl_39 : (39 : Int32).toNatClampNeg = 39 := by decide
theorem cl_40 : (40 : Int32).toNatClampNeg = 40 := by decide
theorem cl_41 : (41 : Int32).toNatClampNeg = 41 := by decide
theorem cl_42 : (42 : Int32).toNatClampNeg = 42 := by decide
theorem cl_43 : (43 : Int32).toNatClampNeg = 43 := by decide
theorem cl_44 : (44 : Int32).toNatClampNeg = 44 := by decide
theorem cl_45 : (45 : Int32).toNatClampNeg = 45 := by decide
theorem cl_46 : (46 : Int32).toNatClampNeg = 46 := by decide
theorem cl_47 : (47 : Int32).toNatClampNeg = 47 := by decide
theorem cl_48 : (48 : Int32).toNatClampNeg = 48 := by decide
theorem cl_49 : (49 : Int32).toNatClampNeg = 49 := by decide
theorem cl_50 : (50 : Int32).toNatClampNeg = 50 := by decide
theorem cl_51 : (51 : Int32).toNatClampNeg = 51 := by decide
theorem cl_52 : (52 : Int32).toNatClampNeg = 52 := by decide
theorem cl_53 : (53 : Int32).toNatClampNeg = 53 := by decide
theorem cl_54 : (54 : Int32).toNatClampNeg = 54 := by decide
theorem cl_55 : (55 : Int32).toNatClampNeg = 55 := by decide
theorem cl_56 : (56 : Int32).toNatClampNeg = 56 := by decide
theorem cl_57 : (57 : Int32).toNatClampNeg = 57 := by decide
theorem cl_58 : (58 : Int32).toNatClampNeg = 58 := by decide
theorem cl_59 : (59 : Int32).toNatClampNeg = 59 := by decide
theorem cl_60 : (60 : Int32).toNatClampNeg = 60 := by decide
theorem cl_61 : (61 : Int32).toNatClampNeg = 61 := by decide
theorem cl_244 : (244 : Int32).toNatClampNeg = 244 := by decide
theorem inb_k {i : Int32} {k n : Nat} (h : i.toInt = (k : Int)) (hk : k < n) : inb i n := by
  refine ⟨?_, ?_⟩ <;> rw [h] <;> omega
def bd3 {α β γ δ : Type} (o : Option (α × β × γ)) (f : α → β → γ → Option δ) : Option δ := match o with
  | none => none
  | some (a, b, c) => f a b c
theorem bd3_of {α β γ δ : Type} {o : Option (α × β × γ)} {f : α → β → γ → Option δ} {r : δ} (h : bd3 o f = some r) : ∃ a b c, o = some (a, b, c) ∧ f a b c = some r := by
  cases o with
  | none => cases h
  | some x => exact ⟨x.1, x.2.1, x.2.2, rfl, h⟩
def bd2 {β γ δ : Type} (o : Option (β × γ)) (f : β → γ → Option δ) : Option δ := match o with
  | none => none
  | some (b, c) => f b c
theorem bd2_of {β γ δ : Type} {o : Option (β × γ)} {f : β → γ → Option δ} {r : δ} (h : bd2 o f = some r) : ∃ b c, o = some (b, c) ∧ f b c = some r := by
  cases o with
  | none => cases h
  | some x => exact ⟨x.1, x.2, rfl, h⟩
theorem rt3 {α β γ : Type} {a a' : α} {b b' : β} {c c' : γ} (h : some (a, b, c) = some (a', b', c')) : a = a' ∧ b = b' ∧ c = c' := by cases h; exact ⟨rfl, rfl, rfl⟩
theorem rt2 {β γ : Type} {b b' : β} {c c' : γ} (h : some (b, c) = some (b', c')) : b = b' ∧ c = c' := by cases h; exact ⟨rfl, rfl⟩
theorem sw_out {x : Int32} {lo hi : Int} (h : ∀ k : Nat, k ≤ (hi - lo).toNat → x.toInt ≠ lo + k) : x.toInt < lo ∨ hi < x.toInt := by
  by_cases h1 : x.toInt < lo
  · exact Or.inl h1
  · by_cases h2 : hi < x.toInt
    · exact Or.inr h2
    · exact absurd (by omega) (h (x.toInt - lo).toNat (by omega))
theorem isC_ald {i : Int32} (h : inb i 5) : isC (5 + i.toNatClampNeg) := ⟨by omega, by have := inb_lt h; omega⟩
theorem isS_ald {i : Int32} (h : inb i 4) : isS (2 + i.toNatClampNeg) := by have := inb_lt h; show _ < 6; omega
abbrev nNaN (r : UInt64) : Prop := r &&& 0x7fffffffffffffff ≤ 0x7ff0000000000000
theorem ne_toInt {x y : Int32} (h : ¬ x = y) : x.toInt ≠ y.toInt := fun e => h (Int32.toInt_inj.mp e)
end
section
/-! methods that throw; those that catch -/
def exn : Nat → String := fun k => match k with
  | 1 => "java/lang/IllegalArgumentException"
  | 2 => "java/lang/IllegalStateException"
  | _ => "java/lang/IndexOutOfBoundsException"
abbrev XC0 (E : WE) (A : Nat → Prop) (tag : Nat) (G' : M3) (K' : J3) : String → State → State → Prop := vx_X (fun (_ : Unit) => True) (fun En _ t => (tag ≠ 0 ∧ En = exn tag) ∧ PosM E G' K' t) A
def mcT (tag : Nat) : Nat := if tag = 0 then 0 else 1
def msT (tag : Nat) : Nat := if tag = 0 then 0 else 6
abbrev QTi (E : WE) (A : Nat → Prop) (below : List Frame) (args : Array Value) (s : State) (tag : Nat) (r : Int32) (G' : M3) (K' : J3) : State → Prop := vx_MQ below (va_Qi (fun (r1 : Int32) (_ : Unit) => tag = 0 ∧ r1 = r) (fun _ t => PosM E G' K' t) A) (XC0 E A tag G' K') args s (mcT tag) (msT tag) A
abbrev QTl (E : WE) (A : Nat → Prop) (below : List Frame) (args : Array Value) (s : State) (tag : Nat) (r : Int64) (G' : M3) (K' : J3) : State → Prop := vx_MQ below (va_Ql (fun (r1 : Int64) (_ : Unit) => tag = 0 ∧ r1 = r) (fun _ t => PosM E G' K' t) A) (XC0 E A tag G' K') args s (mcT tag) (msT tag) A
abbrev XtI (l : Launch) (y : MethodName) (w0 : Cond) (rm : Room) (E : WE) (as : List Value) (G : M3) (K : J3) (tag : Nat) (r : Int32) (G' : M3) (K' : J3) : Prop := ∀ sz, vx_Met l y (wsM w0) rm (va_Pc as (PreM E G K sz)) (va_Qi (fun (r1 : Int32) (_ : Unit) => tag = 0 ∧ r1 = r) (fun _ t => PosM E G' K' t) (AA E sz)) (XC0 E (AA E sz) tag G' K') (mcT tag) (msT tag) (AA E sz)
abbrev XtL (l : Launch) (y : MethodName) (w0 : Cond) (rm : Room) (E : WE) (as : List Value) (G : M3) (K : J3) (tag : Nat) (r : Int64) (G' : M3) (K' : J3) : Prop := ∀ sz, vx_Met l y (wsM w0) rm (va_Pc as (PreM E G K sz)) (va_Ql (fun (r1 : Int64) (_ : Unit) => tag = 0 ∧ r1 = r) (fun _ t => PosM E G' K' t) (AA E sz)) (XC0 E (AA E sz) tag G' K') (mcT tag) (msT tag) (AA E sz)
theorem rt4 {α β γ : Type} {a a' : Nat} {d d' : α} {b b' : β} {c c' : γ} (h : some (a, d, b, c) = some (a', d', b', c')) : a = a' ∧ d = d' ∧ b = b' ∧ c = c' := by cases h; exact ⟨rfl, rfl, rfl, rfl⟩
def bd4 {α β γ δ : Type} (o : Option (Nat × α × β × γ)) (f : Nat → α → β → γ → Option δ) : Option δ := match o with
  | none => none
  | some (t, a, b, c) => f t a b c
theorem bd4_of {α β γ δ : Type} {o : Option (Nat × α × β × γ)} {f : Nat → α → β → γ → Option δ} {r : δ} (h : bd4 o f = some r) : ∃ t a b c, o = some (t, a, b, c) ∧ f t a b c = some r := by
  cases o with
  | none => cases h
  | some x => exact ⟨x.1, x.2.1, x.2.2.1, x.2.2.2, rfl, h⟩
abbrev thrN : List String := ["java/lang/RuntimeException", "java/lang/Exception"]
set_option maxRecDepth 20000 in
theorem thr_in1 : ∀ w ∈ (vx_atS RX4 41 "java/lang/IllegalArgumentException" thrN).filter (fun w => !goodWord w), w ∈ nestW := by decide +kernel
set_option maxRecDepth 20000 in
theorem thr_in2 : ∀ w ∈ (vx_atS RX4 60 "java/lang/IllegalStateException" thrN).filter (fun w => !goodWord w), w ∈ nestW := by decide +kernel
set_option maxRecDepth 20000 in
theorem thr_in3 : ∀ w ∈ (vx_atS RX4 101 "java/lang/IndexOutOfBoundsException" thrN).filter (fun w => !goodWord w), w ∈ nestW := by decide +kernel
theorem thr_w1 : ∀ w ∈ (vx_atS RX4 41 "java/lang/IllegalArgumentException" thrN).filter goodWord, w ∈ wsL_law := fun _ h => List.mem_append_left _ (List.mem_append_left _ (List.mem_append_right _ h))
theorem thr_w2 : ∀ w ∈ (vx_atS RX4 60 "java/lang/IllegalStateException" thrN).filter goodWord, w ∈ wsL_law := fun _ h => List.mem_append_right _ h
theorem thr_w3 : ∀ w ∈ (vx_atS RX4 101 "java/lang/IndexOutOfBoundsException" thrN).filter goodWord, w ∈ wsL_law := fun _ h => List.mem_append_left _ (List.mem_append_right _ h)
set_option maxRecDepth 20000 in
theorem thr_g1 : (Cond.classLink RX4 37 "java/lang/IllegalArgumentException" :: Cond.initialized "java/lang/IllegalArgumentException" :: vx_atS RX4 41 "java/lang/IllegalArgumentException" thrN).all vx_ot = true := by decide +kernel
set_option maxRecDepth 20000 in
theorem thr_g2 : (Cond.classLink RX4 56 "java/lang/IllegalStateException" :: Cond.initialized "java/lang/IllegalStateException" :: vx_atS RX4 60 "java/lang/IllegalStateException" thrN).all vx_ot = true := by decide +kernel
set_option maxRecDepth 20000 in
theorem thr_g3 : (Cond.classLink RX4 97 "java/lang/IndexOutOfBoundsException" :: Cond.initialized "java/lang/IndexOutOfBoundsException" :: vx_atS RX4 101 "java/lang/IndexOutOfBoundsException" thrN).all vx_ot = true := by decide +kernel
section XTH
variable {E : WE} {A : Nat → Prop} {p : Program} {l : Launch} {e : Env} {R : Room} {s : State} {m : MethodId} {args : Array Value} {below : List Frame} {meth : Method} {c : Code} {H : Heap} {locs : List Loc} {cells slots : Nat} {Q : State → Prop}
variable {w0 : Cond} {cc : ByteArray} {nL : Nat} {ret : Option FieldType} {own : String} {pc index : Nat} {ls : Array Slot} {rest : List Value} {G : M3} {K : J3}
theorem nest_on : nestW.all (fun w => w.onTables) = true := by decide +kernel
theorem x_nest (C : Cx E A p s m args meth c w0 cc nL ret own) {w : Cond} (h : w ∈ nestW) : w.before args s = true := va_Nw.use (List.all_eq_true.mp nest_on w h) (C.2.2.2.2.2.2.2.1.2.2.1 w h)
theorem x_hat (C : Cx E A p s m args meth c w0 cc nL ret own) {L : List Cond} (h1 : ∀ w ∈ L.filter goodWord, w ∈ wsL_law) (h2 : ∀ w ∈ L.filter (fun w => !goodWord w), w ∈ nestW) : ∀ w ∈ L, w.before args s = true :=
  vx_hat (fun w h => x_hts C (h1 w h)) h2 (fun w h => x_nest C h)
/-- 'throw new X("text")' in the station's own methods, the world as it is -/
theorem x_thrG {Qc : Array Value → State → Outcome → State → Prop} {tag : Nat} {cls text : String} {ik is ic : Nat} {G' : M3} {K' : J3} (C : Cx E A p s m args meth c w0 cc nL ret RX4) (w : Wd E A s G K H locs) (hst : l.stackTraces = false) (hno : ∀ x ∈ c.exceptionTable.toList, False) (hl : ls.size = nL) (htag : tag ≠ 0) (hcl : cls = exn tag) (hG : G = G') (hK : K = K') (hfit : Bundle.fit cls = true)
    (q1 : Cond.classLink RX4 ik cls ∈ wsL_law) (q2 : Cond.initialized cls ∈ wsL_law) (ht : (is, text) ∈ txtW) (h1 : ∀ w ∈ (vx_atS RX4 ic cls thrN).filter goodWord, w ∈ wsL_law) (h2 : ∀ w ∈ (vx_atS RX4 ic cls thrN).filter (fun w => !goodWord w), w ∈ nestW) (hg : (Cond.classLink RX4 ik cls :: Cond.initialized cls :: vx_atS RX4 ic cls thrN).all vx_ot = true)
    (d0 : decode cc pc = .ok (.new ik, 3)) (d3 : decode cc (pc + 3) = .ok (.dup, 1)) (d4 : decode cc (pc + 4) = .ok (.ldc is, 2)) (d6 : decode cc (pc + 6) = .ok (.invokespecial ic, 3)) (d9 : decode cc (pc + 9) = .ok (.athrow, 1))
    (hRf : 5 < R.frames) (hRl : (rest.map fun v => v.category).sum + 82 ≤ R.locals) (hRc : R.cells = mcT tag) (hRs : R.slots = msT tag) (hc0 : cells = 0) (hs0 : slots = 0) :
    W p l e R s m args below meth c H locs cells slots (vx_MQ below Qc (XC0 E A tag G' K') args s (mcT tag) (msT tag) A) (F0 m pc ls rest) := by
  obtain ⟨hx, hb, hr, hml, hown, hts, hlocks, hKK, hA1, hA2⟩ := id C
  obtain ⟨sa, hsa⟩ := hKK.2.2.2.2.1 _ ht
  subst hG hK
  have hc1 : cells + 1 ≤ mcT tag := by unfold mcT; rw [if_neg htag, hc0]; exact Nat.le_refl _
  have hs1 : slots + 6 ≤ msT tag := by unfold msT; rw [if_neg htag, hs0]; exact Nat.le_refl _
  refine vx_throwS hx hb hst hown hfit (names := thrN) (by decide +kernel) (x_hts C q1) (x_hts C q2) hsa (x_hat C h1 h2) (fun w hw => List.all_eq_true.mp hg w hw) hKK.2.2.2.1.2.2.1 hKK.2.2.2.1.2.2.2 w.2 (hl.trans hml.symm) d0 d3 d4 d6 d9 (fun x hx => (hno x hx).elim) hRf hRl (by rw [hRc]; exact hc1) (by rw [hRs]; exact hs1) hlocks ?_ w.2.2.2 hc1 hs1
  intro t hvm hz hk
  refine ⟨(), trivial, ⟨⟨htag, hcl⟩, ?_⟩, Nat.le_trans w.2.1 hz, fun q h3 h4 => (hk q (Nat.lt_of_lt_of_le h3 w.2.1)).trans (w.2.2.1 q h3 h4)⟩
  exact w.1.kept (fun k q hq => hk q.1 (w.1 k q hq).lt)
theorem x_ti {G' : M3} {K' : J3} {v r : Int32} {tag : Nat} {XC : String → State → State → Prop} (C : Cx E A p s m args meth c w0 cc nL (some .int) own) (w : Wd E A s G K H locs) (ht : tag = 0) (hv : v = r) (hG : G = G') (hK : K = K') (hd : decode cc pc = .ok (.ireturn, 1)) : W p l e R s m args below meth c H locs 0 0 (vx_MQ below (va_Qi (fun (r1 : Int32) (_ : Unit) => tag = 0 ∧ r1 = r) (fun _ t => PosM E G' K' t) A) XC args s (mcT tag) (msT tag) A) (F0 m pc ls [.int v]) := by
  obtain ⟨hx, hb, hr, -, -, -, hlocks, -, -, -⟩ := id C
  subst hG hK
  exact vx_ret (W.widen (k := mcT tag) (n := msT tag) (Nat.zero_le _) (Nat.zero_le _) (W.iret hx hb hr (fun t h _ => ⟨⟨v, (), rfl, ⟨ht, hv⟩, (x_fr C w h).1⟩, (x_fr C w h).2⟩) w.2.2.2 hd))
theorem x_tl {G' : M3} {K' : J3} {v r : Int64} {tag : Nat} {XC : String → State → State → Prop} (C : Cx E A p s m args meth c w0 cc nL (some .long) own) (w : Wd E A s G K H locs) (ht : tag = 0) (hv : v = r) (hG : G = G') (hK : K = K') (hd : decode cc pc = .ok (.lreturn, 1)) : W p l e R s m args below meth c H locs 0 0 (vx_MQ below (va_Ql (fun (r1 : Int64) (_ : Unit) => tag = 0 ∧ r1 = r) (fun _ t => PosM E G' K' t) A) XC args s (mcT tag) (msT tag) A) (F0 m pc ls [.long v]) := by
  obtain ⟨hx, hb, hr, -, -, -, hlocks, -, -, -⟩ := id C
  subst hG hK
  exact vx_ret (W.widen (k := mcT tag) (n := msT tag) (Nat.zero_le _) (Nat.zero_le _) (W.lret hx hb hr (fun t h _ => ⟨⟨v, (), rfl, ⟨ht, hv⟩, (x_fr C w h).1⟩, (x_fr C w h).2⟩) w.2.2.2 hd))
/-- a body with handlers, that returns -/
theorem Met.ofWH {y : MethodName} {ws ws' : List Cond} {rm : Room} {Pc : Array Value → State → Prop} {Qc : Array Value → State → Outcome → State → Prop} {mc ms : Nat} {free : Addr → Prop} {cc : ByteArray} {maxL : Nat} {ret : Option FieldType} {hh : List (Nat × Nat × Nat × Nat)}
    (hy : plainName y.cls = true) (hw : ws = Cond.codeWith y cc maxL ret hh :: ws')
    (body : ∀ p e s m args below meth c s₁, BodyLoose p l y (headSpec ws rm) cc maxL ret e s m args below meth c s₁ → c.maxLocals = maxL → Pc args s →
      W p l e (headSpec ws rm).room s m args below meth c s.heap [] 0 0 (MQ below Qc args s mc ms free) (entryFrame m args maxL)) : Met l y ws rm Pc Qc mc ms free := by
  refine MetFree.of_bodyS (code := cc) (maxLocals := maxL) (ret := ret) hy ?_ ?_
  · intro args s m h hn
    obtain ⟨m9, meth, c, hn9, h1, h2, h3, h4, -, h5, h6, -⟩ := Cond.codeWith_spec (atoms_spec (ws := ws) h _ (by rw [hw]; exact List.mem_cons_self))
    cases hn.symm.trans hn9
    exact ⟨meth, c, h1, h2, h3, h4, h5, h6⟩
  · intro p e s m args below meth c s₁ B hml hP _
    have hh0 : s₁.heap = s.heap := by rw [B.state]; rfl
    obtain ⟨t, a1, o, b1, b2, b3⟩ := body p e s m args below meth c s₁ B hml hP s₁ hh0 (Stand.of_body B)
    exact ⟨t, o, a1, b1, b2, ⟨b3.1, b3.2⟩⟩
/-- a wrapper's contract, of mc cells and ms slots -/
abbrev MtZ (l : Launch) (y : MethodName) (w0 : Cond) (rm : Room) (E : WE) (as : List Value) (G : M3) (K : J3) (r : Int32) (G' : M3) (K' : J3) (mc ms : Nat) : Prop := ∀ sz, Met l y (wsM w0) rm (va_Pc as (PreM E G K sz)) (va_Qi (fun (r1 : Int32) (_ : Unit) => r1 = r) (fun _ t => PosM E G' K' t) (AA E sz)) mc ms (AA E sz)
abbrev MtZl (l : Launch) (y : MethodName) (w0 : Cond) (rm : Room) (E : WE) (as : List Value) (G : M3) (K : J3) (r : Int64) (G' : M3) (K' : J3) (mc ms : Nat) : Prop := ∀ sz, Met l y (wsM w0) rm (va_Pc as (PreM E G K sz)) (va_Ql (fun (r1 : Int64) (_ : Unit) => r1 = r) (fun _ t => PosM E G' K' t) (AA E sz)) mc ms (AA E sz)
/-- a call of a station's method that may throw, out of a wrapper's try -/
theorem x_cXi {y : MethodName} {cc2 : ByteArray} {n2 : Nat} {ret2 : Option FieldType} {rm2 : Room} {st As : List Value} {v : Int32} {tag : Nat} {G' : M3} {K' : J3} (C : Cx E A p s m args meth c w0 cc nL ret own) (w : Wd E A s G K H locs)
    (hM : XtI l y (Cond.code y cc2 n2 ret2) rm2 E (.ref (ad E 6 0) :: As) G K tag v G' K') (q1 : Cond.methodLink own index y ∈ wsL_law) (q2 : Cond.instanceMethod y ∈ wsL_law) (q3 : Cond.selects RX4 y y ∈ wsL_law) (q4 : Cond.initialized RX4 ∈ wsL_law) (q5 : Cond.code y cc2 n2 ret2 ∈ wsL_law)
    (hd1 : y.cls = RX4 ∧ y.cls ≠ "java/lang/invoke/MethodHandle" ∧ y.cls ≠ "java/lang/invoke/VarHandle" ∧ (parseMethodDescriptor y.desc).map (fun d => d.parameters.length) = some As.length) (h00 : rm2.cells = mcT tag ∧ rm2.slots = msT tag) (hR : rm2.frames + 1 ≤ R.frames ∧ 8 + (n2 + 11) + rm2.locals ≤ R.locals) (hcs : cells + mcT tag ≤ R.cells ∧ slots + msT tag ≤ R.slots) (hl : ls.size = nL) (hst : (rest.map fun v => v.category).sum ≤ 8) (hst2 : st = As.reverse ++ .ref (ad E 6 0) :: rest) (hd : decode cc pc = .ok (.invokevirtual index, 3))
    (kx : ∀ (H1 : Heap) (locs1 : List Loc) (q9 : Addr) (ce : Cell), tag ≠ 0 → Wd E A s G' K' H1 locs1 → H1[q9]? = some ce → ce.vm = .none → s.vm.findClass (exn tag) = some ce.cls → vx_W p l e R s m args below meth c H1 locs1 (cells + mcT tag) (slots + msT tag) Q (F0 m pc ls rest) q9)
    (kk : ∀ (H1 : Heap) (locs1 : List Loc), tag = 0 → Wd E A s G' K' H1 locs1 → W p l e R s m args below meth c H1 locs1 (cells + mcT tag) (slots + msT tag) Q (F0 m (pc + 3) ls (.int v :: rest))) : W p l e R s m args below meth c H locs cells slots Q (F0 m pc ls st) := by
  obtain ⟨hx, hb, -, hml, hown, hts, -, hKK, -, -⟩ := id C
  have he := Wl_get (E := E) (G := G) (K := K) (v6 (show 0 < 3 by decide))
  rw [cel_6] at he
  refine vx_calli (vx_runV (As := As) (rest := rest) ⟨hx, hb, hml, hown, hts⟩ (hM H.size) (cwV As.length hts (x_goodV q5 q1 q2 q3 q4) rfl h00.1 h00.2 hd1 hR) ⟨PreM.blind, va_recv hKK.1 w.1 (ci := 4) rfl he, fun U hU hW => ⟨rfl, x_pre C w hU hW⟩⟩ rfl rfl hl hst2 (lv_room hst) hd hcs) w.2 (fun q _ h => x_sub C w q h) (x_sub C w) (fun q _ h => x_sub C w q h)
    (fun En ce q9 u t H1 locs1 ht _ _ hB _ _ hS h1 h2 h3 => ?_) (fun r u t H1 locs1 ht _ hw hB _ _ hS => ?_)
  · obtain ⟨⟨h4, h5⟩, h6⟩ := hB
    exact kx H1 locs1 q9 ce h4 ⟨by rw [← ht]; exact h6, hS⟩ h1 h2 (by rw [← h5]; exact h3)
  · obtain ⟨h4, h5⟩ := hw
    subst h5
    exact kk H1 locs1 h4 ⟨by rw [← ht]; exact hB, hS⟩
theorem x_cXl {y : MethodName} {cc2 : ByteArray} {n2 : Nat} {ret2 : Option FieldType} {rm2 : Room} {st As : List Value} {v : Int64} {tag : Nat} {G' : M3} {K' : J3} (C : Cx E A p s m args meth c w0 cc nL ret own) (w : Wd E A s G K H locs)
    (hM : XtL l y (Cond.code y cc2 n2 ret2) rm2 E (.ref (ad E 6 0) :: As) G K tag v G' K') (q1 : Cond.methodLink own index y ∈ wsL_law) (q2 : Cond.instanceMethod y ∈ wsL_law) (q3 : Cond.selects RX4 y y ∈ wsL_law) (q4 : Cond.initialized RX4 ∈ wsL_law) (q5 : Cond.code y cc2 n2 ret2 ∈ wsL_law)
    (hd1 : y.cls = RX4 ∧ y.cls ≠ "java/lang/invoke/MethodHandle" ∧ y.cls ≠ "java/lang/invoke/VarHandle" ∧ (parseMethodDescriptor y.desc).map (fun d => d.parameters.length) = some As.length) (h00 : rm2.cells = mcT tag ∧ rm2.slots = msT tag) (hR : rm2.frames + 1 ≤ R.frames ∧ 8 + (n2 + 11) + rm2.locals ≤ R.locals) (hcs : cells + mcT tag ≤ R.cells ∧ slots + msT tag ≤ R.slots) (hl : ls.size = nL) (hst : (rest.map fun v => v.category).sum ≤ 8) (hst2 : st = As.reverse ++ .ref (ad E 6 0) :: rest) (hd : decode cc pc = .ok (.invokevirtual index, 3))
    (kx : ∀ (H1 : Heap) (locs1 : List Loc) (q9 : Addr) (ce : Cell), tag ≠ 0 → Wd E A s G' K' H1 locs1 → H1[q9]? = some ce → ce.vm = .none → s.vm.findClass (exn tag) = some ce.cls → vx_W p l e R s m args below meth c H1 locs1 (cells + mcT tag) (slots + msT tag) Q (F0 m pc ls rest) q9)
    (kk : ∀ (H1 : Heap) (locs1 : List Loc), tag = 0 → Wd E A s G' K' H1 locs1 → W p l e R s m args below meth c H1 locs1 (cells + mcT tag) (slots + msT tag) Q (F0 m (pc + 3) ls (.long v :: rest))) : W p l e R s m args below meth c H locs cells slots Q (F0 m pc ls st) := by
  obtain ⟨hx, hb, -, hml, hown, hts, -, hKK, -, -⟩ := id C
  have he := Wl_get (E := E) (G := G) (K := K) (v6 (show 0 < 3 by decide))
  rw [cel_6] at he
  refine vx_calll (vx_runV (As := As) (rest := rest) ⟨hx, hb, hml, hown, hts⟩ (hM H.size) (cwV As.length hts (x_goodV q5 q1 q2 q3 q4) rfl h00.1 h00.2 hd1 hR) ⟨PreM.blind, va_recv hKK.1 w.1 (ci := 4) rfl he, fun U hU hW => ⟨rfl, x_pre C w hU hW⟩⟩ rfl rfl hl hst2 (lv_room hst) hd hcs) w.2 (fun q _ h => x_sub C w q h) (x_sub C w) (fun q _ h => x_sub C w q h)
    (fun En ce q9 u t H1 locs1 ht _ _ hB _ _ hS h1 h2 h3 => ?_) (fun r u t H1 locs1 ht _ hw hB _ _ hS => ?_)
  · obtain ⟨⟨h4, h5⟩, h6⟩ := hB
    exact kx H1 locs1 q9 ce h4 ⟨by rw [← ht]; exact h6, hS⟩ h1 h2 (by rw [← h5]; exact h3)
  · obtain ⟨h4, h5⟩ := hw
    subst h5
    exact kk H1 locs1 h4 ⟨by rw [← ht]; exact hB, hS⟩
end XTH
end
section
section XS1
variable {E : WE} {A : Nat → Prop} {p : Program} {l : Launch} {e : Env} {s : State} {m : MethodId} {args : Array Value} {below : List Frame} {meth : Method} {c : Code} {H : Heap} {locs : List Loc} {ls : Array Slot} {G : M3} {K : J3} {M : M2} {J : J2} {F g q : Nat} {g' q' : Nat}

/-! X4.isWithin(III)Z -/
abbrev rmX4_isWithin : Room := { frames := 1, cells := 0, slots := 0, locals := 12 }
abbrev wdX4_isWithin : Cond := Cond.code yX4_isWithin cX4_isWithin 3 (some .boolean)
noncomputable def fX4_isWithin  (x1 : Int32) (x2 : Int32) (x3 : Int32)  : Int32 := (if x1 < x2 then ((0 : Int32)) else ((if x3 < x1 then ((0 : Int32)) else ((1 : Int32)))))
set_option maxRecDepth 20000 in
set_option maxHeartbeats 1000000 in
theorem TX4_isWithin {rr : Int32}  (C : Cx E A p s m args meth c wdX4_isWithin cX4_isWithin 3 (some .boolean) RX4)  {x1 : Int32} {x2 : Int32} {x3 : Int32}  (h : fX4_isWithin  x1 x2 x3 = rr) (w : Wd E A s G K H locs) (hl : lv_has ls 3 [(0, .int x1), (1, .int x2), (2, .int x3)]) : W p l e rmX4_isWithin s m args below meth c H locs 0 0 (QI E A below args s rr G K) (F0 m 0 ls []) := by
  obtain ⟨hx, hb, hr, hml, hown, hts, hlocks, hKK, hA1, hA2⟩ := id C
  unfold fX4_isWithin at h
  refine lv_iload_n hx hb dX4_isWithin_0 rfl (lv_at hl 0 rfl) ?_
  refine lv_iload_n hx hb dX4_isWithin_1 rfl (lv_at hl 1 rfl) ?_
  refine lv_icmp_lt (tgt := 14) hx hb dX4_isWithin_2 (by decide) (fun c1 => ?_) (fun c1 => ?_)
  · replace h := ite_t h c1
    refine lv_iconst (v := (0 : Int32)) hx hb dX4_isWithin_14 (by decide) ?_
    exact x_rz C w (Or.inl rfl) h rfl rfl dX4_isWithin_15
  · replace h := ite_f h c1
    refine lv_iload_n hx hb dX4_isWithin_5 rfl (lv_at hl 0 rfl) ?_
    refine lv_iload_n hx hb dX4_isWithin_6 rfl (lv_at hl 2 rfl) ?_
    refine lv_icmp_gt (tgt := 14) hx hb dX4_isWithin_7 (by decide) (fun c2 => ?_) (fun c2 => ?_)
    · replace h := ite_t h c2
      refine lv_iconst (v := (0 : Int32)) hx hb dX4_isWithin_14 (by decide) ?_
      exact x_rz C w (Or.inl rfl) h rfl rfl dX4_isWithin_15
    · replace h := ite_f h c2
      refine lv_iconst (v := (1 : Int32)) hx hb dX4_isWithin_10 (by decide) ?_
      refine lv_goto (tgt := 15) hx hb dX4_isWithin_11 (by decide) ?_
      exact x_rz C w (Or.inr rfl) h rfl rfl dX4_isWithin_15
theorem mtX4_isWithin   {x1 : Int32} {x2 : Int32} {x3 : Int32}   : MtI l yX4_isWithin wdX4_isWithin rmX4_isWithin E [.int x1, .int x2, .int x3] G K (fX4_isWithin  x1 x2 x3) G K := by
  intro sz
  refine Met.ofW (cc := cX4_isWithin) (maxL := 3) (ret := (some .boolean)) (by decide) rfl ?_
  intro p e s m args below meth c s₁ B hml hv
  obtain ⟨rfl, C, w⟩ := Cx.of (own := RX4) B rfl hml hv
  have hl := lv_entry ([.int x1, .int x2, .int x3]) (n := 3) (by first | exact Nat.le_of_ble_eq_true rfl)
  rw [lg_entry_eq]
  generalize (lg_sl ([.int x1, .int x2, .int x3]) ++ List.replicate (3 - (lg_sl ([.int x1, .int x2, .int x3])).length) Slot.unset).toArray = ls at hl ⊢
  exact TX4_isWithin C   rfl w hl
theorem ydX4_isWithin : yX4_isWithin.cls = RX4 ∧ yX4_isWithin.cls ≠ "java/lang/invoke/MethodHandle" ∧ yX4_isWithin.cls ≠ "java/lang/invoke/VarHandle" ∧ (parseMethodDescriptor yX4_isWithin.desc).map (fun d => d.parameters.length) = some 3 := by decide +kernel
theorem ynX4_isWithin : yX4_isWithin.cls ≠ "java/lang/invoke/MethodHandle" ∧ yX4_isWithin.cls ≠ "java/lang/invoke/VarHandle" ∧ (parseMethodDescriptor yX4_isWithin.desc).map (fun d => d.parameters.length) = some 3 := by decide +kernel
theorem zX4_isWithin  (x1 : Int32) (x2 : Int32) (x3 : Int32) : fX4_isWithin  x1 x2 x3 = 0 ∨ fX4_isWithin  x1 x2 x3 = 1 := by unfold fX4_isWithin; (repeat' split) <;> first | exact Or.inl rfl | exact Or.inr rfl
/-! X4.pressureOf(II)I -/
abbrev rmX4_pressureOf : Room := { frames := 1, cells := 0, slots := 0, locals := 12 }
abbrev wdX4_pressureOf : Cond := Cond.code yX4_pressureOf cX4_pressureOf 2 (some .int)
noncomputable def fX4_pressureOf  (x1 : Int32) (x2 : Int32)  : Option Int32 := (if 0 < x2 then (chk (¬ x2 = 0) (some ((x1 * (1000 : Int32)) / x2))) else (some (0 : Int32)))
set_option maxRecDepth 20000 in
set_option maxHeartbeats 1000000 in
theorem TX4_pressureOf {rr : Int32}  (C : Cx E A p s m args meth c wdX4_pressureOf cX4_pressureOf 2 (some .int) RX4)  {x1 : Int32} {x2 : Int32}  (h : fX4_pressureOf  x1 x2 = some rr) (w : Wd E A s G K H locs) (hl : lv_has ls 2 [(0, .int x1), (1, .int x2)]) : W p l e rmX4_pressureOf s m args below meth c H locs 0 0 (QI E A below args s rr G K) (F0 m 0 ls []) := by
  obtain ⟨hx, hb, hr, hml, hown, hts, hlocks, hKK, hA1, hA2⟩ := id C
  unfold fX4_pressureOf at h
  refine lv_iload_n hx hb dX4_pressureOf_0 rfl (lv_at hl 1 rfl) ?_
  refine lv_if_gt (tgt := 8) hx hb dX4_pressureOf_1 (by decide) (fun c1 => ?_) (fun c1 => ?_)
  · replace h := ite_t h c1
    refine lv_iload_n hx hb dX4_pressureOf_8 rfl (lv_at hl 0 rfl) ?_
    refine lv_sipush (v := (1000 : Int32)) hx hb dX4_pressureOf_9 (by decide) ?_
    refine lv_imul hx hb dX4_pressureOf_12 ?_
    refine lv_iload_n hx hb dX4_pressureOf_13 rfl (lv_at hl 1 rfl) ?_
    obtain ⟨kz2, h⟩ := chk_of h
    refine lv_idiv hx hb dX4_pressureOf_14 kz2 ?_
    have e1 := Option.some.inj h
    exact x_ri C w e1 rfl rfl dX4_pressureOf_15
  · replace h := ite_f h c1
    refine lv_iconst (v := (0 : Int32)) hx hb dX4_pressureOf_4 (by decide) ?_
    refine lv_goto (tgt := 15) hx hb dX4_pressureOf_5 (by decide) ?_
    have e1 := Option.some.inj h
    exact x_ri C w e1 rfl rfl dX4_pressureOf_15
theorem mtX4_pressureOf {rr : Int32}   {x1 : Int32} {x2 : Int32}  (h : fX4_pressureOf  x1 x2 = some rr) : MtI l yX4_pressureOf wdX4_pressureOf rmX4_pressureOf E [.int x1, .int x2] G K rr G K := by
  intro sz
  refine Met.ofW (cc := cX4_pressureOf) (maxL := 2) (ret := (some .int)) (by decide) rfl ?_
  intro p e s m args below meth c s₁ B hml hv
  obtain ⟨rfl, C, w⟩ := Cx.of (own := RX4) B rfl hml hv
  have hl := lv_entry ([.int x1, .int x2]) (n := 2) (by first | exact Nat.le_of_ble_eq_true rfl)
  rw [lg_entry_eq]
  generalize (lg_sl ([.int x1, .int x2]) ++ List.replicate (2 - (lg_sl ([.int x1, .int x2])).length) Slot.unset).toArray = ls at hl ⊢
  exact TX4_pressureOf C   h w hl
theorem ydX4_pressureOf : yX4_pressureOf.cls = RX4 ∧ yX4_pressureOf.cls ≠ "java/lang/invoke/MethodHandle" ∧ yX4_pressureOf.cls ≠ "java/lang/invoke/VarHandle" ∧ (parseMethodDescriptor yX4_pressureOf.desc).map (fun d => d.parameters.length) = some 2 := by decide +kernel
theorem ynX4_pressureOf : yX4_pressureOf.cls ≠ "java/lang/invoke/MethodHandle" ∧ yX4_pressureOf.cls ≠ "java/lang/invoke/VarHandle" ∧ (parseMethodDescriptor yX4_pressureOf.desc).map (fun d => d.parameters.length) = some 2 := by decide +kernel
/-! X0.load()V -/
abbrev rmX0_load : Room := { frames := 1, cells := 0, slots := 0, locals := 12 }
abbrev wdX0_load : Cond := Cond.code yX0_load cX0_load 1 none
noncomputable def fbX0_load_17  (q : Nat)  (M : M2) (J : J2) : Option (M2 × J2) := bnd (up2 M q 1 (1 : Int32)) (fun M1 => bnd (up2 M1 q 5 (0 : Int32)) (fun M3 => some (M3, J)))
set_option maxRecDepth 20000 in
set_option maxHeartbeats 1000000 in
theorem TX0_load_17 {MR : M2} {JR : J2}   (C : Cx E A p s m args meth c wdX0_load cX0_load 1 none RX0) (hg : g < 6) (hq : isC q)   (M : M2) (J : J2)  (h : fbX0_load_17 q M J = some (MR, JR)) (w : Wd E A s (sg G g M) (sg K g J) H locs) (hl : lv_has ls 1 [(0, .ref (ad E g q))]) : W p l e rmX0_load s m args below meth c H locs 0 0 (QV E A below args s  (sg G g MR) (sg K g JR)) (F0 m 17 ls []) := by
  obtain ⟨hx, hb, hr, hml, hown, hts, hlocks, hKK, hA1, hA2⟩ := id C
  unfold fbX0_load_17 at h
  refine lv_aload_n hx hb dX0_load_17 rfl (lv_at hl 0 rfl) ?_
  refine lv_iconst (v := (1 : Int32)) hx hb dX0_load_18 (by decide) ?_
  refine pL_X0_mode hg hq C w q10_0 dX0_load_19 (fun M1 H locs e2 w => ?_)
  replace h := bnd_of h e2
  refine lv_aload_n hx hb dX0_load_22 rfl (lv_at hl 0 rfl) ?_
  refine lv_iconst (v := (0 : Int32)) hx hb dX0_load_23 (by decide) ?_
  refine pL_X0_timer hg hq C w q10_4 dX0_load_24 (fun M3 H locs e4 w => ?_)
  replace h := bnd_of h e4
  obtain ⟨e2, e3⟩ := rt2 h
  exact x_rv C w (by rw [e2]) (by rw [e3]) dX0_load_27
noncomputable def fX0_load (q : Nat)  (M : M2) (J : J2) : Option (M2 × J2) := (if ¬ (M q 1) = 0 then (fbX0_load_17 q  M J) else (bnd (up2 M q 7 ((M q 7) + (1 : Int32))) (fun M2 => fbX0_load_17 q  M2 J)))
set_option maxRecDepth 20000 in
set_option maxHeartbeats 1000000 in
theorem TX0_load {MR : M2} {JR : J2}  (C : Cx E A p s m args meth c wdX0_load cX0_load 1 none RX0) (hg : g < 6) (hq : isC q)   (h : fX0_load q M J = some (MR, JR)) (w : Wd E A s (sg G g M) (sg K g J) H locs) (hl : lv_has ls 1 [(0, .ref (ad E g q))]) : W p l e rmX0_load s m args below meth c H locs 0 0 (QV E A below args s  (sg G g MR) (sg K g JR)) (F0 m 0 ls []) := by
  obtain ⟨hx, hb, hr, hml, hown, hts, hlocks, hKK, hA1, hA2⟩ := id C
  unfold fX0_load at h
  refine lv_aload_n hx hb dX0_load_0 rfl (lv_at hl 0 rfl) ?_
  refine gL_X0_mode hg hq C w q10_0 dX0_load_1 ?_
  refine lv_if_ne (tgt := 17) hx hb dX0_load_4 (by decide) (fun c1 => ?_) (fun c1 => ?_)
  · replace h := ite_t h c1
    exact TX0_load_17 C hg hq  _ _ h w (lv_sub hl [0] rfl)
  · replace h := ite_f h (fun z => z c1)
    refine lv_aload_n hx hb dX0_load_7 rfl (lv_at hl 0 rfl) ?_
    refine lv_dup hx hb dX0_load_8 rfl ?_
    refine gL_X0_starts hg hq C w q10_6 dX0_load_9 ?_
    refine lv_iconst (v := (1 : Int32)) hx hb dX0_load_12 (by decide) ?_
    refine lv_iadd hx hb dX0_load_13 ?_
    refine pL_X0_starts hg hq C w q10_6 dX0_load_14 (fun M2 H locs e3 w => ?_)
    replace h := bnd_of h e3
    exact TX0_load_17 C hg hq  _ _ h w (lv_sub hl [0] rfl)
theorem mtX0_load {MR : M2} {JR : J2}  (hg : g < 6) (hq : isC q)   (h : fX0_load q M J = some (MR, JR)) : MtV l yX0_load wdX0_load rmX0_load E [.ref (ad E g q)] (sg G g M) (sg K g J)  (sg G g MR) (sg K g JR) := by
  intro sz
  refine Met.ofW (cc := cX0_load) (maxL := 1) (ret := none) (by decide) rfl ?_
  intro p e s m args below meth c s₁ B hml hv
  obtain ⟨rfl, C, w⟩ := Cx.of (own := RX0) B rfl hml hv
  have hl := lv_entry ([.ref (ad E g q)]) (n := 1) (by first | exact Nat.le_of_ble_eq_true rfl)
  rw [lg_entry_eq]
  generalize (lg_sl ([.ref (ad E g q)]) ++ List.replicate (1 - (lg_sl ([.ref (ad E g q)])).length) Slot.unset).toArray = ls at hl ⊢
  exact TX0_load C hg hq  h w hl
theorem ydX0_load : yX0_load.cls = RX0 ∧ yX0_load.cls ≠ "java/lang/invoke/MethodHandle" ∧ yX0_load.cls ≠ "java/lang/invoke/VarHandle" ∧ (parseMethodDescriptor yX0_load.desc).map (fun d => d.parameters.length) = some 0 := by decide +kernel
/-! X0.unload()V -/
abbrev rmX0_unload : Room := { frames := 1, cells := 0, slots := 0, locals := 12 }
abbrev wdX0_unload : Cond := Cond.code yX0_unload cX0_unload 1 none
noncomputable def fX0_unload (q : Nat)  (M : M2) (J : J2) : Option (M2 × J2) := bnd (up2 M q 1 (2 : Int32)) (fun M1 => bnd (up2 M1 q 5 (0 : Int32)) (fun M3 => some (M3, J)))
set_option maxRecDepth 20000 in
set_option maxHeartbeats 1000000 in
theorem TX0_unload {MR : M2} {JR : J2}  (C : Cx E A p s m args meth c wdX0_unload cX0_unload 1 none RX0) (hg : g < 6) (hq : isC q)   (h : fX0_unload q M J = some (MR, JR)) (w : Wd E A s (sg G g M) (sg K g J) H locs) (hl : lv_has ls 1 [(0, .ref (ad E g q))]) : W p l e rmX0_unload s m args below meth c H locs 0 0 (QV E A below args s  (sg G g MR) (sg K g JR)) (F0 m 0 ls []) := by
  obtain ⟨hx, hb, hr, hml, hown, hts, hlocks, hKK, hA1, hA2⟩ := id C
  unfold fX0_unload at h
  refine lv_aload_n hx hb dX0_unload_0 rfl (lv_at hl 0 rfl) ?_
  refine lv_iconst (v := (2 : Int32)) hx hb dX0_unload_1 (by decide) ?_
  refine pL_X0_mode hg hq C w q10_0 dX0_unload_2 (fun M1 H locs e2 w => ?_)
  replace h := bnd_of h e2
  refine lv_aload_n hx hb dX0_unload_5 rfl (lv_at hl 0 rfl) ?_
  refine lv_iconst (v := (0 : Int32)) hx hb dX0_unload_6 (by decide) ?_
  refine pL_X0_timer hg hq C w q10_4 dX0_unload_7 (fun M3 H locs e4 w => ?_)
  replace h := bnd_of h e4
  obtain ⟨e2, e3⟩ := rt2 h
  exact x_rv C w (by rw [e2]) (by rw [e3]) dX0_unload_10
theorem mtX0_unload {MR : M2} {JR : J2}  (hg : g < 6) (hq : isC q)   (h : fX0_unload q M J = some (MR, JR)) : MtV l yX0_unload wdX0_unload rmX0_unload E [.ref (ad E g q)] (sg G g M) (sg K g J)  (sg G g MR) (sg K g JR) := by
  intro sz
  refine Met.ofW (cc := cX0_unload) (maxL := 1) (ret := none) (by decide) rfl ?_
  intro p e s m args below meth c s₁ B hml hv
  obtain ⟨rfl, C, w⟩ := Cx.of (own := RX0) B rfl hml hv
  have hl := lv_entry ([.ref (ad E g q)]) (n := 1) (by first | exact Nat.le_of_ble_eq_true rfl)
  rw [lg_entry_eq]
  generalize (lg_sl ([.ref (ad E g q)]) ++ List.replicate (1 - (lg_sl ([.ref (ad E g q)])).length) Slot.unset).toArray = ls at hl ⊢
  exact TX0_unload C hg hq  h w hl
theorem ydX0_unload : yX0_unload.cls = RX0 ∧ yX0_unload.cls ≠ "java/lang/invoke/MethodHandle" ∧ yX0_unload.cls ≠ "java/lang/invoke/VarHandle" ∧ (parseMethodDescriptor yX0_unload.desc).map (fun d => d.parameters.length) = some 0 := by decide +kernel
/-! X0.stop(I)V -/
abbrev rmX0_stop : Room := { frames := 1, cells := 0, slots := 0, locals := 12 }
abbrev wdX0_stop : Cond := Cond.code yX0_stop cX0_stop 2 none
noncomputable def fX0_stop (q : Nat) (x1 : Int32) (M : M2) (J : J2) : Option (M2 × J2) := bnd (up2 M q 1 (0 : Int32)) (fun M1 => bnd (up2 M1 q 5 (0 : Int32)) (fun M3 => bnd (up2 M3 q 6 x1) (fun M5 => some (M5, J))))
set_option maxRecDepth 20000 in
set_option maxHeartbeats 1000000 in
theorem TX0_stop {MR : M2} {JR : J2}  (C : Cx E A p s m args meth c wdX0_stop cX0_stop 2 none RX0) (hg : g < 6) (hq : isC q) {x1 : Int32}  (h : fX0_stop q x1 M J = some (MR, JR)) (w : Wd E A s (sg G g M) (sg K g J) H locs) (hl : lv_has ls 2 [(0, .ref (ad E g q)), (1, .int x1)]) : W p l e rmX0_stop s m args below meth c H locs 0 0 (QV E A below args s  (sg G g MR) (sg K g JR)) (F0 m 0 ls []) := by
  obtain ⟨hx, hb, hr, hml, hown, hts, hlocks, hKK, hA1, hA2⟩ := id C
  unfold fX0_stop at h
  refine lv_aload_n hx hb dX0_stop_0 rfl (lv_at hl 0 rfl) ?_
  refine lv_iconst (v := (0 : Int32)) hx hb dX0_stop_1 (by decide) ?_
  refine pL_X0_mode hg hq C w q10_0 dX0_stop_2 (fun M1 H locs e2 w => ?_)
  replace h := bnd_of h e2
  refine lv_aload_n hx hb dX0_stop_5 rfl (lv_at hl 0 rfl) ?_
  refine lv_iconst (v := (0 : Int32)) hx hb dX0_stop_6 (by decide) ?_
  refine pL_X0_timer hg hq C w q10_4 dX0_stop_7 (fun M3 H locs e4 w => ?_)
  replace h := bnd_of h e4
  refine lv_aload_n hx hb dX0_stop_10 rfl (lv_at hl 0 rfl) ?_
  refine lv_iload_n hx hb dX0_stop_11 rfl (lv_at hl 1 rfl) ?_
  refine pL_X0_rest hg hq C w q10_5 dX0_stop_12 (fun M5 H locs e6 w => ?_)
  replace h := bnd_of h e6
  obtain ⟨e2, e3⟩ := rt2 h
  exact x_rv C w (by rw [e2]) (by rw [e3]) dX0_stop_15
theorem mtX0_stop {MR : M2} {JR : J2}  (hg : g < 6) (hq : isC q) {x1 : Int32}  (h : fX0_stop q x1 M J = some (MR, JR)) : MtV l yX0_stop wdX0_stop rmX0_stop E [.ref (ad E g q), .int x1] (sg G g M) (sg K g J)  (sg G g MR) (sg K g JR) := by
  intro sz
  refine Met.ofW (cc := cX0_stop) (maxL := 2) (ret := none) (by decide) rfl ?_
  intro p e s m args below meth c s₁ B hml hv
  obtain ⟨rfl, C, w⟩ := Cx.of (own := RX0) B rfl hml hv
  have hl := lv_entry ([.ref (ad E g q), .int x1]) (n := 2) (by first | exact Nat.le_of_ble_eq_true rfl)
  rw [lg_entry_eq]
  generalize (lg_sl ([.ref (ad E g q), .int x1]) ++ List.replicate (2 - (lg_sl ([.ref (ad E g q), .int x1])).length) Slot.unset).toArray = ls at hl ⊢
  exact TX0_stop C hg hq  h w hl
theorem ydX0_stop : yX0_stop.cls = RX0 ∧ yX0_stop.cls ≠ "java/lang/invoke/MethodHandle" ∧ yX0_stop.cls ≠ "java/lang/invoke/VarHandle" ∧ (parseMethodDescriptor yX0_stop.desc).map (fun d => d.parameters.length) = some 1 := by decide +kernel
/-! X0.fail()V -/
abbrev rmX0_fail : Room := { frames := 1, cells := 0, slots := 0, locals := 12 }
abbrev wdX0_fail : Cond := Cond.code yX0_fail cX0_fail 1 none
noncomputable def fX0_fail (q : Nat)  (M : M2) (J : J2) : Option (M2 × J2) := bnd (up2 M q 1 (3 : Int32)) (fun M1 => bnd (up2 M1 q 5 (0 : Int32)) (fun M3 => bnd (up2 M3 q 6 (0 : Int32)) (fun M5 => some (M5, J))))
set_option maxRecDepth 20000 in
set_option maxHeartbeats 1000000 in
theorem TX0_fail {MR : M2} {JR : J2}  (C : Cx E A p s m args meth c wdX0_fail cX0_fail 1 none RX0) (hg : g < 6) (hq : isC q)   (h : fX0_fail q M J = some (MR, JR)) (w : Wd E A s (sg G g M) (sg K g J) H locs) (hl : lv_has ls 1 [(0, .ref (ad E g q))]) : W p l e rmX0_fail s m args below meth c H locs 0 0 (QV E A below args s  (sg G g MR) (sg K g JR)) (F0 m 0 ls []) := by
  obtain ⟨hx, hb, hr, hml, hown, hts, hlocks, hKK, hA1, hA2⟩ := id C
  unfold fX0_fail at h
  refine lv_aload_n hx hb dX0_fail_0 rfl (lv_at hl 0 rfl) ?_
  refine lv_iconst (v := (3 : Int32)) hx hb dX0_fail_1 (by decide) ?_
  refine pL_X0_mode hg hq C w q10_0 dX0_fail_2 (fun M1 H locs e2 w => ?_)
  replace h := bnd_of h e2
  refine lv_aload_n hx hb dX0_fail_5 rfl (lv_at hl 0 rfl) ?_
  refine lv_iconst (v := (0 : Int32)) hx hb dX0_fail_6 (by decide) ?_
  refine pL_X0_timer hg hq C w q10_4 dX0_fail_7 (fun M3 H locs e4 w => ?_)
  replace h := bnd_of h e4
  refine lv_aload_n hx hb dX0_fail_10 rfl (lv_at hl 0 rfl) ?_
  refine lv_iconst (v := (0 : Int32)) hx hb dX0_fail_11 (by decide) ?_
  refine pL_X0_rest hg hq C w q10_5 dX0_fail_12 (fun M5 H locs e6 w => ?_)
  replace h := bnd_of h e6
  obtain ⟨e2, e3⟩ := rt2 h
  exact x_rv C w (by rw [e2]) (by rw [e3]) dX0_fail_15
theorem mtX0_fail {MR : M2} {JR : J2}  (hg : g < 6) (hq : isC q)   (h : fX0_fail q M J = some (MR, JR)) : MtV l yX0_fail wdX0_fail rmX0_fail E [.ref (ad E g q)] (sg G g M) (sg K g J)  (sg G g MR) (sg K g JR) := by
  intro sz
  refine Met.ofW (cc := cX0_fail) (maxL := 1) (ret := none) (by decide) rfl ?_
  intro p e s m args below meth c s₁ B hml hv
  obtain ⟨rfl, C, w⟩ := Cx.of (own := RX0) B rfl hml hv
  have hl := lv_entry ([.ref (ad E g q)]) (n := 1) (by first | exact Nat.le_of_ble_eq_true rfl)
  rw [lg_entry_eq]
  generalize (lg_sl ([.ref (ad E g q)]) ++ List.replicate (1 - (lg_sl ([.ref (ad E g q)])).length) Slot.unset).toArray = ls at hl ⊢
  exact TX0_fail C hg hq  h w hl
theorem ydX0_fail : yX0_fail.cls = RX0 ∧ yX0_fail.cls ≠ "java/lang/invoke/MethodHandle" ∧ yX0_fail.cls ≠ "java/lang/invoke/VarHandle" ∧ (parseMethodDescriptor yX0_fail.desc).map (fun d => d.parameters.length) = some 0 := by decide +kernel
/-! X0.begin(II)V -/
abbrev rmX0_begin : Room := { frames := 1, cells := 0, slots := 0, locals := 12 }
abbrev wdX0_begin : Cond := Cond.code yX0_begin cX0_begin 3 none
noncomputable def fX0_begin (q : Nat) (x1 : Int32) (x2 : Int32) (M : M2) (J : J2) : Option (M2 × J2) := bnd (up2 M q 0 x1) (fun M1 => bnd (up2 M1 q 2 x2) (fun M3 => bnd (up2 M3 q 1 (0 : Int32)) (fun M5 => bnd (up2 M5 q 3 (0 : Int32)) (fun M7 => bnd (up2 M7 q 4 (0 : Int32)) (fun M9 => bnd (up2 M9 q 5 (0 : Int32)) (fun M11 => bnd (up2 M11 q 6 (0 : Int32)) (fun M13 => bnd (up2 M13 q 7 (0 : Int32)) (fun M15 => some (M15, J)))))))))
set_option maxRecDepth 20000 in
set_option maxHeartbeats 1000000 in
theorem TX0_begin {MR : M2} {JR : J2}  (C : Cx E A p s m args meth c wdX0_begin cX0_begin 3 none RX0) (hg : g < 6) (hq : isC q) {x1 : Int32} {x2 : Int32}  (h : fX0_begin q x1 x2 M J = some (MR, JR)) (w : Wd E A s (sg G g M) (sg K g J) H locs) (hl : lv_has ls 3 [(0, .ref (ad E g q)), (1, .int x1), (2, .int x2)]) : W p l e rmX0_begin s m args below meth c H locs 0 0 (QV E A below args s  (sg G g MR) (sg K g JR)) (F0 m 0 ls []) := by
  obtain ⟨hx, hb, hr, hml, hown, hts, hlocks, hKK, hA1, hA2⟩ := id C
  unfold fX0_begin at h
  refine lv_aload_n hx hb dX0_begin_0 rfl (lv_at hl 0 rfl) ?_
  refine lv_iload_n hx hb dX0_begin_1 rfl (lv_at hl 1 rfl) ?_
  refine pL_X0_capacity hg hq C w q9_23 dX0_begin_2 (fun M1 H locs e2 w => ?_)
  replace h := bnd_of h e2
  refine lv_aload_n hx hb dX0_begin_5 rfl (lv_at hl 0 rfl) ?_
  refine lv_iload_n hx hb dX0_begin_6 rfl (lv_at hl 2 rfl) ?_
  refine pL_X0_stage hg hq C w q10_1 dX0_begin_7 (fun M3 H locs e4 w => ?_)
  replace h := bnd_of h e4
  refine lv_aload_n hx hb dX0_begin_10 rfl (lv_at hl 0 rfl) ?_
  refine lv_iconst (v := (0 : Int32)) hx hb dX0_begin_11 (by decide) ?_
  refine pL_X0_mode hg hq C w q10_0 dX0_begin_12 (fun M5 H locs e6 w => ?_)
  replace h := bnd_of h e6
  refine lv_aload_n hx hb dX0_begin_15 rfl (lv_at hl 0 rfl) ?_
  refine lv_iconst (v := (0 : Int32)) hx hb dX0_begin_16 (by decide) ?_
  refine pL_X0_loadedMinutes hg hq C w q10_2 dX0_begin_17 (fun M7 H locs e8 w => ?_)
  replace h := bnd_of h e8
  refine lv_aload_n hx hb dX0_begin_20 rfl (lv_at hl 0 rfl) ?_
  refine lv_iconst (v := (0 : Int32)) hx hb dX0_begin_21 (by decide) ?_
  refine pL_X0_unloadedMinutes hg hq C w q10_3 dX0_begin_22 (fun M9 H locs e10 w => ?_)
  replace h := bnd_of h e10
  refine lv_aload_n hx hb dX0_begin_25 rfl (lv_at hl 0 rfl) ?_
  refine lv_iconst (v := (0 : Int32)) hx hb dX0_begin_26 (by decide) ?_
  refine pL_X0_timer hg hq C w q10_4 dX0_begin_27 (fun M11 H locs e12 w => ?_)
  replace h := bnd_of h e12
  refine lv_aload_n hx hb dX0_begin_30 rfl (lv_at hl 0 rfl) ?_
  refine lv_iconst (v := (0 : Int32)) hx hb dX0_begin_31 (by decide) ?_
  refine pL_X0_rest hg hq C w q10_5 dX0_begin_32 (fun M13 H locs e14 w => ?_)
  replace h := bnd_of h e14
  refine lv_aload_n hx hb dX0_begin_35 rfl (lv_at hl 0 rfl) ?_
  refine lv_iconst (v := (0 : Int32)) hx hb dX0_begin_36 (by decide) ?_
  refine pL_X0_starts hg hq C w q10_6 dX0_begin_37 (fun M15 H locs e16 w => ?_)
  replace h := bnd_of h e16
  obtain ⟨e2, e3⟩ := rt2 h
  exact x_rv C w (by rw [e2]) (by rw [e3]) dX0_begin_40
theorem mtX0_begin {MR : M2} {JR : J2}  (hg : g < 6) (hq : isC q) {x1 : Int32} {x2 : Int32}  (h : fX0_begin q x1 x2 M J = some (MR, JR)) : MtV l yX0_begin wdX0_begin rmX0_begin E [.ref (ad E g q), .int x1, .int x2] (sg G g M) (sg K g J)  (sg G g MR) (sg K g JR) := by
  intro sz
  refine Met.ofW (cc := cX0_begin) (maxL := 3) (ret := none) (by decide) rfl ?_
  intro p e s m args below meth c s₁ B hml hv
  obtain ⟨rfl, C, w⟩ := Cx.of (own := RX0) B rfl hml hv
  have hl := lv_entry ([.ref (ad E g q), .int x1, .int x2]) (n := 3) (by first | exact Nat.le_of_ble_eq_true rfl)
  rw [lg_entry_eq]
  generalize (lg_sl ([.ref (ad E g q), .int x1, .int x2]) ++ List.replicate (3 - (lg_sl ([.ref (ad E g q), .int x1, .int x2])).length) Slot.unset).toArray = ls at hl ⊢
  exact TX0_begin C hg hq  h w hl
theorem ydX0_begin : yX0_begin.cls = RX0 ∧ yX0_begin.cls ≠ "java/lang/invoke/MethodHandle" ∧ yX0_begin.cls ≠ "java/lang/invoke/VarHandle" ∧ (parseMethodDescriptor yX0_begin.desc).map (fun d => d.parameters.length) = some 2 := by decide +kernel
/-! X0.carryOn(II)V -/
abbrev rmX0_carryOn : Room := { frames := 2, cells := 0, slots := 0, locals := 33 }
abbrev wdX0_carryOn : Cond := Cond.code yX0_carryOn cX0_carryOn 3 none
noncomputable def fX0_carryOn (q : Nat) (x1 : Int32) (x2 : Int32) (M : M2) (J : J2) : Option (M2 × J2) := (if x1 = (1 : Int32) then (bnd (up2 M q 6 ((M q 6) - (1 : Int32))) (fun M7 => some (M7, J))) else if x1 = (2 : Int32) then (bd2 (fX0_load q M J) (fun M10 J11 => some (M10, J11))) else if x1 = (3 : Int32) then (some (M, J)) else if x1 = (4 : Int32) then (bd2 (fX0_unload q M J) (fun M13 J14 => some (M13, J14))) else if x1 = (5 : Int32) then (bnd (up2 M q 5 ((M q 5) + (1 : Int32))) (fun M15 => some (M15, J))) else if x1 = (6 : Int32) then (bd2 (fX0_stop q x2 M J) (fun M18 J19 => some (M18, J19))) else (some (M, J)))
set_option maxRecDepth 20000 in
set_option maxHeartbeats 1000000 in
theorem TX0_carryOn {MR : M2} {JR : J2}  (C : Cx E A p s m args meth c wdX0_carryOn cX0_carryOn 3 none RX0) (hg : g < 6) (hq : isC q) {x1 : Int32} {x2 : Int32}  (h : fX0_carryOn q x1 x2 M J = some (MR, JR)) (w : Wd E A s (sg G g M) (sg K g J) H locs) (hl : lv_has ls 3 [(0, .ref (ad E g q)), (1, .int x1), (2, .int x2)]) : W p l e rmX0_carryOn s m args below meth c H locs 0 0 (QV E A below args s  (sg G g MR) (sg K g JR)) (F0 m 0 ls []) := by
  obtain ⟨hx, hb, hr, hml, hown, hts, hlocks, hKK, hA1, hA2⟩ := id C
  unfold fX0_carryOn at h
  refine lv_iload_n hx hb dX0_carryOn_0 rfl (lv_at hl 1 rfl) ?_
  by_cases c1 : x1 = (1 : Int32)
  · replace h := ite_t h c1
    refine lv_tableIn (tgt := 40) hx hb dX0_carryOn_1 (by rw [c1]; decide) (by rw [c1]; decide) (by rw [c1]; rfl) (by decide) ?_
    refine lv_aload_n hx hb dX0_carryOn_40 rfl (lv_at hl 0 rfl) ?_
    refine lv_dup hx hb dX0_carryOn_41 rfl ?_
    refine gL_X0_rest hg hq C w q10_5 dX0_carryOn_42 ?_
    refine lv_iconst (v := (1 : Int32)) hx hb dX0_carryOn_45 (by decide) ?_
    refine lv_isub hx hb dX0_carryOn_46 ?_
    refine pL_X0_rest hg hq C w q10_5 dX0_carryOn_47 (fun M7 H locs e8 w => ?_)
    replace h := bnd_of h e8
    refine lv_goto (tgt := 88) hx hb dX0_carryOn_50 (by decide) ?_
    obtain ⟨e2, e3⟩ := rt2 h
    exact x_rv C w (by rw [e2]) (by rw [e3]) dX0_carryOn_88
  replace h := ite_f h c1
  by_cases c2 : x1 = (2 : Int32)
  · replace h := ite_t h c2
    refine lv_tableIn (tgt := 53) hx hb dX0_carryOn_1 (by rw [c2]; decide) (by rw [c2]; decide) (by rw [c2]; rfl) (by decide) ?_
    refine lv_aload_n hx hb dX0_carryOn_53 rfl (lv_at hl 0 rfl) ?_
    obtain ⟨M10, J11, hv9, h⟩ := bd2_of h
    refine x_cVv (As := []) (rest := []) C w (vC hg hq) (cel_C hg hq.1) rfl (mtX0_load hg hq hv9) q15_10 q15_11 q15_12 q2_17 q15_13 ydX0_load ⟨rfl, rfl⟩ ⟨by decide, by decide⟩ ⟨Nat.zero_le _, Nat.zero_le _⟩ hl.1 (Nat.le_of_ble_eq_true rfl) rfl dX0_carryOn_54 (fun H locs w => ?_)
    refine lv_goto (tgt := 88) hx hb dX0_carryOn_57 (by decide) ?_
    obtain ⟨e2, e3⟩ := rt2 h
    exact x_rv C w (by rw [e2]) (by rw [e3]) dX0_carryOn_88
  replace h := ite_f h c2
  by_cases c3 : x1 = (3 : Int32)
  · replace h := ite_t h c3
    refine lv_tableIn (tgt := 88) hx hb dX0_carryOn_1 (by rw [c3]; decide) (by rw [c3]; decide) (by rw [c3]; rfl) (by decide) ?_
    obtain ⟨e2, e3⟩ := rt2 h
    exact x_rv C w (by rw [e2]) (by rw [e3]) dX0_carryOn_88
  replace h := ite_f h c3
  by_cases c4 : x1 = (4 : Int32)
  · replace h := ite_t h c4
    refine lv_tableIn (tgt := 60) hx hb dX0_carryOn_1 (by rw [c4]; decide) (by rw [c4]; decide) (by rw [c4]; rfl) (by decide) ?_
    refine lv_aload_n hx hb dX0_carryOn_60 rfl (lv_at hl 0 rfl) ?_
    obtain ⟨M13, J14, hv12, h⟩ := bd2_of h
    refine x_cVv (As := []) (rest := []) C w (vC hg hq) (cel_C hg hq.1) rfl (mtX0_unload hg hq hv12) q15_14 q12_21 q12_22 q2_17 q12_23 ydX0_unload ⟨rfl, rfl⟩ ⟨by decide, by decide⟩ ⟨Nat.zero_le _, Nat.zero_le _⟩ hl.1 (Nat.le_of_ble_eq_true rfl) rfl dX0_carryOn_61 (fun H locs w => ?_)
    refine lv_goto (tgt := 88) hx hb dX0_carryOn_64 (by decide) ?_
    obtain ⟨e2, e3⟩ := rt2 h
    exact x_rv C w (by rw [e2]) (by rw [e3]) dX0_carryOn_88
  replace h := ite_f h c4
  by_cases c5 : x1 = (5 : Int32)
  · replace h := ite_t h c5
    refine lv_tableIn (tgt := 67) hx hb dX0_carryOn_1 (by rw [c5]; decide) (by rw [c5]; decide) (by rw [c5]; rfl) (by decide) ?_
    refine lv_aload_n hx hb dX0_carryOn_67 rfl (lv_at hl 0 rfl) ?_
    refine lv_dup hx hb dX0_carryOn_68 rfl ?_
    refine gL_X0_timer hg hq C w q10_4 dX0_carryOn_69 ?_
    refine lv_iconst (v := (1 : Int32)) hx hb dX0_carryOn_72 (by decide) ?_
    refine lv_iadd hx hb dX0_carryOn_73 ?_
    refine pL_X0_timer hg hq C w q10_4 dX0_carryOn_74 (fun M15 H locs e16 w => ?_)
    replace h := bnd_of h e16
    refine lv_goto (tgt := 88) hx hb dX0_carryOn_77 (by decide) ?_
    obtain ⟨e2, e3⟩ := rt2 h
    exact x_rv C w (by rw [e2]) (by rw [e3]) dX0_carryOn_88
  replace h := ite_f h c5
  by_cases c6 : x1 = (6 : Int32)
  · replace h := ite_t h c6
    refine lv_tableIn (tgt := 80) hx hb dX0_carryOn_1 (by rw [c6]; decide) (by rw [c6]; decide) (by rw [c6]; rfl) (by decide) ?_
    refine lv_aload_n hx hb dX0_carryOn_80 rfl (lv_at hl 0 rfl) ?_
    refine lv_iload_n hx hb dX0_carryOn_81 rfl (lv_at hl 2 rfl) ?_
    obtain ⟨M18, J19, hv17, h⟩ := bd2_of h
    refine x_cVv (As := [.int x2]) (rest := []) C w (vC hg hq) (cel_C hg hq.1) rfl (mtX0_stop hg hq hv17) q15_15 q11_10 q11_11 q2_17 q11_12 ydX0_stop ⟨rfl, rfl⟩ ⟨by decide, by decide⟩ ⟨Nat.zero_le _, Nat.zero_le _⟩ hl.1 (Nat.le_of_ble_eq_true rfl) rfl dX0_carryOn_82 (fun H locs w => ?_)
    refine lv_goto (tgt := 88) hx hb dX0_carryOn_85 (by decide) ?_
    obtain ⟨e2, e3⟩ := rt2 h
    exact x_rv C w (by rw [e2]) (by rw [e3]) dX0_carryOn_88
  replace h := ite_f h c6
  have hsw : x1.toInt < 1 ∨ 6 < x1.toInt := by
    have n0 := ne_toInt c1
    have n1 := ne_toInt c2
    have n2 := ne_toInt c3
    have n3 := ne_toInt c4
    have n4 := ne_toInt c5
    have n5 := ne_toInt c6
    have e0 : (1 : Int32).toInt = 1 := by decide
    have e1 : (2 : Int32).toInt = 2 := by decide
    have e2 : (3 : Int32).toInt = 3 := by decide
    have e3 : (4 : Int32).toInt = 4 := by decide
    have e4 : (5 : Int32).toInt = 5 := by decide
    have e5 : (6 : Int32).toInt = 6 := by decide
    simp only [e0, e1, e2, e3, e4, e5] at n0 n1 n2 n3 n4 n5
    omega
  refine lv_tableOut (tgt := 88) hx hb dX0_carryOn_1 hsw (by decide) ?_
  obtain ⟨e2, e3⟩ := rt2 h
  exact x_rv C w (by rw [e2]) (by rw [e3]) dX0_carryOn_88
theorem mtX0_carryOn {MR : M2} {JR : J2}  (hg : g < 6) (hq : isC q) {x1 : Int32} {x2 : Int32}  (h : fX0_carryOn q x1 x2 M J = some (MR, JR)) : MtV l yX0_carryOn wdX0_carryOn rmX0_carryOn E [.ref (ad E g q), .int x1, .int x2] (sg G g M) (sg K g J)  (sg G g MR) (sg K g JR) := by
  intro sz
  refine Met.ofW (cc := cX0_carryOn) (maxL := 3) (ret := none) (by decide) rfl ?_
  intro p e s m args below meth c s₁ B hml hv
  obtain ⟨rfl, C, w⟩ := Cx.of (own := RX0) B rfl hml hv
  have hl := lv_entry ([.ref (ad E g q), .int x1, .int x2]) (n := 3) (by first | exact Nat.le_of_ble_eq_true rfl)
  rw [lg_entry_eq]
  generalize (lg_sl ([.ref (ad E g q), .int x1, .int x2]) ++ List.replicate (3 - (lg_sl ([.ref (ad E g q), .int x1, .int x2])).length) Slot.unset).toArray = ls at hl ⊢
  exact TX0_carryOn C hg hq  h w hl
theorem ydX0_carryOn : yX0_carryOn.cls = RX0 ∧ yX0_carryOn.cls ≠ "java/lang/invoke/MethodHandle" ∧ yX0_carryOn.cls ≠ "java/lang/invoke/VarHandle" ∧ (parseMethodDescriptor yX0_carryOn.desc).map (fun d => d.parameters.length) = some 2 := by decide +kernel
/-! X0.takeOver(LAirStation$Compressor;)V -/
abbrev rmX0_takeOver : Room := { frames := 1, cells := 0, slots := 0, locals := 12 }
abbrev wdX0_takeOver : Cond := Cond.code yX0_takeOver cX0_takeOver 2 none
noncomputable def fX0_takeOver (g : Nat) (q : Nat) (g' : Nat) (q' : Nat)  (G : M3) (K : J3) : Option (M3 × J3) := bnd (up3 G g q 0 (G g' q' 0)) (fun G1 => bnd (up3 G1 g q 1 (G1 g' q' 1)) (fun G3 => bnd (up3 G3 g q 2 (G3 g' q' 2)) (fun G5 => bnd (up3 G5 g q 3 (G5 g' q' 3)) (fun G7 => bnd (up3 G7 g q 4 (G7 g' q' 4)) (fun G9 => bnd (up3 G9 g q 5 (G9 g' q' 5)) (fun G11 => bnd (up3 G11 g q 6 (G11 g' q' 6)) (fun G13 => bnd (up3 G13 g q 7 (G13 g' q' 7)) (fun G15 => some (G15, K)))))))))
set_option maxRecDepth 20000 in
set_option maxHeartbeats 1000000 in
theorem TX0_takeOver {GR : M3} {KR : J3}  (C : Cx E A p s m args meth c wdX0_takeOver cX0_takeOver 2 none RX0) (hg : g < 6) (hq : isC q) (hg' : g' < 6) (hq' : isC q')   (h : fX0_takeOver g q g' q' G K = some (GR, KR)) (w : Wd E A s G K H locs) (hl : lv_has ls 2 [(0, .ref (ad E g q)), (1, .ref (ad E g' q'))]) : W p l e rmX0_takeOver s m args below meth c H locs 0 0 (QV E A below args s  GR KR) (F0 m 0 ls []) := by
  obtain ⟨hx, hb, hr, hml, hown, hts, hlocks, hKK, hA1, hA2⟩ := id C
  unfold fX0_takeOver at h
  refine lv_aload_n hx hb dX0_takeOver_0 rfl (lv_at hl 0 rfl) ?_
  refine lv_aload_n hx hb dX0_takeOver_1 rfl (lv_at hl 1 rfl) ?_
  refine gG_X0_capacity hg' hq' C w q9_23 dX0_takeOver_2 ?_
  refine pG_X0_capacity hg hq C w q9_23 dX0_takeOver_5 (fun G1 H locs e2 w => ?_)
  replace h := bnd_of h e2
  refine lv_aload_n hx hb dX0_takeOver_8 rfl (lv_at hl 0 rfl) ?_
  refine lv_aload_n hx hb dX0_takeOver_9 rfl (lv_at hl 1 rfl) ?_
  refine gG_X0_mode hg' hq' C w q10_0 dX0_takeOver_10 ?_
  refine pG_X0_mode hg hq C w q10_0 dX0_takeOver_13 (fun G3 H locs e4 w => ?_)
  replace h := bnd_of h e4
  refine lv_aload_n hx hb dX0_takeOver_16 rfl (lv_at hl 0 rfl) ?_
  refine lv_aload_n hx hb dX0_takeOver_17 rfl (lv_at hl 1 rfl) ?_
  refine gG_X0_stage hg' hq' C w q10_1 dX0_takeOver_18 ?_
  refine pG_X0_stage hg hq C w q10_1 dX0_takeOver_21 (fun G5 H locs e6 w => ?_)
  replace h := bnd_of h e6
  refine lv_aload_n hx hb dX0_takeOver_24 rfl (lv_at hl 0 rfl) ?_
  refine lv_aload_n hx hb dX0_takeOver_25 rfl (lv_at hl 1 rfl) ?_
  refine gG_X0_loadedMinutes hg' hq' C w q10_2 dX0_takeOver_26 ?_
  refine pG_X0_loadedMinutes hg hq C w q10_2 dX0_takeOver_29 (fun G7 H locs e8 w => ?_)
  replace h := bnd_of h e8
  refine lv_aload_n hx hb dX0_takeOver_32 rfl (lv_at hl 0 rfl) ?_
  refine lv_aload_n hx hb dX0_takeOver_33 rfl (lv_at hl 1 rfl) ?_
  refine gG_X0_unloadedMinutes hg' hq' C w q10_3 dX0_takeOver_34 ?_
  refine pG_X0_unloadedMinutes hg hq C w q10_3 dX0_takeOver_37 (fun G9 H locs e10 w => ?_)
  replace h := bnd_of h e10
  refine lv_aload_n hx hb dX0_takeOver_40 rfl (lv_at hl 0 rfl) ?_
  refine lv_aload_n hx hb dX0_takeOver_41 rfl (lv_at hl 1 rfl) ?_
  refine gG_X0_timer hg' hq' C w q10_4 dX0_takeOver_42 ?_
  refine pG_X0_timer hg hq C w q10_4 dX0_takeOver_45 (fun G11 H locs e12 w => ?_)
  replace h := bnd_of h e12
  refine lv_aload_n hx hb dX0_takeOver_48 rfl (lv_at hl 0 rfl) ?_
  refine lv_aload_n hx hb dX0_takeOver_49 rfl (lv_at hl 1 rfl) ?_
  refine gG_X0_rest hg' hq' C w q10_5 dX0_takeOver_50 ?_
  refine pG_X0_rest hg hq C w q10_5 dX0_takeOver_53 (fun G13 H locs e14 w => ?_)
  replace h := bnd_of h e14
  refine lv_aload_n hx hb dX0_takeOver_56 rfl (lv_at hl 0 rfl) ?_
  refine lv_aload_n hx hb dX0_takeOver_57 rfl (lv_at hl 1 rfl) ?_
  refine gG_X0_starts hg' hq' C w q10_6 dX0_takeOver_58 ?_
  refine pG_X0_starts hg hq C w q10_6 dX0_takeOver_61 (fun G15 H locs e16 w => ?_)
  replace h := bnd_of h e16
  obtain ⟨e2, e3⟩ := rt2 h
  exact x_rv C w (by rw [e2]) (by rw [e3]) dX0_takeOver_64
theorem mtX0_takeOver {GR : M3} {KR : J3}  (hg : g < 6) (hq : isC q) (hg' : g' < 6) (hq' : isC q')   (h : fX0_takeOver g q g' q' G K = some (GR, KR)) : MtV l yX0_takeOver wdX0_takeOver rmX0_takeOver E [.ref (ad E g q), .ref (ad E g' q')] G K  GR KR := by
  intro sz
  refine Met.ofW (cc := cX0_takeOver) (maxL := 2) (ret := none) (by decide) rfl ?_
  intro p e s m args below meth c s₁ B hml hv
  obtain ⟨rfl, C, w⟩ := Cx.of (own := RX0) B rfl hml hv
  have hl := lv_entry ([.ref (ad E g q), .ref (ad E g' q')]) (n := 2) (by first | exact Nat.le_of_ble_eq_true rfl)
  rw [lg_entry_eq]
  generalize (lg_sl ([.ref (ad E g q), .ref (ad E g' q')]) ++ List.replicate (2 - (lg_sl ([.ref (ad E g q), .ref (ad E g' q')])).length) Slot.unset).toArray = ls at hl ⊢
  exact TX0_takeOver C hg hq hg' hq'  h w hl
theorem ydX0_takeOver : yX0_takeOver.cls = RX0 ∧ yX0_takeOver.cls ≠ "java/lang/invoke/MethodHandle" ∧ yX0_takeOver.cls ≠ "java/lang/invoke/VarHandle" ∧ (parseMethodDescriptor yX0_takeOver.desc).map (fun d => d.parameters.length) = some 1 := by decide +kernel
/-! X3.numbered(I)LAirStation$Compressor; -/
abbrev rmX3_numbered : Room := { frames := 1, cells := 0, slots := 0, locals := 12 }
abbrev wdX3_numbered : Cond := Cond.code yX3_numbered cX3_numbered 2 (some (.object "AirStation$Compressor"))
noncomputable def fX3_numbered (M : M2) (J : J2) (x1 : Int32)  : Option (Option Nat) := (if x1 < 0 then (some none) else ((if (M 0 5) ≤ x1 then (some none) else ((if x1 < (5 : Int32) then (chk (inb x1 5) (some (some (5 + x1.toNatClampNeg)))) else (some none))))))
set_option maxRecDepth 20000 in
set_option maxHeartbeats 1000000 in
theorem TX3_numbered {rr : Option Nat}  (C : Cx E A p s m args meth c wdX3_numbered cX3_numbered 2 (some (.object "AirStation$Compressor")) RX3) (hg : g < 6) {x1 : Int32}  (h : fX3_numbered M J x1 = some rr) (w : Wd E A s (sg G g M) (sg K g J) H locs) (hl : lv_has ls 2 [(0, .ref (ad E g 0)), (1, .int x1)]) : W p l e rmX3_numbered s m args below meth c H locs 0 0 (QQ E A below args s (rr.map (fun z => ad E g z)) (sg G g M) (sg K g J)) (F0 m 0 ls []) := by
  obtain ⟨hx, hb, hr, hml, hown, hts, hlocks, hKK, hA1, hA2⟩ := id C
  unfold fX3_numbered at h
  refine lv_iload_n hx hb dX3_numbered_0 rfl (lv_at hl 1 rfl) ?_
  refine lv_if_lt (tgt := 21) hx hb dX3_numbered_1 (by decide) (fun c1 => ?_) (fun c1 => ?_)
  · replace h := ite_t h c1
    refine lv_null hx hb dX3_numbered_21 ?_
    have e1 := Option.some.inj h
    exact x_rq C w (v := none) rfl (by rw [← e1]; rfl) rfl rfl dX3_numbered_22
  · replace h := ite_f h c1
    refine lv_iload_n hx hb dX3_numbered_4 rfl (lv_at hl 1 rfl) ?_
    refine lv_aload_n hx hb dX3_numbered_5 rfl (lv_at hl 0 rfl) ?_
    refine gL_X3_count hg C w q4_10 dX3_numbered_6 ?_
    refine lv_icmp_ge (tgt := 21) hx hb dX3_numbered_9 (by decide) (fun c2 => ?_) (fun c2 => ?_)
    · replace h := ite_t h c2
      refine lv_null hx hb dX3_numbered_21 ?_
      have e1 := Option.some.inj h
      exact x_rq C w (v := none) rfl (by rw [← e1]; rfl) rfl rfl dX3_numbered_22
    · replace h := ite_f h c2
      refine lv_iload_n hx hb dX3_numbered_12 rfl (lv_at hl 1 rfl) ?_
      refine lv_aload_n hx hb dX3_numbered_13 rfl (lv_at hl 0 rfl) ?_
      refine gR_X3_compressors hg C w q2_11 dX3_numbered_14 ?_
      refine x_alen (n := 5) (v := (5 : Int32)) (t0 := 2) C w (vS hg (by decide)) (cel_S hg) rfl (by decide) dX3_numbered_17 ?_
      refine lv_icmp_lt (tgt := 23) hx hb dX3_numbered_18 (by decide) (fun c3 => ?_) (fun c3 => ?_)
      · replace h := ite_t h c3
        refine lv_aload_n hx hb dX3_numbered_23 rfl (lv_at hl 0 rfl) ?_
        refine gR_X3_compressors hg C w q2_11 dX3_numbered_24 ?_
        refine lv_iload_n hx hb dX3_numbered_27 rfl (lv_at hl 1 rfl) ?_
        obtain ⟨ki4, h⟩ := chk_of h
        have hc5 := isC_ald ki4
        refine x_aldC C w hg ki4 dX3_numbered_28 ?_
        have e1 := Option.some.inj h
        exact x_rq C w (v := (some (ad E g (5 + x1.toNatClampNeg)))) rfl (by rw [← e1]; rfl) rfl rfl dX3_numbered_29
      · replace h := ite_f h c3
        refine lv_null hx hb dX3_numbered_21 ?_
        have e1 := Option.some.inj h
        exact x_rq C w (v := none) rfl (by rw [← e1]; rfl) rfl rfl dX3_numbered_22
theorem mtX3_numbered {rr : Option Nat}  (hg : g < 6) {x1 : Int32}  (h : fX3_numbered M J x1 = some rr) : MtQ l yX3_numbered wdX3_numbered rmX3_numbered E [.ref (ad E g 0), .int x1] (sg G g M) (sg K g J) (rr.map (fun z => ad E g z)) (sg G g M) (sg K g J) := by
  intro sz
  refine Met.ofW (cc := cX3_numbered) (maxL := 2) (ret := (some (.object "AirStation$Compressor"))) (by decide) rfl ?_
  intro p e s m args below meth c s₁ B hml hv
  obtain ⟨rfl, C, w⟩ := Cx.of (own := RX3) B rfl hml hv
  have hl := lv_entry ([.ref (ad E g 0), .int x1]) (n := 2) (by first | exact Nat.le_of_ble_eq_true rfl)
  rw [lg_entry_eq]
  generalize (lg_sl ([.ref (ad E g 0), .int x1]) ++ List.replicate (2 - (lg_sl ([.ref (ad E g 0), .int x1])).length) Slot.unset).toArray = ls at hl ⊢
  exact TX3_numbered C hg  h w hl
theorem ydX3_numbered : yX3_numbered.cls = RX3 ∧ yX3_numbered.cls ≠ "java/lang/invoke/MethodHandle" ∧ yX3_numbered.cls ≠ "java/lang/invoke/VarHandle" ∧ (parseMethodDescriptor yX3_numbered.desc).map (fun d => d.parameters.length) = some 1 := by decide +kernel
/-! X3.pressure()I -/
abbrev rmX3_pressure : Room := { frames := 2, cells := 0, slots := 0, locals := 33 }
abbrev wdX3_pressure : Cond := Cond.code yX3_pressure cX3_pressure 1 (some .int)
noncomputable def fX3_pressure (M : M2) (J : J2)   : Option Int32 := (fX4_pressureOf (M 0 1) (M 0 0)).bind (fun vv2 => some vv2)
set_option maxRecDepth 20000 in
set_option maxHeartbeats 1000000 in
theorem TX3_pressure {rr : Int32}  (C : Cx E A p s m args meth c wdX3_pressure cX3_pressure 1 (some .int) RX3) (hg : g < 6)   (h : fX3_pressure M J  = some rr) (w : Wd E A s (sg G g M) (sg K g J) H locs) (hl : lv_has ls 1 [(0, .ref (ad E g 0))]) : W p l e rmX3_pressure s m args below meth c H locs 0 0 (QI E A below args s rr (sg G g M) (sg K g J)) (F0 m 0 ls []) := by
  obtain ⟨hx, hb, hr, hml, hown, hts, hlocks, hKK, hA1, hA2⟩ := id C
  unfold fX3_pressure at h
  refine lv_aload_n hx hb dX3_pressure_0 rfl (lv_at hl 0 rfl) ?_
  refine gL_X3_air hg C w q2_4 dX3_pressure_1 ?_
  refine lv_aload_n hx hb dX3_pressure_4 rfl (lv_at hl 0 rfl) ?_
  refine gL_X3_volume hg C w q2_3 dX3_pressure_5 ?_
  obtain ⟨vv2, hv1, h⟩ := bind_of h
  refine x_cNi (As := [.int (M 0 1), .int (M 0 0)]) (rest := []) C w (mtX4_pressureOf  hv1) (List.mem_of_getElem? (i := 0) rfl) q4_19 q1_2 q4_20 ynX4_pressureOf ⟨rfl, rfl⟩ ⟨by decide, by decide⟩ ⟨Nat.zero_le _, Nat.zero_le _⟩ hl.1 (Nat.le_of_ble_eq_true rfl) rfl dX3_pressure_8 (fun H locs w => ?_)
  have e1 := Option.some.inj h
  exact x_ri C w e1 rfl rfl dX3_pressure_11
theorem mtX3_pressure {rr : Int32}  (hg : g < 6)   (h : fX3_pressure M J  = some rr) : MtI l yX3_pressure wdX3_pressure rmX3_pressure E [.ref (ad E g 0)] (sg G g M) (sg K g J) rr (sg G g M) (sg K g J) := by
  intro sz
  refine Met.ofW (cc := cX3_pressure) (maxL := 1) (ret := (some .int)) (by decide) rfl ?_
  intro p e s m args below meth c s₁ B hml hv
  obtain ⟨rfl, C, w⟩ := Cx.of (own := RX3) B rfl hml hv
  have hl := lv_entry ([.ref (ad E g 0)]) (n := 1) (by first | exact Nat.le_of_ble_eq_true rfl)
  rw [lg_entry_eq]
  generalize (lg_sl ([.ref (ad E g 0)]) ++ List.replicate (1 - (lg_sl ([.ref (ad E g 0)])).length) Slot.unset).toArray = ls at hl ⊢
  exact TX3_pressure C hg  h w hl
theorem ydX3_pressure : yX3_pressure.cls = RX3 ∧ yX3_pressure.cls ≠ "java/lang/invoke/MethodHandle" ∧ yX3_pressure.cls ≠ "java/lang/invoke/VarHandle" ∧ (parseMethodDescriptor yX3_pressure.desc).map (fun d => d.parameters.length) = some 0 := by decide +kernel
/-! X3.leakAt(I)I -/
abbrev rmX3_leakAt : Room := { frames := 1, cells := 0, slots := 0, locals := 12 }
abbrev wdX3_leakAt : Cond := Cond.code yX3_leakAt cX3_leakAt 2 (some .int)
noncomputable def fX3_leakAt (M : M2) (J : J2) (x1 : Int32)  : Int32 := ((x1 * (M 1 5)) / (1000 : Int32))
set_option maxRecDepth 20000 in
set_option maxHeartbeats 1000000 in
theorem TX3_leakAt {rr : Int32}  (C : Cx E A p s m args meth c wdX3_leakAt cX3_leakAt 2 (some .int) RX3) (hg : g < 6) {x1 : Int32}  (h : fX3_leakAt M J x1 = rr) (w : Wd E A s (sg G g M) (sg K g J) H locs) (hl : lv_has ls 2 [(0, .ref (ad E g 0)), (1, .int x1)]) : W p l e rmX3_leakAt s m args below meth c H locs 0 0 (QI E A below args s rr (sg G g M) (sg K g J)) (F0 m 0 ls []) := by
  obtain ⟨hx, hb, hr, hml, hown, hts, hlocks, hKK, hA1, hA2⟩ := id C
  unfold fX3_leakAt at h
  refine lv_iload_n hx hb dX3_leakAt_0 rfl (lv_at hl 1 rfl) ?_
  refine lv_aload_n hx hb dX3_leakAt_1 rfl (lv_at hl 0 rfl) ?_
  refine gR_X3_settings hg C w q2_6 dX3_leakAt_2 ?_
  refine lv_iconst (v := (5 : Int32)) hx hb dX3_leakAt_5 (by decide) ?_
  refine x_aldI_L C w (vS hg (by decide)) (cS1 hg) (inb_k (k := 5) (by decide) (by decide)) cl_5 dX3_leakAt_6 ?_
  refine lv_imul hx hb dX3_leakAt_7 ?_
  refine lv_sipush (v := (1000 : Int32)) hx hb dX3_leakAt_8 (by decide) ?_
  refine lv_idiv hx hb dX3_leakAt_11 (by decide) ?_
  exact x_ri C w h rfl rfl dX3_leakAt_12
theorem mtX3_leakAt  (hg : g < 6) {x1 : Int32}   : MtI l yX3_leakAt wdX3_leakAt rmX3_leakAt E [.ref (ad E g 0), .int x1] (sg G g M) (sg K g J) (fX3_leakAt M J x1) (sg G g M) (sg K g J) := by
  intro sz
  refine Met.ofW (cc := cX3_leakAt) (maxL := 2) (ret := (some .int)) (by decide) rfl ?_
  intro p e s m args below meth c s₁ B hml hv
  obtain ⟨rfl, C, w⟩ := Cx.of (own := RX3) B rfl hml hv
  have hl := lv_entry ([.ref (ad E g 0), .int x1]) (n := 2) (by first | exact Nat.le_of_ble_eq_true rfl)
  rw [lg_entry_eq]
  generalize (lg_sl ([.ref (ad E g 0), .int x1]) ++ List.replicate (2 - (lg_sl ([.ref (ad E g 0), .int x1])).length) Slot.unset).toArray = ls at hl ⊢
  exact TX3_leakAt C hg  rfl w hl
theorem ydX3_leakAt : yX3_leakAt.cls = RX3 ∧ yX3_leakAt.cls ≠ "java/lang/invoke/MethodHandle" ∧ yX3_leakAt.cls ≠ "java/lang/invoke/VarHandle" ∧ (parseMethodDescriptor yX3_leakAt.desc).map (fun d => d.parameters.length) = some 1 := by decide +kernel
/-! X3.limitForLoading(LAirStation$Compressor;)I -/
abbrev rmX3_limitForLoading : Room := { frames := 1, cells := 0, slots := 0, locals := 12 }
abbrev wdX3_limitForLoading : Cond := Cond.code yX3_limitForLoading cX3_limitForLoading 2 (some .int)
noncomputable def fX3_limitForLoading (M : M2) (J : J2) (q1 : Nat)  : Int32 := ((M 1 0) - (((M q1 2) + (1 : Int32)) * (M 1 1)))
set_option maxRecDepth 20000 in
set_option maxHeartbeats 1000000 in
theorem TX3_limitForLoading {rr : Int32}  (C : Cx E A p s m args meth c wdX3_limitForLoading cX3_limitForLoading 2 (some .int) RX3) (hg : g < 6) {q1 : Nat} (hq1 : isC q1) (h : fX3_limitForLoading M J q1 = rr) (w : Wd E A s (sg G g M) (sg K g J) H locs) (hl : lv_has ls 2 [(0, .ref (ad E g 0)), (1, .ref (ad E g q1))]) : W p l e rmX3_limitForLoading s m args below meth c H locs 0 0 (QI E A below args s rr (sg G g M) (sg K g J)) (F0 m 0 ls []) := by
  obtain ⟨hx, hb, hr, hml, hown, hts, hlocks, hKK, hA1, hA2⟩ := id C
  unfold fX3_limitForLoading at h
  refine lv_aload_n hx hb dX3_limitForLoading_0 rfl (lv_at hl 0 rfl) ?_
  refine gR_X3_settings hg C w q2_6 dX3_limitForLoading_1 ?_
  refine lv_iconst (v := (0 : Int32)) hx hb dX3_limitForLoading_4 (by decide) ?_
  refine x_aldI_L C w (vS hg (by decide)) (cS1 hg) (inb_k (k := 0) (by decide) (by decide)) cl_0 dX3_limitForLoading_5 ?_
  refine lv_aload_n hx hb dX3_limitForLoading_6 rfl (lv_at hl 1 rfl) ?_
  refine gL_X0_stage hg hq1 C w q6_12 dX3_limitForLoading_7 ?_
  refine lv_iconst (v := (1 : Int32)) hx hb dX3_limitForLoading_10 (by decide) ?_
  refine lv_iadd hx hb dX3_limitForLoading_11 ?_
  refine lv_aload_n hx hb dX3_limitForLoading_12 rfl (lv_at hl 0 rfl) ?_
  refine gR_X3_settings hg C w q2_6 dX3_limitForLoading_13 ?_
  refine lv_iconst (v := (1 : Int32)) hx hb dX3_limitForLoading_16 (by decide) ?_
  refine x_aldI_L C w (vS hg (by decide)) (cS1 hg) (inb_k (k := 1) (by decide) (by decide)) cl_1 dX3_limitForLoading_17 ?_
  refine lv_imul hx hb dX3_limitForLoading_18 ?_
  refine lv_isub hx hb dX3_limitForLoading_19 ?_
  exact x_ri C w h rfl rfl dX3_limitForLoading_20
theorem mtX3_limitForLoading  (hg : g < 6) {q1 : Nat} (hq1 : isC q1)  : MtI l yX3_limitForLoading wdX3_limitForLoading rmX3_limitForLoading E [.ref (ad E g 0), .ref (ad E g q1)] (sg G g M) (sg K g J) (fX3_limitForLoading M J q1) (sg G g M) (sg K g J) := by
  intro sz
  refine Met.ofW (cc := cX3_limitForLoading) (maxL := 2) (ret := (some .int)) (by decide) rfl ?_
  intro p e s m args below meth c s₁ B hml hv
  obtain ⟨rfl, C, w⟩ := Cx.of (own := RX3) B rfl hml hv
  have hl := lv_entry ([.ref (ad E g 0), .ref (ad E g q1)]) (n := 2) (by first | exact Nat.le_of_ble_eq_true rfl)
  rw [lg_entry_eq]
  generalize (lg_sl ([.ref (ad E g 0), .ref (ad E g q1)]) ++ List.replicate (2 - (lg_sl ([.ref (ad E g 0), .ref (ad E g q1)])).length) Slot.unset).toArray = ls at hl ⊢
  exact TX3_limitForLoading C hg hq1 rfl w hl
theorem ydX3_limitForLoading : yX3_limitForLoading.cls = RX3 ∧ yX3_limitForLoading.cls ≠ "java/lang/invoke/MethodHandle" ∧ yX3_limitForLoading.cls ≠ "java/lang/invoke/VarHandle" ∧ (parseMethodDescriptor yX3_limitForLoading.desc).map (fun d => d.parameters.length) = some 1 := by decide +kernel
/-! X3.limitForUnloading(LAirStation$Compressor;)I -/
abbrev rmX3_limitForUnloading : Room := { frames := 1, cells := 0, slots := 0, locals := 12 }
abbrev wdX3_limitForUnloading : Cond := Cond.code yX3_limitForUnloading cX3_limitForUnloading 2 (some .int)
noncomputable def fX3_limitForUnloading (M : M2) (J : J2) (q1 : Nat)  : Int32 := ((M 1 0) + (((M 0 5) - (M q1 2)) * (M 1 1)))
set_option maxRecDepth 20000 in
set_option maxHeartbeats 1000000 in
theorem TX3_limitForUnloading {rr : Int32}  (C : Cx E A p s m args meth c wdX3_limitForUnloading cX3_limitForUnloading 2 (some .int) RX3) (hg : g < 6) {q1 : Nat} (hq1 : isC q1) (h : fX3_limitForUnloading M J q1 = rr) (w : Wd E A s (sg G g M) (sg K g J) H locs) (hl : lv_has ls 2 [(0, .ref (ad E g 0)), (1, .ref (ad E g q1))]) : W p l e rmX3_limitForUnloading s m args below meth c H locs 0 0 (QI E A below args s rr (sg G g M) (sg K g J)) (F0 m 0 ls []) := by
  obtain ⟨hx, hb, hr, hml, hown, hts, hlocks, hKK, hA1, hA2⟩ := id C
  unfold fX3_limitForUnloading at h
  refine lv_aload_n hx hb dX3_limitForUnloading_0 rfl (lv_at hl 0 rfl) ?_
  refine gR_X3_settings hg C w q2_6 dX3_limitForUnloading_1 ?_
  refine lv_iconst (v := (0 : Int32)) hx hb dX3_limitForUnloading_4 (by decide) ?_
  refine x_aldI_L C w (vS hg (by decide)) (cS1 hg) (inb_k (k := 0) (by decide) (by decide)) cl_0 dX3_limitForUnloading_5 ?_
  refine lv_aload_n hx hb dX3_limitForUnloading_6 rfl (lv_at hl 0 rfl) ?_
  refine gL_X3_count hg C w q4_10 dX3_limitForUnloading_7 ?_
  refine lv_aload_n hx hb dX3_limitForUnloading_10 rfl (lv_at hl 1 rfl) ?_
  refine gL_X0_stage hg hq1 C w q6_12 dX3_limitForUnloading_11 ?_
  refine lv_isub hx hb dX3_limitForUnloading_14 ?_
  refine lv_aload_n hx hb dX3_limitForUnloading_15 rfl (lv_at hl 0 rfl) ?_
  refine gR_X3_settings hg C w q2_6 dX3_limitForUnloading_16 ?_
  refine lv_iconst (v := (1 : Int32)) hx hb dX3_limitForUnloading_19 (by decide) ?_
  refine x_aldI_L C w (vS hg (by decide)) (cS1 hg) (inb_k (k := 1) (by decide) (by decide)) cl_1 dX3_limitForUnloading_20 ?_
  refine lv_imul hx hb dX3_limitForUnloading_21 ?_
  refine lv_iadd hx hb dX3_limitForUnloading_22 ?_
  exact x_ri C w h rfl rfl dX3_limitForUnloading_23
theorem mtX3_limitForUnloading  (hg : g < 6) {q1 : Nat} (hq1 : isC q1)  : MtI l yX3_limitForUnloading wdX3_limitForUnloading rmX3_limitForUnloading E [.ref (ad E g 0), .ref (ad E g q1)] (sg G g M) (sg K g J) (fX3_limitForUnloading M J q1) (sg G g M) (sg K g J) := by
  intro sz
  refine Met.ofW (cc := cX3_limitForUnloading) (maxL := 2) (ret := (some .int)) (by decide) rfl ?_
  intro p e s m args below meth c s₁ B hml hv
  obtain ⟨rfl, C, w⟩ := Cx.of (own := RX3) B rfl hml hv
  have hl := lv_entry ([.ref (ad E g 0), .ref (ad E g q1)]) (n := 2) (by first | exact Nat.le_of_ble_eq_true rfl)
  rw [lg_entry_eq]
  generalize (lg_sl ([.ref (ad E g 0), .ref (ad E g q1)]) ++ List.replicate (2 - (lg_sl ([.ref (ad E g 0), .ref (ad E g q1)])).length) Slot.unset).toArray = ls at hl ⊢
  exact TX3_limitForUnloading C hg hq1 rfl w hl
theorem ydX3_limitForUnloading : yX3_limitForUnloading.cls = RX3 ∧ yX3_limitForUnloading.cls ≠ "java/lang/invoke/MethodHandle" ∧ yX3_limitForUnloading.cls ≠ "java/lang/invoke/VarHandle" ∧ (parseMethodDescriptor yX3_limitForUnloading.desc).map (fun d => d.parameters.length) = some 1 := by decide +kernel
/-! X3.hasTimeFor(I)Z -/
abbrev rmX3_hasTimeFor : Room := { frames := 1, cells := 0, slots := 0, locals := 12 }
abbrev wdX3_hasTimeFor : Cond := Cond.code yX3_hasTimeFor cX3_hasTimeFor 2 (some .boolean)
noncomputable def fX3_hasTimeFor (M : M2) (J : J2) (x1 : Int32)  : Int32 := (if (100000 : Int32) < ((M 0 2) + x1) then ((0 : Int32)) else ((1 : Int32)))
set_option maxRecDepth 20000 in
set_option maxHeartbeats 1000000 in
theorem TX3_hasTimeFor {rr : Int32}  (C : Cx E A p s m args meth c wdX3_hasTimeFor cX3_hasTimeFor 2 (some .boolean) RX3) (hg : g < 6) {x1 : Int32}  (h : fX3_hasTimeFor M J x1 = rr) (w : Wd E A s (sg G g M) (sg K g J) H locs) (hl : lv_has ls 2 [(0, .ref (ad E g 0)), (1, .int x1)]) : W p l e rmX3_hasTimeFor s m args below meth c H locs 0 0 (QI E A below args s rr (sg G g M) (sg K g J)) (F0 m 0 ls []) := by
  obtain ⟨hx, hb, hr, hml, hown, hts, hlocks, hKK, hA1, hA2⟩ := id C
  unfold fX3_hasTimeFor at h
  refine lv_aload_n hx hb dX3_hasTimeFor_0 rfl (lv_at hl 0 rfl) ?_
  refine gL_X3_time hg C w q4_11 dX3_hasTimeFor_1 ?_
  refine lv_iload_n hx hb dX3_hasTimeFor_4 rfl (lv_at hl 1 rfl) ?_
  refine lv_iadd hx hb dX3_hasTimeFor_5 ?_
  refine lv_ldc hx hb hown (x_hts C q12_11) dX3_hasTimeFor_6 ?_
  refine lv_icmp_gt (tgt := 15) hx hb dX3_hasTimeFor_8 (by decide) (fun c1 => ?_) (fun c1 => ?_)
  · replace h := ite_t h c1
    refine lv_iconst (v := (0 : Int32)) hx hb dX3_hasTimeFor_15 (by decide) ?_
    exact x_rz C w (Or.inl rfl) h rfl rfl dX3_hasTimeFor_16
  · replace h := ite_f h c1
    refine lv_iconst (v := (1 : Int32)) hx hb dX3_hasTimeFor_11 (by decide) ?_
    refine lv_goto (tgt := 16) hx hb dX3_hasTimeFor_12 (by decide) ?_
    exact x_rz C w (Or.inr rfl) h rfl rfl dX3_hasTimeFor_16
theorem mtX3_hasTimeFor  (hg : g < 6) {x1 : Int32}   : MtI l yX3_hasTimeFor wdX3_hasTimeFor rmX3_hasTimeFor E [.ref (ad E g 0), .int x1] (sg G g M) (sg K g J) (fX3_hasTimeFor M J x1) (sg G g M) (sg K g J) := by
  intro sz
  refine Met.ofW (cc := cX3_hasTimeFor) (maxL := 2) (ret := (some .boolean)) (by decide) rfl ?_
  intro p e s m args below meth c s₁ B hml hv
  obtain ⟨rfl, C, w⟩ := Cx.of (own := RX3) B rfl hml hv
  have hl := lv_entry ([.ref (ad E g 0), .int x1]) (n := 2) (by first | exact Nat.le_of_ble_eq_true rfl)
  rw [lg_entry_eq]
  generalize (lg_sl ([.ref (ad E g 0), .int x1]) ++ List.replicate (2 - (lg_sl ([.ref (ad E g 0), .int x1])).length) Slot.unset).toArray = ls at hl ⊢
  exact TX3_hasTimeFor C hg  rfl w hl
theorem ydX3_hasTimeFor : yX3_hasTimeFor.cls = RX3 ∧ yX3_hasTimeFor.cls ≠ "java/lang/invoke/MethodHandle" ∧ yX3_hasTimeFor.cls ≠ "java/lang/invoke/VarHandle" ∧ (parseMethodDescriptor yX3_hasTimeFor.desc).map (fun d => d.parameters.length) = some 1 := by decide +kernel
theorem zX3_hasTimeFor (M : M2) (J : J2) (x1 : Int32) : fX3_hasTimeFor M J x1 = 0 ∨ fX3_hasTimeFor M J x1 = 1 := by unfold fX3_hasTimeFor; (repeat' split) <;> first | exact Or.inl rfl | exact Or.inr rfl | apply zX4_isWithin
/-! X3.countOf(I)I -/
abbrev rmX3_countOf : Room := { frames := 2, cells := 0, slots := 0, locals := 33 }
abbrev wdX3_countOf : Cond := Cond.code yX3_countOf cX3_countOf 5 (some .int)
noncomputable def fbX3_countOf_33 (F : Nat) (k4 : Int32 → Int32 → Int32 → Option Int32) (M : M2) (J : J2) (a1 : Int32) (a2 : Int32) (a3 : Int32)  : Option Int32 := k4 a1 a2 (a3 + (1 : Int32))
set_option maxRecDepth 20000 in
set_option maxHeartbeats 1000000 in
theorem TX3_countOf_33 {rr : Int32}  {k4 : Int32 → Int32 → Int32 → Option Int32} (C : Cx E A p s m args meth c wdX3_countOf cX3_countOf 5 (some .int) RX3) (hg : g < 6) (hk4 : ∀ (a1 : Int32) (a2 : Int32) (a3 : Int32)   (ls : Array Slot) (H : Heap) (locs : List Loc), k4 a1 a2 a3 = some rr → Wd E A s (sg G g M) (sg K g J) H locs → lv_has ls 5 [(0, .ref (ad E g 0)), (1, .int a1), (2, .int a2), (3, .int a3)] → W p l e rmX3_countOf s m args below meth c H locs 0 0 (QI E A below args s rr (sg G g M) (sg K g J)) (F0 m 4 ls [])) (a1 : Int32) (a2 : Int32) (a3 : Int32)   (h : fbX3_countOf_33 F k4 M J a1 a2 a3 = some rr) (w : Wd E A s (sg G g M) (sg K g J) H locs) (hl : lv_has ls 5 [(0, .ref (ad E g 0)), (1, .int a1), (2, .int a2), (3, .int a3)]) : W p l e rmX3_countOf s m args below meth c H locs 0 0 (QI E A below args s rr (sg G g M) (sg K g J)) (F0 m 33 ls []) := by
  obtain ⟨hx, hb, hr, hml, hown, hts, hlocks, hKK, hA1, hA2⟩ := id C
  unfold fbX3_countOf_33 at h
  refine lv_iinc (v := (a3 + (1 : Int32))) (lv' := [(3, .int (a3 + (1 : Int32))), (0, .ref (ad E g 0)), (1, .int a1), (2, .int a2)]) hx hb dX3_countOf_33 hl (k := 3) rfl (congrArg (HAdd.hAdd _) (by decide)) (by decide) rfl (fun ls hl => ?_)
  refine lv_goto (tgt := 4) hx hb dX3_countOf_36 (by decide) ?_
  exact hk4 _ _ _ _ _ _ h w (lv_sub hl [1, 2, 3, 0] rfl)
noncomputable def fsX3_countOf_4 (F : Nat)  (M : M2) (J : J2) (k4 : Int32 → Int32 → Int32 → Option Int32) : Int32 → Int32 → Int32 → Option Int32 := fun a1 a2 a3 => (if (5 : Int32) ≤ a3 then (some a2) else ((fX3_numbered M J a3).bind (fun vv3 => oc vv3 (fbX3_countOf_33 F k4 M J a1 a2 a3) (fun z4 => chk (isC z4) ((if ¬ (M z4 1) = a1 then (fbX3_countOf_33 F k4 M J a1 a2 a3) else (fbX3_countOf_33 F k4 M J a1 (a2 + (1 : Int32)) a3)))))))
noncomputable def fbX3_countOf_4 (F : Nat)  (M : M2) (J : J2) (n : Nat) : Int32 → Int32 → Int32 → Option Int32 := itr (fsX3_countOf_4 F M J) (fun _ _ _ => none) n
set_option maxRecDepth 20000 in
set_option maxHeartbeats 1000000 in
theorem SX3_countOf_4 {rr : Int32}   {k4 : Int32 → Int32 → Int32 → Option Int32} (C : Cx E A p s m args meth c wdX3_countOf cX3_countOf 5 (some .int) RX3) (hg : g < 6)  (hk4 : ∀ (a1 : Int32) (a2 : Int32) (a3 : Int32)   (ls : Array Slot) (H : Heap) (locs : List Loc), k4 a1 a2 a3 = some rr → Wd E A s (sg G g M) (sg K g J) H locs → lv_has ls 5 [(0, .ref (ad E g 0)), (1, .int a1), (2, .int a2), (3, .int a3)] → W p l e rmX3_countOf s m args below meth c H locs 0 0 (QI E A below args s rr (sg G g M) (sg K g J)) (F0 m 4 ls [])) (a1 : Int32) (a2 : Int32) (a3 : Int32)   (h : fsX3_countOf_4 F M J k4 a1 a2 a3 = some rr) (w : Wd E A s (sg G g M) (sg K g J) H locs) (hl : lv_has ls 5 [(0, .ref (ad E g 0)), (1, .int a1), (2, .int a2), (3, .int a3)]) : W p l e rmX3_countOf s m args below meth c H locs 0 0 (QI E A below args s rr (sg G g M) (sg K g J)) (F0 m 4 ls []) := by
  obtain ⟨hx, hb, hr, hml, hown, hts, hlocks, hKK, hA1, hA2⟩ := id C
  unfold fsX3_countOf_4 at h
  refine lv_iload_n hx hb dX3_countOf_4 rfl (lv_at hl 3 rfl) ?_
  refine lv_iconst (v := (5 : Int32)) hx hb dX3_countOf_5 (by decide) ?_
  refine lv_icmp_ge (tgt := 39) hx hb dX3_countOf_6 (by decide) (fun c1 => ?_) (fun c1 => ?_)
  · replace h := ite_t h c1
    refine lv_iload_n hx hb dX3_countOf_39 rfl (lv_at hl 2 rfl) ?_
    have e1 := Option.some.inj h
    exact x_ri C w e1 rfl rfl dX3_countOf_40
  · replace h := ite_f h c1
    refine lv_aload_n hx hb dX3_countOf_9 rfl (lv_at hl 0 rfl) ?_
    refine lv_iload_n hx hb dX3_countOf_10 rfl (lv_at hl 3 rfl) ?_
    obtain ⟨vv3, hv2, h⟩ := bind_of h
    refine x_cVq (As := [.int a3]) (rest := []) C w (vS hg (by decide)) (cel_S hg) rfl (mtX3_numbered hg hv2) q5_2 q5_3 q5_4 q1_12 q5_5 ydX3_numbered ⟨rfl, rfl⟩ ⟨by decide, by decide⟩ ⟨Nat.zero_le _, Nat.zero_le _⟩ hl.1 (Nat.le_of_ble_eq_true rfl) rfl dX3_countOf_11 (fun H locs w => ?_)
    cases vv3 with
    | none =>
      replace h := oc_n h
      refine lv_astoreN (lv' := [(4, .null), (0, .ref (ad E g 0)), (1, .int a1), (2, .int a2), (3, .int a3)]) hx hb dX3_countOf_14 hl (by decide) rfl (fun ls hl => ?_)
      refine lv_aloadN hx hb dX3_countOf_16 (lv_at hl 0 rfl) ?_
      refine lv_ifnullN (tgt := 33) hx hb dX3_countOf_18 (by decide) ?_
      exact TX3_countOf_33 C hg hk4 _ _ _ h w (lv_sub hl [1, 2, 3, 4] rfl)
    | some z4 =>
      replace h := oc_s h
      obtain ⟨hz4, h⟩ := chk_of h
      refine lv_astore (lv' := [(4, .ref (ad E g z4)), (0, .ref (ad E g 0)), (1, .int a1), (2, .int a2), (3, .int a3)]) hx hb dX3_countOf_14 hl (by decide) rfl (fun ls hl => ?_)
      refine lv_aload hx hb dX3_countOf_16 (lv_at hl 0 rfl) ?_
      refine lv_ifnull hx hb dX3_countOf_18 ?_
      refine lv_aload hx hb dX3_countOf_21 (lv_at hl 0 rfl) ?_
      refine gL_X0_mode hg hz4 C w q5_1 dX3_countOf_23 ?_
      refine lv_iload_n hx hb dX3_countOf_26 rfl (lv_at hl 2 rfl) ?_
      refine lv_icmp_ne (tgt := 33) hx hb dX3_countOf_27 (by decide) (fun c5 => ?_) (fun c5 => ?_)
      · replace h := ite_t h c5
        exact TX3_countOf_33 C hg hk4 _ _ _ h w (lv_sub hl [1, 2, 3, 4] rfl)
      · replace h := ite_f h (fun z => z c5)
        refine lv_iinc (v := (a2 + (1 : Int32))) (lv' := [(2, .int (a2 + (1 : Int32))), (4, .ref (ad E g z4)), (0, .ref (ad E g 0)), (1, .int a1), (3, .int a3)]) hx hb dX3_countOf_30 hl (k := 3) rfl (congrArg (HAdd.hAdd _) (by decide)) (by decide) rfl (fun ls hl => ?_)
        exact TX3_countOf_33 C hg hk4 _ _ _ h w (lv_sub hl [2, 3, 0, 4] rfl)
theorem TX3_countOf_4 {rr : Int32}   (C : Cx E A p s m args meth c wdX3_countOf cX3_countOf 5 (some .int) RX3) (hg : g < 6)  : ∀ (n : Nat) (a1 : Int32) (a2 : Int32) (a3 : Int32)   (ls : Array Slot) (H : Heap) (locs : List Loc), fbX3_countOf_4 F M J n a1 a2 a3 = some rr → Wd E A s (sg G g M) (sg K g J) H locs → lv_has ls 5 [(0, .ref (ad E g 0)), (1, .int a1), (2, .int a2), (3, .int a3)] → W p l e rmX3_countOf s m args below meth c H locs 0 0 (QI E A below args s rr (sg G g M) (sg K g J)) (F0 m 4 ls []) := by
  intro n
  induction n with
  | zero => intro a1 a2 a3  ls H locs h; exact absurd (show none = _ from h) (fun z => nomatch z)
  | succ n ih => intro a1 a2 a3  ls H locs h w hl; exact SX3_countOf_4 (F := F) C hg  ih a1 a2 a3  h w hl
noncomputable def fX3_countOf (F : Nat) (M : M2) (J : J2) (x1 : Int32)  : Option Int32 := fbX3_countOf_4 F M J F x1 (0 : Int32) (0 : Int32)
set_option maxRecDepth 20000 in
set_option maxHeartbeats 1000000 in
theorem TX3_countOf {rr : Int32}  (C : Cx E A p s m args meth c wdX3_countOf cX3_countOf 5 (some .int) RX3) (hg : g < 6) {x1 : Int32}  (h : fX3_countOf F M J x1 = some rr) (w : Wd E A s (sg G g M) (sg K g J) H locs) (hl : lv_has ls 5 [(0, .ref (ad E g 0)), (1, .int x1)]) : W p l e rmX3_countOf s m args below meth c H locs 0 0 (QI E A below args s rr (sg G g M) (sg K g J)) (F0 m 0 ls []) := by
  obtain ⟨hx, hb, hr, hml, hown, hts, hlocks, hKK, hA1, hA2⟩ := id C
  unfold fX3_countOf at h
  refine lv_iconst (v := (0 : Int32)) hx hb dX3_countOf_0 (by decide) ?_
  refine lv_istore_n (lv' := [(2, .int (0 : Int32)), (0, .ref (ad E g 0)), (1, .int x1)]) hx hb dX3_countOf_1 rfl hl (by decide) rfl (fun ls hl => ?_)
  refine lv_iconst (v := (0 : Int32)) hx hb dX3_countOf_2 (by decide) ?_
  refine lv_istore_n (lv' := [(3, .int (0 : Int32)), (2, .int (0 : Int32)), (0, .ref (ad E g 0)), (1, .int x1)]) hx hb dX3_countOf_3 rfl hl (by decide) rfl (fun ls hl => ?_)
  exact TX3_countOf_4 C hg  _ _ _ _ _ _ _ h w (lv_sub hl [2, 3, 1, 0] rfl)
theorem mtX3_countOf {rr : Int32}  (hg : g < 6) {x1 : Int32}  (h : fX3_countOf F M J x1 = some rr) : MtI l yX3_countOf wdX3_countOf rmX3_countOf E [.ref (ad E g 0), .int x1] (sg G g M) (sg K g J) rr (sg G g M) (sg K g J) := by
  intro sz
  refine Met.ofW (cc := cX3_countOf) (maxL := 5) (ret := (some .int)) (by decide) rfl ?_
  intro p e s m args below meth c s₁ B hml hv
  obtain ⟨rfl, C, w⟩ := Cx.of (own := RX3) B rfl hml hv
  have hl := lv_entry ([.ref (ad E g 0), .int x1]) (n := 5) (by first | exact Nat.le_of_ble_eq_true rfl)
  rw [lg_entry_eq]
  generalize (lg_sl ([.ref (ad E g 0), .int x1]) ++ List.replicate (5 - (lg_sl ([.ref (ad E g 0), .int x1])).length) Slot.unset).toArray = ls at hl ⊢
  exact TX3_countOf C hg  h w hl
theorem ydX3_countOf : yX3_countOf.cls = RX3 ∧ yX3_countOf.cls ≠ "java/lang/invoke/MethodHandle" ∧ yX3_countOf.cls ≠ "java/lang/invoke/VarHandle" ∧ (parseMethodDescriptor yX3_countOf.desc).map (fun d => d.parameters.length) = some 1 := by decide +kernel
/-! X3.capacityOf(I)I -/
abbrev rmX3_capacityOf : Room := { frames := 2, cells := 0, slots := 0, locals := 33 }
abbrev wdX3_capacityOf : Cond := Cond.code yX3_capacityOf cX3_capacityOf 5 (some .int)
noncomputable def fbX3_capacityOf_38 (F : Nat) (k4 : Int32 → Int32 → Int32 → Option Int32) (M : M2) (J : J2) (a1 : Int32) (a2 : Int32) (a3 : Int32)  : Option Int32 := k4 a1 a2 (a3 + (1 : Int32))
set_option maxRecDepth 20000 in
set_option maxHeartbeats 1000000 in
theorem TX3_capacityOf_38 {rr : Int32}  {k4 : Int32 → Int32 → Int32 → Option Int32} (C : Cx E A p s m args meth c wdX3_capacityOf cX3_capacityOf 5 (some .int) RX3) (hg : g < 6) (hk4 : ∀ (a1 : Int32) (a2 : Int32) (a3 : Int32)   (ls : Array Slot) (H : Heap) (locs : List Loc), k4 a1 a2 a3 = some rr → Wd E A s (sg G g M) (sg K g J) H locs → lv_has ls 5 [(0, .ref (ad E g 0)), (1, .int a1), (2, .int a2), (3, .int a3)] → W p l e rmX3_capacityOf s m args below meth c H locs 0 0 (QI E A below args s rr (sg G g M) (sg K g J)) (F0 m 4 ls [])) (a1 : Int32) (a2 : Int32) (a3 : Int32)   (h : fbX3_capacityOf_38 F k4 M J a1 a2 a3 = some rr) (w : Wd E A s (sg G g M) (sg K g J) H locs) (hl : lv_has ls 5 [(0, .ref (ad E g 0)), (1, .int a1), (2, .int a2), (3, .int a3)]) : W p l e rmX3_capacityOf s m args below meth c H locs 0 0 (QI E A below args s rr (sg G g M) (sg K g J)) (F0 m 38 ls []) := by
  obtain ⟨hx, hb, hr, hml, hown, hts, hlocks, hKK, hA1, hA2⟩ := id C
  unfold fbX3_capacityOf_38 at h
  refine lv_iinc (v := (a3 + (1 : Int32))) (lv' := [(3, .int (a3 + (1 : Int32))), (0, .ref (ad E g 0)), (1, .int a1), (2, .int a2)]) hx hb dX3_capacityOf_38 hl (k := 3) rfl (congrArg (HAdd.hAdd _) (by decide)) (by decide) rfl (fun ls hl => ?_)
  refine lv_goto (tgt := 4) hx hb dX3_capacityOf_41 (by decide) ?_
  exact hk4 _ _ _ _ _ _ h w (lv_sub hl [1, 2, 3, 0] rfl)
noncomputable def fsX3_capacityOf_4 (F : Nat)  (M : M2) (J : J2) (k4 : Int32 → Int32 → Int32 → Option Int32) : Int32 → Int32 → Int32 → Option Int32 := fun a1 a2 a3 => (if (5 : Int32) ≤ a3 then (some a2) else ((fX3_numbered M J a3).bind (fun vv3 => oc vv3 (fbX3_capacityOf_38 F k4 M J a1 a2 a3) (fun z4 => chk (isC z4) ((if ¬ (M z4 1) = a1 then (fbX3_capacityOf_38 F k4 M J a1 a2 a3) else (fbX3_capacityOf_38 F k4 M J a1 (a2 + (M z4 0)) a3)))))))
noncomputable def fbX3_capacityOf_4 (F : Nat)  (M : M2) (J : J2) (n : Nat) : Int32 → Int32 → Int32 → Option Int32 := itr (fsX3_capacityOf_4 F M J) (fun _ _ _ => none) n
set_option maxRecDepth 20000 in
set_option maxHeartbeats 1000000 in
theorem SX3_capacityOf_4 {rr : Int32}   {k4 : Int32 → Int32 → Int32 → Option Int32} (C : Cx E A p s m args meth c wdX3_capacityOf cX3_capacityOf 5 (some .int) RX3) (hg : g < 6)  (hk4 : ∀ (a1 : Int32) (a2 : Int32) (a3 : Int32)   (ls : Array Slot) (H : Heap) (locs : List Loc), k4 a1 a2 a3 = some rr → Wd E A s (sg G g M) (sg K g J) H locs → lv_has ls 5 [(0, .ref (ad E g 0)), (1, .int a1), (2, .int a2), (3, .int a3)] → W p l e rmX3_capacityOf s m args below meth c H locs 0 0 (QI E A below args s rr (sg G g M) (sg K g J)) (F0 m 4 ls [])) (a1 : Int32) (a2 : Int32) (a3 : Int32)   (h : fsX3_capacityOf_4 F M J k4 a1 a2 a3 = some rr) (w : Wd E A s (sg G g M) (sg K g J) H locs) (hl : lv_has ls 5 [(0, .ref (ad E g 0)), (1, .int a1), (2, .int a2), (3, .int a3)]) : W p l e rmX3_capacityOf s m args below meth c H locs 0 0 (QI E A below args s rr (sg G g M) (sg K g J)) (F0 m 4 ls []) := by
  obtain ⟨hx, hb, hr, hml, hown, hts, hlocks, hKK, hA1, hA2⟩ := id C
  unfold fsX3_capacityOf_4 at h
  refine lv_iload_n hx hb dX3_capacityOf_4 rfl (lv_at hl 3 rfl) ?_
  refine lv_iconst (v := (5 : Int32)) hx hb dX3_capacityOf_5 (by decide) ?_
  refine lv_icmp_ge (tgt := 44) hx hb dX3_capacityOf_6 (by decide) (fun c1 => ?_) (fun c1 => ?_)
  · replace h := ite_t h c1
    refine lv_iload_n hx hb dX3_capacityOf_44 rfl (lv_at hl 2 rfl) ?_
    have e1 := Option.some.inj h
    exact x_ri C w e1 rfl rfl dX3_capacityOf_45
  · replace h := ite_f h c1
    refine lv_aload_n hx hb dX3_capacityOf_9 rfl (lv_at hl 0 rfl) ?_
    refine lv_iload_n hx hb dX3_capacityOf_10 rfl (lv_at hl 3 rfl) ?_
    obtain ⟨vv3, hv2, h⟩ := bind_of h
    refine x_cVq (As := [.int a3]) (rest := []) C w (vS hg (by decide)) (cel_S hg) rfl (mtX3_numbered hg hv2) q5_2 q5_3 q5_4 q1_12 q5_5 ydX3_numbered ⟨rfl, rfl⟩ ⟨by decide, by decide⟩ ⟨Nat.zero_le _, Nat.zero_le _⟩ hl.1 (Nat.le_of_ble_eq_true rfl) rfl dX3_capacityOf_11 (fun H locs w => ?_)
    cases vv3 with
    | none =>
      replace h := oc_n h
      refine lv_astoreN (lv' := [(4, .null), (0, .ref (ad E g 0)), (1, .int a1), (2, .int a2), (3, .int a3)]) hx hb dX3_capacityOf_14 hl (by decide) rfl (fun ls hl => ?_)
      refine lv_aloadN hx hb dX3_capacityOf_16 (lv_at hl 0 rfl) ?_
      refine lv_ifnullN (tgt := 38) hx hb dX3_capacityOf_18 (by decide) ?_
      exact TX3_capacityOf_38 C hg hk4 _ _ _ h w (lv_sub hl [1, 2, 3, 4] rfl)
    | some z4 =>
      replace h := oc_s h
      obtain ⟨hz4, h⟩ := chk_of h
      refine lv_astore (lv' := [(4, .ref (ad E g z4)), (0, .ref (ad E g 0)), (1, .int a1), (2, .int a2), (3, .int a3)]) hx hb dX3_capacityOf_14 hl (by decide) rfl (fun ls hl => ?_)
      refine lv_aload hx hb dX3_capacityOf_16 (lv_at hl 0 rfl) ?_
      refine lv_ifnull hx hb dX3_capacityOf_18 ?_
      refine lv_aload hx hb dX3_capacityOf_21 (lv_at hl 0 rfl) ?_
      refine gL_X0_mode hg hz4 C w q5_1 dX3_capacityOf_23 ?_
      refine lv_iload_n hx hb dX3_capacityOf_26 rfl (lv_at hl 2 rfl) ?_
      refine lv_icmp_ne (tgt := 38) hx hb dX3_capacityOf_27 (by decide) (fun c5 => ?_) (fun c5 => ?_)
      · replace h := ite_t h c5
        exact TX3_capacityOf_38 C hg hk4 _ _ _ h w (lv_sub hl [1, 2, 3, 4] rfl)
      · replace h := ite_f h (fun z => z c5)
        refine lv_iload_n hx hb dX3_capacityOf_30 rfl (lv_at hl 3 rfl) ?_
        refine lv_aload hx hb dX3_capacityOf_31 (lv_at hl 0 rfl) ?_
        refine gL_X0_capacity hg hz4 C w q5_10 dX3_capacityOf_33 ?_
        refine lv_iadd hx hb dX3_capacityOf_36 ?_
        refine lv_istore_n (lv' := [(2, .int (a2 + (M z4 0))), (4, .ref (ad E g z4)), (0, .ref (ad E g 0)), (1, .int a1), (3, .int a3)]) hx hb dX3_capacityOf_37 rfl hl (by decide) rfl (fun ls hl => ?_)
        exact TX3_capacityOf_38 C hg hk4 _ _ _ h w (lv_sub hl [2, 3, 0, 4] rfl)
theorem TX3_capacityOf_4 {rr : Int32}   (C : Cx E A p s m args meth c wdX3_capacityOf cX3_capacityOf 5 (some .int) RX3) (hg : g < 6)  : ∀ (n : Nat) (a1 : Int32) (a2 : Int32) (a3 : Int32)   (ls : Array Slot) (H : Heap) (locs : List Loc), fbX3_capacityOf_4 F M J n a1 a2 a3 = some rr → Wd E A s (sg G g M) (sg K g J) H locs → lv_has ls 5 [(0, .ref (ad E g 0)), (1, .int a1), (2, .int a2), (3, .int a3)] → W p l e rmX3_capacityOf s m args below meth c H locs 0 0 (QI E A below args s rr (sg G g M) (sg K g J)) (F0 m 4 ls []) := by
  intro n
  induction n with
  | zero => intro a1 a2 a3  ls H locs h; exact absurd (show none = _ from h) (fun z => nomatch z)
  | succ n ih => intro a1 a2 a3  ls H locs h w hl; exact SX3_capacityOf_4 (F := F) C hg  ih a1 a2 a3  h w hl
noncomputable def fX3_capacityOf (F : Nat) (M : M2) (J : J2) (x1 : Int32)  : Option Int32 := fbX3_capacityOf_4 F M J F x1 (0 : Int32) (0 : Int32)
set_option maxRecDepth 20000 in
set_option maxHeartbeats 1000000 in
theorem TX3_capacityOf {rr : Int32}  (C : Cx E A p s m args meth c wdX3_capacityOf cX3_capacityOf 5 (some .int) RX3) (hg : g < 6) {x1 : Int32}  (h : fX3_capacityOf F M J x1 = some rr) (w : Wd E A s (sg G g M) (sg K g J) H locs) (hl : lv_has ls 5 [(0, .ref (ad E g 0)), (1, .int x1)]) : W p l e rmX3_capacityOf s m args below meth c H locs 0 0 (QI E A below args s rr (sg G g M) (sg K g J)) (F0 m 0 ls []) := by
  obtain ⟨hx, hb, hr, hml, hown, hts, hlocks, hKK, hA1, hA2⟩ := id C
  unfold fX3_capacityOf at h
  refine lv_iconst (v := (0 : Int32)) hx hb dX3_capacityOf_0 (by decide) ?_
  refine lv_istore_n (lv' := [(2, .int (0 : Int32)), (0, .ref (ad E g 0)), (1, .int x1)]) hx hb dX3_capacityOf_1 rfl hl (by decide) rfl (fun ls hl => ?_)
  refine lv_iconst (v := (0 : Int32)) hx hb dX3_capacityOf_2 (by decide) ?_
  refine lv_istore_n (lv' := [(3, .int (0 : Int32)), (2, .int (0 : Int32)), (0, .ref (ad E g 0)), (1, .int x1)]) hx hb dX3_capacityOf_3 rfl hl (by decide) rfl (fun ls hl => ?_)
  exact TX3_capacityOf_4 C hg  _ _ _ _ _ _ _ h w (lv_sub hl [2, 3, 1, 0] rfl)
theorem mtX3_capacityOf {rr : Int32}  (hg : g < 6) {x1 : Int32}  (h : fX3_capacityOf F M J x1 = some rr) : MtI l yX3_capacityOf wdX3_capacityOf rmX3_capacityOf E [.ref (ad E g 0), .int x1] (sg G g M) (sg K g J) rr (sg G g M) (sg K g J) := by
  intro sz
  refine Met.ofW (cc := cX3_capacityOf) (maxL := 5) (ret := (some .int)) (by decide) rfl ?_
  intro p e s m args below meth c s₁ B hml hv
  obtain ⟨rfl, C, w⟩ := Cx.of (own := RX3) B rfl hml hv
  have hl := lv_entry ([.ref (ad E g 0), .int x1]) (n := 5) (by first | exact Nat.le_of_ble_eq_true rfl)
  rw [lg_entry_eq]
  generalize (lg_sl ([.ref (ad E g 0), .int x1]) ++ List.replicate (5 - (lg_sl ([.ref (ad E g 0), .int x1])).length) Slot.unset).toArray = ls at hl ⊢
  exact TX3_capacityOf C hg  h w hl
theorem ydX3_capacityOf : yX3_capacityOf.cls = RX3 ∧ yX3_capacityOf.cls ≠ "java/lang/invoke/MethodHandle" ∧ yX3_capacityOf.cls ≠ "java/lang/invoke/VarHandle" ∧ (parseMethodDescriptor yX3_capacityOf.desc).map (fun d => d.parameters.length) = some 1 := by decide +kernel
/-! X3.numberAtStage(I)I -/
abbrev rmX3_numberAtStage : Room := { frames := 2, cells := 0, slots := 0, locals := 33 }
abbrev wdX3_numberAtStage : Cond := Cond.code yX3_numberAtStage cX3_numberAtStage 4 (some .int)
noncomputable def fbX3_numberAtStage_27 (F : Nat) (k2 : Int32 → Int32 → Option Int32) (M : M2) (J : J2) (a1 : Int32) (a2 : Int32)  : Option Int32 := k2 a1 (a2 + (1 : Int32))
set_option maxRecDepth 20000 in
set_option maxHeartbeats 1000000 in
theorem TX3_numberAtStage_27 {rr : Int32}  {k2 : Int32 → Int32 → Option Int32} (C : Cx E A p s m args meth c wdX3_numberAtStage cX3_numberAtStage 4 (some .int) RX3) (hg : g < 6) (hk2 : ∀ (a1 : Int32) (a2 : Int32)   (ls : Array Slot) (H : Heap) (locs : List Loc), k2 a1 a2 = some rr → Wd E A s (sg G g M) (sg K g J) H locs → lv_has ls 4 [(0, .ref (ad E g 0)), (1, .int a1), (2, .int a2)] → W p l e rmX3_numberAtStage s m args below meth c H locs 0 0 (QI E A below args s rr (sg G g M) (sg K g J)) (F0 m 2 ls [])) (a1 : Int32) (a2 : Int32)   (h : fbX3_numberAtStage_27 F k2 M J a1 a2 = some rr) (w : Wd E A s (sg G g M) (sg K g J) H locs) (hl : lv_has ls 4 [(0, .ref (ad E g 0)), (1, .int a1), (2, .int a2)]) : W p l e rmX3_numberAtStage s m args below meth c H locs 0 0 (QI E A below args s rr (sg G g M) (sg K g J)) (F0 m 27 ls []) := by
  obtain ⟨hx, hb, hr, hml, hown, hts, hlocks, hKK, hA1, hA2⟩ := id C
  unfold fbX3_numberAtStage_27 at h
  refine lv_iinc (v := (a2 + (1 : Int32))) (lv' := [(2, .int (a2 + (1 : Int32))), (0, .ref (ad E g 0)), (1, .int a1)]) hx hb dX3_numberAtStage_27 hl (k := 2) rfl (congrArg (HAdd.hAdd _) (by decide)) (by decide) rfl (fun ls hl => ?_)
  refine lv_goto (tgt := 2) hx hb dX3_numberAtStage_30 (by decide) ?_
  exact hk2 _ _ _ _ _ h w (lv_sub hl [1, 2, 0] rfl)
noncomputable def fsX3_numberAtStage_2 (F : Nat)  (M : M2) (J : J2) (k2 : Int32 → Int32 → Option Int32) : Int32 → Int32 → Option Int32 := fun a1 a2 => (if (5 : Int32) ≤ a2 then (some (-1 : Int32)) else ((fX3_numbered M J a2).bind (fun vv3 => oc vv3 (fbX3_numberAtStage_27 F k2 M J a1 a2) (fun z4 => chk (isC z4) ((if ¬ (M z4 2) = a1 then (fbX3_numberAtStage_27 F k2 M J a1 a2) else (some a2)))))))
noncomputable def fbX3_numberAtStage_2 (F : Nat)  (M : M2) (J : J2) (n : Nat) : Int32 → Int32 → Option Int32 := itr (fsX3_numberAtStage_2 F M J) (fun _ _ => none) n
set_option maxRecDepth 20000 in
set_option maxHeartbeats 1000000 in
theorem SX3_numberAtStage_2 {rr : Int32}   {k2 : Int32 → Int32 → Option Int32} (C : Cx E A p s m args meth c wdX3_numberAtStage cX3_numberAtStage 4 (some .int) RX3) (hg : g < 6)  (hk2 : ∀ (a1 : Int32) (a2 : Int32)   (ls : Array Slot) (H : Heap) (locs : List Loc), k2 a1 a2 = some rr → Wd E A s (sg G g M) (sg K g J) H locs → lv_has ls 4 [(0, .ref (ad E g 0)), (1, .int a1), (2, .int a2)] → W p l e rmX3_numberAtStage s m args below meth c H locs 0 0 (QI E A below args s rr (sg G g M) (sg K g J)) (F0 m 2 ls [])) (a1 : Int32) (a2 : Int32)   (h : fsX3_numberAtStage_2 F M J k2 a1 a2 = some rr) (w : Wd E A s (sg G g M) (sg K g J) H locs) (hl : lv_has ls 4 [(0, .ref (ad E g 0)), (1, .int a1), (2, .int a2)]) : W p l e rmX3_numberAtStage s m args below meth c H locs 0 0 (QI E A below args s rr (sg G g M) (sg K g J)) (F0 m 2 ls []) := by
  obtain ⟨hx, hb, hr, hml, hown, hts, hlocks, hKK, hA1, hA2⟩ := id C
  unfold fsX3_numberAtStage_2 at h
  refine lv_iload_n hx hb dX3_numberAtStage_2 rfl (lv_at hl 2 rfl) ?_
  refine lv_iconst (v := (5 : Int32)) hx hb dX3_numberAtStage_3 (by decide) ?_
  refine lv_icmp_ge (tgt := 33) hx hb dX3_numberAtStage_4 (by decide) (fun c1 => ?_) (fun c1 => ?_)
  · replace h := ite_t h c1
    refine lv_iconst (v := (-1 : Int32)) hx hb dX3_numberAtStage_33 (by decide) ?_
    have e1 := Option.some.inj h
    exact x_ri C w e1 rfl rfl dX3_numberAtStage_34
  · replace h := ite_f h c1
    refine lv_aload_n hx hb dX3_numberAtStage_7 rfl (lv_at hl 0 rfl) ?_
    refine lv_iload_n hx hb dX3_numberAtStage_8 rfl (lv_at hl 2 rfl) ?_
    obtain ⟨vv3, hv2, h⟩ := bind_of h
    refine x_cVq (As := [.int a2]) (rest := []) C w (vS hg (by decide)) (cel_S hg) rfl (mtX3_numbered hg hv2) q5_2 q5_3 q5_4 q1_12 q5_5 ydX3_numbered ⟨rfl, rfl⟩ ⟨by decide, by decide⟩ ⟨Nat.zero_le _, Nat.zero_le _⟩ hl.1 (Nat.le_of_ble_eq_true rfl) rfl dX3_numberAtStage_9 (fun H locs w => ?_)
    cases vv3 with
    | none =>
      replace h := oc_n h
      refine lv_astore_nN (lv' := [(3, .null), (0, .ref (ad E g 0)), (1, .int a1), (2, .int a2)]) hx hb dX3_numberAtStage_12 rfl hl (by decide) rfl (fun ls hl => ?_)
      refine lv_aload_nN hx hb dX3_numberAtStage_13 rfl (lv_at hl 0 rfl) ?_
      refine lv_ifnullN (tgt := 27) hx hb dX3_numberAtStage_14 (by decide) ?_
      exact TX3_numberAtStage_27 C hg hk2 _ _ h w (lv_sub hl [1, 2, 3] rfl)
    | some z4 =>
      replace h := oc_s h
      obtain ⟨hz4, h⟩ := chk_of h
      refine lv_astore_n (lv' := [(3, .ref (ad E g z4)), (0, .ref (ad E g 0)), (1, .int a1), (2, .int a2)]) hx hb dX3_numberAtStage_12 rfl hl (by decide) rfl (fun ls hl => ?_)
      refine lv_aload_n hx hb dX3_numberAtStage_13 rfl (lv_at hl 0 rfl) ?_
      refine lv_ifnull hx hb dX3_numberAtStage_14 ?_
      refine lv_aload_n hx hb dX3_numberAtStage_17 rfl (lv_at hl 0 rfl) ?_
      refine gL_X0_stage hg hz4 C w q6_12 dX3_numberAtStage_18 ?_
      refine lv_iload_n hx hb dX3_numberAtStage_21 rfl (lv_at hl 2 rfl) ?_
      refine lv_icmp_ne (tgt := 27) hx hb dX3_numberAtStage_22 (by decide) (fun c5 => ?_) (fun c5 => ?_)
      · replace h := ite_t h c5
        exact TX3_numberAtStage_27 C hg hk2 _ _ h w (lv_sub hl [1, 2, 3] rfl)
      · replace h := ite_f h (fun z => z c5)
        refine lv_iload_n hx hb dX3_numberAtStage_25 rfl (lv_at hl 3 rfl) ?_
        have e1 := Option.some.inj h
        exact x_ri C w e1 rfl rfl dX3_numberAtStage_26
theorem TX3_numberAtStage_2 {rr : Int32}   (C : Cx E A p s m args meth c wdX3_numberAtStage cX3_numberAtStage 4 (some .int) RX3) (hg : g < 6)  : ∀ (n : Nat) (a1 : Int32) (a2 : Int32)   (ls : Array Slot) (H : Heap) (locs : List Loc), fbX3_numberAtStage_2 F M J n a1 a2 = some rr → Wd E A s (sg G g M) (sg K g J) H locs → lv_has ls 4 [(0, .ref (ad E g 0)), (1, .int a1), (2, .int a2)] → W p l e rmX3_numberAtStage s m args below meth c H locs 0 0 (QI E A below args s rr (sg G g M) (sg K g J)) (F0 m 2 ls []) := by
  intro n
  induction n with
  | zero => intro a1 a2  ls H locs h; exact absurd (show none = _ from h) (fun z => nomatch z)
  | succ n ih => intro a1 a2  ls H locs h w hl; exact SX3_numberAtStage_2 (F := F) C hg  ih a1 a2  h w hl
noncomputable def fX3_numberAtStage (F : Nat) (M : M2) (J : J2) (x1 : Int32)  : Option Int32 := fbX3_numberAtStage_2 F M J F x1 (0 : Int32)
set_option maxRecDepth 20000 in
set_option maxHeartbeats 1000000 in
theorem TX3_numberAtStage {rr : Int32}  (C : Cx E A p s m args meth c wdX3_numberAtStage cX3_numberAtStage 4 (some .int) RX3) (hg : g < 6) {x1 : Int32}  (h : fX3_numberAtStage F M J x1 = some rr) (w : Wd E A s (sg G g M) (sg K g J) H locs) (hl : lv_has ls 4 [(0, .ref (ad E g 0)), (1, .int x1)]) : W p l e rmX3_numberAtStage s m args below meth c H locs 0 0 (QI E A below args s rr (sg G g M) (sg K g J)) (F0 m 0 ls []) := by
  obtain ⟨hx, hb, hr, hml, hown, hts, hlocks, hKK, hA1, hA2⟩ := id C
  unfold fX3_numberAtStage at h
  refine lv_iconst (v := (0 : Int32)) hx hb dX3_numberAtStage_0 (by decide) ?_
  refine lv_istore_n (lv' := [(2, .int (0 : Int32)), (0, .ref (ad E g 0)), (1, .int x1)]) hx hb dX3_numberAtStage_1 rfl hl (by decide) rfl (fun ls hl => ?_)
  exact TX3_numberAtStage_2 C hg  _ _ _ _ _ _ h w (lv_sub hl [1, 2, 0] rfl)
theorem mtX3_numberAtStage {rr : Int32}  (hg : g < 6) {x1 : Int32}  (h : fX3_numberAtStage F M J x1 = some rr) : MtI l yX3_numberAtStage wdX3_numberAtStage rmX3_numberAtStage E [.ref (ad E g 0), .int x1] (sg G g M) (sg K g J) rr (sg G g M) (sg K g J) := by
  intro sz
  refine Met.ofW (cc := cX3_numberAtStage) (maxL := 4) (ret := (some .int)) (by decide) rfl ?_
  intro p e s m args below meth c s₁ B hml hv
  obtain ⟨rfl, C, w⟩ := Cx.of (own := RX3) B rfl hml hv
  have hl := lv_entry ([.ref (ad E g 0), .int x1]) (n := 4) (by first | exact Nat.le_of_ble_eq_true rfl)
  rw [lg_entry_eq]
  generalize (lg_sl ([.ref (ad E g 0), .int x1]) ++ List.replicate (4 - (lg_sl ([.ref (ad E g 0), .int x1])).length) Slot.unset).toArray = ls at hl ⊢
  exact TX3_numberAtStage C hg  h w hl
theorem ydX3_numberAtStage : yX3_numberAtStage.cls = RX3 ∧ yX3_numberAtStage.cls ≠ "java/lang/invoke/MethodHandle" ∧ yX3_numberAtStage.cls ≠ "java/lang/invoke/VarHandle" ∧ (parseMethodDescriptor yX3_numberAtStage.desc).map (fun d => d.parameters.length) = some 1 := by decide +kernel
/-! X3.stageByMinutes(II)I -/
abbrev rmX3_stageByMinutes : Room := { frames := 2, cells := 0, slots := 0, locals := 33 }
abbrev wdX3_stageByMinutes : Cond := Cond.code yX3_stageByMinutes cX3_stageByMinutes 6 (some .int)
noncomputable def fbX3_stageByMinutes_51 (F : Nat) (k5 : Int32 → Int32 → Int32 → Int32 → Option Int32) (M : M2) (J : J2) (a1 : Int32) (a2 : Int32) (a3 : Int32) (a4 : Int32)  : Option Int32 := k5 a1 a2 a3 (a4 + (1 : Int32))
set_option maxRecDepth 20000 in
set_option maxHeartbeats 1000000 in
theorem TX3_stageByMinutes_51 {rr : Int32}  {k5 : Int32 → Int32 → Int32 → Int32 → Option Int32} (C : Cx E A p s m args meth c wdX3_stageByMinutes cX3_stageByMinutes 6 (some .int) RX3) (hg : g < 6) (hk5 : ∀ (a1 : Int32) (a2 : Int32) (a3 : Int32) (a4 : Int32)   (ls : Array Slot) (H : Heap) (locs : List Loc), k5 a1 a2 a3 a4 = some rr → Wd E A s (sg G g M) (sg K g J) H locs → lv_has ls 6 [(0, .ref (ad E g 0)), (1, .int a1), (2, .int a2), (3, .int a3), (4, .int a4)] → W p l e rmX3_stageByMinutes s m args below meth c H locs 0 0 (QI E A below args s rr (sg G g M) (sg K g J)) (F0 m 5 ls [])) (a1 : Int32) (a2 : Int32) (a3 : Int32) (a4 : Int32)   (h : fbX3_stageByMinutes_51 F k5 M J a1 a2 a3 a4 = some rr) (w : Wd E A s (sg G g M) (sg K g J) H locs) (hl : lv_has ls 6 [(0, .ref (ad E g 0)), (1, .int a1), (2, .int a2), (3, .int a3), (4, .int a4)]) : W p l e rmX3_stageByMinutes s m args below meth c H locs 0 0 (QI E A below args s rr (sg G g M) (sg K g J)) (F0 m 51 ls []) := by
  obtain ⟨hx, hb, hr, hml, hown, hts, hlocks, hKK, hA1, hA2⟩ := id C
  unfold fbX3_stageByMinutes_51 at h
  refine lv_iinc (v := (a4 + (1 : Int32))) (lv' := [(4, .int (a4 + (1 : Int32))), (0, .ref (ad E g 0)), (1, .int a1), (2, .int a2), (3, .int a3)]) hx hb dX3_stageByMinutes_51 hl (k := 4) rfl (congrArg (HAdd.hAdd _) (by decide)) (by decide) rfl (fun ls hl => ?_)
  refine lv_goto (tgt := 5) hx hb dX3_stageByMinutes_54 (by decide) ?_
  exact hk5 _ _ _ _ _ _ _ h w (lv_sub hl [1, 2, 3, 4, 0] rfl)
noncomputable def fbX3_stageByMinutes_48 (F : Nat) (k5 : Int32 → Int32 → Int32 → Int32 → Option Int32) (M : M2) (J : J2) (a1 : Int32) (a2 : Int32) (a3 : Int32) (a4 : Int32)  : Option Int32 := fbX3_stageByMinutes_51 F k5 M J a1 a2 (a3 + (1 : Int32)) a4
set_option maxRecDepth 20000 in
set_option maxHeartbeats 1000000 in
theorem TX3_stageByMinutes_48 {rr : Int32}  {k5 : Int32 → Int32 → Int32 → Int32 → Option Int32} (C : Cx E A p s m args meth c wdX3_stageByMinutes cX3_stageByMinutes 6 (some .int) RX3) (hg : g < 6) (hk5 : ∀ (a1 : Int32) (a2 : Int32) (a3 : Int32) (a4 : Int32)   (ls : Array Slot) (H : Heap) (locs : List Loc), k5 a1 a2 a3 a4 = some rr → Wd E A s (sg G g M) (sg K g J) H locs → lv_has ls 6 [(0, .ref (ad E g 0)), (1, .int a1), (2, .int a2), (3, .int a3), (4, .int a4)] → W p l e rmX3_stageByMinutes s m args below meth c H locs 0 0 (QI E A below args s rr (sg G g M) (sg K g J)) (F0 m 5 ls [])) (a1 : Int32) (a2 : Int32) (a3 : Int32) (a4 : Int32)   (h : fbX3_stageByMinutes_48 F k5 M J a1 a2 a3 a4 = some rr) (w : Wd E A s (sg G g M) (sg K g J) H locs) (hl : lv_has ls 6 [(0, .ref (ad E g 0)), (1, .int a1), (2, .int a2), (3, .int a3), (4, .int a4)]) : W p l e rmX3_stageByMinutes s m args below meth c H locs 0 0 (QI E A below args s rr (sg G g M) (sg K g J)) (F0 m 48 ls []) := by
  obtain ⟨hx, hb, hr, hml, hown, hts, hlocks, hKK, hA1, hA2⟩ := id C
  unfold fbX3_stageByMinutes_48 at h
  refine lv_iinc (v := (a3 + (1 : Int32))) (lv' := [(3, .int (a3 + (1 : Int32))), (0, .ref (ad E g 0)), (1, .int a1), (2, .int a2), (4, .int a4)]) hx hb dX3_stageByMinutes_48 hl (k := 3) rfl (congrArg (HAdd.hAdd _) (by decide)) (by decide) rfl (fun ls hl => ?_)
  exact TX3_stageByMinutes_51 C hg hk5 _ _ _ _ h w (lv_sub hl [1, 2, 3, 0, 4] rfl)
noncomputable def fsX3_stageByMinutes_5 (F : Nat)  (M : M2) (J : J2) (k5 : Int32 → Int32 → Int32 → Int32 → Option Int32) : Int32 → Int32 → Int32 → Int32 → Option Int32 := fun a1 a2 a3 a4 => (if (5 : Int32) ≤ a4 then (some a3) else ((fX3_numbered M J a4).bind (fun vv3 => oc vv3 (fbX3_stageByMinutes_51 F k5 M J a1 a2 a3 a4) (fun z4 => chk (isC z4) ((if (M z4 3) < a2 then (fbX3_stageByMinutes_48 F k5 M J a1 a2 a3 a4) else ((if ¬ (M z4 3) = a2 then (fbX3_stageByMinutes_51 F k5 M J a1 a2 a3 a4) else ((if a1 ≤ a4 then (fbX3_stageByMinutes_51 F k5 M J a1 a2 a3 a4) else (fbX3_stageByMinutes_48 F k5 M J a1 a2 a3 a4)))))))))))
noncomputable def fbX3_stageByMinutes_5 (F : Nat)  (M : M2) (J : J2) (n : Nat) : Int32 → Int32 → Int32 → Int32 → Option Int32 := itr (fsX3_stageByMinutes_5 F M J) (fun _ _ _ _ => none) n
set_option maxRecDepth 20000 in
set_option maxHeartbeats 1000000 in
theorem SX3_stageByMinutes_5 {rr : Int32}   {k5 : Int32 → Int32 → Int32 → Int32 → Option Int32} (C : Cx E A p s m args meth c wdX3_stageByMinutes cX3_stageByMinutes 6 (some .int) RX3) (hg : g < 6)  (hk5 : ∀ (a1 : Int32) (a2 : Int32) (a3 : Int32) (a4 : Int32)   (ls : Array Slot) (H : Heap) (locs : List Loc), k5 a1 a2 a3 a4 = some rr → Wd E A s (sg G g M) (sg K g J) H locs → lv_has ls 6 [(0, .ref (ad E g 0)), (1, .int a1), (2, .int a2), (3, .int a3), (4, .int a4)] → W p l e rmX3_stageByMinutes s m args below meth c H locs 0 0 (QI E A below args s rr (sg G g M) (sg K g J)) (F0 m 5 ls [])) (a1 : Int32) (a2 : Int32) (a3 : Int32) (a4 : Int32)   (h : fsX3_stageByMinutes_5 F M J k5 a1 a2 a3 a4 = some rr) (w : Wd E A s (sg G g M) (sg K g J) H locs) (hl : lv_has ls 6 [(0, .ref (ad E g 0)), (1, .int a1), (2, .int a2), (3, .int a3), (4, .int a4)]) : W p l e rmX3_stageByMinutes s m args below meth c H locs 0 0 (QI E A below args s rr (sg G g M) (sg K g J)) (F0 m 5 ls []) := by
  obtain ⟨hx, hb, hr, hml, hown, hts, hlocks, hKK, hA1, hA2⟩ := id C
  unfold fsX3_stageByMinutes_5 at h
  refine lv_iload hx hb dX3_stageByMinutes_5 (lv_at hl 4 rfl) ?_
  refine lv_iconst (v := (5 : Int32)) hx hb dX3_stageByMinutes_7 (by decide) ?_
  refine lv_icmp_ge (tgt := 57) hx hb dX3_stageByMinutes_8 (by decide) (fun c1 => ?_) (fun c1 => ?_)
  · replace h := ite_t h c1
    refine lv_iload_n hx hb dX3_stageByMinutes_57 rfl (lv_at hl 3 rfl) ?_
    have e1 := Option.some.inj h
    exact x_ri C w e1 rfl rfl dX3_stageByMinutes_58
  · replace h := ite_f h c1
    refine lv_aload_n hx hb dX3_stageByMinutes_11 rfl (lv_at hl 0 rfl) ?_
    refine lv_iload hx hb dX3_stageByMinutes_12 (lv_at hl 4 rfl) ?_
    obtain ⟨vv3, hv2, h⟩ := bind_of h
    refine x_cVq (As := [.int a4]) (rest := []) C w (vS hg (by decide)) (cel_S hg) rfl (mtX3_numbered hg hv2) q5_2 q5_3 q5_4 q1_12 q5_5 ydX3_numbered ⟨rfl, rfl⟩ ⟨by decide, by decide⟩ ⟨Nat.zero_le _, Nat.zero_le _⟩ hl.1 (Nat.le_of_ble_eq_true rfl) rfl dX3_stageByMinutes_14 (fun H locs w => ?_)
    cases vv3 with
    | none =>
      replace h := oc_n h
      refine lv_astoreN (lv' := [(5, .null), (0, .ref (ad E g 0)), (1, .int a1), (2, .int a2), (3, .int a3), (4, .int a4)]) hx hb dX3_stageByMinutes_17 hl (by decide) rfl (fun ls hl => ?_)
      refine lv_aloadN hx hb dX3_stageByMinutes_19 (lv_at hl 0 rfl) ?_
      refine lv_ifnullN (tgt := 51) hx hb dX3_stageByMinutes_21 (by decide) ?_
      exact TX3_stageByMinutes_51 C hg hk5 _ _ _ _ h w (lv_sub hl [1, 2, 3, 4, 5] rfl)
    | some z4 =>
      replace h := oc_s h
      obtain ⟨hz4, h⟩ := chk_of h
      refine lv_astore (lv' := [(5, .ref (ad E g z4)), (0, .ref (ad E g 0)), (1, .int a1), (2, .int a2), (3, .int a3), (4, .int a4)]) hx hb dX3_stageByMinutes_17 hl (by decide) rfl (fun ls hl => ?_)
      refine lv_aload hx hb dX3_stageByMinutes_19 (lv_at hl 0 rfl) ?_
      refine lv_ifnull hx hb dX3_stageByMinutes_21 ?_
      refine lv_aload hx hb dX3_stageByMinutes_24 (lv_at hl 0 rfl) ?_
      refine gL_X0_loadedMinutes hg hz4 C w q6_13 dX3_stageByMinutes_26 ?_
      refine lv_iload_n hx hb dX3_stageByMinutes_29 rfl (lv_at hl 3 rfl) ?_
      refine lv_icmp_lt (tgt := 48) hx hb dX3_stageByMinutes_30 (by decide) (fun c5 => ?_) (fun c5 => ?_)
      · replace h := ite_t h c5
        exact TX3_stageByMinutes_48 C hg hk5 _ _ _ _ h w (lv_sub hl [1, 2, 3, 4, 5] rfl)
      · replace h := ite_f h c5
        refine lv_aload hx hb dX3_stageByMinutes_33 (lv_at hl 0 rfl) ?_
        refine gL_X0_loadedMinutes hg hz4 C w q6_13 dX3_stageByMinutes_35 ?_
        refine lv_iload_n hx hb dX3_stageByMinutes_38 rfl (lv_at hl 3 rfl) ?_
        refine lv_icmp_ne (tgt := 51) hx hb dX3_stageByMinutes_39 (by decide) (fun c6 => ?_) (fun c6 => ?_)
        · replace h := ite_t h c6
          exact TX3_stageByMinutes_51 C hg hk5 _ _ _ _ h w (lv_sub hl [1, 2, 3, 4, 5] rfl)
        · replace h := ite_f h (fun z => z c6)
          refine lv_iload hx hb dX3_stageByMinutes_42 (lv_at hl 5 rfl) ?_
          refine lv_iload_n hx hb dX3_stageByMinutes_44 rfl (lv_at hl 2 rfl) ?_
          refine lv_icmp_ge (tgt := 51) hx hb dX3_stageByMinutes_45 (by decide) (fun c7 => ?_) (fun c7 => ?_)
          · replace h := ite_t h c7
            exact TX3_stageByMinutes_51 C hg hk5 _ _ _ _ h w (lv_sub hl [1, 2, 3, 4, 5] rfl)
          · replace h := ite_f h c7
            exact TX3_stageByMinutes_48 C hg hk5 _ _ _ _ h w (lv_sub hl [1, 2, 3, 4, 5] rfl)
theorem TX3_stageByMinutes_5 {rr : Int32}   (C : Cx E A p s m args meth c wdX3_stageByMinutes cX3_stageByMinutes 6 (some .int) RX3) (hg : g < 6)  : ∀ (n : Nat) (a1 : Int32) (a2 : Int32) (a3 : Int32) (a4 : Int32)   (ls : Array Slot) (H : Heap) (locs : List Loc), fbX3_stageByMinutes_5 F M J n a1 a2 a3 a4 = some rr → Wd E A s (sg G g M) (sg K g J) H locs → lv_has ls 6 [(0, .ref (ad E g 0)), (1, .int a1), (2, .int a2), (3, .int a3), (4, .int a4)] → W p l e rmX3_stageByMinutes s m args below meth c H locs 0 0 (QI E A below args s rr (sg G g M) (sg K g J)) (F0 m 5 ls []) := by
  intro n
  induction n with
  | zero => intro a1 a2 a3 a4  ls H locs h; exact absurd (show none = _ from h) (fun z => nomatch z)
  | succ n ih => intro a1 a2 a3 a4  ls H locs h w hl; exact SX3_stageByMinutes_5 (F := F) C hg  ih a1 a2 a3 a4  h w hl
noncomputable def fX3_stageByMinutes (F : Nat) (M : M2) (J : J2) (x1 : Int32) (x2 : Int32)  : Option Int32 := fbX3_stageByMinutes_5 F M J F x1 x2 (0 : Int32) (0 : Int32)
set_option maxRecDepth 20000 in
set_option maxHeartbeats 1000000 in
theorem TX3_stageByMinutes {rr : Int32}  (C : Cx E A p s m args meth c wdX3_stageByMinutes cX3_stageByMinutes 6 (some .int) RX3) (hg : g < 6) {x1 : Int32} {x2 : Int32}  (h : fX3_stageByMinutes F M J x1 x2 = some rr) (w : Wd E A s (sg G g M) (sg K g J) H locs) (hl : lv_has ls 6 [(0, .ref (ad E g 0)), (1, .int x1), (2, .int x2)]) : W p l e rmX3_stageByMinutes s m args below meth c H locs 0 0 (QI E A below args s rr (sg G g M) (sg K g J)) (F0 m 0 ls []) := by
  obtain ⟨hx, hb, hr, hml, hown, hts, hlocks, hKK, hA1, hA2⟩ := id C
  unfold fX3_stageByMinutes at h
  refine lv_iconst (v := (0 : Int32)) hx hb dX3_stageByMinutes_0 (by decide) ?_
  refine lv_istore_n (lv' := [(3, .int (0 : Int32)), (0, .ref (ad E g 0)), (1, .int x1), (2, .int x2)]) hx hb dX3_stageByMinutes_1 rfl hl (by decide) rfl (fun ls hl => ?_)
  refine lv_iconst (v := (0 : Int32)) hx hb dX3_stageByMinutes_2 (by decide) ?_
  refine lv_istore (lv' := [(4, .int (0 : Int32)), (3, .int (0 : Int32)), (0, .ref (ad E g 0)), (1, .int x1), (2, .int x2)]) hx hb dX3_stageByMinutes_3 hl (by decide) rfl (fun ls hl => ?_)
  exact TX3_stageByMinutes_5 C hg  _ _ _ _ _ _ _ _ h w (lv_sub hl [2, 3, 4, 1, 0] rfl)
theorem mtX3_stageByMinutes {rr : Int32}  (hg : g < 6) {x1 : Int32} {x2 : Int32}  (h : fX3_stageByMinutes F M J x1 x2 = some rr) : MtI l yX3_stageByMinutes wdX3_stageByMinutes rmX3_stageByMinutes E [.ref (ad E g 0), .int x1, .int x2] (sg G g M) (sg K g J) rr (sg G g M) (sg K g J) := by
  intro sz
  refine Met.ofW (cc := cX3_stageByMinutes) (maxL := 6) (ret := (some .int)) (by decide) rfl ?_
  intro p e s m args below meth c s₁ B hml hv
  obtain ⟨rfl, C, w⟩ := Cx.of (own := RX3) B rfl hml hv
  have hl := lv_entry ([.ref (ad E g 0), .int x1, .int x2]) (n := 6) (by first | exact Nat.le_of_ble_eq_true rfl)
  rw [lg_entry_eq]
  generalize (lg_sl ([.ref (ad E g 0), .int x1, .int x2]) ++ List.replicate (6 - (lg_sl ([.ref (ad E g 0), .int x1, .int x2])).length) Slot.unset).toArray = ls at hl ⊢
  exact TX3_stageByMinutes C hg  h w hl
theorem ydX3_stageByMinutes : yX3_stageByMinutes.cls = RX3 ∧ yX3_stageByMinutes.cls ≠ "java/lang/invoke/MethodHandle" ∧ yX3_stageByMinutes.cls ≠ "java/lang/invoke/VarHandle" ∧ (parseMethodDescriptor yX3_stageByMinutes.desc).map (fun d => d.parameters.length) = some 2 := by decide +kernel
/-! X3.reorder()I -/
abbrev rmX3_reorder : Room := { frames := 3, cells := 0, slots := 0, locals := 58 }
abbrev wdX3_reorder : Cond := Cond.code yX3_reorder cX3_reorder 5 (some .int)
noncomputable def fbX3_reorder_48 (F : Nat) (k4 : Int32 → Int32 → M2 → J2 → Option (Int32 × M2 × J2))  (a1 : Int32) (a2 : Int32) (M : M2) (J : J2) : Option (Int32 × M2 × J2) := k4 a1 (a2 + (1 : Int32)) M J
set_option maxRecDepth 20000 in
set_option maxHeartbeats 1000000 in
theorem TX3_reorder_48 {rr : Int32} {MR : M2} {JR : J2}  {k4 : Int32 → Int32 → M2 → J2 → Option (Int32 × M2 × J2)} (C : Cx E A p s m args meth c wdX3_reorder cX3_reorder 5 (some .int) RX3) (hg : g < 6) (hk4 : ∀ (a1 : Int32) (a2 : Int32) (M : M2) (J : J2)  (ls : Array Slot) (H : Heap) (locs : List Loc), k4 a1 a2 M J = some (rr, MR, JR) → Wd E A s (sg G g M) (sg K g J) H locs → lv_has ls 5 [(0, .ref (ad E g 0)), (1, .int a1), (2, .int a2)] → W p l e rmX3_reorder s m args below meth c H locs 0 0 (QI E A below args s rr (sg G g MR) (sg K g JR)) (F0 m 4 ls [])) (a1 : Int32) (a2 : Int32) (M : M2) (J : J2)  (h : fbX3_reorder_48 F k4 a1 a2 M J = some (rr, MR, JR)) (w : Wd E A s (sg G g M) (sg K g J) H locs) (hl : lv_has ls 5 [(0, .ref (ad E g 0)), (1, .int a1), (2, .int a2)]) : W p l e rmX3_reorder s m args below meth c H locs 0 0 (QI E A below args s rr (sg G g MR) (sg K g JR)) (F0 m 48 ls []) := by
  obtain ⟨hx, hb, hr, hml, hown, hts, hlocks, hKK, hA1, hA2⟩ := id C
  unfold fbX3_reorder_48 at h
  refine lv_iinc (v := (a2 + (1 : Int32))) (lv' := [(2, .int (a2 + (1 : Int32))), (0, .ref (ad E g 0)), (1, .int a1)]) hx hb dX3_reorder_48 hl (k := 2) rfl (congrArg (HAdd.hAdd _) (by decide)) (by decide) rfl (fun ls hl => ?_)
  refine lv_goto (tgt := 4) hx hb dX3_reorder_51 (by decide) ?_
  exact hk4 _ _ _ _ _ _ _ h w (lv_sub hl [1, 2, 0] rfl)
noncomputable def fbX3_reorder_42 (F : Nat) (k4 : Int32 → Int32 → M2 → J2 → Option (Int32 × M2 × J2))  (a1 : Int32) (a2 : Int32) (a3 : Nat) (a4 : Int32) (M : M2) (J : J2) : Option (Int32 × M2 × J2) := bnd (up2 M a3 2 a4) (fun M1 => fbX3_reorder_48 F k4 a1 a2 M1 J)
set_option maxRecDepth 20000 in
set_option maxHeartbeats 1000000 in
theorem TX3_reorder_42 {rr : Int32} {MR : M2} {JR : J2}  {k4 : Int32 → Int32 → M2 → J2 → Option (Int32 × M2 × J2)} (C : Cx E A p s m args meth c wdX3_reorder cX3_reorder 5 (some .int) RX3) (hg : g < 6) (hk4 : ∀ (a1 : Int32) (a2 : Int32) (M : M2) (J : J2)  (ls : Array Slot) (H : Heap) (locs : List Loc), k4 a1 a2 M J = some (rr, MR, JR) → Wd E A s (sg G g M) (sg K g J) H locs → lv_has ls 5 [(0, .ref (ad E g 0)), (1, .int a1), (2, .int a2)] → W p l e rmX3_reorder s m args below meth c H locs 0 0 (QI E A below args s rr (sg G g MR) (sg K g JR)) (F0 m 4 ls [])) (a1 : Int32) (a2 : Int32) (a3 : Nat) (a4 : Int32) (M : M2) (J : J2) (ha3 : isC a3) (h : fbX3_reorder_42 F k4 a1 a2 a3 a4 M J = some (rr, MR, JR)) (w : Wd E A s (sg G g M) (sg K g J) H locs) (hl : lv_has ls 5 [(0, .ref (ad E g 0)), (1, .int a1), (2, .int a2), (3, .ref (ad E g a3)), (4, .int a4)]) : W p l e rmX3_reorder s m args below meth c H locs 0 0 (QI E A below args s rr (sg G g MR) (sg K g JR)) (F0 m 42 ls []) := by
  obtain ⟨hx, hb, hr, hml, hown, hts, hlocks, hKK, hA1, hA2⟩ := id C
  unfold fbX3_reorder_42 at h
  refine lv_aload_n hx hb dX3_reorder_42 rfl (lv_at hl 3 rfl) ?_
  refine lv_iload hx hb dX3_reorder_43 (lv_at hl 4 rfl) ?_
  refine pL_X0_stage hg ha3 C w q6_12 dX3_reorder_45 (fun M1 H locs e2 w => ?_)
  replace h := bnd_of h e2
  exact TX3_reorder_48 C hg hk4 _ _ _ _ h w (lv_sub hl [0, 1, 2] rfl)
noncomputable def fsX3_reorder_4 (F : Nat)   (k4 : Int32 → Int32 → M2 → J2 → Option (Int32 × M2 × J2)) : Int32 → Int32 → M2 → J2 → Option (Int32 × M2 × J2) := fun a1 a2 M J => (if (5 : Int32) ≤ a2 then (bnd (up2 M 0 4 ((M 0 4) + (1 : Int32))) (fun M2 => bnd (up2 M2 0 3 (0 : Int32)) (fun M4 => some (a1, M4, J)))) else ((fX3_numbered M J a2).bind (fun vv7 => oc vv7 (fbX3_reorder_48 F k4 a1 a2 M J) (fun z8 => chk (isC z8) ((fX3_stageByMinutes F M J a2 (M z8 3)).bind (fun vv10 => (if vv10 = (M z8 2) then (fbX3_reorder_42 F k4 a1 a2 z8 vv10 M J) else (fbX3_reorder_42 F k4 (a1 + (1 : Int32)) a2 z8 vv10 M J))))))))
noncomputable def fbX3_reorder_4 (F : Nat)   (n : Nat) : Int32 → Int32 → M2 → J2 → Option (Int32 × M2 × J2) := itr (fsX3_reorder_4 F ) (fun _ _ _ _ => none) n
set_option maxRecDepth 20000 in
set_option maxHeartbeats 1000000 in
theorem SX3_reorder_4 {rr : Int32} {MR : M2} {JR : J2}   {k4 : Int32 → Int32 → M2 → J2 → Option (Int32 × M2 × J2)} (C : Cx E A p s m args meth c wdX3_reorder cX3_reorder 5 (some .int) RX3) (hg : g < 6)  (hk4 : ∀ (a1 : Int32) (a2 : Int32) (M : M2) (J : J2)  (ls : Array Slot) (H : Heap) (locs : List Loc), k4 a1 a2 M J = some (rr, MR, JR) → Wd E A s (sg G g M) (sg K g J) H locs → lv_has ls 5 [(0, .ref (ad E g 0)), (1, .int a1), (2, .int a2)] → W p l e rmX3_reorder s m args below meth c H locs 0 0 (QI E A below args s rr (sg G g MR) (sg K g JR)) (F0 m 4 ls [])) (a1 : Int32) (a2 : Int32) (M : M2) (J : J2)  (h : fsX3_reorder_4 F  k4 a1 a2 M J = some (rr, MR, JR)) (w : Wd E A s (sg G g M) (sg K g J) H locs) (hl : lv_has ls 5 [(0, .ref (ad E g 0)), (1, .int a1), (2, .int a2)]) : W p l e rmX3_reorder s m args below meth c H locs 0 0 (QI E A below args s rr (sg G g MR) (sg K g JR)) (F0 m 4 ls []) := by
  obtain ⟨hx, hb, hr, hml, hown, hts, hlocks, hKK, hA1, hA2⟩ := id C
  unfold fsX3_reorder_4 at h
  refine lv_iload_n hx hb dX3_reorder_4 rfl (lv_at hl 2 rfl) ?_
  refine lv_iconst (v := (5 : Int32)) hx hb dX3_reorder_5 (by decide) ?_
  refine lv_icmp_ge (tgt := 54) hx hb dX3_reorder_6 (by decide) (fun c1 => ?_) (fun c1 => ?_)
  · replace h := ite_t h c1
    refine lv_aload_n hx hb dX3_reorder_54 rfl (lv_at hl 0 rfl) ?_
    refine lv_dup hx hb dX3_reorder_55 rfl ?_
    refine gL_X3_rotations hg C w q4_13 dX3_reorder_56 ?_
    refine lv_iconst (v := (1 : Int32)) hx hb dX3_reorder_59 (by decide) ?_
    refine lv_iadd hx hb dX3_reorder_60 ?_
    refine pL_X3_rotations hg C w q4_13 dX3_reorder_61 (fun M2 H locs e3 w => ?_)
    replace h := bnd_of h e3
    refine lv_aload_n hx hb dX3_reorder_64 rfl (lv_at hl 0 rfl) ?_
    refine lv_iconst (v := (0 : Int32)) hx hb dX3_reorder_65 (by decide) ?_
    refine pL_X3_sinceRotation hg C w q4_12 dX3_reorder_66 (fun M4 H locs e5 w => ?_)
    replace h := bnd_of h e5
    refine lv_iload_n hx hb dX3_reorder_69 rfl (lv_at hl 1 rfl) ?_
    obtain ⟨e1, e2, e3⟩ := rt3 h
    exact x_ri C w e1 (by rw [e2]) (by rw [e3]) dX3_reorder_70
  · replace h := ite_f h c1
    refine lv_aload_n hx hb dX3_reorder_9 rfl (lv_at hl 0 rfl) ?_
    refine lv_iload_n hx hb dX3_reorder_10 rfl (lv_at hl 2 rfl) ?_
    obtain ⟨vv7, hv6, h⟩ := bind_of h
    refine x_cVq (As := [.int a2]) (rest := []) C w (vS hg (by decide)) (cel_S hg) rfl (mtX3_numbered hg hv6) q5_2 q5_3 q5_4 q1_12 q5_5 ydX3_numbered ⟨rfl, rfl⟩ ⟨by decide, by decide⟩ ⟨Nat.zero_le _, Nat.zero_le _⟩ hl.1 (Nat.le_of_ble_eq_true rfl) rfl dX3_reorder_11 (fun H locs w => ?_)
    cases vv7 with
    | none =>
      replace h := oc_n h
      refine lv_astore_nN (lv' := [(3, .null), (0, .ref (ad E g 0)), (1, .int a1), (2, .int a2)]) hx hb dX3_reorder_14 rfl hl (by decide) rfl (fun ls hl => ?_)
      refine lv_aload_nN hx hb dX3_reorder_15 rfl (lv_at hl 0 rfl) ?_
      refine lv_ifnullN (tgt := 48) hx hb dX3_reorder_16 (by decide) ?_
      exact TX3_reorder_48 C hg hk4 _ _ _ _ h w (lv_sub hl [1, 2, 3] rfl)
    | some z8 =>
      replace h := oc_s h
      obtain ⟨hz8, h⟩ := chk_of h
      refine lv_astore_n (lv' := [(3, .ref (ad E g z8)), (0, .ref (ad E g 0)), (1, .int a1), (2, .int a2)]) hx hb dX3_reorder_14 rfl hl (by decide) rfl (fun ls hl => ?_)
      refine lv_aload_n hx hb dX3_reorder_15 rfl (lv_at hl 0 rfl) ?_
      refine lv_ifnull hx hb dX3_reorder_16 ?_
      refine lv_aload_n hx hb dX3_reorder_19 rfl (lv_at hl 1 rfl) ?_
      refine lv_iload_n hx hb dX3_reorder_20 rfl (lv_at hl 3 rfl) ?_
      refine lv_aload_n hx hb dX3_reorder_21 rfl (lv_at hl 0 rfl) ?_
      refine gL_X0_loadedMinutes hg hz8 C w q6_13 dX3_reorder_22 ?_
      obtain ⟨vv10, hv9, h⟩ := bind_of h
      refine x_cVi (As := [.int a2, .int (M z8 3)]) (rest := []) C w (vS hg (by decide)) (cel_S hg) rfl (mtX3_stageByMinutes hg hv9) q13_4 q13_5 q13_6 q1_12 q13_7 ydX3_stageByMinutes ⟨rfl, rfl⟩ ⟨by decide, by decide⟩ ⟨Nat.zero_le _, Nat.zero_le _⟩ hl.1 (Nat.le_of_ble_eq_true rfl) rfl dX3_reorder_25 (fun H locs w => ?_)
      refine lv_istore (lv' := [(4, .int vv10), (3, .ref (ad E g z8)), (0, .ref (ad E g 0)), (1, .int a1), (2, .int a2)]) hx hb dX3_reorder_28 hl (by decide) rfl (fun ls hl => ?_)
      refine lv_iload hx hb dX3_reorder_30 (lv_at hl 0 rfl) ?_
      refine lv_aload_n hx hb dX3_reorder_32 rfl (lv_at hl 1 rfl) ?_
      refine gL_X0_stage hg hz8 C w q6_12 dX3_reorder_33 ?_
      refine lv_icmp_eq (tgt := 42) hx hb dX3_reorder_36 (by decide) (fun c11 => ?_) (fun c11 => ?_)
      · replace h := ite_t h c11
        exact TX3_reorder_42 C hg hk4 _ _ _ _ _ _ hz8 h w (lv_sub hl [2, 3, 4, 1, 0] rfl)
      · replace h := ite_f h c11
        refine lv_iinc (v := (a1 + (1 : Int32))) (lv' := [(1, .int (a1 + (1 : Int32))), (4, .int vv10), (3, .ref (ad E g z8)), (0, .ref (ad E g 0)), (2, .int a2)]) hx hb dX3_reorder_39 hl (k := 3) rfl (congrArg (HAdd.hAdd _) (by decide)) (by decide) rfl (fun ls hl => ?_)
        exact TX3_reorder_42 C hg hk4 _ _ _ _ _ _ hz8 h w (lv_sub hl [3, 0, 4, 2, 1] rfl)
theorem TX3_reorder_4 {rr : Int32} {MR : M2} {JR : J2}   (C : Cx E A p s m args meth c wdX3_reorder cX3_reorder 5 (some .int) RX3) (hg : g < 6)  : ∀ (n : Nat) (a1 : Int32) (a2 : Int32) (M : M2) (J : J2)  (ls : Array Slot) (H : Heap) (locs : List Loc), fbX3_reorder_4 F  n a1 a2 M J = some (rr, MR, JR) → Wd E A s (sg G g M) (sg K g J) H locs → lv_has ls 5 [(0, .ref (ad E g 0)), (1, .int a1), (2, .int a2)] → W p l e rmX3_reorder s m args below meth c H locs 0 0 (QI E A below args s rr (sg G g MR) (sg K g JR)) (F0 m 4 ls []) := by
  intro n
  induction n with
  | zero => intro a1 a2 M J  ls H locs h; exact absurd (show none = _ from h) (fun z => nomatch z)
  | succ n ih => intro a1 a2 M J  ls H locs h w hl; exact SX3_reorder_4 (F := F) C hg  ih a1 a2 M J  h w hl
noncomputable def fX3_reorder (F : Nat)   (M : M2) (J : J2) : Option (Int32 × M2 × J2) := fbX3_reorder_4 F F (0 : Int32) (0 : Int32) M J
set_option maxRecDepth 20000 in
set_option maxHeartbeats 1000000 in
theorem TX3_reorder {rr : Int32} {MR : M2} {JR : J2}  (C : Cx E A p s m args meth c wdX3_reorder cX3_reorder 5 (some .int) RX3) (hg : g < 6)   (h : fX3_reorder F  M J = some (rr, MR, JR)) (w : Wd E A s (sg G g M) (sg K g J) H locs) (hl : lv_has ls 5 [(0, .ref (ad E g 0))]) : W p l e rmX3_reorder s m args below meth c H locs 0 0 (QI E A below args s rr (sg G g MR) (sg K g JR)) (F0 m 0 ls []) := by
  obtain ⟨hx, hb, hr, hml, hown, hts, hlocks, hKK, hA1, hA2⟩ := id C
  unfold fX3_reorder at h
  refine lv_iconst (v := (0 : Int32)) hx hb dX3_reorder_0 (by decide) ?_
  refine lv_istore_n (lv' := [(1, .int (0 : Int32)), (0, .ref (ad E g 0))]) hx hb dX3_reorder_1 rfl hl (by decide) rfl (fun ls hl => ?_)
  refine lv_iconst (v := (0 : Int32)) hx hb dX3_reorder_2 (by decide) ?_
  refine lv_istore_n (lv' := [(2, .int (0 : Int32)), (1, .int (0 : Int32)), (0, .ref (ad E g 0))]) hx hb dX3_reorder_3 rfl hl (by decide) rfl (fun ls hl => ?_)
  exact TX3_reorder_4 C hg  _ _ _ _ _ _ _ _ h w (lv_sub hl [2, 1, 0] rfl)
theorem mtX3_reorder {rr : Int32} {MR : M2} {JR : J2}  (hg : g < 6)   (h : fX3_reorder F  M J = some (rr, MR, JR)) : MtI l yX3_reorder wdX3_reorder rmX3_reorder E [.ref (ad E g 0)] (sg G g M) (sg K g J) rr (sg G g MR) (sg K g JR) := by
  intro sz
  refine Met.ofW (cc := cX3_reorder) (maxL := 5) (ret := (some .int)) (by decide) rfl ?_
  intro p e s m args below meth c s₁ B hml hv
  obtain ⟨rfl, C, w⟩ := Cx.of (own := RX3) B rfl hml hv
  have hl := lv_entry ([.ref (ad E g 0)]) (n := 5) (by first | exact Nat.le_of_ble_eq_true rfl)
  rw [lg_entry_eq]
  generalize (lg_sl ([.ref (ad E g 0)]) ++ List.replicate (5 - (lg_sl ([.ref (ad E g 0)])).length) Slot.unset).toArray = ls at hl ⊢
  exact TX3_reorder C hg  h w hl
theorem ydX3_reorder : yX3_reorder.cls = RX3 ∧ yX3_reorder.cls ≠ "java/lang/invoke/MethodHandle" ∧ yX3_reorder.cls ≠ "java/lang/invoke/VarHandle" ∧ (parseMethodDescriptor yX3_reorder.desc).map (fun d => d.parameters.length) = some 0 := by decide +kernel
end XS1
end
section
section XS2
variable {E : WE} {A : Nat → Prop} {p : Program} {l : Launch} {e : Env} {s : State} {m : MethodId} {args : Array Value} {below : List Frame} {meth : Method} {c : Code} {H : Heap} {locs : List Loc} {ls : Array Slot} {G : M3} {K : J3} {M : M2} {J : J2} {F g q : Nat} {g' q' : Nat}

/-! X3.doingOf(LAirStation$Compressor;I)I -/
abbrev rmX3_doingOf : Room := { frames := 2, cells := 0, slots := 0, locals := 33 }
abbrev wdX3_doingOf : Cond := Cond.code yX3_doingOf cX3_doingOf 3 (some .int)
noncomputable def fX3_doingOf (M : M2) (J : J2) (q1 : Nat) (x2 : Int32)  : Int32 := (if (M q1 1) = (0 : Int32) then ((if (M q1 6) ≤ 0 then ((if (fX3_limitForLoading M J q1) ≤ x2 then ((7 : Int32)) else ((2 : Int32)))) else ((1 : Int32)))) else if (M q1 1) = (1 : Int32) then ((if x2 ≤ (fX3_limitForUnloading M J q1) then ((3 : Int32)) else ((4 : Int32)))) else if (M q1 1) = (2 : Int32) then ((if (fX3_limitForLoading M J q1) ≤ x2 then ((if ((M q1 5) + (1 : Int32)) < (M 1 3) then ((5 : Int32)) else ((6 : Int32)))) else ((2 : Int32)))) else ((0 : Int32)))
set_option maxRecDepth 20000 in
set_option maxHeartbeats 1000000 in
theorem TX3_doingOf {rr : Int32}  (C : Cx E A p s m args meth c wdX3_doingOf cX3_doingOf 3 (some .int) RX3) (hg : g < 6) {q1 : Nat} {x2 : Int32} (hq1 : isC q1) (h : fX3_doingOf M J q1 x2 = rr) (w : Wd E A s (sg G g M) (sg K g J) H locs) (hl : lv_has ls 3 [(0, .ref (ad E g 0)), (1, .ref (ad E g q1)), (2, .int x2)]) : W p l e rmX3_doingOf s m args below meth c H locs 0 0 (QI E A below args s rr (sg G g M) (sg K g J)) (F0 m 0 ls []) := by
  obtain ⟨hx, hb, hr, hml, hown, hts, hlocks, hKK, hA1, hA2⟩ := id C
  unfold fX3_doingOf at h
  refine lv_aload_n hx hb dX3_doingOf_0 rfl (lv_at hl 1 rfl) ?_
  refine gL_X0_mode hg hq1 C w q5_1 dX3_doingOf_1 ?_
  by_cases c1 : (M q1 1) = (0 : Int32)
  · replace h := ite_t h c1
    refine lv_tableIn (tgt := 32) hx hb dX3_doingOf_4 (by rw [c1]; decide) (by rw [c1]; decide) (by rw [c1]; rfl) (by decide) ?_
    refine lv_aload_n hx hb dX3_doingOf_32 rfl (lv_at hl 1 rfl) ?_
    refine gL_X0_rest hg hq1 C w q6_16 dX3_doingOf_33 ?_
    refine lv_if_le (tgt := 41) hx hb dX3_doingOf_36 (by decide) (fun c4 => ?_) (fun c4 => ?_)
    · replace h := ite_t h c4
      refine lv_iload_n hx hb dX3_doingOf_41 rfl (lv_at hl 2 rfl) ?_
      refine lv_aload_n hx hb dX3_doingOf_42 rfl (lv_at hl 0 rfl) ?_
      refine lv_aload_n hx hb dX3_doingOf_43 rfl (lv_at hl 1 rfl) ?_
      refine x_cVi (As := [.ref (ad E g q1)]) (rest := [.int x2]) C w (vS hg (by decide)) (cel_S hg) rfl (mtX3_limitForLoading hg hq1) q6_18 q6_19 q6_20 q1_12 q6_21 ydX3_limitForLoading ⟨rfl, rfl⟩ ⟨by decide, by decide⟩ ⟨Nat.zero_le _, Nat.zero_le _⟩ hl.1 (Nat.le_of_ble_eq_true rfl) rfl dX3_doingOf_44 (fun H locs w => ?_)
      refine lv_icmp_ge (tgt := 54) hx hb dX3_doingOf_47 (by decide) (fun c5 => ?_) (fun c5 => ?_)
      · replace h := ite_t h c5
        refine lv_bipush (v := (7 : Int32)) hx hb dX3_doingOf_54 (by decide) ?_
        exact x_ri C w h rfl rfl dX3_doingOf_56
      · replace h := ite_f h c5
        refine lv_iconst (v := (2 : Int32)) hx hb dX3_doingOf_50 (by decide) ?_
        refine lv_goto (tgt := 56) hx hb dX3_doingOf_51 (by decide) ?_
        exact x_ri C w h rfl rfl dX3_doingOf_56
    · replace h := ite_f h c4
      refine lv_iconst (v := (1 : Int32)) hx hb dX3_doingOf_39 (by decide) ?_
      exact x_ri C w h rfl rfl dX3_doingOf_40
  replace h := ite_f h c1
  by_cases c2 : (M q1 1) = (1 : Int32)
  · replace h := ite_t h c2
    refine lv_tableIn (tgt := 57) hx hb dX3_doingOf_4 (by rw [c2]; decide) (by rw [c2]; decide) (by rw [c2]; rfl) (by decide) ?_
    refine lv_iload_n hx hb dX3_doingOf_57 rfl (lv_at hl 2 rfl) ?_
    refine lv_aload_n hx hb dX3_doingOf_58 rfl (lv_at hl 0 rfl) ?_
    refine lv_aload_n hx hb dX3_doingOf_59 rfl (lv_at hl 1 rfl) ?_
    refine x_cVi (As := [.ref (ad E g q1)]) (rest := [.int x2]) C w (vS hg (by decide)) (cel_S hg) rfl (mtX3_limitForUnloading hg hq1) q6_22 q6_23 q7_0 q1_12 q7_1 ydX3_limitForUnloading ⟨rfl, rfl⟩ ⟨by decide, by decide⟩ ⟨Nat.zero_le _, Nat.zero_le _⟩ hl.1 (Nat.le_of_ble_eq_true rfl) rfl dX3_doingOf_60 (fun H locs w => ?_)
    refine lv_icmp_le (tgt := 70) hx hb dX3_doingOf_63 (by decide) (fun c6 => ?_) (fun c6 => ?_)
    · replace h := ite_t h c6
      refine lv_iconst (v := (3 : Int32)) hx hb dX3_doingOf_70 (by decide) ?_
      exact x_ri C w h rfl rfl dX3_doingOf_71
    · replace h := ite_f h c6
      refine lv_iconst (v := (4 : Int32)) hx hb dX3_doingOf_66 (by decide) ?_
      refine lv_goto (tgt := 71) hx hb dX3_doingOf_67 (by decide) ?_
      exact x_ri C w h rfl rfl dX3_doingOf_71
  replace h := ite_f h c2
  by_cases c3 : (M q1 1) = (2 : Int32)
  · replace h := ite_t h c3
    refine lv_tableIn (tgt := 72) hx hb dX3_doingOf_4 (by rw [c3]; decide) (by rw [c3]; decide) (by rw [c3]; rfl) (by decide) ?_
    refine lv_iload_n hx hb dX3_doingOf_72 rfl (lv_at hl 2 rfl) ?_
    refine lv_aload_n hx hb dX3_doingOf_73 rfl (lv_at hl 0 rfl) ?_
    refine lv_aload_n hx hb dX3_doingOf_74 rfl (lv_at hl 1 rfl) ?_
    refine x_cVi (As := [.ref (ad E g q1)]) (rest := [.int x2]) C w (vS hg (by decide)) (cel_S hg) rfl (mtX3_limitForLoading hg hq1) q6_18 q6_19 q6_20 q1_12 q6_21 ydX3_limitForLoading ⟨rfl, rfl⟩ ⟨by decide, by decide⟩ ⟨Nat.zero_le _, Nat.zero_le _⟩ hl.1 (Nat.le_of_ble_eq_true rfl) rfl dX3_doingOf_75 (fun H locs w => ?_)
    refine lv_icmp_ge (tgt := 83) hx hb dX3_doingOf_78 (by decide) (fun c7 => ?_) (fun c7 => ?_)
    · replace h := ite_t h c7
      refine lv_aload_n hx hb dX3_doingOf_83 rfl (lv_at hl 1 rfl) ?_
      refine gL_X0_timer hg hq1 C w q6_15 dX3_doingOf_84 ?_
      refine lv_iconst (v := (1 : Int32)) hx hb dX3_doingOf_87 (by decide) ?_
      refine lv_iadd hx hb dX3_doingOf_88 ?_
      refine lv_aload_n hx hb dX3_doingOf_89 rfl (lv_at hl 0 rfl) ?_
      refine gR_X3_settings hg C w q2_6 dX3_doingOf_90 ?_
      refine lv_iconst (v := (3 : Int32)) hx hb dX3_doingOf_93 (by decide) ?_
      refine x_aldI_L C w (vS hg (by decide)) (cS1 hg) (inb_k (k := 3) (by decide) (by decide)) cl_3 dX3_doingOf_94 ?_
      refine lv_icmp_lt (tgt := 103) hx hb dX3_doingOf_95 (by decide) (fun c8 => ?_) (fun c8 => ?_)
      · replace h := ite_t h c8
        refine lv_iconst (v := (5 : Int32)) hx hb dX3_doingOf_103 (by decide) ?_
        exact x_ri C w h rfl rfl dX3_doingOf_104
      · replace h := ite_f h c8
        refine lv_bipush (v := (6 : Int32)) hx hb dX3_doingOf_98 (by decide) ?_
        refine lv_goto (tgt := 104) hx hb dX3_doingOf_100 (by decide) ?_
        exact x_ri C w h rfl rfl dX3_doingOf_104
    · replace h := ite_f h c7
      refine lv_iconst (v := (2 : Int32)) hx hb dX3_doingOf_81 (by decide) ?_
      exact x_ri C w h rfl rfl dX3_doingOf_82
  replace h := ite_f h c3
  have hsw : (M q1 1).toInt < 0 ∨ 2 < (M q1 1).toInt := by
    have n0 := ne_toInt c1
    have n1 := ne_toInt c2
    have n2 := ne_toInt c3
    have e0 : (0 : Int32).toInt = 0 := by decide
    have e1 : (1 : Int32).toInt = 1 := by decide
    have e2 : (2 : Int32).toInt = 2 := by decide
    simp only [e0, e1, e2] at n0 n1 n2
    omega
  refine lv_tableOut (tgt := 105) hx hb dX3_doingOf_4 hsw (by decide) ?_
  refine lv_iconst (v := (0 : Int32)) hx hb dX3_doingOf_105 (by decide) ?_
  exact x_ri C w h rfl rfl dX3_doingOf_106
theorem mtX3_doingOf  (hg : g < 6) {q1 : Nat} {x2 : Int32} (hq1 : isC q1)  : MtI l yX3_doingOf wdX3_doingOf rmX3_doingOf E [.ref (ad E g 0), .ref (ad E g q1), .int x2] (sg G g M) (sg K g J) (fX3_doingOf M J q1 x2) (sg G g M) (sg K g J) := by
  intro sz
  refine Met.ofW (cc := cX3_doingOf) (maxL := 3) (ret := (some .int)) (by decide) rfl ?_
  intro p e s m args below meth c s₁ B hml hv
  obtain ⟨rfl, C, w⟩ := Cx.of (own := RX3) B rfl hml hv
  have hl := lv_entry ([.ref (ad E g 0), .ref (ad E g q1), .int x2]) (n := 3) (by first | exact Nat.le_of_ble_eq_true rfl)
  rw [lg_entry_eq]
  generalize (lg_sl ([.ref (ad E g 0), .ref (ad E g q1), .int x2]) ++ List.replicate (3 - (lg_sl ([.ref (ad E g 0), .ref (ad E g q1), .int x2])).length) Slot.unset).toArray = ls at hl ⊢
  exact TX3_doingOf C hg hq1 rfl w hl
theorem ydX3_doingOf : yX3_doingOf.cls = RX3 ∧ yX3_doingOf.cls ≠ "java/lang/invoke/MethodHandle" ∧ yX3_doingOf.cls ≠ "java/lang/invoke/VarHandle" ∧ (parseMethodDescriptor yX3_doingOf.desc).map (fun d => d.parameters.length) = some 2 := by decide +kernel
/-! X3.lookAtAll(I)Z -/
abbrev rmX3_lookAtAll : Room := { frames := 3, cells := 0, slots := 0, locals := 55 }
abbrev wdX3_lookAtAll : Cond := Cond.code yX3_lookAtAll cX3_lookAtAll 6 (some .boolean)
noncomputable def fbX3_lookAtAll_59 (F : Nat) (k4 : Int32 → Int32 → Int32 → M2 → J2 → Option (Int32 × M2 × J2))  (a1 : Int32) (a2 : Int32) (a3 : Int32) (M : M2) (J : J2) : Option (Int32 × M2 × J2) := k4 a1 a2 (a3 + (1 : Int32)) M J
set_option maxRecDepth 20000 in
set_option maxHeartbeats 1000000 in
theorem TX3_lookAtAll_59 {rr : Int32} {MR : M2} {JR : J2}  {k4 : Int32 → Int32 → Int32 → M2 → J2 → Option (Int32 × M2 × J2)} (C : Cx E A p s m args meth c wdX3_lookAtAll cX3_lookAtAll 6 (some .boolean) RX3) (hg : g < 6) (hk4 : ∀ (a1 : Int32) (a2 : Int32) (a3 : Int32) (M : M2) (J : J2)  (ls : Array Slot) (H : Heap) (locs : List Loc), k4 a1 a2 a3 M J = some (rr, MR, JR) → Wd E A s (sg G g M) (sg K g J) H locs → lv_has ls 6 [(0, .ref (ad E g 0)), (1, .int a1), (2, .int a2), (3, .int a3)] → W p l e rmX3_lookAtAll s m args below meth c H locs 0 0 (QI E A below args s rr (sg G g MR) (sg K g JR)) (F0 m 4 ls [])) (a1 : Int32) (a2 : Int32) (a3 : Int32) (M : M2) (J : J2)  (h : fbX3_lookAtAll_59 F k4 a1 a2 a3 M J = some (rr, MR, JR)) (w : Wd E A s (sg G g M) (sg K g J) H locs) (hl : lv_has ls 6 [(0, .ref (ad E g 0)), (1, .int a1), (2, .int a2), (3, .int a3)]) : W p l e rmX3_lookAtAll s m args below meth c H locs 0 0 (QI E A below args s rr (sg G g MR) (sg K g JR)) (F0 m 59 ls []) := by
  obtain ⟨hx, hb, hr, hml, hown, hts, hlocks, hKK, hA1, hA2⟩ := id C
  unfold fbX3_lookAtAll_59 at h
  refine lv_iinc (v := (a3 + (1 : Int32))) (lv' := [(3, .int (a3 + (1 : Int32))), (0, .ref (ad E g 0)), (1, .int a1), (2, .int a2)]) hx hb dX3_lookAtAll_59 hl (k := 3) rfl (congrArg (HAdd.hAdd _) (by decide)) (by decide) rfl (fun ls hl => ?_)
  refine lv_goto (tgt := 4) hx hb dX3_lookAtAll_62 (by decide) ?_
  exact hk4 _ _ _ _ _ _ _ _ h w (lv_sub hl [1, 2, 3, 0] rfl)
noncomputable def fbX3_lookAtAll_58 (F : Nat) (k4 : Int32 → Int32 → Int32 → M2 → J2 → Option (Int32 × M2 × J2))  (a1 : Int32) (a3 : Int32) (s0 : Int32) (M : M2) (J : J2) : Option (Int32 × M2 × J2) := fbX3_lookAtAll_59 F k4 a1 s0 a3 M J
set_option maxRecDepth 20000 in
set_option maxHeartbeats 1000000 in
theorem TX3_lookAtAll_58 {rr : Int32} {MR : M2} {JR : J2}  {k4 : Int32 → Int32 → Int32 → M2 → J2 → Option (Int32 × M2 × J2)} (C : Cx E A p s m args meth c wdX3_lookAtAll cX3_lookAtAll 6 (some .boolean) RX3) (hg : g < 6) (hk4 : ∀ (a1 : Int32) (a2 : Int32) (a3 : Int32) (M : M2) (J : J2)  (ls : Array Slot) (H : Heap) (locs : List Loc), k4 a1 a2 a3 M J = some (rr, MR, JR) → Wd E A s (sg G g M) (sg K g J) H locs → lv_has ls 6 [(0, .ref (ad E g 0)), (1, .int a1), (2, .int a2), (3, .int a3)] → W p l e rmX3_lookAtAll s m args below meth c H locs 0 0 (QI E A below args s rr (sg G g MR) (sg K g JR)) (F0 m 4 ls [])) (a1 : Int32) (a3 : Int32) (s0 : Int32) (M : M2) (J : J2)  (h : fbX3_lookAtAll_58 F k4 a1 a3 s0 M J = some (rr, MR, JR)) (w : Wd E A s (sg G g M) (sg K g J) H locs) (hl : lv_has ls 6 [(0, .ref (ad E g 0)), (1, .int a1), (3, .int a3)]) : W p l e rmX3_lookAtAll s m args below meth c H locs 0 0 (QI E A below args s rr (sg G g MR) (sg K g JR)) (F0 m 58 ls [.int s0]) := by
  obtain ⟨hx, hb, hr, hml, hown, hts, hlocks, hKK, hA1, hA2⟩ := id C
  unfold fbX3_lookAtAll_58 at h
  refine lv_istore_n (lv' := [(2, .int s0), (0, .ref (ad E g 0)), (1, .int a1), (3, .int a3)]) hx hb dX3_lookAtAll_58 rfl hl (by decide) rfl (fun ls hl => ?_)
  exact TX3_lookAtAll_59 C hg hk4 _ _ _ _ _ h w (lv_sub hl [1, 2, 0, 3] rfl)
noncomputable def fbX3_lookAtAll_53 (F : Nat) (k4 : Int32 → Int32 → Int32 → M2 → J2 → Option (Int32 × M2 × J2))  (a1 : Int32) (a3 : Int32) (M : M2) (J : J2) : Option (Int32 × M2 × J2) := fbX3_lookAtAll_58 F k4 a1 a3 (1 : Int32) M J
set_option maxRecDepth 20000 in
set_option maxHeartbeats 1000000 in
theorem TX3_lookAtAll_53 {rr : Int32} {MR : M2} {JR : J2}  {k4 : Int32 → Int32 → Int32 → M2 → J2 → Option (Int32 × M2 × J2)} (C : Cx E A p s m args meth c wdX3_lookAtAll cX3_lookAtAll 6 (some .boolean) RX3) (hg : g < 6) (hk4 : ∀ (a1 : Int32) (a2 : Int32) (a3 : Int32) (M : M2) (J : J2)  (ls : Array Slot) (H : Heap) (locs : List Loc), k4 a1 a2 a3 M J = some (rr, MR, JR) → Wd E A s (sg G g M) (sg K g J) H locs → lv_has ls 6 [(0, .ref (ad E g 0)), (1, .int a1), (2, .int a2), (3, .int a3)] → W p l e rmX3_lookAtAll s m args below meth c H locs 0 0 (QI E A below args s rr (sg G g MR) (sg K g JR)) (F0 m 4 ls [])) (a1 : Int32) (a3 : Int32) (M : M2) (J : J2)  (h : fbX3_lookAtAll_53 F k4 a1 a3 M J = some (rr, MR, JR)) (w : Wd E A s (sg G g M) (sg K g J) H locs) (hl : lv_has ls 6 [(0, .ref (ad E g 0)), (1, .int a1), (3, .int a3)]) : W p l e rmX3_lookAtAll s m args below meth c H locs 0 0 (QI E A below args s rr (sg G g MR) (sg K g JR)) (F0 m 53 ls []) := by
  obtain ⟨hx, hb, hr, hml, hown, hts, hlocks, hKK, hA1, hA2⟩ := id C
  unfold fbX3_lookAtAll_53 at h
  refine lv_iconst (v := (1 : Int32)) hx hb dX3_lookAtAll_53 (by decide) ?_
  refine lv_goto (tgt := 58) hx hb dX3_lookAtAll_54 (by decide) ?_
  exact TX3_lookAtAll_58 C hg hk4 _ _ _ _ _ h w (lv_sub hl [0, 1, 2] rfl)
noncomputable def fsX3_lookAtAll_4 (F : Nat)   (k4 : Int32 → Int32 → Int32 → M2 → J2 → Option (Int32 × M2 × J2)) : Int32 → Int32 → Int32 → M2 → J2 → Option (Int32 × M2 × J2) := fun a1 a2 a3 M J => (if (5 : Int32) ≤ a3 then (chk (a2 = 0 ∨ a2 = 1) (some (a2, M, J))) else ((fX3_numbered M J a3).bind (fun vv4 => oc vv4 (fbX3_lookAtAll_59 F k4 a1 a2 a3 M J) (fun z5 => chk (isC z5) (bd2 (fX0_carryOn z5 (fX3_doingOf M J z5 a1) (M 1 4) M J) (fun M7 J8 => (if ¬ a2 = 0 then (fbX3_lookAtAll_53 F k4 a1 a3 M7 J8) else ((if ¬ (fX3_doingOf M J z5 a1) = (2 : Int32) then (fbX3_lookAtAll_58 F k4 a1 a3 (0 : Int32) M7 J8) else (fbX3_lookAtAll_53 F k4 a1 a3 M7 J8))))))))))
noncomputable def fbX3_lookAtAll_4 (F : Nat)   (n : Nat) : Int32 → Int32 → Int32 → M2 → J2 → Option (Int32 × M2 × J2) := itr (fsX3_lookAtAll_4 F ) (fun _ _ _ _ _ => none) n
set_option maxRecDepth 20000 in
set_option maxHeartbeats 1000000 in
theorem SX3_lookAtAll_4 {rr : Int32} {MR : M2} {JR : J2}   {k4 : Int32 → Int32 → Int32 → M2 → J2 → Option (Int32 × M2 × J2)} (C : Cx E A p s m args meth c wdX3_lookAtAll cX3_lookAtAll 6 (some .boolean) RX3) (hg : g < 6)  (hk4 : ∀ (a1 : Int32) (a2 : Int32) (a3 : Int32) (M : M2) (J : J2)  (ls : Array Slot) (H : Heap) (locs : List Loc), k4 a1 a2 a3 M J = some (rr, MR, JR) → Wd E A s (sg G g M) (sg K g J) H locs → lv_has ls 6 [(0, .ref (ad E g 0)), (1, .int a1), (2, .int a2), (3, .int a3)] → W p l e rmX3_lookAtAll s m args below meth c H locs 0 0 (QI E A below args s rr (sg G g MR) (sg K g JR)) (F0 m 4 ls [])) (a1 : Int32) (a2 : Int32) (a3 : Int32) (M : M2) (J : J2)  (h : fsX3_lookAtAll_4 F  k4 a1 a2 a3 M J = some (rr, MR, JR)) (w : Wd E A s (sg G g M) (sg K g J) H locs) (hl : lv_has ls 6 [(0, .ref (ad E g 0)), (1, .int a1), (2, .int a2), (3, .int a3)]) : W p l e rmX3_lookAtAll s m args below meth c H locs 0 0 (QI E A below args s rr (sg G g MR) (sg K g JR)) (F0 m 4 ls []) := by
  obtain ⟨hx, hb, hr, hml, hown, hts, hlocks, hKK, hA1, hA2⟩ := id C
  unfold fsX3_lookAtAll_4 at h
  refine lv_iload_n hx hb dX3_lookAtAll_4 rfl (lv_at hl 3 rfl) ?_
  refine lv_iconst (v := (5 : Int32)) hx hb dX3_lookAtAll_5 (by decide) ?_
  refine lv_icmp_ge (tgt := 65) hx hb dX3_lookAtAll_6 (by decide) (fun c1 => ?_) (fun c1 => ?_)
  · replace h := ite_t h c1
    refine lv_iload_n hx hb dX3_lookAtAll_65 rfl (lv_at hl 2 rfl) ?_
    obtain ⟨kb2, h⟩ := chk_of h
    obtain ⟨e1, e2, e3⟩ := rt3 h
    exact x_rz C w kb2 e1 (by rw [e2]) (by rw [e3]) dX3_lookAtAll_66
  · replace h := ite_f h c1
    refine lv_aload_n hx hb dX3_lookAtAll_9 rfl (lv_at hl 0 rfl) ?_
    refine lv_iload_n hx hb dX3_lookAtAll_10 rfl (lv_at hl 3 rfl) ?_
    obtain ⟨vv4, hv3, h⟩ := bind_of h
    refine x_cVq (As := [.int a3]) (rest := []) C w (vS hg (by decide)) (cel_S hg) rfl (mtX3_numbered hg hv3) q5_2 q5_3 q5_4 q1_12 q5_5 ydX3_numbered ⟨rfl, rfl⟩ ⟨by decide, by decide⟩ ⟨Nat.zero_le _, Nat.zero_le _⟩ hl.1 (Nat.le_of_ble_eq_true rfl) rfl dX3_lookAtAll_11 (fun H locs w => ?_)
    cases vv4 with
    | none =>
      replace h := oc_n h
      refine lv_astoreN (lv' := [(4, .null), (0, .ref (ad E g 0)), (1, .int a1), (2, .int a2), (3, .int a3)]) hx hb dX3_lookAtAll_14 hl (by decide) rfl (fun ls hl => ?_)
      refine lv_aloadN hx hb dX3_lookAtAll_16 (lv_at hl 0 rfl) ?_
      refine lv_ifnullN (tgt := 59) hx hb dX3_lookAtAll_18 (by decide) ?_
      exact TX3_lookAtAll_59 C hg hk4 _ _ _ _ _ h w (lv_sub hl [1, 2, 3, 4] rfl)
    | some z5 =>
      replace h := oc_s h
      obtain ⟨hz5, h⟩ := chk_of h
      refine lv_astore (lv' := [(4, .ref (ad E g z5)), (0, .ref (ad E g 0)), (1, .int a1), (2, .int a2), (3, .int a3)]) hx hb dX3_lookAtAll_14 hl (by decide) rfl (fun ls hl => ?_)
      refine lv_aload hx hb dX3_lookAtAll_16 (lv_at hl 0 rfl) ?_
      refine lv_ifnull hx hb dX3_lookAtAll_18 ?_
      refine lv_aload_n hx hb dX3_lookAtAll_21 rfl (lv_at hl 1 rfl) ?_
      refine lv_aload hx hb dX3_lookAtAll_22 (lv_at hl 0 rfl) ?_
      refine lv_iload_n hx hb dX3_lookAtAll_24 rfl (lv_at hl 2 rfl) ?_
      refine x_cVi (As := [.ref (ad E g z5), .int a1]) (rest := []) C w (vS hg (by decide)) (cel_S hg) rfl (mtX3_doingOf hg hz5) q15_5 q8_7 q8_8 q1_12 q8_9 ydX3_doingOf ⟨rfl, rfl⟩ ⟨by decide, by decide⟩ ⟨Nat.zero_le _, Nat.zero_le _⟩ hl.1 (Nat.le_of_ble_eq_true rfl) rfl dX3_lookAtAll_25 (fun H locs w => ?_)
      refine lv_istore (lv' := [(5, .int (fX3_doingOf M J z5 a1)), (4, .ref (ad E g z5)), (0, .ref (ad E g 0)), (1, .int a1), (2, .int a2), (3, .int a3)]) hx hb dX3_lookAtAll_28 hl (by decide) rfl (fun ls hl => ?_)
      refine lv_aload hx hb dX3_lookAtAll_30 (lv_at hl 1 rfl) ?_
      refine lv_iload hx hb dX3_lookAtAll_32 (lv_at hl 0 rfl) ?_
      refine lv_aload_n hx hb dX3_lookAtAll_34 rfl (lv_at hl 2 rfl) ?_
      refine gR_X3_settings hg C w q2_6 dX3_lookAtAll_35 ?_
      refine lv_iconst (v := (4 : Int32)) hx hb dX3_lookAtAll_38 (by decide) ?_
      refine x_aldI_L C w (vS hg (by decide)) (cS1 hg) (inb_k (k := 4) (by decide) (by decide)) cl_4 dX3_lookAtAll_39 ?_
      obtain ⟨M7, J8, hv6, h⟩ := bd2_of h
      refine x_cVv (As := [.int (fX3_doingOf M J z5 a1), .int (M 1 4)]) (rest := []) C w (vC hg hz5) (cel_C hg hz5.1) rfl (mtX0_carryOn hg hz5 hv6) q15_6 q15_7 q15_8 q2_17 q15_9 ydX0_carryOn ⟨rfl, rfl⟩ ⟨by decide, by decide⟩ ⟨Nat.zero_le _, Nat.zero_le _⟩ hl.1 (Nat.le_of_ble_eq_true rfl) rfl dX3_lookAtAll_40 (fun H locs w => ?_)
      refine lv_iload_n hx hb dX3_lookAtAll_43 rfl (lv_at hl 4 rfl) ?_
      refine lv_if_ne (tgt := 53) hx hb dX3_lookAtAll_44 (by decide) (fun c9 => ?_) (fun c9 => ?_)
      · replace h := ite_t h c9
        exact TX3_lookAtAll_53 C hg hk4 _ _ _ _ h w (lv_sub hl [2, 3, 5] rfl)
      · replace h := ite_f h (fun z => z c9)
        refine lv_iload hx hb dX3_lookAtAll_47 (lv_at hl 0 rfl) ?_
        refine lv_iconst (v := (2 : Int32)) hx hb dX3_lookAtAll_49 (by decide) ?_
        refine lv_icmp_ne (tgt := 57) hx hb dX3_lookAtAll_50 (by decide) (fun c10 => ?_) (fun c10 => ?_)
        · replace h := ite_t h c10
          refine lv_iconst (v := (0 : Int32)) hx hb dX3_lookAtAll_57 (by decide) ?_
          exact TX3_lookAtAll_58 C hg hk4 _ _ _ _ _ h w (lv_sub hl [2, 3, 5] rfl)
        · replace h := ite_f h (fun z => z c10)
          exact TX3_lookAtAll_53 C hg hk4 _ _ _ _ h w (lv_sub hl [2, 3, 5] rfl)
theorem TX3_lookAtAll_4 {rr : Int32} {MR : M2} {JR : J2}   (C : Cx E A p s m args meth c wdX3_lookAtAll cX3_lookAtAll 6 (some .boolean) RX3) (hg : g < 6)  : ∀ (n : Nat) (a1 : Int32) (a2 : Int32) (a3 : Int32) (M : M2) (J : J2)  (ls : Array Slot) (H : Heap) (locs : List Loc), fbX3_lookAtAll_4 F  n a1 a2 a3 M J = some (rr, MR, JR) → Wd E A s (sg G g M) (sg K g J) H locs → lv_has ls 6 [(0, .ref (ad E g 0)), (1, .int a1), (2, .int a2), (3, .int a3)] → W p l e rmX3_lookAtAll s m args below meth c H locs 0 0 (QI E A below args s rr (sg G g MR) (sg K g JR)) (F0 m 4 ls []) := by
  intro n
  induction n with
  | zero => intro a1 a2 a3 M J  ls H locs h; exact absurd (show none = _ from h) (fun z => nomatch z)
  | succ n ih => intro a1 a2 a3 M J  ls H locs h w hl; exact SX3_lookAtAll_4 (F := F) C hg  ih a1 a2 a3 M J  h w hl
noncomputable def fX3_lookAtAll (F : Nat)  (x1 : Int32) (M : M2) (J : J2) : Option (Int32 × M2 × J2) := fbX3_lookAtAll_4 F F x1 (0 : Int32) (0 : Int32) M J
set_option maxRecDepth 20000 in
set_option maxHeartbeats 1000000 in
theorem TX3_lookAtAll {rr : Int32} {MR : M2} {JR : J2}  (C : Cx E A p s m args meth c wdX3_lookAtAll cX3_lookAtAll 6 (some .boolean) RX3) (hg : g < 6) {x1 : Int32}  (h : fX3_lookAtAll F  x1 M J = some (rr, MR, JR)) (w : Wd E A s (sg G g M) (sg K g J) H locs) (hl : lv_has ls 6 [(0, .ref (ad E g 0)), (1, .int x1)]) : W p l e rmX3_lookAtAll s m args below meth c H locs 0 0 (QI E A below args s rr (sg G g MR) (sg K g JR)) (F0 m 0 ls []) := by
  obtain ⟨hx, hb, hr, hml, hown, hts, hlocks, hKK, hA1, hA2⟩ := id C
  unfold fX3_lookAtAll at h
  refine lv_iconst (v := (0 : Int32)) hx hb dX3_lookAtAll_0 (by decide) ?_
  refine lv_istore_n (lv' := [(2, .int (0 : Int32)), (0, .ref (ad E g 0)), (1, .int x1)]) hx hb dX3_lookAtAll_1 rfl hl (by decide) rfl (fun ls hl => ?_)
  refine lv_iconst (v := (0 : Int32)) hx hb dX3_lookAtAll_2 (by decide) ?_
  refine lv_istore_n (lv' := [(3, .int (0 : Int32)), (2, .int (0 : Int32)), (0, .ref (ad E g 0)), (1, .int x1)]) hx hb dX3_lookAtAll_3 rfl hl (by decide) rfl (fun ls hl => ?_)
  exact TX3_lookAtAll_4 C hg  _ _ _ _ _ _ _ _ _ h w (lv_sub hl [2, 3, 1, 0] rfl)
theorem mtX3_lookAtAll {rr : Int32} {MR : M2} {JR : J2}  (hg : g < 6) {x1 : Int32}  (h : fX3_lookAtAll F  x1 M J = some (rr, MR, JR)) : MtI l yX3_lookAtAll wdX3_lookAtAll rmX3_lookAtAll E [.ref (ad E g 0), .int x1] (sg G g M) (sg K g J) rr (sg G g MR) (sg K g JR) := by
  intro sz
  refine Met.ofW (cc := cX3_lookAtAll) (maxL := 6) (ret := (some .boolean)) (by decide) rfl ?_
  intro p e s m args below meth c s₁ B hml hv
  obtain ⟨rfl, C, w⟩ := Cx.of (own := RX3) B rfl hml hv
  have hl := lv_entry ([.ref (ad E g 0), .int x1]) (n := 6) (by first | exact Nat.le_of_ble_eq_true rfl)
  rw [lg_entry_eq]
  generalize (lg_sl ([.ref (ad E g 0), .int x1]) ++ List.replicate (6 - (lg_sl ([.ref (ad E g 0), .int x1])).length) Slot.unset).toArray = ls at hl ⊢
  exact TX3_lookAtAll C hg  h w hl
theorem ydX3_lookAtAll : yX3_lookAtAll.cls = RX3 ∧ yX3_lookAtAll.cls ≠ "java/lang/invoke/MethodHandle" ∧ yX3_lookAtAll.cls ≠ "java/lang/invoke/VarHandle" ∧ (parseMethodDescriptor yX3_lookAtAll.desc).map (fun d => d.parameters.length) = some 1 := by decide +kernel
/-! X3.runCompressors()V -/
abbrev rmX3_runCompressors : Room := { frames := 2, cells := 0, slots := 0, locals := 33 }
abbrev wdX3_runCompressors : Cond := Cond.code yX3_runCompressors cX3_runCompressors 3 none
noncomputable def fbX3_runCompressors_120 (F : Nat) (k2 : Int32 → M2 → J2 → Option (M2 × J2))  (a1 : Int32) (M : M2) (J : J2) : Option (M2 × J2) := k2 (a1 + (1 : Int32)) M J
set_option maxRecDepth 20000 in
set_option maxHeartbeats 1000000 in
theorem TX3_runCompressors_120 {MR : M2} {JR : J2}  {k2 : Int32 → M2 → J2 → Option (M2 × J2)} (C : Cx E A p s m args meth c wdX3_runCompressors cX3_runCompressors 3 none RX3) (hg : g < 6) (hk2 : ∀ (a1 : Int32) (M : M2) (J : J2)  (ls : Array Slot) (H : Heap) (locs : List Loc), k2 a1 M J = some (MR, JR) → Wd E A s (sg G g M) (sg K g J) H locs → lv_has ls 3 [(0, .ref (ad E g 0)), (1, .int a1)] → W p l e rmX3_runCompressors s m args below meth c H locs 0 0 (QV E A below args s  (sg G g MR) (sg K g JR)) (F0 m 2 ls [])) (a1 : Int32) (M : M2) (J : J2)  (h : fbX3_runCompressors_120 F k2 a1 M J = some (MR, JR)) (w : Wd E A s (sg G g M) (sg K g J) H locs) (hl : lv_has ls 3 [(0, .ref (ad E g 0)), (1, .int a1)]) : W p l e rmX3_runCompressors s m args below meth c H locs 0 0 (QV E A below args s  (sg G g MR) (sg K g JR)) (F0 m 120 ls []) := by
  obtain ⟨hx, hb, hr, hml, hown, hts, hlocks, hKK, hA1, hA2⟩ := id C
  unfold fbX3_runCompressors_120 at h
  refine lv_iinc (v := (a1 + (1 : Int32))) (lv' := [(1, .int (a1 + (1 : Int32))), (0, .ref (ad E g 0))]) hx hb dX3_runCompressors_120 hl (k := 1) rfl (congrArg (HAdd.hAdd _) (by decide)) (by decide) rfl (fun ls hl => ?_)
  refine lv_goto (tgt := 2) hx hb dX3_runCompressors_123 (by decide) ?_
  exact hk2 _ _ _ _ _ _ h w (lv_sub hl [1, 0] rfl)
noncomputable def fbX3_runCompressors_82 (F : Nat) (k2 : Int32 → M2 → J2 → Option (M2 × J2))  (a1 : Int32) (a2 : Option Nat) (M : M2) (J : J2) : Option (M2 × J2) := oc a2 (fbX3_runCompressors_120 F k2 a1 M J) (fun z1 => (if ¬ (M z1 1) = (2 : Int32) then (fbX3_runCompressors_120 F k2 a1 M J) else (bnd (up2 J 2 5 ((J 2 5) + ((3 : Int32) * (M z1 0)).toInt64)) (fun J3 => bnd (up2 M z1 4 ((M z1 4) + (1 : Int32))) (fun M5 => fbX3_runCompressors_120 F k2 a1 M5 J3)))))
set_option maxRecDepth 20000 in
set_option maxHeartbeats 1000000 in
theorem TX3_runCompressors_82 {MR : M2} {JR : J2}  {k2 : Int32 → M2 → J2 → Option (M2 × J2)} (C : Cx E A p s m args meth c wdX3_runCompressors cX3_runCompressors 3 none RX3) (hg : g < 6) (hk2 : ∀ (a1 : Int32) (M : M2) (J : J2)  (ls : Array Slot) (H : Heap) (locs : List Loc), k2 a1 M J = some (MR, JR) → Wd E A s (sg G g M) (sg K g J) H locs → lv_has ls 3 [(0, .ref (ad E g 0)), (1, .int a1)] → W p l e rmX3_runCompressors s m args below meth c H locs 0 0 (QV E A below args s  (sg G g MR) (sg K g JR)) (F0 m 2 ls [])) (a1 : Int32) (a2 : Option Nat) (M : M2) (J : J2) (ha2 : ∀ z, a2 = some z → isC z) (h : fbX3_runCompressors_82 F k2 a1 a2 M J = some (MR, JR)) (w : Wd E A s (sg G g M) (sg K g J) H locs) (hl : lv_has ls 3 [(0, .ref (ad E g 0)), (1, .int a1), (2, va_rf (a2.map (fun z => ad E g z)))]) : W p l e rmX3_runCompressors s m args below meth c H locs 0 0 (QV E A below args s  (sg G g MR) (sg K g JR)) (F0 m 82 ls []) := by
  obtain ⟨hx, hb, hr, hml, hown, hts, hlocks, hKK, hA1, hA2⟩ := id C
  unfold fbX3_runCompressors_82 at h
  cases a2 with
  | none =>
    replace h := oc_n h
    have hl : lv_has ls 3 [(0, .ref (ad E g 0)), (1, .int a1), (2, .null)] := hl
    refine lv_aload_nN hx hb dX3_runCompressors_82 rfl (lv_at hl 2 rfl) ?_
    refine lv_ifnullN (tgt := 120) hx hb dX3_runCompressors_83 (by decide) ?_
    exact TX3_runCompressors_120 C hg hk2 _ _ _ h w (lv_sub hl [0, 1] rfl)
  | some z1 =>
    replace h := oc_s h
    have hz1 : isC z1 := ha2 _ rfl
    have hl : lv_has ls 3 [(0, .ref (ad E g 0)), (1, .int a1), (2, .ref (ad E g z1))] := hl
    refine lv_aload_n hx hb dX3_runCompressors_82 rfl (lv_at hl 2 rfl) ?_
    refine lv_ifnull hx hb dX3_runCompressors_83 ?_
    refine lv_aload_n hx hb dX3_runCompressors_86 rfl (lv_at hl 2 rfl) ?_
    refine gL_X0_mode hg hz1 C w q5_1 dX3_runCompressors_87 ?_
    refine lv_iconst (v := (2 : Int32)) hx hb dX3_runCompressors_90 (by decide) ?_
    refine lv_icmp_ne (tgt := 120) hx hb dX3_runCompressors_91 (by decide) (fun c2 => ?_) (fun c2 => ?_)
    · replace h := ite_t h c2
      exact TX3_runCompressors_120 C hg hk2 _ _ _ h w (lv_sub hl [0, 1] rfl)
    · replace h := ite_f h (fun z => z c2)
      refine lv_aload_n hx hb dX3_runCompressors_94 rfl (lv_at hl 0 rfl) ?_
      refine gR_X3_amounts hg C w q2_8 dX3_runCompressors_95 ?_
      refine lv_iconst (v := (5 : Int32)) hx hb dX3_runCompressors_98 (by decide) ?_
      refine lv_dup2_11 hx hb dX3_runCompressors_99 rfl rfl ?_
      refine x_aldJ_L C w (vS hg (by decide)) (cS2 hg) (inb_k (k := 5) (by decide) (by decide)) cl_5 dX3_runCompressors_100 ?_
      refine lv_iconst (v := (3 : Int32)) hx hb dX3_runCompressors_101 (by decide) ?_
      refine lv_aload_n hx hb dX3_runCompressors_102 rfl (lv_at hl 2 rfl) ?_
      refine gL_X0_capacity hg hz1 C w q5_10 dX3_runCompressors_103 ?_
      refine lv_imul hx hb dX3_runCompressors_106 ?_
      refine lv_i2l hx hb dX3_runCompressors_107 rfl ?_
      refine lv_ladd hx hb dX3_runCompressors_108 ?_
      refine x_astJ_L C w (vS hg (by decide)) (cS2 hg) (inb_k (k := 5) (by decide) (by decide)) cl_5 dX3_runCompressors_109 (fun J3 H locs e4 w => ?_)
      replace h := bnd_of h e4
      refine lv_aload_n hx hb dX3_runCompressors_110 rfl (lv_at hl 2 rfl) ?_
      refine lv_dup hx hb dX3_runCompressors_111 rfl ?_
      refine gL_X0_unloadedMinutes hg hz1 C w q6_14 dX3_runCompressors_112 ?_
      refine lv_iconst (v := (1 : Int32)) hx hb dX3_runCompressors_115 (by decide) ?_
      refine lv_iadd hx hb dX3_runCompressors_116 ?_
      refine pL_X0_unloadedMinutes hg hz1 C w q6_14 dX3_runCompressors_117 (fun M5 H locs e6 w => ?_)
      replace h := bnd_of h e6
      exact TX3_runCompressors_120 C hg hk2 _ _ _ h w (lv_sub hl [0, 1] rfl)
noncomputable def fsX3_runCompressors_2 (F : Nat)   (k2 : Int32 → M2 → J2 → Option (M2 × J2)) : Int32 → M2 → J2 → Option (M2 × J2) := fun a1 M J => (if (5 : Int32) ≤ a1 then (some (M, J)) else ((fX3_numbered M J a1).bind (fun vv3 => oc vv3 (fbX3_runCompressors_82 F k2 a1 none M J) (fun z4 => chk (isC z4) ((if ¬ (M z4 1) = (1 : Int32) then (fbX3_runCompressors_82 F k2 a1 (some z4) M J) else (bnd (up2 M 0 1 ((M 0 1) + (M z4 0))) (fun M6 => bnd (up2 J 2 0 ((J 2 0) + (M6 z4 0).toInt64)) (fun J8 => bnd (up2 J8 2 5 ((J8 2 5) + ((10 : Int32) * (M6 z4 0)).toInt64)) (fun J10 => bnd (up2 M6 z4 3 ((M6 z4 3) + (1 : Int32))) (fun M12 => fbX3_runCompressors_120 F k2 a1 M12 J10)))))))))))
noncomputable def fbX3_runCompressors_2 (F : Nat)   (n : Nat) : Int32 → M2 → J2 → Option (M2 × J2) := itr (fsX3_runCompressors_2 F ) (fun _ _ _ => none) n
set_option maxRecDepth 20000 in
set_option maxHeartbeats 1000000 in
theorem SX3_runCompressors_2 {MR : M2} {JR : J2}   {k2 : Int32 → M2 → J2 → Option (M2 × J2)} (C : Cx E A p s m args meth c wdX3_runCompressors cX3_runCompressors 3 none RX3) (hg : g < 6)  (hk2 : ∀ (a1 : Int32) (M : M2) (J : J2)  (ls : Array Slot) (H : Heap) (locs : List Loc), k2 a1 M J = some (MR, JR) → Wd E A s (sg G g M) (sg K g J) H locs → lv_has ls 3 [(0, .ref (ad E g 0)), (1, .int a1)] → W p l e rmX3_runCompressors s m args below meth c H locs 0 0 (QV E A below args s  (sg G g MR) (sg K g JR)) (F0 m 2 ls [])) (a1 : Int32) (M : M2) (J : J2)  (h : fsX3_runCompressors_2 F  k2 a1 M J = some (MR, JR)) (w : Wd E A s (sg G g M) (sg K g J) H locs) (hl : lv_has ls 3 [(0, .ref (ad E g 0)), (1, .int a1)]) : W p l e rmX3_runCompressors s m args below meth c H locs 0 0 (QV E A below args s  (sg G g MR) (sg K g JR)) (F0 m 2 ls []) := by
  obtain ⟨hx, hb, hr, hml, hown, hts, hlocks, hKK, hA1, hA2⟩ := id C
  unfold fsX3_runCompressors_2 at h
  refine lv_iload_n hx hb dX3_runCompressors_2 rfl (lv_at hl 1 rfl) ?_
  refine lv_iconst (v := (5 : Int32)) hx hb dX3_runCompressors_3 (by decide) ?_
  refine lv_icmp_ge (tgt := 126) hx hb dX3_runCompressors_4 (by decide) (fun c1 => ?_) (fun c1 => ?_)
  · replace h := ite_t h c1
    obtain ⟨e2, e3⟩ := rt2 h
    exact x_rv C w (by rw [e2]) (by rw [e3]) dX3_runCompressors_126
  · replace h := ite_f h c1
    refine lv_aload_n hx hb dX3_runCompressors_7 rfl (lv_at hl 0 rfl) ?_
    refine lv_iload_n hx hb dX3_runCompressors_8 rfl (lv_at hl 1 rfl) ?_
    obtain ⟨vv3, hv2, h⟩ := bind_of h
    refine x_cVq (As := [.int a1]) (rest := []) C w (vS hg (by decide)) (cel_S hg) rfl (mtX3_numbered hg hv2) q5_2 q5_3 q5_4 q1_12 q5_5 ydX3_numbered ⟨rfl, rfl⟩ ⟨by decide, by decide⟩ ⟨Nat.zero_le _, Nat.zero_le _⟩ hl.1 (Nat.le_of_ble_eq_true rfl) rfl dX3_runCompressors_9 (fun H locs w => ?_)
    cases vv3 with
    | none =>
      replace h := oc_n h
      refine lv_astore_nN (lv' := [(2, .null), (0, .ref (ad E g 0)), (1, .int a1)]) hx hb dX3_runCompressors_12 rfl hl (by decide) rfl (fun ls hl => ?_)
      refine lv_aload_nN hx hb dX3_runCompressors_13 rfl (lv_at hl 0 rfl) ?_
      refine lv_ifnullN (tgt := 82) hx hb dX3_runCompressors_14 (by decide) ?_
      exact TX3_runCompressors_82 C hg hk2 _ _ _ _ (fun _ h => by cases h) h w (lv_sub hl [1, 2, 0] rfl)
    | some z4 =>
      replace h := oc_s h
      obtain ⟨hz4, h⟩ := chk_of h
      refine lv_astore_n (lv' := [(2, .ref (ad E g z4)), (0, .ref (ad E g 0)), (1, .int a1)]) hx hb dX3_runCompressors_12 rfl hl (by decide) rfl (fun ls hl => ?_)
      refine lv_aload_n hx hb dX3_runCompressors_13 rfl (lv_at hl 0 rfl) ?_
      refine lv_ifnull hx hb dX3_runCompressors_14 ?_
      refine lv_aload_n hx hb dX3_runCompressors_17 rfl (lv_at hl 0 rfl) ?_
      refine gL_X0_mode hg hz4 C w q5_1 dX3_runCompressors_18 ?_
      refine lv_iconst (v := (1 : Int32)) hx hb dX3_runCompressors_21 (by decide) ?_
      refine lv_icmp_ne (tgt := 82) hx hb dX3_runCompressors_22 (by decide) (fun c5 => ?_) (fun c5 => ?_)
      · replace h := ite_t h c5
        exact TX3_runCompressors_82 C hg hk2 _ _ _ _ (fun _ h => by cases h; exact hz4) h w (lv_sub hl [1, 2, 0] rfl)
      · replace h := ite_f h (fun z => z c5)
        refine lv_aload_n hx hb dX3_runCompressors_25 rfl (lv_at hl 1 rfl) ?_
        refine lv_dup hx hb dX3_runCompressors_26 rfl ?_
        refine gL_X3_air hg C w q2_4 dX3_runCompressors_27 ?_
        refine lv_aload_n hx hb dX3_runCompressors_30 rfl (lv_at hl 0 rfl) ?_
        refine gL_X0_capacity hg hz4 C w q5_10 dX3_runCompressors_31 ?_
        refine lv_iadd hx hb dX3_runCompressors_34 ?_
        refine pL_X3_air hg C w q2_4 dX3_runCompressors_35 (fun M6 H locs e7 w => ?_)
        replace h := bnd_of h e7
        refine lv_aload_n hx hb dX3_runCompressors_38 rfl (lv_at hl 1 rfl) ?_
        refine gR_X3_amounts hg C w q2_8 dX3_runCompressors_39 ?_
        refine lv_iconst (v := (0 : Int32)) hx hb dX3_runCompressors_42 (by decide) ?_
        refine lv_dup2_11 hx hb dX3_runCompressors_43 rfl rfl ?_
        refine x_aldJ_L C w (vS hg (by decide)) (cS2 hg) (inb_k (k := 0) (by decide) (by decide)) cl_0 dX3_runCompressors_44 ?_
        refine lv_aload_n hx hb dX3_runCompressors_45 rfl (lv_at hl 0 rfl) ?_
        refine gL_X0_capacity hg hz4 C w q5_10 dX3_runCompressors_46 ?_
        refine lv_i2l hx hb dX3_runCompressors_49 rfl ?_
        refine lv_ladd hx hb dX3_runCompressors_50 ?_
        refine x_astJ_L C w (vS hg (by decide)) (cS2 hg) (inb_k (k := 0) (by decide) (by decide)) cl_0 dX3_runCompressors_51 (fun J8 H locs e9 w => ?_)
        replace h := bnd_of h e9
        refine lv_aload_n hx hb dX3_runCompressors_52 rfl (lv_at hl 1 rfl) ?_
        refine gR_X3_amounts hg C w q2_8 dX3_runCompressors_53 ?_
        refine lv_iconst (v := (5 : Int32)) hx hb dX3_runCompressors_56 (by decide) ?_
        refine lv_dup2_11 hx hb dX3_runCompressors_57 rfl rfl ?_
        refine x_aldJ_L C w (vS hg (by decide)) (cS2 hg) (inb_k (k := 5) (by decide) (by decide)) cl_5 dX3_runCompressors_58 ?_
        refine lv_bipush (v := (10 : Int32)) hx hb dX3_runCompressors_59 (by decide) ?_
        refine lv_aload_n hx hb dX3_runCompressors_61 rfl (lv_at hl 0 rfl) ?_
        refine gL_X0_capacity hg hz4 C w q5_10 dX3_runCompressors_62 ?_
        refine lv_imul hx hb dX3_runCompressors_65 ?_
        refine lv_i2l hx hb dX3_runCompressors_66 rfl ?_
        refine lv_ladd hx hb dX3_runCompressors_67 ?_
        refine x_astJ_L C w (vS hg (by decide)) (cS2 hg) (inb_k (k := 5) (by decide) (by decide)) cl_5 dX3_runCompressors_68 (fun J10 H locs e11 w => ?_)
        replace h := bnd_of h e11
        refine lv_aload_n hx hb dX3_runCompressors_69 rfl (lv_at hl 0 rfl) ?_
        refine lv_dup hx hb dX3_runCompressors_70 rfl ?_
        refine gL_X0_loadedMinutes hg hz4 C w q6_13 dX3_runCompressors_71 ?_
        refine lv_iconst (v := (1 : Int32)) hx hb dX3_runCompressors_74 (by decide) ?_
        refine lv_iadd hx hb dX3_runCompressors_75 ?_
        refine pL_X0_loadedMinutes hg hz4 C w q6_13 dX3_runCompressors_76 (fun M12 H locs e13 w => ?_)
        replace h := bnd_of h e13
        refine lv_goto (tgt := 120) hx hb dX3_runCompressors_79 (by decide) ?_
        exact TX3_runCompressors_120 C hg hk2 _ _ _ h w (lv_sub hl [1, 2] rfl)
theorem TX3_runCompressors_2 {MR : M2} {JR : J2}   (C : Cx E A p s m args meth c wdX3_runCompressors cX3_runCompressors 3 none RX3) (hg : g < 6)  : ∀ (n : Nat) (a1 : Int32) (M : M2) (J : J2)  (ls : Array Slot) (H : Heap) (locs : List Loc), fbX3_runCompressors_2 F  n a1 M J = some (MR, JR) → Wd E A s (sg G g M) (sg K g J) H locs → lv_has ls 3 [(0, .ref (ad E g 0)), (1, .int a1)] → W p l e rmX3_runCompressors s m args below meth c H locs 0 0 (QV E A below args s  (sg G g MR) (sg K g JR)) (F0 m 2 ls []) := by
  intro n
  induction n with
  | zero => intro a1 M J  ls H locs h; exact absurd (show none = _ from h) (fun z => nomatch z)
  | succ n ih => intro a1 M J  ls H locs h w hl; exact SX3_runCompressors_2 (F := F) C hg  ih a1 M J  h w hl
noncomputable def fX3_runCompressors (F : Nat)   (M : M2) (J : J2) : Option (M2 × J2) := fbX3_runCompressors_2 F F (0 : Int32) M J
set_option maxRecDepth 20000 in
set_option maxHeartbeats 1000000 in
theorem TX3_runCompressors {MR : M2} {JR : J2}  (C : Cx E A p s m args meth c wdX3_runCompressors cX3_runCompressors 3 none RX3) (hg : g < 6)   (h : fX3_runCompressors F  M J = some (MR, JR)) (w : Wd E A s (sg G g M) (sg K g J) H locs) (hl : lv_has ls 3 [(0, .ref (ad E g 0))]) : W p l e rmX3_runCompressors s m args below meth c H locs 0 0 (QV E A below args s  (sg G g MR) (sg K g JR)) (F0 m 0 ls []) := by
  obtain ⟨hx, hb, hr, hml, hown, hts, hlocks, hKK, hA1, hA2⟩ := id C
  unfold fX3_runCompressors at h
  refine lv_iconst (v := (0 : Int32)) hx hb dX3_runCompressors_0 (by decide) ?_
  refine lv_istore_n (lv' := [(1, .int (0 : Int32)), (0, .ref (ad E g 0))]) hx hb dX3_runCompressors_1 rfl hl (by decide) rfl (fun ls hl => ?_)
  exact TX3_runCompressors_2 C hg  _ _ _ _ _ _ _ h w (lv_sub hl [1, 0] rfl)
theorem mtX3_runCompressors {MR : M2} {JR : J2}  (hg : g < 6)   (h : fX3_runCompressors F  M J = some (MR, JR)) : MtV l yX3_runCompressors wdX3_runCompressors rmX3_runCompressors E [.ref (ad E g 0)] (sg G g M) (sg K g J)  (sg G g MR) (sg K g JR) := by
  intro sz
  refine Met.ofW (cc := cX3_runCompressors) (maxL := 3) (ret := none) (by decide) rfl ?_
  intro p e s m args below meth c s₁ B hml hv
  obtain ⟨rfl, C, w⟩ := Cx.of (own := RX3) B rfl hml hv
  have hl := lv_entry ([.ref (ad E g 0)]) (n := 3) (by first | exact Nat.le_of_ble_eq_true rfl)
  rw [lg_entry_eq]
  generalize (lg_sl ([.ref (ad E g 0)]) ++ List.replicate (3 - (lg_sl ([.ref (ad E g 0)])).length) Slot.unset).toArray = ls at hl ⊢
  exact TX3_runCompressors C hg  h w hl
theorem ydX3_runCompressors : yX3_runCompressors.cls = RX3 ∧ yX3_runCompressors.cls ≠ "java/lang/invoke/MethodHandle" ∧ yX3_runCompressors.cls ≠ "java/lang/invoke/VarHandle" ∧ (parseMethodDescriptor yX3_runCompressors.desc).map (fun d => d.parameters.length) = some 0 := by decide +kernel
/-! X3.blowOff()V -/
abbrev rmX3_blowOff : Room := { frames := 2, cells := 0, slots := 0, locals := 33 }
abbrev wdX3_blowOff : Cond := Cond.code yX3_blowOff cX3_blowOff 2 none
noncomputable def fX3_blowOff   (M : M2) (J : J2) : Option (M2 × J2) := (fX4_pressureOf (M 0 1) (M 0 0)).bind (fun vv2 => (if vv2 ≤ (M 1 2) then (some (M, J)) else (bnd (up2 J 2 4 ((J 2 4) + ((M 0 1) - (((M 1 2) * (M 0 0)) / (1000 : Int32))).toInt64)) (fun J4 => bnd (up2 M 0 1 (((M 1 2) * (M 0 0)) / (1000 : Int32))) (fun M6 => some (M6, J4))))))
set_option maxRecDepth 20000 in
set_option maxHeartbeats 1000000 in
theorem TX3_blowOff {MR : M2} {JR : J2}  (C : Cx E A p s m args meth c wdX3_blowOff cX3_blowOff 2 none RX3) (hg : g < 6)   (h : fX3_blowOff  M J = some (MR, JR)) (w : Wd E A s (sg G g M) (sg K g J) H locs) (hl : lv_has ls 2 [(0, .ref (ad E g 0))]) : W p l e rmX3_blowOff s m args below meth c H locs 0 0 (QV E A below args s  (sg G g MR) (sg K g JR)) (F0 m 0 ls []) := by
  obtain ⟨hx, hb, hr, hml, hown, hts, hlocks, hKK, hA1, hA2⟩ := id C
  unfold fX3_blowOff at h
  refine lv_aload_n hx hb dX3_blowOff_0 rfl (lv_at hl 0 rfl) ?_
  refine gL_X3_air hg C w q2_4 dX3_blowOff_1 ?_
  refine lv_aload_n hx hb dX3_blowOff_4 rfl (lv_at hl 0 rfl) ?_
  refine gL_X3_volume hg C w q2_3 dX3_blowOff_5 ?_
  obtain ⟨vv2, hv1, h⟩ := bind_of h
  refine x_cNi (As := [.int (M 0 1), .int (M 0 0)]) (rest := []) C w (mtX4_pressureOf  hv1) (List.mem_of_getElem? (i := 0) rfl) q4_19 q1_2 q4_20 ynX4_pressureOf ⟨rfl, rfl⟩ ⟨by decide, by decide⟩ ⟨Nat.zero_le _, Nat.zero_le _⟩ hl.1 (Nat.le_of_ble_eq_true rfl) rfl dX3_blowOff_8 (fun H locs w => ?_)
  refine lv_aload_n hx hb dX3_blowOff_11 rfl (lv_at hl 0 rfl) ?_
  refine gR_X3_settings hg C w q2_6 dX3_blowOff_12 ?_
  refine lv_iconst (v := (2 : Int32)) hx hb dX3_blowOff_15 (by decide) ?_
  refine x_aldI_L C w (vS hg (by decide)) (cS1 hg) (inb_k (k := 2) (by decide) (by decide)) cl_2 dX3_blowOff_16 ?_
  refine lv_icmp_le (tgt := 57) hx hb dX3_blowOff_17 (by decide) (fun c3 => ?_) (fun c3 => ?_)
  · replace h := ite_t h c3
    obtain ⟨e2, e3⟩ := rt2 h
    exact x_rv C w (by rw [e2]) (by rw [e3]) dX3_blowOff_57
  · replace h := ite_f h c3
    refine lv_aload_n hx hb dX3_blowOff_20 rfl (lv_at hl 0 rfl) ?_
    refine gR_X3_settings hg C w q2_6 dX3_blowOff_21 ?_
    refine lv_iconst (v := (2 : Int32)) hx hb dX3_blowOff_24 (by decide) ?_
    refine x_aldI_L C w (vS hg (by decide)) (cS1 hg) (inb_k (k := 2) (by decide) (by decide)) cl_2 dX3_blowOff_25 ?_
    refine lv_aload_n hx hb dX3_blowOff_26 rfl (lv_at hl 0 rfl) ?_
    refine gL_X3_volume hg C w q2_3 dX3_blowOff_27 ?_
    refine lv_imul hx hb dX3_blowOff_30 ?_
    refine lv_sipush (v := (1000 : Int32)) hx hb dX3_blowOff_31 (by decide) ?_
    refine lv_idiv hx hb dX3_blowOff_34 (by decide) ?_
    refine lv_istore_n (lv' := [(1, .int (((M 1 2) * (M 0 0)) / (1000 : Int32))), (0, .ref (ad E g 0))]) hx hb dX3_blowOff_35 rfl hl (by decide) rfl (fun ls hl => ?_)
    refine lv_aload_n hx hb dX3_blowOff_36 rfl (lv_at hl 1 rfl) ?_
    refine gR_X3_amounts hg C w q2_8 dX3_blowOff_37 ?_
    refine lv_iconst (v := (4 : Int32)) hx hb dX3_blowOff_40 (by decide) ?_
    refine lv_dup2_11 hx hb dX3_blowOff_41 rfl rfl ?_
    refine x_aldJ_L C w (vS hg (by decide)) (cS2 hg) (inb_k (k := 4) (by decide) (by decide)) cl_4 dX3_blowOff_42 ?_
    refine lv_aload_n hx hb dX3_blowOff_43 rfl (lv_at hl 1 rfl) ?_
    refine gL_X3_air hg C w q2_4 dX3_blowOff_44 ?_
    refine lv_iload_n hx hb dX3_blowOff_47 rfl (lv_at hl 0 rfl) ?_
    refine lv_isub hx hb dX3_blowOff_48 ?_
    refine lv_i2l hx hb dX3_blowOff_49 rfl ?_
    refine lv_ladd hx hb dX3_blowOff_50 ?_
    refine x_astJ_L C w (vS hg (by decide)) (cS2 hg) (inb_k (k := 4) (by decide) (by decide)) cl_4 dX3_blowOff_51 (fun J4 H locs e5 w => ?_)
    replace h := bnd_of h e5
    refine lv_aload_n hx hb dX3_blowOff_52 rfl (lv_at hl 1 rfl) ?_
    refine lv_iload_n hx hb dX3_blowOff_53 rfl (lv_at hl 0 rfl) ?_
    refine pL_X3_air hg C w q2_4 dX3_blowOff_54 (fun M6 H locs e7 w => ?_)
    replace h := bnd_of h e7
    obtain ⟨e2, e3⟩ := rt2 h
    exact x_rv C w (by rw [e2]) (by rw [e3]) dX3_blowOff_57
theorem mtX3_blowOff {MR : M2} {JR : J2}  (hg : g < 6)   (h : fX3_blowOff  M J = some (MR, JR)) : MtV l yX3_blowOff wdX3_blowOff rmX3_blowOff E [.ref (ad E g 0)] (sg G g M) (sg K g J)  (sg G g MR) (sg K g JR) := by
  intro sz
  refine Met.ofW (cc := cX3_blowOff) (maxL := 2) (ret := none) (by decide) rfl ?_
  intro p e s m args below meth c s₁ B hml hv
  obtain ⟨rfl, C, w⟩ := Cx.of (own := RX3) B rfl hml hv
  have hl := lv_entry ([.ref (ad E g 0)]) (n := 2) (by first | exact Nat.le_of_ble_eq_true rfl)
  rw [lg_entry_eq]
  generalize (lg_sl ([.ref (ad E g 0)]) ++ List.replicate (2 - (lg_sl ([.ref (ad E g 0)])).length) Slot.unset).toArray = ls at hl ⊢
  exact TX3_blowOff C hg  h w hl
theorem ydX3_blowOff : yX3_blowOff.cls = RX3 ∧ yX3_blowOff.cls ≠ "java/lang/invoke/MethodHandle" ∧ yX3_blowOff.cls ≠ "java/lang/invoke/VarHandle" ∧ (parseMethodDescriptor yX3_blowOff.desc).map (fun d => d.parameters.length) = some 0 := by decide +kernel
/-! X3.runFlows(II)I -/
abbrev rmX3_runFlows : Room := { frames := 3, cells := 0, slots := 0, locals := 55 }
abbrev wdX3_runFlows : Cond := Cond.code yX3_runFlows cX3_runFlows 5 (some .int)
noncomputable def fX3_runFlows (F : Nat)  (x1 : Int32) (x2 : Int32) (M : M2) (J : J2) : Option (Int32 × M2 × J2) := bd2 (fX3_runCompressors F M J) (fun M2 J3 => bnd (up2 M2 0 1 ((M2 0 1) - (if (M2 0 1) < (fX3_leakAt M2 J3 x1) then (M2 0 1) else (fX3_leakAt M2 J3 x1)))) (fun M4 => bnd (up2 M4 0 1 ((M4 0 1) - (if (M4 0 1) < x2 then (M4 0 1) else x2))) (fun M6 => bnd (up2 J3 2 1 ((J3 2 1) + (if (M2 0 1) < (fX3_leakAt M2 J3 x1) then (M2 0 1) else (fX3_leakAt M2 J3 x1)).toInt64)) (fun J8 => bnd (up2 J8 2 2 ((J8 2 2) + (if (M4 0 1) < x2 then (M4 0 1) else x2).toInt64)) (fun J10 => bnd (up2 J10 2 3 ((J10 2 3) + (x2 - (if (M4 0 1) < x2 then (M4 0 1) else x2)).toInt64)) (fun J12 => bd2 (fX3_blowOff M6 J12) (fun M15 J16 => bnd (up2 M15 0 2 ((M15 0 2) + (1 : Int32))) (fun M17 => bnd (up2 M17 0 3 ((M17 0 3) + (1 : Int32))) (fun M19 => some ((if (M2 0 1) < (fX3_leakAt M2 J3 x1) then (M2 0 1) else (fX3_leakAt M2 J3 x1)), M19, J16))))))))))
set_option maxRecDepth 20000 in
set_option maxHeartbeats 1000000 in
theorem TX3_runFlows {rr : Int32} {MR : M2} {JR : J2}  (C : Cx E A p s m args meth c wdX3_runFlows cX3_runFlows 5 (some .int) RX3) (hg : g < 6) {x1 : Int32} {x2 : Int32}  (h : fX3_runFlows F  x1 x2 M J = some (rr, MR, JR)) (w : Wd E A s (sg G g M) (sg K g J) H locs) (hl : lv_has ls 5 [(0, .ref (ad E g 0)), (1, .int x1), (2, .int x2)]) : W p l e rmX3_runFlows s m args below meth c H locs 0 0 (QI E A below args s rr (sg G g MR) (sg K g JR)) (F0 m 0 ls []) := by
  obtain ⟨hx, hb, hr, hml, hown, hts, hlocks, hKK, hA1, hA2⟩ := id C
  unfold fX3_runFlows at h
  refine lv_aload_n hx hb dX3_runFlows_0 rfl (lv_at hl 0 rfl) ?_
  obtain ⟨M2, J3, hv1, h⟩ := bd2_of h
  refine x_cVv (As := []) (rest := []) C w (vS hg (by decide)) (cel_S hg) rfl (mtX3_runCompressors hg hv1) q13_13 q13_14 q13_15 q1_12 q13_16 ydX3_runCompressors ⟨rfl, rfl⟩ ⟨by decide, by decide⟩ ⟨Nat.zero_le _, Nat.zero_le _⟩ hl.1 (Nat.le_of_ble_eq_true rfl) rfl dX3_runFlows_1 (fun H locs w => ?_)
  refine lv_aload_n hx hb dX3_runFlows_4 rfl (lv_at hl 0 rfl) ?_
  refine lv_iload_n hx hb dX3_runFlows_5 rfl (lv_at hl 1 rfl) ?_
  refine x_cVi (As := [.int x1]) (rest := []) C w (vS hg (by decide)) (cel_S hg) rfl (mtX3_leakAt hg) q13_17 q13_18 q13_19 q1_12 q13_20 ydX3_leakAt ⟨rfl, rfl⟩ ⟨by decide, by decide⟩ ⟨Nat.zero_le _, Nat.zero_le _⟩ hl.1 (Nat.le_of_ble_eq_true rfl) rfl dX3_runFlows_6 (fun H locs w => ?_)
  refine lv_aload_n hx hb dX3_runFlows_9 rfl (lv_at hl 0 rfl) ?_
  refine gL_X3_air hg C w q2_4 dX3_runFlows_10 ?_
  refine x_min C hl.1 q13_12 q9_8 q9_9 q9_10 (by decide) (show _ ≤ _ from Nat.le_of_ble_eq_true rfl) (Nat.zero_le _) (Nat.zero_le _) dX3_runFlows_13 ?_
  refine lv_istore_n (lv' := [(3, .int (if (M2 0 1) < (fX3_leakAt M2 J3 x1) then (M2 0 1) else (fX3_leakAt M2 J3 x1))), (0, .ref (ad E g 0)), (1, .int x1), (2, .int x2)]) hx hb dX3_runFlows_16 rfl hl (by decide) rfl (fun ls hl => ?_)
  refine lv_aload_n hx hb dX3_runFlows_17 rfl (lv_at hl 1 rfl) ?_
  refine lv_dup hx hb dX3_runFlows_18 rfl ?_
  refine gL_X3_air hg C w q2_4 dX3_runFlows_19 ?_
  refine lv_iload_n hx hb dX3_runFlows_22 rfl (lv_at hl 0 rfl) ?_
  refine lv_isub hx hb dX3_runFlows_23 ?_
  refine pL_X3_air hg C w q2_4 dX3_runFlows_24 (fun M4 H locs e5 w => ?_)
  replace h := bnd_of h e5
  refine lv_iload_n hx hb dX3_runFlows_27 rfl (lv_at hl 3 rfl) ?_
  refine lv_aload_n hx hb dX3_runFlows_28 rfl (lv_at hl 1 rfl) ?_
  refine gL_X3_air hg C w q2_4 dX3_runFlows_29 ?_
  refine x_min C hl.1 q13_12 q9_8 q9_9 q9_10 (by decide) (show _ ≤ _ from Nat.le_of_ble_eq_true rfl) (Nat.zero_le _) (Nat.zero_le _) dX3_runFlows_32 ?_
  refine lv_istore (lv' := [(4, .int (if (M4 0 1) < x2 then (M4 0 1) else x2)), (3, .int (if (M2 0 1) < (fX3_leakAt M2 J3 x1) then (M2 0 1) else (fX3_leakAt M2 J3 x1))), (0, .ref (ad E g 0)), (1, .int x1), (2, .int x2)]) hx hb dX3_runFlows_35 hl (by decide) rfl (fun ls hl => ?_)
  refine lv_aload_n hx hb dX3_runFlows_37 rfl (lv_at hl 2 rfl) ?_
  refine lv_dup hx hb dX3_runFlows_38 rfl ?_
  refine gL_X3_air hg C w q2_4 dX3_runFlows_39 ?_
  refine lv_iload hx hb dX3_runFlows_42 (lv_at hl 0 rfl) ?_
  refine lv_isub hx hb dX3_runFlows_44 ?_
  refine pL_X3_air hg C w q2_4 dX3_runFlows_45 (fun M6 H locs e7 w => ?_)
  replace h := bnd_of h e7
  refine lv_aload_n hx hb dX3_runFlows_48 rfl (lv_at hl 2 rfl) ?_
  refine gR_X3_amounts hg C w q2_8 dX3_runFlows_49 ?_
  refine lv_iconst (v := (1 : Int32)) hx hb dX3_runFlows_52 (by decide) ?_
  refine lv_dup2_11 hx hb dX3_runFlows_53 rfl rfl ?_
  refine x_aldJ_L C w (vS hg (by decide)) (cS2 hg) (inb_k (k := 1) (by decide) (by decide)) cl_1 dX3_runFlows_54 ?_
  refine lv_iload_n hx hb dX3_runFlows_55 rfl (lv_at hl 1 rfl) ?_
  refine lv_i2l hx hb dX3_runFlows_56 rfl ?_
  refine lv_ladd hx hb dX3_runFlows_57 ?_
  refine x_astJ_L C w (vS hg (by decide)) (cS2 hg) (inb_k (k := 1) (by decide) (by decide)) cl_1 dX3_runFlows_58 (fun J8 H locs e9 w => ?_)
  replace h := bnd_of h e9
  refine lv_aload_n hx hb dX3_runFlows_59 rfl (lv_at hl 2 rfl) ?_
  refine gR_X3_amounts hg C w q2_8 dX3_runFlows_60 ?_
  refine lv_iconst (v := (2 : Int32)) hx hb dX3_runFlows_63 (by decide) ?_
  refine lv_dup2_11 hx hb dX3_runFlows_64 rfl rfl ?_
  refine x_aldJ_L C w (vS hg (by decide)) (cS2 hg) (inb_k (k := 2) (by decide) (by decide)) cl_2 dX3_runFlows_65 ?_
  refine lv_iload hx hb dX3_runFlows_66 (lv_at hl 0 rfl) ?_
  refine lv_i2l hx hb dX3_runFlows_68 rfl ?_
  refine lv_ladd hx hb dX3_runFlows_69 ?_
  refine x_astJ_L C w (vS hg (by decide)) (cS2 hg) (inb_k (k := 2) (by decide) (by decide)) cl_2 dX3_runFlows_70 (fun J10 H locs e11 w => ?_)
  replace h := bnd_of h e11
  refine lv_aload_n hx hb dX3_runFlows_71 rfl (lv_at hl 2 rfl) ?_
  refine gR_X3_amounts hg C w q2_8 dX3_runFlows_72 ?_
  refine lv_iconst (v := (3 : Int32)) hx hb dX3_runFlows_75 (by decide) ?_
  refine lv_dup2_11 hx hb dX3_runFlows_76 rfl rfl ?_
  refine x_aldJ_L C w (vS hg (by decide)) (cS2 hg) (inb_k (k := 3) (by decide) (by decide)) cl_3 dX3_runFlows_77 ?_
  refine lv_iload_n hx hb dX3_runFlows_78 rfl (lv_at hl 4 rfl) ?_
  refine lv_iload hx hb dX3_runFlows_79 (lv_at hl 0 rfl) ?_
  refine lv_isub hx hb dX3_runFlows_81 ?_
  refine lv_i2l hx hb dX3_runFlows_82 rfl ?_
  refine lv_ladd hx hb dX3_runFlows_83 ?_
  refine x_astJ_L C w (vS hg (by decide)) (cS2 hg) (inb_k (k := 3) (by decide) (by decide)) cl_3 dX3_runFlows_84 (fun J12 H locs e13 w => ?_)
  replace h := bnd_of h e13
  refine lv_aload_n hx hb dX3_runFlows_85 rfl (lv_at hl 2 rfl) ?_
  obtain ⟨M15, J16, hv14, h⟩ := bd2_of h
  refine x_cVv (As := []) (rest := []) C w (vS hg (by decide)) (cel_S hg) rfl (mtX3_blowOff hg hv14) q13_21 q13_22 q13_23 q1_12 q14_0 ydX3_blowOff ⟨rfl, rfl⟩ ⟨by decide, by decide⟩ ⟨Nat.zero_le _, Nat.zero_le _⟩ hl.1 (Nat.le_of_ble_eq_true rfl) rfl dX3_runFlows_86 (fun H locs w => ?_)
  refine lv_aload_n hx hb dX3_runFlows_89 rfl (lv_at hl 2 rfl) ?_
  refine lv_dup hx hb dX3_runFlows_90 rfl ?_
  refine gL_X3_time hg C w q4_11 dX3_runFlows_91 ?_
  refine lv_iconst (v := (1 : Int32)) hx hb dX3_runFlows_94 (by decide) ?_
  refine lv_iadd hx hb dX3_runFlows_95 ?_
  refine pL_X3_time hg C w q4_11 dX3_runFlows_96 (fun M17 H locs e18 w => ?_)
  replace h := bnd_of h e18
  refine lv_aload_n hx hb dX3_runFlows_99 rfl (lv_at hl 2 rfl) ?_
  refine lv_dup hx hb dX3_runFlows_100 rfl ?_
  refine gL_X3_sinceRotation hg C w q4_12 dX3_runFlows_101 ?_
  refine lv_iconst (v := (1 : Int32)) hx hb dX3_runFlows_104 (by decide) ?_
  refine lv_iadd hx hb dX3_runFlows_105 ?_
  refine pL_X3_sinceRotation hg C w q4_12 dX3_runFlows_106 (fun M19 H locs e20 w => ?_)
  replace h := bnd_of h e20
  refine lv_iload_n hx hb dX3_runFlows_109 rfl (lv_at hl 1 rfl) ?_
  obtain ⟨e1, e2, e3⟩ := rt3 h
  exact x_ri C w e1 (by rw [e2]) (by rw [e3]) dX3_runFlows_110
theorem mtX3_runFlows {rr : Int32} {MR : M2} {JR : J2}  (hg : g < 6) {x1 : Int32} {x2 : Int32}  (h : fX3_runFlows F  x1 x2 M J = some (rr, MR, JR)) : MtI l yX3_runFlows wdX3_runFlows rmX3_runFlows E [.ref (ad E g 0), .int x1, .int x2] (sg G g M) (sg K g J) rr (sg G g MR) (sg K g JR) := by
  intro sz
  refine Met.ofW (cc := cX3_runFlows) (maxL := 5) (ret := (some .int)) (by decide) rfl ?_
  intro p e s m args below meth c s₁ B hml hv
  obtain ⟨rfl, C, w⟩ := Cx.of (own := RX3) B rfl hml hv
  have hl := lv_entry ([.ref (ad E g 0), .int x1, .int x2]) (n := 5) (by first | exact Nat.le_of_ble_eq_true rfl)
  rw [lg_entry_eq]
  generalize (lg_sl ([.ref (ad E g 0), .int x1, .int x2]) ++ List.replicate (5 - (lg_sl ([.ref (ad E g 0), .int x1, .int x2])).length) Slot.unset).toArray = ls at hl ⊢
  exact TX3_runFlows C hg  h w hl
theorem ydX3_runFlows : yX3_runFlows.cls = RX3 ∧ yX3_runFlows.cls ≠ "java/lang/invoke/MethodHandle" ∧ yX3_runFlows.cls ≠ "java/lang/invoke/VarHandle" ∧ (parseMethodDescriptor yX3_runFlows.desc).map (fun d => d.parameters.length) = some 2 := by decide +kernel
/-! X3.runMinute()Z -/
abbrev rmX3_runMinute : Room := { frames := 4, cells := 0, slots := 0, locals := 82 }
abbrev wdX3_runMinute : Cond := Cond.code yX3_runMinute cX3_runMinute 3 (some .boolean)
noncomputable def fbX3_runMinute_19 (F : Nat)    (M : M2) (J : J2) : Option (Int32 × M2 × J2) := (fX3_pressure M J).bind (fun vv2 => bd3 (fX3_lookAtAll F vv2 M J) (fun vv6 M4 J5 => bd3 (fX3_runFlows F vv2 (M4 1 6) M4 J5) (fun vv10 M8 J9 => chk (vv6 = 0 ∨ vv6 = 1) (some (vv6, M8, J9)))))
set_option maxRecDepth 20000 in
set_option maxHeartbeats 1000000 in
theorem TX3_runMinute_19 {rr : Int32} {MR : M2} {JR : J2}   (C : Cx E A p s m args meth c wdX3_runMinute cX3_runMinute 3 (some .boolean) RX3) (hg : g < 6)   (M : M2) (J : J2)  (h : fbX3_runMinute_19 F  M J = some (rr, MR, JR)) (w : Wd E A s (sg G g M) (sg K g J) H locs) (hl : lv_has ls 3 [(0, .ref (ad E g 0))]) : W p l e rmX3_runMinute s m args below meth c H locs 0 0 (QI E A below args s rr (sg G g MR) (sg K g JR)) (F0 m 19 ls []) := by
  obtain ⟨hx, hb, hr, hml, hown, hts, hlocks, hKK, hA1, hA2⟩ := id C
  unfold fbX3_runMinute_19 at h
  refine lv_aload_n hx hb dX3_runMinute_19 rfl (lv_at hl 0 rfl) ?_
  obtain ⟨vv2, hv1, h⟩ := bind_of h
  refine x_cVi (As := []) (rest := []) C w (vS hg (by decide)) (cel_S hg) rfl (mtX3_pressure hg hv1) q4_15 q4_16 q4_17 q1_12 q4_18 ydX3_pressure ⟨rfl, rfl⟩ ⟨by decide, by decide⟩ ⟨Nat.zero_le _, Nat.zero_le _⟩ hl.1 (Nat.le_of_ble_eq_true rfl) rfl dX3_runMinute_20 (fun H locs w => ?_)
  refine lv_istore_n (lv' := [(1, .int vv2), (0, .ref (ad E g 0))]) hx hb dX3_runMinute_23 rfl hl (by decide) rfl (fun ls hl => ?_)
  refine lv_aload_n hx hb dX3_runMinute_24 rfl (lv_at hl 1 rfl) ?_
  refine lv_iload_n hx hb dX3_runMinute_25 rfl (lv_at hl 0 rfl) ?_
  obtain ⟨vv6, M4, J5, hv3, h⟩ := bd3_of h
  refine x_cVi (As := [.int vv2]) (rest := []) C w (vS hg (by decide)) (cel_S hg) rfl (mtX3_lookAtAll hg hv3) q15_1 q15_2 q15_3 q1_12 q15_4 ydX3_lookAtAll ⟨rfl, rfl⟩ ⟨by decide, by decide⟩ ⟨Nat.zero_le _, Nat.zero_le _⟩ hl.1 (Nat.le_of_ble_eq_true rfl) rfl dX3_runMinute_26 (fun H locs w => ?_)
  refine lv_istore_n (lv' := [(2, .int vv6), (1, .int vv2), (0, .ref (ad E g 0))]) hx hb dX3_runMinute_29 rfl hl (by decide) rfl (fun ls hl => ?_)
  refine lv_aload_n hx hb dX3_runMinute_30 rfl (lv_at hl 2 rfl) ?_
  refine lv_iload_n hx hb dX3_runMinute_31 rfl (lv_at hl 1 rfl) ?_
  refine lv_aload_n hx hb dX3_runMinute_32 rfl (lv_at hl 2 rfl) ?_
  refine gR_X3_settings hg C w q2_6 dX3_runMinute_33 ?_
  refine lv_bipush (v := (6 : Int32)) hx hb dX3_runMinute_36 (by decide) ?_
  refine x_aldI_L C w (vS hg (by decide)) (cS1 hg) (inb_k (k := 6) (by decide) (by decide)) cl_6 dX3_runMinute_38 ?_
  obtain ⟨vv10, M8, J9, hv7, h⟩ := bd3_of h
  refine x_cVi (As := [.int vv2, .int (M4 1 6)]) (rest := []) C w (vS hg (by decide)) (cel_S hg) rfl (mtX3_runFlows hg hv7) q13_8 q13_9 q13_10 q1_12 q13_11 ydX3_runFlows ⟨rfl, rfl⟩ ⟨by decide, by decide⟩ ⟨Nat.zero_le _, Nat.zero_le _⟩ hl.1 (Nat.le_of_ble_eq_true rfl) rfl dX3_runMinute_39 (fun H locs w => ?_)
  refine lv_pop hx hb dX3_runMinute_42 rfl ?_
  refine lv_iload_n hx hb dX3_runMinute_43 rfl (lv_at hl 0 rfl) ?_
  obtain ⟨kb11, h⟩ := chk_of h
  obtain ⟨e1, e2, e3⟩ := rt3 h
  exact x_rz C w kb11 e1 (by rw [e2]) (by rw [e3]) dX3_runMinute_44
noncomputable def fX3_runMinute (F : Nat)   (M : M2) (J : J2) : Option (Int32 × M2 × J2) := (if (M 0 3) < (M 1 7) then (fbX3_runMinute_19 F  M J) else (bd3 (fX3_reorder F M J) (fun vv5 M3 J4 => fbX3_runMinute_19 F  M3 J4)))
set_option maxRecDepth 20000 in
set_option maxHeartbeats 1000000 in
theorem TX3_runMinute {rr : Int32} {MR : M2} {JR : J2}  (C : Cx E A p s m args meth c wdX3_runMinute cX3_runMinute 3 (some .boolean) RX3) (hg : g < 6)   (h : fX3_runMinute F  M J = some (rr, MR, JR)) (w : Wd E A s (sg G g M) (sg K g J) H locs) (hl : lv_has ls 3 [(0, .ref (ad E g 0))]) : W p l e rmX3_runMinute s m args below meth c H locs 0 0 (QI E A below args s rr (sg G g MR) (sg K g JR)) (F0 m 0 ls []) := by
  obtain ⟨hx, hb, hr, hml, hown, hts, hlocks, hKK, hA1, hA2⟩ := id C
  unfold fX3_runMinute at h
  refine lv_aload_n hx hb dX3_runMinute_0 rfl (lv_at hl 0 rfl) ?_
  refine gL_X3_sinceRotation hg C w q4_12 dX3_runMinute_1 ?_
  refine lv_aload_n hx hb dX3_runMinute_4 rfl (lv_at hl 0 rfl) ?_
  refine gR_X3_settings hg C w q2_6 dX3_runMinute_5 ?_
  refine lv_bipush (v := (7 : Int32)) hx hb dX3_runMinute_8 (by decide) ?_
  refine x_aldI_L C w (vS hg (by decide)) (cS1 hg) (inb_k (k := 7) (by decide) (by decide)) cl_7 dX3_runMinute_10 ?_
  refine lv_icmp_lt (tgt := 19) hx hb dX3_runMinute_11 (by decide) (fun c1 => ?_) (fun c1 => ?_)
  · replace h := ite_t h c1
    exact TX3_runMinute_19 C hg  _ _ h w (lv_sub hl [0] rfl)
  · replace h := ite_f h c1
    refine lv_aload_n hx hb dX3_runMinute_14 rfl (lv_at hl 0 rfl) ?_
    obtain ⟨vv5, M3, J4, hv2, h⟩ := bd3_of h
    refine x_cVi (As := []) (rest := []) C w (vS hg (by decide)) (cel_S hg) rfl (mtX3_reorder hg hv2) q13_0 q13_1 q13_2 q1_12 q13_3 ydX3_reorder ⟨rfl, rfl⟩ ⟨by decide, by decide⟩ ⟨Nat.zero_le _, Nat.zero_le _⟩ hl.1 (Nat.le_of_ble_eq_true rfl) rfl dX3_runMinute_15 (fun H locs w => ?_)
    refine lv_pop hx hb dX3_runMinute_18 rfl ?_
    exact TX3_runMinute_19 C hg  _ _ h w (lv_sub hl [0] rfl)
theorem mtX3_runMinute {rr : Int32} {MR : M2} {JR : J2}  (hg : g < 6)   (h : fX3_runMinute F  M J = some (rr, MR, JR)) : MtI l yX3_runMinute wdX3_runMinute rmX3_runMinute E [.ref (ad E g 0)] (sg G g M) (sg K g J) rr (sg G g MR) (sg K g JR) := by
  intro sz
  refine Met.ofW (cc := cX3_runMinute) (maxL := 3) (ret := (some .boolean)) (by decide) rfl ?_
  intro p e s m args below meth c s₁ B hml hv
  obtain ⟨rfl, C, w⟩ := Cx.of (own := RX3) B rfl hml hv
  have hl := lv_entry ([.ref (ad E g 0)]) (n := 3) (by first | exact Nat.le_of_ble_eq_true rfl)
  rw [lg_entry_eq]
  generalize (lg_sl ([.ref (ad E g 0)]) ++ List.replicate (3 - (lg_sl ([.ref (ad E g 0)])).length) Slot.unset).toArray = ls at hl ⊢
  exact TX3_runMinute C hg  h w hl
theorem ydX3_runMinute : yX3_runMinute.cls = RX3 ∧ yX3_runMinute.cls ≠ "java/lang/invoke/MethodHandle" ∧ yX3_runMinute.cls ≠ "java/lang/invoke/VarHandle" ∧ (parseMethodDescriptor yX3_runMinute.desc).map (fun d => d.parameters.length) = some 0 := by decide +kernel
/-! X3.runMinutes(I)V -/
abbrev rmX3_runMinutes : Room := { frames := 5, cells := 0, slots := 0, locals := 104 }
abbrev wdX3_runMinutes : Cond := Cond.code yX3_runMinutes cX3_runMinutes 3 none
noncomputable def fsX3_runMinutes_2 (F : Nat)   (k2 : Int32 → Int32 → M2 → J2 → Option (M2 × J2)) : Int32 → Int32 → M2 → J2 → Option (M2 × J2) := fun a1 a2 M J => (if a1 ≤ a2 then (some (M, J)) else (bd3 (fX3_runMinute F M J) (fun vv5 M3 J4 => k2 a1 (a2 + (1 : Int32)) M3 J4)))
noncomputable def fbX3_runMinutes_2 (F : Nat)   (n : Nat) : Int32 → Int32 → M2 → J2 → Option (M2 × J2) := itr (fsX3_runMinutes_2 F ) (fun _ _ _ _ => none) n
set_option maxRecDepth 20000 in
set_option maxHeartbeats 1000000 in
theorem SX3_runMinutes_2 {MR : M2} {JR : J2}   {k2 : Int32 → Int32 → M2 → J2 → Option (M2 × J2)} (C : Cx E A p s m args meth c wdX3_runMinutes cX3_runMinutes 3 none RX3) (hg : g < 6)  (hk2 : ∀ (a1 : Int32) (a2 : Int32) (M : M2) (J : J2)  (ls : Array Slot) (H : Heap) (locs : List Loc), k2 a1 a2 M J = some (MR, JR) → Wd E A s (sg G g M) (sg K g J) H locs → lv_has ls 3 [(0, .ref (ad E g 0)), (1, .int a1), (2, .int a2)] → W p l e rmX3_runMinutes s m args below meth c H locs 0 0 (QV E A below args s  (sg G g MR) (sg K g JR)) (F0 m 2 ls [])) (a1 : Int32) (a2 : Int32) (M : M2) (J : J2)  (h : fsX3_runMinutes_2 F  k2 a1 a2 M J = some (MR, JR)) (w : Wd E A s (sg G g M) (sg K g J) H locs) (hl : lv_has ls 3 [(0, .ref (ad E g 0)), (1, .int a1), (2, .int a2)]) : W p l e rmX3_runMinutes s m args below meth c H locs 0 0 (QV E A below args s  (sg G g MR) (sg K g JR)) (F0 m 2 ls []) := by
  obtain ⟨hx, hb, hr, hml, hown, hts, hlocks, hKK, hA1, hA2⟩ := id C
  unfold fsX3_runMinutes_2 at h
  refine lv_iload_n hx hb dX3_runMinutes_2 rfl (lv_at hl 2 rfl) ?_
  refine lv_iload_n hx hb dX3_runMinutes_3 rfl (lv_at hl 1 rfl) ?_
  refine lv_icmp_ge (tgt := 18) hx hb dX3_runMinutes_4 (by decide) (fun c1 => ?_) (fun c1 => ?_)
  · replace h := ite_t h c1
    obtain ⟨e2, e3⟩ := rt2 h
    exact x_rv C w (by rw [e2]) (by rw [e3]) dX3_runMinutes_18
  · replace h := ite_f h c1
    refine lv_aload_n hx hb dX3_runMinutes_7 rfl (lv_at hl 0 rfl) ?_
    obtain ⟨vv5, M3, J4, hv2, h⟩ := bd3_of h
    refine x_cVi (As := []) (rest := []) C w (vS hg (by decide)) (cel_S hg) rfl (mtX3_runMinute hg hv2) q14_21 q14_22 q14_23 q1_12 q15_0 ydX3_runMinute ⟨rfl, rfl⟩ ⟨by decide, by decide⟩ ⟨Nat.zero_le _, Nat.zero_le _⟩ hl.1 (Nat.le_of_ble_eq_true rfl) rfl dX3_runMinutes_8 (fun H locs w => ?_)
    refine lv_pop hx hb dX3_runMinutes_11 rfl ?_
    refine lv_iinc (v := (a2 + (1 : Int32))) (lv' := [(2, .int (a2 + (1 : Int32))), (0, .ref (ad E g 0)), (1, .int a1)]) hx hb dX3_runMinutes_12 hl (k := 2) rfl (congrArg (HAdd.hAdd _) (by decide)) (by decide) rfl (fun ls hl => ?_)
    refine lv_goto (tgt := 2) hx hb dX3_runMinutes_15 (by decide) ?_
    exact hk2 _ _ _ _ _ _ _ h w (lv_sub hl [1, 2, 0] rfl)
theorem TX3_runMinutes_2 {MR : M2} {JR : J2}   (C : Cx E A p s m args meth c wdX3_runMinutes cX3_runMinutes 3 none RX3) (hg : g < 6)  : ∀ (n : Nat) (a1 : Int32) (a2 : Int32) (M : M2) (J : J2)  (ls : Array Slot) (H : Heap) (locs : List Loc), fbX3_runMinutes_2 F  n a1 a2 M J = some (MR, JR) → Wd E A s (sg G g M) (sg K g J) H locs → lv_has ls 3 [(0, .ref (ad E g 0)), (1, .int a1), (2, .int a2)] → W p l e rmX3_runMinutes s m args below meth c H locs 0 0 (QV E A below args s  (sg G g MR) (sg K g JR)) (F0 m 2 ls []) := by
  intro n
  induction n with
  | zero => intro a1 a2 M J  ls H locs h; exact absurd (show none = _ from h) (fun z => nomatch z)
  | succ n ih => intro a1 a2 M J  ls H locs h w hl; exact SX3_runMinutes_2 (F := F) C hg  ih a1 a2 M J  h w hl
noncomputable def fX3_runMinutes (F : Nat)  (x1 : Int32) (M : M2) (J : J2) : Option (M2 × J2) := fbX3_runMinutes_2 F F x1 (0 : Int32) M J
set_option maxRecDepth 20000 in
set_option maxHeartbeats 1000000 in
theorem TX3_runMinutes {MR : M2} {JR : J2}  (C : Cx E A p s m args meth c wdX3_runMinutes cX3_runMinutes 3 none RX3) (hg : g < 6) {x1 : Int32}  (h : fX3_runMinutes F  x1 M J = some (MR, JR)) (w : Wd E A s (sg G g M) (sg K g J) H locs) (hl : lv_has ls 3 [(0, .ref (ad E g 0)), (1, .int x1)]) : W p l e rmX3_runMinutes s m args below meth c H locs 0 0 (QV E A below args s  (sg G g MR) (sg K g JR)) (F0 m 0 ls []) := by
  obtain ⟨hx, hb, hr, hml, hown, hts, hlocks, hKK, hA1, hA2⟩ := id C
  unfold fX3_runMinutes at h
  refine lv_iconst (v := (0 : Int32)) hx hb dX3_runMinutes_0 (by decide) ?_
  refine lv_istore_n (lv' := [(2, .int (0 : Int32)), (0, .ref (ad E g 0)), (1, .int x1)]) hx hb dX3_runMinutes_1 rfl hl (by decide) rfl (fun ls hl => ?_)
  exact TX3_runMinutes_2 C hg  _ _ _ _ _ _ _ _ h w (lv_sub hl [1, 2, 0] rfl)
theorem mtX3_runMinutes {MR : M2} {JR : J2}  (hg : g < 6) {x1 : Int32}  (h : fX3_runMinutes F  x1 M J = some (MR, JR)) : MtV l yX3_runMinutes wdX3_runMinutes rmX3_runMinutes E [.ref (ad E g 0), .int x1] (sg G g M) (sg K g J)  (sg G g MR) (sg K g JR) := by
  intro sz
  refine Met.ofW (cc := cX3_runMinutes) (maxL := 3) (ret := none) (by decide) rfl ?_
  intro p e s m args below meth c s₁ B hml hv
  obtain ⟨rfl, C, w⟩ := Cx.of (own := RX3) B rfl hml hv
  have hl := lv_entry ([.ref (ad E g 0), .int x1]) (n := 3) (by first | exact Nat.le_of_ble_eq_true rfl)
  rw [lg_entry_eq]
  generalize (lg_sl ([.ref (ad E g 0), .int x1]) ++ List.replicate (3 - (lg_sl ([.ref (ad E g 0), .int x1])).length) Slot.unset).toArray = ls at hl ⊢
  exact TX3_runMinutes C hg  h w hl
theorem ydX3_runMinutes : yX3_runMinutes.cls = RX3 ∧ yX3_runMinutes.cls ≠ "java/lang/invoke/MethodHandle" ∧ yX3_runMinutes.cls ≠ "java/lang/invoke/VarHandle" ∧ (parseMethodDescriptor yX3_runMinutes.desc).map (fun d => d.parameters.length) = some 1 := by decide +kernel
/-! X3.unloadAll()V -/
abbrev rmX3_unloadAll : Room := { frames := 2, cells := 0, slots := 0, locals := 33 }
abbrev wdX3_unloadAll : Cond := Cond.code yX3_unloadAll cX3_unloadAll 3 none
noncomputable def fbX3_unloadAll_29 (F : Nat) (k2 : Int32 → M2 → J2 → Option (M2 × J2))  (a1 : Int32) (M : M2) (J : J2) : Option (M2 × J2) := k2 (a1 + (1 : Int32)) M J
set_option maxRecDepth 20000 in
set_option maxHeartbeats 1000000 in
theorem TX3_unloadAll_29 {MR : M2} {JR : J2}  {k2 : Int32 → M2 → J2 → Option (M2 × J2)} (C : Cx E A p s m args meth c wdX3_unloadAll cX3_unloadAll 3 none RX3) (hg : g < 6) (hk2 : ∀ (a1 : Int32) (M : M2) (J : J2)  (ls : Array Slot) (H : Heap) (locs : List Loc), k2 a1 M J = some (MR, JR) → Wd E A s (sg G g M) (sg K g J) H locs → lv_has ls 3 [(0, .ref (ad E g 0)), (1, .int a1)] → W p l e rmX3_unloadAll s m args below meth c H locs 0 0 (QV E A below args s  (sg G g MR) (sg K g JR)) (F0 m 2 ls [])) (a1 : Int32) (M : M2) (J : J2)  (h : fbX3_unloadAll_29 F k2 a1 M J = some (MR, JR)) (w : Wd E A s (sg G g M) (sg K g J) H locs) (hl : lv_has ls 3 [(0, .ref (ad E g 0)), (1, .int a1)]) : W p l e rmX3_unloadAll s m args below meth c H locs 0 0 (QV E A below args s  (sg G g MR) (sg K g JR)) (F0 m 29 ls []) := by
  obtain ⟨hx, hb, hr, hml, hown, hts, hlocks, hKK, hA1, hA2⟩ := id C
  unfold fbX3_unloadAll_29 at h
  refine lv_iinc (v := (a1 + (1 : Int32))) (lv' := [(1, .int (a1 + (1 : Int32))), (0, .ref (ad E g 0))]) hx hb dX3_unloadAll_29 hl (k := 1) rfl (congrArg (HAdd.hAdd _) (by decide)) (by decide) rfl (fun ls hl => ?_)
  refine lv_goto (tgt := 2) hx hb dX3_unloadAll_32 (by decide) ?_
  exact hk2 _ _ _ _ _ _ h w (lv_sub hl [1, 0] rfl)
noncomputable def fsX3_unloadAll_2 (F : Nat)   (k2 : Int32 → M2 → J2 → Option (M2 × J2)) : Int32 → M2 → J2 → Option (M2 × J2) := fun a1 M J => (if (5 : Int32) ≤ a1 then (some (M, J)) else ((fX3_numbered M J a1).bind (fun vv3 => oc vv3 (fbX3_unloadAll_29 F k2 a1 M J) (fun z4 => chk (isC z4) ((if ¬ (M z4 1) = (1 : Int32) then (fbX3_unloadAll_29 F k2 a1 M J) else (bd2 (fX0_unload z4 M J) (fun M7 J8 => fbX3_unloadAll_29 F k2 a1 M7 J8))))))))
noncomputable def fbX3_unloadAll_2 (F : Nat)   (n : Nat) : Int32 → M2 → J2 → Option (M2 × J2) := itr (fsX3_unloadAll_2 F ) (fun _ _ _ => none) n
set_option maxRecDepth 20000 in
set_option maxHeartbeats 1000000 in
theorem SX3_unloadAll_2 {MR : M2} {JR : J2}   {k2 : Int32 → M2 → J2 → Option (M2 × J2)} (C : Cx E A p s m args meth c wdX3_unloadAll cX3_unloadAll 3 none RX3) (hg : g < 6)  (hk2 : ∀ (a1 : Int32) (M : M2) (J : J2)  (ls : Array Slot) (H : Heap) (locs : List Loc), k2 a1 M J = some (MR, JR) → Wd E A s (sg G g M) (sg K g J) H locs → lv_has ls 3 [(0, .ref (ad E g 0)), (1, .int a1)] → W p l e rmX3_unloadAll s m args below meth c H locs 0 0 (QV E A below args s  (sg G g MR) (sg K g JR)) (F0 m 2 ls [])) (a1 : Int32) (M : M2) (J : J2)  (h : fsX3_unloadAll_2 F  k2 a1 M J = some (MR, JR)) (w : Wd E A s (sg G g M) (sg K g J) H locs) (hl : lv_has ls 3 [(0, .ref (ad E g 0)), (1, .int a1)]) : W p l e rmX3_unloadAll s m args below meth c H locs 0 0 (QV E A below args s  (sg G g MR) (sg K g JR)) (F0 m 2 ls []) := by
  obtain ⟨hx, hb, hr, hml, hown, hts, hlocks, hKK, hA1, hA2⟩ := id C
  unfold fsX3_unloadAll_2 at h
  refine lv_iload_n hx hb dX3_unloadAll_2 rfl (lv_at hl 1 rfl) ?_
  refine lv_iconst (v := (5 : Int32)) hx hb dX3_unloadAll_3 (by decide) ?_
  refine lv_icmp_ge (tgt := 35) hx hb dX3_unloadAll_4 (by decide) (fun c1 => ?_) (fun c1 => ?_)
  · replace h := ite_t h c1
    obtain ⟨e2, e3⟩ := rt2 h
    exact x_rv C w (by rw [e2]) (by rw [e3]) dX3_unloadAll_35
  · replace h := ite_f h c1
    refine lv_aload_n hx hb dX3_unloadAll_7 rfl (lv_at hl 0 rfl) ?_
    refine lv_iload_n hx hb dX3_unloadAll_8 rfl (lv_at hl 1 rfl) ?_
    obtain ⟨vv3, hv2, h⟩ := bind_of h
    refine x_cVq (As := [.int a1]) (rest := []) C w (vS hg (by decide)) (cel_S hg) rfl (mtX3_numbered hg hv2) q5_2 q5_3 q5_4 q1_12 q5_5 ydX3_numbered ⟨rfl, rfl⟩ ⟨by decide, by decide⟩ ⟨Nat.zero_le _, Nat.zero_le _⟩ hl.1 (Nat.le_of_ble_eq_true rfl) rfl dX3_unloadAll_9 (fun H locs w => ?_)
    cases vv3 with
    | none =>
      replace h := oc_n h
      refine lv_astore_nN (lv' := [(2, .null), (0, .ref (ad E g 0)), (1, .int a1)]) hx hb dX3_unloadAll_12 rfl hl (by decide) rfl (fun ls hl => ?_)
      refine lv_aload_nN hx hb dX3_unloadAll_13 rfl (lv_at hl 0 rfl) ?_
      refine lv_ifnullN (tgt := 29) hx hb dX3_unloadAll_14 (by decide) ?_
      exact TX3_unloadAll_29 C hg hk2 _ _ _ h w (lv_sub hl [1, 2] rfl)
    | some z4 =>
      replace h := oc_s h
      obtain ⟨hz4, h⟩ := chk_of h
      refine lv_astore_n (lv' := [(2, .ref (ad E g z4)), (0, .ref (ad E g 0)), (1, .int a1)]) hx hb dX3_unloadAll_12 rfl hl (by decide) rfl (fun ls hl => ?_)
      refine lv_aload_n hx hb dX3_unloadAll_13 rfl (lv_at hl 0 rfl) ?_
      refine lv_ifnull hx hb dX3_unloadAll_14 ?_
      refine lv_aload_n hx hb dX3_unloadAll_17 rfl (lv_at hl 0 rfl) ?_
      refine gL_X0_mode hg hz4 C w q5_1 dX3_unloadAll_18 ?_
      refine lv_iconst (v := (1 : Int32)) hx hb dX3_unloadAll_21 (by decide) ?_
      refine lv_icmp_ne (tgt := 29) hx hb dX3_unloadAll_22 (by decide) (fun c5 => ?_) (fun c5 => ?_)
      · replace h := ite_t h c5
        exact TX3_unloadAll_29 C hg hk2 _ _ _ h w (lv_sub hl [1, 2] rfl)
      · replace h := ite_f h (fun z => z c5)
        refine lv_aload_n hx hb dX3_unloadAll_25 rfl (lv_at hl 0 rfl) ?_
        obtain ⟨M7, J8, hv6, h⟩ := bd2_of h
        refine x_cVv (As := []) (rest := []) C w (vC hg hz4) (cel_C hg hz4.1) rfl (mtX0_unload hg hz4 hv6) q12_20 q12_21 q12_22 q2_17 q12_23 ydX0_unload ⟨rfl, rfl⟩ ⟨by decide, by decide⟩ ⟨Nat.zero_le _, Nat.zero_le _⟩ hl.1 (Nat.le_of_ble_eq_true rfl) rfl dX3_unloadAll_26 (fun H locs w => ?_)
        exact TX3_unloadAll_29 C hg hk2 _ _ _ h w (lv_sub hl [1, 2] rfl)
theorem TX3_unloadAll_2 {MR : M2} {JR : J2}   (C : Cx E A p s m args meth c wdX3_unloadAll cX3_unloadAll 3 none RX3) (hg : g < 6)  : ∀ (n : Nat) (a1 : Int32) (M : M2) (J : J2)  (ls : Array Slot) (H : Heap) (locs : List Loc), fbX3_unloadAll_2 F  n a1 M J = some (MR, JR) → Wd E A s (sg G g M) (sg K g J) H locs → lv_has ls 3 [(0, .ref (ad E g 0)), (1, .int a1)] → W p l e rmX3_unloadAll s m args below meth c H locs 0 0 (QV E A below args s  (sg G g MR) (sg K g JR)) (F0 m 2 ls []) := by
  intro n
  induction n with
  | zero => intro a1 M J  ls H locs h; exact absurd (show none = _ from h) (fun z => nomatch z)
  | succ n ih => intro a1 M J  ls H locs h w hl; exact SX3_unloadAll_2 (F := F) C hg  ih a1 M J  h w hl
noncomputable def fX3_unloadAll (F : Nat)   (M : M2) (J : J2) : Option (M2 × J2) := fbX3_unloadAll_2 F F (0 : Int32) M J
set_option maxRecDepth 20000 in
set_option maxHeartbeats 1000000 in
theorem TX3_unloadAll {MR : M2} {JR : J2}  (C : Cx E A p s m args meth c wdX3_unloadAll cX3_unloadAll 3 none RX3) (hg : g < 6)   (h : fX3_unloadAll F  M J = some (MR, JR)) (w : Wd E A s (sg G g M) (sg K g J) H locs) (hl : lv_has ls 3 [(0, .ref (ad E g 0))]) : W p l e rmX3_unloadAll s m args below meth c H locs 0 0 (QV E A below args s  (sg G g MR) (sg K g JR)) (F0 m 0 ls []) := by
  obtain ⟨hx, hb, hr, hml, hown, hts, hlocks, hKK, hA1, hA2⟩ := id C
  unfold fX3_unloadAll at h
  refine lv_iconst (v := (0 : Int32)) hx hb dX3_unloadAll_0 (by decide) ?_
  refine lv_istore_n (lv' := [(1, .int (0 : Int32)), (0, .ref (ad E g 0))]) hx hb dX3_unloadAll_1 rfl hl (by decide) rfl (fun ls hl => ?_)
  exact TX3_unloadAll_2 C hg  _ _ _ _ _ _ _ h w (lv_sub hl [1, 0] rfl)
theorem mtX3_unloadAll {MR : M2} {JR : J2}  (hg : g < 6)   (h : fX3_unloadAll F  M J = some (MR, JR)) : MtV l yX3_unloadAll wdX3_unloadAll rmX3_unloadAll E [.ref (ad E g 0)] (sg G g M) (sg K g J)  (sg G g MR) (sg K g JR) := by
  intro sz
  refine Met.ofW (cc := cX3_unloadAll) (maxL := 3) (ret := none) (by decide) rfl ?_
  intro p e s m args below meth c s₁ B hml hv
  obtain ⟨rfl, C, w⟩ := Cx.of (own := RX3) B rfl hml hv
  have hl := lv_entry ([.ref (ad E g 0)]) (n := 3) (by first | exact Nat.le_of_ble_eq_true rfl)
  rw [lg_entry_eq]
  generalize (lg_sl ([.ref (ad E g 0)]) ++ List.replicate (3 - (lg_sl ([.ref (ad E g 0)])).length) Slot.unset).toArray = ls at hl ⊢
  exact TX3_unloadAll C hg  h w hl
theorem ydX3_unloadAll : yX3_unloadAll.cls = RX3 ∧ yX3_unloadAll.cls ≠ "java/lang/invoke/MethodHandle" ∧ yX3_unloadAll.cls ≠ "java/lang/invoke/VarHandle" ∧ (parseMethodDescriptor yX3_unloadAll.desc).map (fun d => d.parameters.length) = some 0 := by decide +kernel
/-! X3.keepResult(I)V -/
abbrev rmX3_keepResult : Room := { frames := 1, cells := 0, slots := 0, locals := 21 }
abbrev wdX3_keepResult : Cond := Cond.code yX3_keepResult cX3_keepResult 3 none
noncomputable def fsX3_keepResult_2 (F : Nat)   (k2 : Int32 → Int32 → M2 → J2 → Option (M2 × J2)) : Int32 → Int32 → M2 → J2 → Option (M2 × J2) := fun a1 a2 M J => (if a2 ≤ 0 then (bnd (up2 M 3 0 a1) (fun M2 => bnd (up2 M2 0 6 (if (6 : Int32) < ((M2 0 6) + (1 : Int32)) then (6 : Int32) else ((M2 0 6) + (1 : Int32)))) (fun M4 => some (M4, J)))) else (chk (inb (a2 - (1 : Int32)) 6) (chk (inb a2 6) (bnd (up2 M 3 (a2.toNatClampNeg) (M 3 (a2 - (1 : Int32)).toNatClampNeg)) (fun M8 => k2 a1 (a2 + (-1 : Int32)) M8 J)))))
noncomputable def fbX3_keepResult_2 (F : Nat)   (n : Nat) : Int32 → Int32 → M2 → J2 → Option (M2 × J2) := itr (fsX3_keepResult_2 F ) (fun _ _ _ _ => none) n
set_option maxRecDepth 20000 in
set_option maxHeartbeats 1000000 in
theorem SX3_keepResult_2 {MR : M2} {JR : J2}   {k2 : Int32 → Int32 → M2 → J2 → Option (M2 × J2)} (C : Cx E A p s m args meth c wdX3_keepResult cX3_keepResult 3 none RX3) (hg : g < 6)  (hk2 : ∀ (a1 : Int32) (a2 : Int32) (M : M2) (J : J2)  (ls : Array Slot) (H : Heap) (locs : List Loc), k2 a1 a2 M J = some (MR, JR) → Wd E A s (sg G g M) (sg K g J) H locs → lv_has ls 3 [(0, .ref (ad E g 0)), (1, .int a1), (2, .int a2)] → W p l e rmX3_keepResult s m args below meth c H locs 0 0 (QV E A below args s  (sg G g MR) (sg K g JR)) (F0 m 2 ls [])) (a1 : Int32) (a2 : Int32) (M : M2) (J : J2)  (h : fsX3_keepResult_2 F  k2 a1 a2 M J = some (MR, JR)) (w : Wd E A s (sg G g M) (sg K g J) H locs) (hl : lv_has ls 3 [(0, .ref (ad E g 0)), (1, .int a1), (2, .int a2)]) : W p l e rmX3_keepResult s m args below meth c H locs 0 0 (QV E A below args s  (sg G g MR) (sg K g JR)) (F0 m 2 ls []) := by
  obtain ⟨hx, hb, hr, hml, hown, hts, hlocks, hKK, hA1, hA2⟩ := id C
  unfold fsX3_keepResult_2 at h
  refine lv_iload_n hx hb dX3_keepResult_2 rfl (lv_at hl 2 rfl) ?_
  refine lv_if_le (tgt := 26) hx hb dX3_keepResult_3 (by decide) (fun c1 => ?_) (fun c1 => ?_)
  · replace h := ite_t h c1
    refine lv_aload_n hx hb dX3_keepResult_26 rfl (lv_at hl 0 rfl) ?_
    refine gR_X3_results hg C w q2_9 dX3_keepResult_27 ?_
    refine lv_iconst (v := (0 : Int32)) hx hb dX3_keepResult_30 (by decide) ?_
    refine lv_iload_n hx hb dX3_keepResult_31 rfl (lv_at hl 1 rfl) ?_
    refine x_astI_L C w (vS hg (by decide)) (cS3 hg) (inb_k (k := 0) (by decide) (by decide)) cl_0 dX3_keepResult_32 (fun M2 H locs e3 w => ?_)
    replace h := bnd_of h e3
    refine lv_aload_n hx hb dX3_keepResult_33 rfl (lv_at hl 0 rfl) ?_
    refine lv_aload_n hx hb dX3_keepResult_34 rfl (lv_at hl 0 rfl) ?_
    refine gL_X3_kept hg C w q4_14 dX3_keepResult_35 ?_
    refine lv_iconst (v := (1 : Int32)) hx hb dX3_keepResult_38 (by decide) ?_
    refine lv_iadd hx hb dX3_keepResult_39 ?_
    refine lv_bipush (v := (6 : Int32)) hx hb dX3_keepResult_40 (by decide) ?_
    refine x_min C hl.1 q13_12 q9_8 q9_9 q9_10 (by decide) (show _ ≤ _ from Nat.le_of_ble_eq_true rfl) (Nat.zero_le _) (Nat.zero_le _) dX3_keepResult_42 ?_
    refine pL_X3_kept hg C w q4_14 dX3_keepResult_45 (fun M4 H locs e5 w => ?_)
    replace h := bnd_of h e5
    obtain ⟨e2, e3⟩ := rt2 h
    exact x_rv C w (by rw [e2]) (by rw [e3]) dX3_keepResult_48
  · replace h := ite_f h c1
    refine lv_aload_n hx hb dX3_keepResult_6 rfl (lv_at hl 0 rfl) ?_
    refine gR_X3_results hg C w q2_9 dX3_keepResult_7 ?_
    refine lv_iload_n hx hb dX3_keepResult_10 rfl (lv_at hl 2 rfl) ?_
    refine lv_aload_n hx hb dX3_keepResult_11 rfl (lv_at hl 0 rfl) ?_
    refine gR_X3_results hg C w q2_9 dX3_keepResult_12 ?_
    refine lv_iload_n hx hb dX3_keepResult_15 rfl (lv_at hl 2 rfl) ?_
    refine lv_iconst (v := (1 : Int32)) hx hb dX3_keepResult_16 (by decide) ?_
    refine lv_isub hx hb dX3_keepResult_17 ?_
    obtain ⟨ki6, h⟩ := chk_of h
    refine x_aldI_L C w (vS hg (by decide)) (cS3 hg) ki6 rfl dX3_keepResult_18 ?_
    obtain ⟨ki7, h⟩ := chk_of h
    refine x_astI_L C w (vS hg (by decide)) (cS3 hg) ki7 rfl dX3_keepResult_19 (fun M8 H locs e9 w => ?_)
    replace h := bnd_of h e9
    refine lv_iinc (v := (a2 + (-1 : Int32))) (lv' := [(2, .int (a2 + (-1 : Int32))), (0, .ref (ad E g 0)), (1, .int a1)]) hx hb dX3_keepResult_20 hl (k := 2) rfl (congrArg (HAdd.hAdd _) (by decide)) (by decide) rfl (fun ls hl => ?_)
    refine lv_goto (tgt := 2) hx hb dX3_keepResult_23 (by decide) ?_
    exact hk2 _ _ _ _ _ _ _ h w (lv_sub hl [1, 2, 0] rfl)
theorem TX3_keepResult_2 {MR : M2} {JR : J2}   (C : Cx E A p s m args meth c wdX3_keepResult cX3_keepResult 3 none RX3) (hg : g < 6)  : ∀ (n : Nat) (a1 : Int32) (a2 : Int32) (M : M2) (J : J2)  (ls : Array Slot) (H : Heap) (locs : List Loc), fbX3_keepResult_2 F  n a1 a2 M J = some (MR, JR) → Wd E A s (sg G g M) (sg K g J) H locs → lv_has ls 3 [(0, .ref (ad E g 0)), (1, .int a1), (2, .int a2)] → W p l e rmX3_keepResult s m args below meth c H locs 0 0 (QV E A below args s  (sg G g MR) (sg K g JR)) (F0 m 2 ls []) := by
  intro n
  induction n with
  | zero => intro a1 a2 M J  ls H locs h; exact absurd (show none = _ from h) (fun z => nomatch z)
  | succ n ih => intro a1 a2 M J  ls H locs h w hl; exact SX3_keepResult_2 (F := F) C hg  ih a1 a2 M J  h w hl
noncomputable def fX3_keepResult (F : Nat)  (x1 : Int32) (M : M2) (J : J2) : Option (M2 × J2) := fbX3_keepResult_2 F F x1 (5 : Int32) M J
set_option maxRecDepth 20000 in
set_option maxHeartbeats 1000000 in
theorem TX3_keepResult {MR : M2} {JR : J2}  (C : Cx E A p s m args meth c wdX3_keepResult cX3_keepResult 3 none RX3) (hg : g < 6) {x1 : Int32}  (h : fX3_keepResult F  x1 M J = some (MR, JR)) (w : Wd E A s (sg G g M) (sg K g J) H locs) (hl : lv_has ls 3 [(0, .ref (ad E g 0)), (1, .int x1)]) : W p l e rmX3_keepResult s m args below meth c H locs 0 0 (QV E A below args s  (sg G g MR) (sg K g JR)) (F0 m 0 ls []) := by
  obtain ⟨hx, hb, hr, hml, hown, hts, hlocks, hKK, hA1, hA2⟩ := id C
  unfold fX3_keepResult at h
  refine lv_iconst (v := (5 : Int32)) hx hb dX3_keepResult_0 (by decide) ?_
  refine lv_istore_n (lv' := [(2, .int (5 : Int32)), (0, .ref (ad E g 0)), (1, .int x1)]) hx hb dX3_keepResult_1 rfl hl (by decide) rfl (fun ls hl => ?_)
  exact TX3_keepResult_2 C hg  _ _ _ _ _ _ _ _ h w (lv_sub hl [1, 2, 0] rfl)
theorem mtX3_keepResult {MR : M2} {JR : J2}  (hg : g < 6) {x1 : Int32}  (h : fX3_keepResult F  x1 M J = some (MR, JR)) : MtV l yX3_keepResult wdX3_keepResult rmX3_keepResult E [.ref (ad E g 0), .int x1] (sg G g M) (sg K g J)  (sg G g MR) (sg K g JR) := by
  intro sz
  refine Met.ofW (cc := cX3_keepResult) (maxL := 3) (ret := none) (by decide) rfl ?_
  intro p e s m args below meth c s₁ B hml hv
  obtain ⟨rfl, C, w⟩ := Cx.of (own := RX3) B rfl hml hv
  have hl := lv_entry ([.ref (ad E g 0), .int x1]) (n := 3) (by first | exact Nat.le_of_ble_eq_true rfl)
  rw [lg_entry_eq]
  generalize (lg_sl ([.ref (ad E g 0), .int x1]) ++ List.replicate (3 - (lg_sl ([.ref (ad E g 0), .int x1])).length) Slot.unset).toArray = ls at hl ⊢
  exact TX3_keepResult C hg  h w hl
theorem ydX3_keepResult : yX3_keepResult.cls = RX3 ∧ yX3_keepResult.cls ≠ "java/lang/invoke/MethodHandle" ∧ yX3_keepResult.cls ≠ "java/lang/invoke/VarHandle" ∧ (parseMethodDescriptor yX3_keepResult.desc).map (fun d => d.parameters.length) = some 1 := by decide +kernel
/-! X3.runLeakTest(I)I -/
abbrev rmX3_runLeakTest : Room := { frames := 4, cells := 0, slots := 0, locals := 82 }
abbrev wdX3_runLeakTest : Cond := Cond.code yX3_runLeakTest cX3_runLeakTest 4 (some .int)
noncomputable def fbX3_runLeakTest_32 (F : Nat) (k8 : Int32 → Int32 → Int32 → M2 → J2 → Option (Int32 × M2 × J2))  (a1 : Int32) (a2 : Int32) (a3 : Int32) (M : M2) (J : J2) : Option (Int32 × M2 × J2) := (fX3_pressure M J).bind (fun vv2 => bd3 (fX3_runFlows F vv2 (0 : Int32) M J) (fun vv6 M4 J5 => k8 a1 (a2 + vv6) (a3 + (1 : Int32)) M4 J5))
set_option maxRecDepth 20000 in
set_option maxHeartbeats 1000000 in
theorem TX3_runLeakTest_32 {rr : Int32} {MR : M2} {JR : J2}  {k8 : Int32 → Int32 → Int32 → M2 → J2 → Option (Int32 × M2 × J2)} (C : Cx E A p s m args meth c wdX3_runLeakTest cX3_runLeakTest 4 (some .int) RX3) (hg : g < 6) (hk8 : ∀ (a1 : Int32) (a2 : Int32) (a3 : Int32) (M : M2) (J : J2)  (ls : Array Slot) (H : Heap) (locs : List Loc), k8 a1 a2 a3 M J = some (rr, MR, JR) → Wd E A s (sg G g M) (sg K g J) H locs → lv_has ls 4 [(0, .ref (ad E g 0)), (1, .int a1), (2, .int a2), (3, .int a3)] → W p l e rmX3_runLeakTest s m args below meth c H locs 0 0 (QI E A below args s rr (sg G g MR) (sg K g JR)) (F0 m 8 ls [])) (a1 : Int32) (a2 : Int32) (a3 : Int32) (M : M2) (J : J2)  (h : fbX3_runLeakTest_32 F k8 a1 a2 a3 M J = some (rr, MR, JR)) (w : Wd E A s (sg G g M) (sg K g J) H locs) (hl : lv_has ls 4 [(0, .ref (ad E g 0)), (1, .int a1), (2, .int a2), (3, .int a3)]) : W p l e rmX3_runLeakTest s m args below meth c H locs 0 0 (QI E A below args s rr (sg G g MR) (sg K g JR)) (F0 m 32 ls []) := by
  obtain ⟨hx, hb, hr, hml, hown, hts, hlocks, hKK, hA1, hA2⟩ := id C
  unfold fbX3_runLeakTest_32 at h
  refine lv_iload_n hx hb dX3_runLeakTest_32 rfl (lv_at hl 2 rfl) ?_
  refine lv_aload_n hx hb dX3_runLeakTest_33 rfl (lv_at hl 0 rfl) ?_
  refine lv_aload_n hx hb dX3_runLeakTest_34 rfl (lv_at hl 0 rfl) ?_
  obtain ⟨vv2, hv1, h⟩ := bind_of h
  refine x_cVi (As := []) (rest := [.ref (ad E g 0), .int a2]) C w (vS hg (by decide)) (cel_S hg) rfl (mtX3_pressure hg hv1) q4_15 q4_16 q4_17 q1_12 q4_18 ydX3_pressure ⟨rfl, rfl⟩ ⟨by decide, by decide⟩ ⟨Nat.zero_le _, Nat.zero_le _⟩ hl.1 (Nat.le_of_ble_eq_true rfl) rfl dX3_runLeakTest_35 (fun H locs w => ?_)
  refine lv_iconst (v := (0 : Int32)) hx hb dX3_runLeakTest_38 (by decide) ?_
  obtain ⟨vv6, M4, J5, hv3, h⟩ := bd3_of h
  refine x_cVi (As := [.int vv2, .int (0 : Int32)]) (rest := [.int a2]) C w (vS hg (by decide)) (cel_S hg) rfl (mtX3_runFlows hg hv3) q13_8 q13_9 q13_10 q1_12 q13_11 ydX3_runFlows ⟨rfl, rfl⟩ ⟨by decide, by decide⟩ ⟨Nat.zero_le _, Nat.zero_le _⟩ hl.1 (Nat.le_of_ble_eq_true rfl) rfl dX3_runLeakTest_39 (fun H locs w => ?_)
  refine lv_iadd hx hb dX3_runLeakTest_42 ?_
  refine lv_istore_n (lv' := [(2, .int (a2 + vv6)), (0, .ref (ad E g 0)), (1, .int a1), (3, .int a3)]) hx hb dX3_runLeakTest_43 rfl hl (by decide) rfl (fun ls hl => ?_)
  refine lv_iinc (v := (a3 + (1 : Int32))) (lv' := [(3, .int (a3 + (1 : Int32))), (2, .int (a2 + vv6)), (0, .ref (ad E g 0)), (1, .int a1)]) hx hb dX3_runLeakTest_44 hl (k := 3) rfl (congrArg (HAdd.hAdd _) (by decide)) (by decide) rfl (fun ls hl => ?_)
  refine lv_goto (tgt := 8) hx hb dX3_runLeakTest_47 (by decide) ?_
  exact hk8 _ _ _ _ _ _ _ _ h w (lv_sub hl [2, 3, 1, 0] rfl)
noncomputable def fsX3_runLeakTest_8 (F : Nat)   (k8 : Int32 → Int32 → Int32 → M2 → J2 → Option (Int32 × M2 × J2)) : Int32 → Int32 → Int32 → M2 → J2 → Option (Int32 × M2 × J2) := fun a1 a2 a3 M J => (if a1 ≤ a3 then (bd2 (fX3_keepResult F a2 M J) (fun M3 J4 => some (a2, M3, J4))) else ((if (M 0 3) < (M 1 7) then (fbX3_runLeakTest_32 F k8 a1 a2 a3 M J) else (bd3 (fX3_reorder F M J) (fun vv9 M7 J8 => fbX3_runLeakTest_32 F k8 a1 a2 a3 M7 J8)))))
noncomputable def fbX3_runLeakTest_8 (F : Nat)   (n : Nat) : Int32 → Int32 → Int32 → M2 → J2 → Option (Int32 × M2 × J2) := itr (fsX3_runLeakTest_8 F ) (fun _ _ _ _ _ => none) n
set_option maxRecDepth 20000 in
set_option maxHeartbeats 1000000 in
theorem SX3_runLeakTest_8 {rr : Int32} {MR : M2} {JR : J2}   {k8 : Int32 → Int32 → Int32 → M2 → J2 → Option (Int32 × M2 × J2)} (C : Cx E A p s m args meth c wdX3_runLeakTest cX3_runLeakTest 4 (some .int) RX3) (hg : g < 6)  (hk8 : ∀ (a1 : Int32) (a2 : Int32) (a3 : Int32) (M : M2) (J : J2)  (ls : Array Slot) (H : Heap) (locs : List Loc), k8 a1 a2 a3 M J = some (rr, MR, JR) → Wd E A s (sg G g M) (sg K g J) H locs → lv_has ls 4 [(0, .ref (ad E g 0)), (1, .int a1), (2, .int a2), (3, .int a3)] → W p l e rmX3_runLeakTest s m args below meth c H locs 0 0 (QI E A below args s rr (sg G g MR) (sg K g JR)) (F0 m 8 ls [])) (a1 : Int32) (a2 : Int32) (a3 : Int32) (M : M2) (J : J2)  (h : fsX3_runLeakTest_8 F  k8 a1 a2 a3 M J = some (rr, MR, JR)) (w : Wd E A s (sg G g M) (sg K g J) H locs) (hl : lv_has ls 4 [(0, .ref (ad E g 0)), (1, .int a1), (2, .int a2), (3, .int a3)]) : W p l e rmX3_runLeakTest s m args below meth c H locs 0 0 (QI E A below args s rr (sg G g MR) (sg K g JR)) (F0 m 8 ls []) := by
  obtain ⟨hx, hb, hr, hml, hown, hts, hlocks, hKK, hA1, hA2⟩ := id C
  unfold fsX3_runLeakTest_8 at h
  refine lv_iload_n hx hb dX3_runLeakTest_8 rfl (lv_at hl 3 rfl) ?_
  refine lv_iload_n hx hb dX3_runLeakTest_9 rfl (lv_at hl 1 rfl) ?_
  refine lv_icmp_ge (tgt := 50) hx hb dX3_runLeakTest_10 (by decide) (fun c1 => ?_) (fun c1 => ?_)
  · replace h := ite_t h c1
    refine lv_aload_n hx hb dX3_runLeakTest_50 rfl (lv_at hl 0 rfl) ?_
    refine lv_iload_n hx hb dX3_runLeakTest_51 rfl (lv_at hl 2 rfl) ?_
    obtain ⟨M3, J4, hv2, h⟩ := bd2_of h
    refine x_cVv (As := [.int a2]) (rest := []) C w (vS hg (by decide)) (cel_S hg) rfl (mtX3_keepResult hg hv2) q14_1 q14_2 q14_3 q1_12 q14_4 ydX3_keepResult ⟨rfl, rfl⟩ ⟨by decide, by decide⟩ ⟨Nat.zero_le _, Nat.zero_le _⟩ hl.1 (Nat.le_of_ble_eq_true rfl) rfl dX3_runLeakTest_52 (fun H locs w => ?_)
    refine lv_iload_n hx hb dX3_runLeakTest_55 rfl (lv_at hl 2 rfl) ?_
    obtain ⟨e1, e2, e3⟩ := rt3 h
    exact x_ri C w e1 (by rw [e2]) (by rw [e3]) dX3_runLeakTest_56
  · replace h := ite_f h c1
    refine lv_aload_n hx hb dX3_runLeakTest_13 rfl (lv_at hl 0 rfl) ?_
    refine gL_X3_sinceRotation hg C w q4_12 dX3_runLeakTest_14 ?_
    refine lv_aload_n hx hb dX3_runLeakTest_17 rfl (lv_at hl 0 rfl) ?_
    refine gR_X3_settings hg C w q2_6 dX3_runLeakTest_18 ?_
    refine lv_bipush (v := (7 : Int32)) hx hb dX3_runLeakTest_21 (by decide) ?_
    refine x_aldI_L C w (vS hg (by decide)) (cS1 hg) (inb_k (k := 7) (by decide) (by decide)) cl_7 dX3_runLeakTest_23 ?_
    refine lv_icmp_lt (tgt := 32) hx hb dX3_runLeakTest_24 (by decide) (fun c5 => ?_) (fun c5 => ?_)
    · replace h := ite_t h c5
      exact TX3_runLeakTest_32 C hg hk8 _ _ _ _ _ h w (lv_sub hl [0, 1, 2, 3] rfl)
    · replace h := ite_f h c5
      refine lv_aload_n hx hb dX3_runLeakTest_27 rfl (lv_at hl 0 rfl) ?_
      obtain ⟨vv9, M7, J8, hv6, h⟩ := bd3_of h
      refine x_cVi (As := []) (rest := []) C w (vS hg (by decide)) (cel_S hg) rfl (mtX3_reorder hg hv6) q13_0 q13_1 q13_2 q1_12 q13_3 ydX3_reorder ⟨rfl, rfl⟩ ⟨by decide, by decide⟩ ⟨Nat.zero_le _, Nat.zero_le _⟩ hl.1 (Nat.le_of_ble_eq_true rfl) rfl dX3_runLeakTest_28 (fun H locs w => ?_)
      refine lv_pop hx hb dX3_runLeakTest_31 rfl ?_
      exact TX3_runLeakTest_32 C hg hk8 _ _ _ _ _ h w (lv_sub hl [0, 1, 2, 3] rfl)
theorem TX3_runLeakTest_8 {rr : Int32} {MR : M2} {JR : J2}   (C : Cx E A p s m args meth c wdX3_runLeakTest cX3_runLeakTest 4 (some .int) RX3) (hg : g < 6)  : ∀ (n : Nat) (a1 : Int32) (a2 : Int32) (a3 : Int32) (M : M2) (J : J2)  (ls : Array Slot) (H : Heap) (locs : List Loc), fbX3_runLeakTest_8 F  n a1 a2 a3 M J = some (rr, MR, JR) → Wd E A s (sg G g M) (sg K g J) H locs → lv_has ls 4 [(0, .ref (ad E g 0)), (1, .int a1), (2, .int a2), (3, .int a3)] → W p l e rmX3_runLeakTest s m args below meth c H locs 0 0 (QI E A below args s rr (sg G g MR) (sg K g JR)) (F0 m 8 ls []) := by
  intro n
  induction n with
  | zero => intro a1 a2 a3 M J  ls H locs h; exact absurd (show none = _ from h) (fun z => nomatch z)
  | succ n ih => intro a1 a2 a3 M J  ls H locs h w hl; exact SX3_runLeakTest_8 (F := F) C hg  ih a1 a2 a3 M J  h w hl
noncomputable def fX3_runLeakTest (F : Nat)  (x1 : Int32) (M : M2) (J : J2) : Option (Int32 × M2 × J2) := bd2 (fX3_unloadAll F M J) (fun M2 J3 => fbX3_runLeakTest_8 F F x1 (0 : Int32) (0 : Int32) M2 J3)
set_option maxRecDepth 20000 in
set_option maxHeartbeats 1000000 in
theorem TX3_runLeakTest {rr : Int32} {MR : M2} {JR : J2}  (C : Cx E A p s m args meth c wdX3_runLeakTest cX3_runLeakTest 4 (some .int) RX3) (hg : g < 6) {x1 : Int32}  (h : fX3_runLeakTest F  x1 M J = some (rr, MR, JR)) (w : Wd E A s (sg G g M) (sg K g J) H locs) (hl : lv_has ls 4 [(0, .ref (ad E g 0)), (1, .int x1)]) : W p l e rmX3_runLeakTest s m args below meth c H locs 0 0 (QI E A below args s rr (sg G g MR) (sg K g JR)) (F0 m 0 ls []) := by
  obtain ⟨hx, hb, hr, hml, hown, hts, hlocks, hKK, hA1, hA2⟩ := id C
  unfold fX3_runLeakTest at h
  refine lv_aload_n hx hb dX3_runLeakTest_0 rfl (lv_at hl 0 rfl) ?_
  obtain ⟨M2, J3, hv1, h⟩ := bd2_of h
  refine x_cVv (As := []) (rest := []) C w (vS hg (by decide)) (cel_S hg) rfl (mtX3_unloadAll hg hv1) q12_16 q12_17 q12_18 q1_12 q12_19 ydX3_unloadAll ⟨rfl, rfl⟩ ⟨by decide, by decide⟩ ⟨Nat.zero_le _, Nat.zero_le _⟩ hl.1 (Nat.le_of_ble_eq_true rfl) rfl dX3_runLeakTest_1 (fun H locs w => ?_)
  refine lv_iconst (v := (0 : Int32)) hx hb dX3_runLeakTest_4 (by decide) ?_
  refine lv_istore_n (lv' := [(2, .int (0 : Int32)), (0, .ref (ad E g 0)), (1, .int x1)]) hx hb dX3_runLeakTest_5 rfl hl (by decide) rfl (fun ls hl => ?_)
  refine lv_iconst (v := (0 : Int32)) hx hb dX3_runLeakTest_6 (by decide) ?_
  refine lv_istore_n (lv' := [(3, .int (0 : Int32)), (2, .int (0 : Int32)), (0, .ref (ad E g 0)), (1, .int x1)]) hx hb dX3_runLeakTest_7 rfl hl (by decide) rfl (fun ls hl => ?_)
  exact TX3_runLeakTest_8 C hg  _ _ _ _ _ _ _ _ _ h w (lv_sub hl [2, 3, 1, 0] rfl)
theorem mtX3_runLeakTest {rr : Int32} {MR : M2} {JR : J2}  (hg : g < 6) {x1 : Int32}  (h : fX3_runLeakTest F  x1 M J = some (rr, MR, JR)) : MtI l yX3_runLeakTest wdX3_runLeakTest rmX3_runLeakTest E [.ref (ad E g 0), .int x1] (sg G g M) (sg K g J) rr (sg G g MR) (sg K g JR) := by
  intro sz
  refine Met.ofW (cc := cX3_runLeakTest) (maxL := 4) (ret := (some .int)) (by decide) rfl ?_
  intro p e s m args below meth c s₁ B hml hv
  obtain ⟨rfl, C, w⟩ := Cx.of (own := RX3) B rfl hml hv
  have hl := lv_entry ([.ref (ad E g 0), .int x1]) (n := 4) (by first | exact Nat.le_of_ble_eq_true rfl)
  rw [lg_entry_eq]
  generalize (lg_sl ([.ref (ad E g 0), .int x1]) ++ List.replicate (4 - (lg_sl ([.ref (ad E g 0), .int x1])).length) Slot.unset).toArray = ls at hl ⊢
  exact TX3_runLeakTest C hg  h w hl
theorem ydX3_runLeakTest : yX3_runLeakTest.cls = RX3 ∧ yX3_runLeakTest.cls ≠ "java/lang/invoke/MethodHandle" ∧ yX3_runLeakTest.cls ≠ "java/lang/invoke/VarHandle" ∧ (parseMethodDescriptor yX3_runLeakTest.desc).map (fun d => d.parameters.length) = some 1 := by decide +kernel
/-! X3.numberOf(I)I -/
abbrev rmX3_numberOf : Room := { frames := 3, cells := 0, slots := 0, locals := 57 }
abbrev wdX3_numberOf : Cond := Cond.code yX3_numberOf cX3_numberOf 2 (some .int)
noncomputable def fX3_numberOf (F : Nat) (M : M2) (J : J2) (x1 : Int32)  : Option Int32 := (if x1 = (0 : Int32) then (some (M 0 0)) else if x1 = (1 : Int32) then (some (M 0 1)) else if x1 = (2 : Int32) then ((fX3_pressure M J).bind (fun vv13 => some vv13)) else if x1 = (3 : Int32) then (some (M 0 5)) else if x1 = (4 : Int32) then ((fX3_countOf F M J (1 : Int32)).bind (fun vv15 => some vv15)) else if x1 = (5 : Int32) then ((fX3_countOf F M J (2 : Int32)).bind (fun vv17 => some vv17)) else if x1 = (6 : Int32) then ((fX3_countOf F M J (3 : Int32)).bind (fun vv19 => some vv19)) else if x1 = (7 : Int32) then (some (M 0 2)) else if x1 = (8 : Int32) then (some (M 0 3)) else if x1 = (9 : Int32) then (some (M 0 4)) else if x1 = (10 : Int32) then ((fX3_capacityOf F M J (1 : Int32)).bind (fun vv21 => some vv21)) else (some (M 0 6)))
set_option maxRecDepth 20000 in
set_option maxHeartbeats 1000000 in
theorem TX3_numberOf {rr : Int32}  (C : Cx E A p s m args meth c wdX3_numberOf cX3_numberOf 2 (some .int) RX3) (hg : g < 6) {x1 : Int32}  (h : fX3_numberOf F M J x1 = some rr) (w : Wd E A s (sg G g M) (sg K g J) H locs) (hl : lv_has ls 2 [(0, .ref (ad E g 0)), (1, .int x1)]) : W p l e rmX3_numberOf s m args below meth c H locs 0 0 (QI E A below args s rr (sg G g M) (sg K g J)) (F0 m 0 ls []) := by
  obtain ⟨hx, hb, hr, hml, hown, hts, hlocks, hKK, hA1, hA2⟩ := id C
  unfold fX3_numberOf at h
  refine lv_iload_n hx hb dX3_numberOf_0 rfl (lv_at hl 1 rfl) ?_
  by_cases c1 : x1 = (0 : Int32)
  · replace h := ite_t h c1
    refine lv_tableIn (tgt := 60) hx hb dX3_numberOf_1 (by rw [c1]; decide) (by rw [c1]; decide) (by rw [c1]; rfl) (by decide) ?_
    refine lv_aload_n hx hb dX3_numberOf_60 rfl (lv_at hl 0 rfl) ?_
    refine gL_X3_volume hg C w q2_3 dX3_numberOf_61 ?_
    have e1 := Option.some.inj h
    exact x_ri C w e1 rfl rfl dX3_numberOf_64
  replace h := ite_f h c1
  by_cases c2 : x1 = (1 : Int32)
  · replace h := ite_t h c2
    refine lv_tableIn (tgt := 65) hx hb dX3_numberOf_1 (by rw [c2]; decide) (by rw [c2]; decide) (by rw [c2]; rfl) (by decide) ?_
    refine lv_aload_n hx hb dX3_numberOf_65 rfl (lv_at hl 0 rfl) ?_
    refine gL_X3_air hg C w q2_4 dX3_numberOf_66 ?_
    have e1 := Option.some.inj h
    exact x_ri C w e1 rfl rfl dX3_numberOf_69
  replace h := ite_f h c2
  by_cases c3 : x1 = (2 : Int32)
  · replace h := ite_t h c3
    refine lv_tableIn (tgt := 70) hx hb dX3_numberOf_1 (by rw [c3]; decide) (by rw [c3]; decide) (by rw [c3]; rfl) (by decide) ?_
    refine lv_aload_n hx hb dX3_numberOf_70 rfl (lv_at hl 0 rfl) ?_
    obtain ⟨vv13, hv12, h⟩ := bind_of h
    refine x_cVi (As := []) (rest := []) C w (vS hg (by decide)) (cel_S hg) rfl (mtX3_pressure hg hv12) q4_15 q4_16 q4_17 q1_12 q4_18 ydX3_pressure ⟨rfl, rfl⟩ ⟨by decide, by decide⟩ ⟨Nat.zero_le _, Nat.zero_le _⟩ hl.1 (Nat.le_of_ble_eq_true rfl) rfl dX3_numberOf_71 (fun H locs w => ?_)
    have e1 := Option.some.inj h
    exact x_ri C w e1 rfl rfl dX3_numberOf_74
  replace h := ite_f h c3
  by_cases c4 : x1 = (3 : Int32)
  · replace h := ite_t h c4
    refine lv_tableIn (tgt := 75) hx hb dX3_numberOf_1 (by rw [c4]; decide) (by rw [c4]; decide) (by rw [c4]; rfl) (by decide) ?_
    refine lv_aload_n hx hb dX3_numberOf_75 rfl (lv_at hl 0 rfl) ?_
    refine gL_X3_count hg C w q4_10 dX3_numberOf_76 ?_
    have e1 := Option.some.inj h
    exact x_ri C w e1 rfl rfl dX3_numberOf_79
  replace h := ite_f h c4
  by_cases c5 : x1 = (4 : Int32)
  · replace h := ite_t h c5
    refine lv_tableIn (tgt := 80) hx hb dX3_numberOf_1 (by rw [c5]; decide) (by rw [c5]; decide) (by rw [c5]; rfl) (by decide) ?_
    refine lv_aload_n hx hb dX3_numberOf_80 rfl (lv_at hl 0 rfl) ?_
    refine lv_iconst (v := (1 : Int32)) hx hb dX3_numberOf_81 (by decide) ?_
    obtain ⟨vv15, hv14, h⟩ := bind_of h
    refine x_cVi (As := [.int (1 : Int32)]) (rest := []) C w (vS hg (by decide)) (cel_S hg) rfl (mtX3_countOf hg hv14) q4_21 q4_22 q4_23 q1_12 q5_0 ydX3_countOf ⟨rfl, rfl⟩ ⟨by decide, by decide⟩ ⟨Nat.zero_le _, Nat.zero_le _⟩ hl.1 (Nat.le_of_ble_eq_true rfl) rfl dX3_numberOf_82 (fun H locs w => ?_)
    have e1 := Option.some.inj h
    exact x_ri C w e1 rfl rfl dX3_numberOf_85
  replace h := ite_f h c5
  by_cases c6 : x1 = (5 : Int32)
  · replace h := ite_t h c6
    refine lv_tableIn (tgt := 86) hx hb dX3_numberOf_1 (by rw [c6]; decide) (by rw [c6]; decide) (by rw [c6]; rfl) (by decide) ?_
    refine lv_aload_n hx hb dX3_numberOf_86 rfl (lv_at hl 0 rfl) ?_
    refine lv_iconst (v := (2 : Int32)) hx hb dX3_numberOf_87 (by decide) ?_
    obtain ⟨vv17, hv16, h⟩ := bind_of h
    refine x_cVi (As := [.int (2 : Int32)]) (rest := []) C w (vS hg (by decide)) (cel_S hg) rfl (mtX3_countOf hg hv16) q4_21 q4_22 q4_23 q1_12 q5_0 ydX3_countOf ⟨rfl, rfl⟩ ⟨by decide, by decide⟩ ⟨Nat.zero_le _, Nat.zero_le _⟩ hl.1 (Nat.le_of_ble_eq_true rfl) rfl dX3_numberOf_88 (fun H locs w => ?_)
    have e1 := Option.some.inj h
    exact x_ri C w e1 rfl rfl dX3_numberOf_91
  replace h := ite_f h c6
  by_cases c7 : x1 = (6 : Int32)
  · replace h := ite_t h c7
    refine lv_tableIn (tgt := 92) hx hb dX3_numberOf_1 (by rw [c7]; decide) (by rw [c7]; decide) (by rw [c7]; rfl) (by decide) ?_
    refine lv_aload_n hx hb dX3_numberOf_92 rfl (lv_at hl 0 rfl) ?_
    refine lv_iconst (v := (3 : Int32)) hx hb dX3_numberOf_93 (by decide) ?_
    obtain ⟨vv19, hv18, h⟩ := bind_of h
    refine x_cVi (As := [.int (3 : Int32)]) (rest := []) C w (vS hg (by decide)) (cel_S hg) rfl (mtX3_countOf hg hv18) q4_21 q4_22 q4_23 q1_12 q5_0 ydX3_countOf ⟨rfl, rfl⟩ ⟨by decide, by decide⟩ ⟨Nat.zero_le _, Nat.zero_le _⟩ hl.1 (Nat.le_of_ble_eq_true rfl) rfl dX3_numberOf_94 (fun H locs w => ?_)
    have e1 := Option.some.inj h
    exact x_ri C w e1 rfl rfl dX3_numberOf_97
  replace h := ite_f h c7
  by_cases c8 : x1 = (7 : Int32)
  · replace h := ite_t h c8
    refine lv_tableIn (tgt := 98) hx hb dX3_numberOf_1 (by rw [c8]; decide) (by rw [c8]; decide) (by rw [c8]; rfl) (by decide) ?_
    refine lv_aload_n hx hb dX3_numberOf_98 rfl (lv_at hl 0 rfl) ?_
    refine gL_X3_time hg C w q4_11 dX3_numberOf_99 ?_
    have e1 := Option.some.inj h
    exact x_ri C w e1 rfl rfl dX3_numberOf_102
  replace h := ite_f h c8
  by_cases c9 : x1 = (8 : Int32)
  · replace h := ite_t h c9
    refine lv_tableIn (tgt := 103) hx hb dX3_numberOf_1 (by rw [c9]; decide) (by rw [c9]; decide) (by rw [c9]; rfl) (by decide) ?_
    refine lv_aload_n hx hb dX3_numberOf_103 rfl (lv_at hl 0 rfl) ?_
    refine gL_X3_sinceRotation hg C w q4_12 dX3_numberOf_104 ?_
    have e1 := Option.some.inj h
    exact x_ri C w e1 rfl rfl dX3_numberOf_107
  replace h := ite_f h c9
  by_cases c10 : x1 = (9 : Int32)
  · replace h := ite_t h c10
    refine lv_tableIn (tgt := 108) hx hb dX3_numberOf_1 (by rw [c10]; decide) (by rw [c10]; decide) (by rw [c10]; rfl) (by decide) ?_
    refine lv_aload_n hx hb dX3_numberOf_108 rfl (lv_at hl 0 rfl) ?_
    refine gL_X3_rotations hg C w q4_13 dX3_numberOf_109 ?_
    have e1 := Option.some.inj h
    exact x_ri C w e1 rfl rfl dX3_numberOf_112
  replace h := ite_f h c10
  by_cases c11 : x1 = (10 : Int32)
  · replace h := ite_t h c11
    refine lv_tableIn (tgt := 113) hx hb dX3_numberOf_1 (by rw [c11]; decide) (by rw [c11]; decide) (by rw [c11]; rfl) (by decide) ?_
    refine lv_aload_n hx hb dX3_numberOf_113 rfl (lv_at hl 0 rfl) ?_
    refine lv_iconst (v := (1 : Int32)) hx hb dX3_numberOf_114 (by decide) ?_
    obtain ⟨vv21, hv20, h⟩ := bind_of h
    refine x_cVi (As := [.int (1 : Int32)]) (rest := []) C w (vS hg (by decide)) (cel_S hg) rfl (mtX3_capacityOf hg hv20) q5_6 q5_7 q5_8 q1_12 q5_9 ydX3_capacityOf ⟨rfl, rfl⟩ ⟨by decide, by decide⟩ ⟨Nat.zero_le _, Nat.zero_le _⟩ hl.1 (Nat.le_of_ble_eq_true rfl) rfl dX3_numberOf_115 (fun H locs w => ?_)
    have e1 := Option.some.inj h
    exact x_ri C w e1 rfl rfl dX3_numberOf_118
  replace h := ite_f h c11
  have hsw : x1.toInt < 0 ∨ 10 < x1.toInt := by
    have n0 := ne_toInt c1
    have n1 := ne_toInt c2
    have n2 := ne_toInt c3
    have n3 := ne_toInt c4
    have n4 := ne_toInt c5
    have n5 := ne_toInt c6
    have n6 := ne_toInt c7
    have n7 := ne_toInt c8
    have n8 := ne_toInt c9
    have n9 := ne_toInt c10
    have n10 := ne_toInt c11
    have e0 : (0 : Int32).toInt = 0 := by decide
    have e1 : (1 : Int32).toInt = 1 := by decide
    have e2 : (2 : Int32).toInt = 2 := by decide
    have e3 : (3 : Int32).toInt = 3 := by decide
    have e4 : (4 : Int32).toInt = 4 := by decide
    have e5 : (5 : Int32).toInt = 5 := by decide
    have e6 : (6 : Int32).toInt = 6 := by decide
    have e7 : (7 : Int32).toInt = 7 := by decide
    have e8 : (8 : Int32).toInt = 8 := by decide
    have e9 : (9 : Int32).toInt = 9 := by decide
    have e10 : (10 : Int32).toInt = 10 := by decide
    simp only [e0, e1, e2, e3, e4, e5, e6, e7, e8, e9, e10] at n0 n1 n2 n3 n4 n5 n6 n7 n8 n9 n10
    omega
  refine lv_tableOut (tgt := 119) hx hb dX3_numberOf_1 hsw (by decide) ?_
  refine lv_aload_n hx hb dX3_numberOf_119 rfl (lv_at hl 0 rfl) ?_
  refine gL_X3_kept hg C w q4_14 dX3_numberOf_120 ?_
  have e1 := Option.some.inj h
  exact x_ri C w e1 rfl rfl dX3_numberOf_123
theorem mtX3_numberOf {rr : Int32}  (hg : g < 6) {x1 : Int32}  (h : fX3_numberOf F M J x1 = some rr) : MtI l yX3_numberOf wdX3_numberOf rmX3_numberOf E [.ref (ad E g 0), .int x1] (sg G g M) (sg K g J) rr (sg G g M) (sg K g J) := by
  intro sz
  refine Met.ofW (cc := cX3_numberOf) (maxL := 2) (ret := (some .int)) (by decide) rfl ?_
  intro p e s m args below meth c s₁ B hml hv
  obtain ⟨rfl, C, w⟩ := Cx.of (own := RX3) B rfl hml hv
  have hl := lv_entry ([.ref (ad E g 0), .int x1]) (n := 2) (by first | exact Nat.le_of_ble_eq_true rfl)
  rw [lg_entry_eq]
  generalize (lg_sl ([.ref (ad E g 0), .int x1]) ++ List.replicate (2 - (lg_sl ([.ref (ad E g 0), .int x1])).length) Slot.unset).toArray = ls at hl ⊢
  exact TX3_numberOf C hg  h w hl
theorem ydX3_numberOf : yX3_numberOf.cls = RX3 ∧ yX3_numberOf.cls ≠ "java/lang/invoke/MethodHandle" ∧ yX3_numberOf.cls ≠ "java/lang/invoke/VarHandle" ∧ (parseMethodDescriptor yX3_numberOf.desc).map (fun d => d.parameters.length) = some 1 := by decide +kernel
/-! X3.numberAbout(LAirStation$Compressor;I)I -/
abbrev rmX3_numberAbout : Room := { frames := 2, cells := 0, slots := 0, locals := 33 }
abbrev wdX3_numberAbout : Cond := Cond.code yX3_numberAbout cX3_numberAbout 3 (some .int)
noncomputable def fX3_numberAbout (M : M2) (J : J2) (q1 : Nat) (x2 : Int32)  : Int32 := (if x2 = (0 : Int32) then ((M q1 0)) else if x2 = (1 : Int32) then ((M q1 1)) else if x2 = (2 : Int32) then ((M q1 2)) else if x2 = (3 : Int32) then ((M q1 3)) else if x2 = (4 : Int32) then ((M q1 4)) else if x2 = (5 : Int32) then ((M q1 5)) else if x2 = (6 : Int32) then ((M q1 6)) else if x2 = (7 : Int32) then ((M q1 7)) else if x2 = (8 : Int32) then ((fX3_limitForLoading M J q1)) else ((fX3_limitForUnloading M J q1)))
set_option maxRecDepth 20000 in
set_option maxHeartbeats 1000000 in
theorem TX3_numberAbout {rr : Int32}  (C : Cx E A p s m args meth c wdX3_numberAbout cX3_numberAbout 3 (some .int) RX3) (hg : g < 6) {q1 : Nat} {x2 : Int32} (hq1 : isC q1) (h : fX3_numberAbout M J q1 x2 = rr) (w : Wd E A s (sg G g M) (sg K g J) H locs) (hl : lv_has ls 3 [(0, .ref (ad E g 0)), (1, .ref (ad E g q1)), (2, .int x2)]) : W p l e rmX3_numberAbout s m args below meth c H locs 0 0 (QI E A below args s rr (sg G g M) (sg K g J)) (F0 m 0 ls []) := by
  obtain ⟨hx, hb, hr, hml, hown, hts, hlocks, hKK, hA1, hA2⟩ := id C
  unfold fX3_numberAbout at h
  refine lv_iload_n hx hb dX3_numberAbout_0 rfl (lv_at hl 2 rfl) ?_
  by_cases c1 : x2 = (0 : Int32)
  · replace h := ite_t h c1
    refine lv_tableIn (tgt := 52) hx hb dX3_numberAbout_1 (by rw [c1]; decide) (by rw [c1]; decide) (by rw [c1]; rfl) (by decide) ?_
    refine lv_aload_n hx hb dX3_numberAbout_52 rfl (lv_at hl 1 rfl) ?_
    refine gL_X0_capacity hg hq1 C w q5_10 dX3_numberAbout_53 ?_
    exact x_ri C w h rfl rfl dX3_numberAbout_56
  replace h := ite_f h c1
  by_cases c2 : x2 = (1 : Int32)
  · replace h := ite_t h c2
    refine lv_tableIn (tgt := 57) hx hb dX3_numberAbout_1 (by rw [c2]; decide) (by rw [c2]; decide) (by rw [c2]; rfl) (by decide) ?_
    refine lv_aload_n hx hb dX3_numberAbout_57 rfl (lv_at hl 1 rfl) ?_
    refine gL_X0_mode hg hq1 C w q5_1 dX3_numberAbout_58 ?_
    exact x_ri C w h rfl rfl dX3_numberAbout_61
  replace h := ite_f h c2
  by_cases c3 : x2 = (2 : Int32)
  · replace h := ite_t h c3
    refine lv_tableIn (tgt := 62) hx hb dX3_numberAbout_1 (by rw [c3]; decide) (by rw [c3]; decide) (by rw [c3]; rfl) (by decide) ?_
    refine lv_aload_n hx hb dX3_numberAbout_62 rfl (lv_at hl 1 rfl) ?_
    refine gL_X0_stage hg hq1 C w q6_12 dX3_numberAbout_63 ?_
    exact x_ri C w h rfl rfl dX3_numberAbout_66
  replace h := ite_f h c3
  by_cases c4 : x2 = (3 : Int32)
  · replace h := ite_t h c4
    refine lv_tableIn (tgt := 67) hx hb dX3_numberAbout_1 (by rw [c4]; decide) (by rw [c4]; decide) (by rw [c4]; rfl) (by decide) ?_
    refine lv_aload_n hx hb dX3_numberAbout_67 rfl (lv_at hl 1 rfl) ?_
    refine gL_X0_loadedMinutes hg hq1 C w q6_13 dX3_numberAbout_68 ?_
    exact x_ri C w h rfl rfl dX3_numberAbout_71
  replace h := ite_f h c4
  by_cases c5 : x2 = (4 : Int32)
  · replace h := ite_t h c5
    refine lv_tableIn (tgt := 72) hx hb dX3_numberAbout_1 (by rw [c5]; decide) (by rw [c5]; decide) (by rw [c5]; rfl) (by decide) ?_
    refine lv_aload_n hx hb dX3_numberAbout_72 rfl (lv_at hl 1 rfl) ?_
    refine gL_X0_unloadedMinutes hg hq1 C w q6_14 dX3_numberAbout_73 ?_
    exact x_ri C w h rfl rfl dX3_numberAbout_76
  replace h := ite_f h c5
  by_cases c6 : x2 = (5 : Int32)
  · replace h := ite_t h c6
    refine lv_tableIn (tgt := 77) hx hb dX3_numberAbout_1 (by rw [c6]; decide) (by rw [c6]; decide) (by rw [c6]; rfl) (by decide) ?_
    refine lv_aload_n hx hb dX3_numberAbout_77 rfl (lv_at hl 1 rfl) ?_
    refine gL_X0_timer hg hq1 C w q6_15 dX3_numberAbout_78 ?_
    exact x_ri C w h rfl rfl dX3_numberAbout_81
  replace h := ite_f h c6
  by_cases c7 : x2 = (6 : Int32)
  · replace h := ite_t h c7
    refine lv_tableIn (tgt := 82) hx hb dX3_numberAbout_1 (by rw [c7]; decide) (by rw [c7]; decide) (by rw [c7]; rfl) (by decide) ?_
    refine lv_aload_n hx hb dX3_numberAbout_82 rfl (lv_at hl 1 rfl) ?_
    refine gL_X0_rest hg hq1 C w q6_16 dX3_numberAbout_83 ?_
    exact x_ri C w h rfl rfl dX3_numberAbout_86
  replace h := ite_f h c7
  by_cases c8 : x2 = (7 : Int32)
  · replace h := ite_t h c8
    refine lv_tableIn (tgt := 87) hx hb dX3_numberAbout_1 (by rw [c8]; decide) (by rw [c8]; decide) (by rw [c8]; rfl) (by decide) ?_
    refine lv_aload_n hx hb dX3_numberAbout_87 rfl (lv_at hl 1 rfl) ?_
    refine gL_X0_starts hg hq1 C w q6_17 dX3_numberAbout_88 ?_
    exact x_ri C w h rfl rfl dX3_numberAbout_91
  replace h := ite_f h c8
  by_cases c9 : x2 = (8 : Int32)
  · replace h := ite_t h c9
    refine lv_tableIn (tgt := 92) hx hb dX3_numberAbout_1 (by rw [c9]; decide) (by rw [c9]; decide) (by rw [c9]; rfl) (by decide) ?_
    refine lv_aload_n hx hb dX3_numberAbout_92 rfl (lv_at hl 0 rfl) ?_
    refine lv_aload_n hx hb dX3_numberAbout_93 rfl (lv_at hl 1 rfl) ?_
    refine x_cVi (As := [.ref (ad E g q1)]) (rest := []) C w (vS hg (by decide)) (cel_S hg) rfl (mtX3_limitForLoading hg hq1) q6_18 q6_19 q6_20 q1_12 q6_21 ydX3_limitForLoading ⟨rfl, rfl⟩ ⟨by decide, by decide⟩ ⟨Nat.zero_le _, Nat.zero_le _⟩ hl.1 (Nat.le_of_ble_eq_true rfl) rfl dX3_numberAbout_94 (fun H locs w => ?_)
    exact x_ri C w h rfl rfl dX3_numberAbout_97
  replace h := ite_f h c9
  have hsw : x2.toInt < 0 ∨ 8 < x2.toInt := by
    have n0 := ne_toInt c1
    have n1 := ne_toInt c2
    have n2 := ne_toInt c3
    have n3 := ne_toInt c4
    have n4 := ne_toInt c5
    have n5 := ne_toInt c6
    have n6 := ne_toInt c7
    have n7 := ne_toInt c8
    have n8 := ne_toInt c9
    have e0 : (0 : Int32).toInt = 0 := by decide
    have e1 : (1 : Int32).toInt = 1 := by decide
    have e2 : (2 : Int32).toInt = 2 := by decide
    have e3 : (3 : Int32).toInt = 3 := by decide
    have e4 : (4 : Int32).toInt = 4 := by decide
    have e5 : (5 : Int32).toInt = 5 := by decide
    have e6 : (6 : Int32).toInt = 6 := by decide
    have e7 : (7 : Int32).toInt = 7 := by decide
    have e8 : (8 : Int32).toInt = 8 := by decide
    simp only [e0, e1, e2, e3, e4, e5, e6, e7, e8] at n0 n1 n2 n3 n4 n5 n6 n7 n8
    omega
  refine lv_tableOut (tgt := 98) hx hb dX3_numberAbout_1 hsw (by decide) ?_
  refine lv_aload_n hx hb dX3_numberAbout_98 rfl (lv_at hl 0 rfl) ?_
  refine lv_aload_n hx hb dX3_numberAbout_99 rfl (lv_at hl 1 rfl) ?_
  refine x_cVi (As := [.ref (ad E g q1)]) (rest := []) C w (vS hg (by decide)) (cel_S hg) rfl (mtX3_limitForUnloading hg hq1) q6_22 q6_23 q7_0 q1_12 q7_1 ydX3_limitForUnloading ⟨rfl, rfl⟩ ⟨by decide, by decide⟩ ⟨Nat.zero_le _, Nat.zero_le _⟩ hl.1 (Nat.le_of_ble_eq_true rfl) rfl dX3_numberAbout_100 (fun H locs w => ?_)
  exact x_ri C w h rfl rfl dX3_numberAbout_103
theorem mtX3_numberAbout  (hg : g < 6) {q1 : Nat} {x2 : Int32} (hq1 : isC q1)  : MtI l yX3_numberAbout wdX3_numberAbout rmX3_numberAbout E [.ref (ad E g 0), .ref (ad E g q1), .int x2] (sg G g M) (sg K g J) (fX3_numberAbout M J q1 x2) (sg G g M) (sg K g J) := by
  intro sz
  refine Met.ofW (cc := cX3_numberAbout) (maxL := 3) (ret := (some .int)) (by decide) rfl ?_
  intro p e s m args below meth c s₁ B hml hv
  obtain ⟨rfl, C, w⟩ := Cx.of (own := RX3) B rfl hml hv
  have hl := lv_entry ([.ref (ad E g 0), .ref (ad E g q1), .int x2]) (n := 3) (by first | exact Nat.le_of_ble_eq_true rfl)
  rw [lg_entry_eq]
  generalize (lg_sl ([.ref (ad E g 0), .ref (ad E g q1), .int x2]) ++ List.replicate (3 - (lg_sl ([.ref (ad E g 0), .ref (ad E g q1), .int x2])).length) Slot.unset).toArray = ls at hl ⊢
  exact TX3_numberAbout C hg hq1 rfl w hl
theorem ydX3_numberAbout : yX3_numberAbout.cls = RX3 ∧ yX3_numberAbout.cls ≠ "java/lang/invoke/MethodHandle" ∧ yX3_numberAbout.cls ≠ "java/lang/invoke/VarHandle" ∧ (parseMethodDescriptor yX3_numberAbout.desc).map (fun d => d.parameters.length) = some 2 := by decide +kernel
/-! X3.install(I)I -/
abbrev rmX3_install : Room := { frames := 2, cells := 0, slots := 0, locals := 34 }
abbrev wdX3_install : Cond := Cond.code yX3_install cX3_install 4 (some .int)
noncomputable def fX3_install  (x1 : Int32) (M : M2) (J : J2) : Option (Int32 × M2 × J2) := bnd (up2 M 0 5 ((M 0 5) + (1 : Int32))) (fun M1 => (fX3_numbered M1 J (M 0 5)).bind (fun vv4 => oc vv4 (some ((M 0 5), M1, J)) (fun z5 => chk (isC z5) (bd2 (fX0_begin z5 x1 (M 0 5) M1 J) (fun M7 J8 => some ((M 0 5), M7, J8))))))
set_option maxRecDepth 20000 in
set_option maxHeartbeats 1000000 in
theorem TX3_install {rr : Int32} {MR : M2} {JR : J2}  (C : Cx E A p s m args meth c wdX3_install cX3_install 4 (some .int) RX3) (hg : g < 6) {x1 : Int32}  (h : fX3_install  x1 M J = some (rr, MR, JR)) (w : Wd E A s (sg G g M) (sg K g J) H locs) (hl : lv_has ls 4 [(0, .ref (ad E g 0)), (1, .int x1)]) : W p l e rmX3_install s m args below meth c H locs 0 0 (QI E A below args s rr (sg G g MR) (sg K g JR)) (F0 m 0 ls []) := by
  obtain ⟨hx, hb, hr, hml, hown, hts, hlocks, hKK, hA1, hA2⟩ := id C
  unfold fX3_install at h
  refine lv_aload_n hx hb dX3_install_0 rfl (lv_at hl 0 rfl) ?_
  refine gL_X3_count hg C w q4_10 dX3_install_1 ?_
  refine lv_istore_n (lv' := [(2, .int (M 0 5)), (0, .ref (ad E g 0)), (1, .int x1)]) hx hb dX3_install_4 rfl hl (by decide) rfl (fun ls hl => ?_)
  refine lv_aload_n hx hb dX3_install_5 rfl (lv_at hl 1 rfl) ?_
  refine lv_dup hx hb dX3_install_6 rfl ?_
  refine gL_X3_count hg C w q4_10 dX3_install_7 ?_
  refine lv_iconst (v := (1 : Int32)) hx hb dX3_install_10 (by decide) ?_
  refine lv_iadd hx hb dX3_install_11 ?_
  refine pL_X3_count hg C w q4_10 dX3_install_12 (fun M1 H locs e2 w => ?_)
  replace h := bnd_of h e2
  refine lv_aload_n hx hb dX3_install_15 rfl (lv_at hl 1 rfl) ?_
  refine lv_iload_n hx hb dX3_install_16 rfl (lv_at hl 0 rfl) ?_
  obtain ⟨vv4, hv3, h⟩ := bind_of h
  refine x_cVq (As := [.int (M 0 5)]) (rest := []) C w (vS hg (by decide)) (cel_S hg) rfl (mtX3_numbered hg hv3) q5_2 q5_3 q5_4 q1_12 q5_5 ydX3_numbered ⟨rfl, rfl⟩ ⟨by decide, by decide⟩ ⟨Nat.zero_le _, Nat.zero_le _⟩ hl.1 (Nat.le_of_ble_eq_true rfl) rfl dX3_install_17 (fun H locs w => ?_)
  cases vv4 with
  | none =>
    replace h := oc_n h
    refine lv_astore_nN (lv' := [(3, .null), (2, .int (M 0 5)), (0, .ref (ad E g 0)), (1, .int x1)]) hx hb dX3_install_20 rfl hl (by decide) rfl (fun ls hl => ?_)
    refine lv_aload_nN hx hb dX3_install_21 rfl (lv_at hl 0 rfl) ?_
    refine lv_ifnullN (tgt := 31) hx hb dX3_install_22 (by decide) ?_
    refine lv_iload_n hx hb dX3_install_31 rfl (lv_at hl 1 rfl) ?_
    obtain ⟨e1, e2, e3⟩ := rt3 h
    exact x_ri C w e1 (by rw [e2]) (by rw [e3]) dX3_install_32
  | some z5 =>
    replace h := oc_s h
    obtain ⟨hz5, h⟩ := chk_of h
    refine lv_astore_n (lv' := [(3, .ref (ad E g z5)), (2, .int (M 0 5)), (0, .ref (ad E g 0)), (1, .int x1)]) hx hb dX3_install_20 rfl hl (by decide) rfl (fun ls hl => ?_)
    refine lv_aload_n hx hb dX3_install_21 rfl (lv_at hl 0 rfl) ?_
    refine lv_ifnull hx hb dX3_install_22 ?_
    refine lv_aload_n hx hb dX3_install_25 rfl (lv_at hl 0 rfl) ?_
    refine lv_iload_n hx hb dX3_install_26 rfl (lv_at hl 3 rfl) ?_
    refine lv_iload_n hx hb dX3_install_27 rfl (lv_at hl 1 rfl) ?_
    obtain ⟨M7, J8, hv6, h⟩ := bd2_of h
    refine x_cVv (As := [.int x1, .int (M 0 5)]) (rest := []) C w (vC hg hz5) (cel_C hg hz5.1) rfl (mtX0_begin hg hz5 hv6) q10_11 q10_12 q10_13 q2_17 q10_14 ydX0_begin ⟨rfl, rfl⟩ ⟨by decide, by decide⟩ ⟨Nat.zero_le _, Nat.zero_le _⟩ hl.1 (Nat.le_of_ble_eq_true rfl) rfl dX3_install_28 (fun H locs w => ?_)
    refine lv_iload_n hx hb dX3_install_31 rfl (lv_at hl 1 rfl) ?_
    obtain ⟨e1, e2, e3⟩ := rt3 h
    exact x_ri C w e1 (by rw [e2]) (by rw [e3]) dX3_install_32
theorem mtX3_install {rr : Int32} {MR : M2} {JR : J2}  (hg : g < 6) {x1 : Int32}  (h : fX3_install  x1 M J = some (rr, MR, JR)) : MtI l yX3_install wdX3_install rmX3_install E [.ref (ad E g 0), .int x1] (sg G g M) (sg K g J) rr (sg G g MR) (sg K g JR) := by
  intro sz
  refine Met.ofW (cc := cX3_install) (maxL := 4) (ret := (some .int)) (by decide) rfl ?_
  intro p e s m args below meth c s₁ B hml hv
  obtain ⟨rfl, C, w⟩ := Cx.of (own := RX3) B rfl hml hv
  have hl := lv_entry ([.ref (ad E g 0), .int x1]) (n := 4) (by first | exact Nat.le_of_ble_eq_true rfl)
  rw [lg_entry_eq]
  generalize (lg_sl ([.ref (ad E g 0), .int x1]) ++ List.replicate (4 - (lg_sl ([.ref (ad E g 0), .int x1])).length) Slot.unset).toArray = ls at hl ⊢
  exact TX3_install C hg  h w hl
theorem ydX3_install : yX3_install.cls = RX3 ∧ yX3_install.cls ≠ "java/lang/invoke/MethodHandle" ∧ yX3_install.cls ≠ "java/lang/invoke/VarHandle" ∧ (parseMethodDescriptor yX3_install.desc).map (fun d => d.parameters.length) = some 1 := by decide +kernel
/-! X3.takeOver(LAirStation$State;)V -/
abbrev rmX3_takeOver : Room := { frames := 2, cells := 0, slots := 0, locals := 40 }
abbrev wdX3_takeOver : Cond := Cond.code yX3_takeOver cX3_takeOver 5 none
noncomputable def fbX3_takeOver_136 (F : Nat) (k103 : Int32 → M3 → J3 → Option (M3 × J3)) (g : Nat) (g' : Nat) (a2 : Int32) (G : M3) (K : J3) : Option (M3 × J3) := k103 (a2 + (1 : Int32)) G K
set_option maxRecDepth 20000 in
set_option maxHeartbeats 1000000 in
theorem TX3_takeOver_136 {GR : M3} {KR : J3}  {k103 : Int32 → M3 → J3 → Option (M3 × J3)} (C : Cx E A p s m args meth c wdX3_takeOver cX3_takeOver 5 none RX3) (hg : g < 6) (hg' : g' < 6) (hk103 : ∀ (a2 : Int32) (G : M3) (K : J3)  (ls : Array Slot) (H : Heap) (locs : List Loc), k103 a2 G K = some (GR, KR) → Wd E A s G K H locs → lv_has ls 5 [(0, .ref (ad E g 0)), (1, .ref (ad E g' 0)), (2, .int a2)] → W p l e rmX3_takeOver s m args below meth c H locs 0 0 (QV E A below args s  GR KR) (F0 m 103 ls [])) (a2 : Int32) (G : M3) (K : J3)  (h : fbX3_takeOver_136 F k103 g g' a2 G K = some (GR, KR)) (w : Wd E A s G K H locs) (hl : lv_has ls 5 [(0, .ref (ad E g 0)), (1, .ref (ad E g' 0)), (2, .int a2)]) : W p l e rmX3_takeOver s m args below meth c H locs 0 0 (QV E A below args s  GR KR) (F0 m 136 ls []) := by
  obtain ⟨hx, hb, hr, hml, hown, hts, hlocks, hKK, hA1, hA2⟩ := id C
  unfold fbX3_takeOver_136 at h
  refine lv_iinc (v := (a2 + (1 : Int32))) (lv' := [(2, .int (a2 + (1 : Int32))), (0, .ref (ad E g 0)), (1, .ref (ad E g' 0))]) hx hb dX3_takeOver_136 hl (k := 2) rfl (congrArg (HAdd.hAdd _) (by decide)) (by decide) rfl (fun ls hl => ?_)
  refine lv_goto (tgt := 103) hx hb dX3_takeOver_139 (by decide) ?_
  exact hk103 _ _ _ _ _ _ h w (lv_sub hl [1, 2, 0] rfl)
noncomputable def fsX3_takeOver_103 (F : Nat)  (g : Nat) (g' : Nat) (k103 : Int32 → M3 → J3 → Option (M3 × J3)) : Int32 → M3 → J3 → Option (M3 × J3) := fun a2 G K => (if (5 : Int32) ≤ a2 then (some (G, K)) else ((fX3_numbered (G g) (K g) a2).bind (fun vv3 => oc vv3 ((fX3_numbered (G g') (K g') a2).bind (fun vv6 => oc vv6 (fbX3_takeOver_136 F k103 g g' a2 G K) (fun z7 => chk (isC z7) (fbX3_takeOver_136 F k103 g g' a2 G K)))) (fun z4 => chk (isC z4) ((fX3_numbered (G g') (K g') a2).bind (fun vv9 => oc vv9 (fbX3_takeOver_136 F k103 g g' a2 G K) (fun z10 => chk (isC z10) (bd2 (fX0_takeOver g z4 g' z10 G K) (fun G12 K13 => fbX3_takeOver_136 F k103 g g' a2 G12 K13)))))))))
noncomputable def fbX3_takeOver_103 (F : Nat)  (g : Nat) (g' : Nat) (n : Nat) : Int32 → M3 → J3 → Option (M3 × J3) := itr (fsX3_takeOver_103 F g g') (fun _ _ _ => none) n
set_option maxRecDepth 20000 in
set_option maxHeartbeats 1000000 in
theorem SX3_takeOver_103 {GR : M3} {KR : J3}   {k103 : Int32 → M3 → J3 → Option (M3 × J3)} (C : Cx E A p s m args meth c wdX3_takeOver cX3_takeOver 5 none RX3) (hg : g < 6) (hg' : g' < 6)  (hk103 : ∀ (a2 : Int32) (G : M3) (K : J3)  (ls : Array Slot) (H : Heap) (locs : List Loc), k103 a2 G K = some (GR, KR) → Wd E A s G K H locs → lv_has ls 5 [(0, .ref (ad E g 0)), (1, .ref (ad E g' 0)), (2, .int a2)] → W p l e rmX3_takeOver s m args below meth c H locs 0 0 (QV E A below args s  GR KR) (F0 m 103 ls [])) (a2 : Int32) (G : M3) (K : J3)  (h : fsX3_takeOver_103 F g g' k103 a2 G K = some (GR, KR)) (w : Wd E A s G K H locs) (hl : lv_has ls 5 [(0, .ref (ad E g 0)), (1, .ref (ad E g' 0)), (2, .int a2)]) : W p l e rmX3_takeOver s m args below meth c H locs 0 0 (QV E A below args s  GR KR) (F0 m 103 ls []) := by
  obtain ⟨hx, hb, hr, hml, hown, hts, hlocks, hKK, hA1, hA2⟩ := id C
  unfold fsX3_takeOver_103 at h
  refine lv_iload_n hx hb dX3_takeOver_103 rfl (lv_at hl 2 rfl) ?_
  refine lv_iconst (v := (5 : Int32)) hx hb dX3_takeOver_104 (by decide) ?_
  refine lv_icmp_ge (tgt := 142) hx hb dX3_takeOver_105 (by decide) (fun c1 => ?_) (fun c1 => ?_)
  · replace h := ite_t h c1
    obtain ⟨e2, e3⟩ := rt2 h
    exact x_rv C w (by rw [e2]) (by rw [e3]) dX3_takeOver_142
  · replace h := ite_f h c1
    refine lv_aload_n hx hb dX3_takeOver_108 rfl (lv_at hl 0 rfl) ?_
    refine lv_iload_n hx hb dX3_takeOver_109 rfl (lv_at hl 2 rfl) ?_
    obtain ⟨vv3, hv2, h⟩ := bind_of h
    refine x_cVq (As := [.int a2]) (rest := []) C (Wd.ofS g w) (vS hg (by decide)) (cel_S hg) rfl (mtX3_numbered hg hv2) q5_2 q5_3 q5_4 q1_12 q5_5 ydX3_numbered ⟨rfl, rfl⟩ ⟨by decide, by decide⟩ ⟨Nat.zero_le _, Nat.zero_le _⟩ hl.1 (Nat.le_of_ble_eq_true rfl) rfl dX3_takeOver_110 (fun H locs w => ?_)
    have w := Wd.back w
    cases vv3 with
    | none =>
      replace h := oc_n h
      refine lv_astore_nN (lv' := [(3, .null), (0, .ref (ad E g 0)), (1, .ref (ad E g' 0)), (2, .int a2)]) hx hb dX3_takeOver_113 rfl hl (by decide) rfl (fun ls hl => ?_)
      refine lv_aload_n hx hb dX3_takeOver_114 rfl (lv_at hl 2 rfl) ?_
      refine lv_iload_n hx hb dX3_takeOver_115 rfl (lv_at hl 3 rfl) ?_
      obtain ⟨vv6, hv5, h⟩ := bind_of h
      refine x_cVq (As := [.int a2]) (rest := []) C (Wd.ofS g' w) (vS hg' (by decide)) (cel_S hg') rfl (mtX3_numbered hg' hv5) q5_2 q5_3 q5_4 q1_12 q5_5 ydX3_numbered ⟨rfl, rfl⟩ ⟨by decide, by decide⟩ ⟨Nat.zero_le _, Nat.zero_le _⟩ hl.1 (Nat.le_of_ble_eq_true rfl) rfl dX3_takeOver_116 (fun H locs w => ?_)
      have w := Wd.back w
      cases vv6 with
      | none =>
        replace h := oc_n h
        refine lv_astoreN (lv' := [(4, .null), (3, .null), (0, .ref (ad E g 0)), (1, .ref (ad E g' 0)), (2, .int a2)]) hx hb dX3_takeOver_119 hl (by decide) rfl (fun ls hl => ?_)
        refine lv_aload_nN hx hb dX3_takeOver_121 rfl (lv_at hl 1 rfl) ?_
        refine lv_ifnullN (tgt := 136) hx hb dX3_takeOver_122 (by decide) ?_
        exact TX3_takeOver_136 C hg hg' hk103 _ _ _ h w (lv_sub hl [2, 3, 4] rfl)
      | some z7 =>
        replace h := oc_s h
        obtain ⟨hz7, h⟩ := chk_of h
        refine lv_astore (lv' := [(4, .ref (ad E g' z7)), (3, .null), (0, .ref (ad E g 0)), (1, .ref (ad E g' 0)), (2, .int a2)]) hx hb dX3_takeOver_119 hl (by decide) rfl (fun ls hl => ?_)
        refine lv_aload_nN hx hb dX3_takeOver_121 rfl (lv_at hl 1 rfl) ?_
        refine lv_ifnullN (tgt := 136) hx hb dX3_takeOver_122 (by decide) ?_
        exact TX3_takeOver_136 C hg hg' hk103 _ _ _ h w (lv_sub hl [2, 3, 4] rfl)
    | some z4 =>
      replace h := oc_s h
      obtain ⟨hz4, h⟩ := chk_of h
      refine lv_astore_n (lv' := [(3, .ref (ad E g z4)), (0, .ref (ad E g 0)), (1, .ref (ad E g' 0)), (2, .int a2)]) hx hb dX3_takeOver_113 rfl hl (by decide) rfl (fun ls hl => ?_)
      refine lv_aload_n hx hb dX3_takeOver_114 rfl (lv_at hl 2 rfl) ?_
      refine lv_iload_n hx hb dX3_takeOver_115 rfl (lv_at hl 3 rfl) ?_
      obtain ⟨vv9, hv8, h⟩ := bind_of h
      refine x_cVq (As := [.int a2]) (rest := []) C (Wd.ofS g' w) (vS hg' (by decide)) (cel_S hg') rfl (mtX3_numbered hg' hv8) q5_2 q5_3 q5_4 q1_12 q5_5 ydX3_numbered ⟨rfl, rfl⟩ ⟨by decide, by decide⟩ ⟨Nat.zero_le _, Nat.zero_le _⟩ hl.1 (Nat.le_of_ble_eq_true rfl) rfl dX3_takeOver_116 (fun H locs w => ?_)
      have w := Wd.back w
      cases vv9 with
      | none =>
        replace h := oc_n h
        refine lv_astoreN (lv' := [(4, .null), (3, .ref (ad E g z4)), (0, .ref (ad E g 0)), (1, .ref (ad E g' 0)), (2, .int a2)]) hx hb dX3_takeOver_119 hl (by decide) rfl (fun ls hl => ?_)
        refine lv_aload_n hx hb dX3_takeOver_121 rfl (lv_at hl 1 rfl) ?_
        refine lv_ifnull hx hb dX3_takeOver_122 ?_
        refine lv_aloadN hx hb dX3_takeOver_125 (lv_at hl 0 rfl) ?_
        refine lv_ifnullN (tgt := 136) hx hb dX3_takeOver_127 (by decide) ?_
        exact TX3_takeOver_136 C hg hg' hk103 _ _ _ h w (lv_sub hl [2, 3, 4] rfl)
      | some z10 =>
        replace h := oc_s h
        obtain ⟨hz10, h⟩ := chk_of h
        refine lv_astore (lv' := [(4, .ref (ad E g' z10)), (3, .ref (ad E g z4)), (0, .ref (ad E g 0)), (1, .ref (ad E g' 0)), (2, .int a2)]) hx hb dX3_takeOver_119 hl (by decide) rfl (fun ls hl => ?_)
        refine lv_aload_n hx hb dX3_takeOver_121 rfl (lv_at hl 1 rfl) ?_
        refine lv_ifnull hx hb dX3_takeOver_122 ?_
        refine lv_aload hx hb dX3_takeOver_125 (lv_at hl 0 rfl) ?_
        refine lv_ifnull hx hb dX3_takeOver_127 ?_
        refine lv_aload_n hx hb dX3_takeOver_130 rfl (lv_at hl 1 rfl) ?_
        refine lv_aload hx hb dX3_takeOver_131 (lv_at hl 0 rfl) ?_
        obtain ⟨G12, K13, hv11, h⟩ := bd2_of h
        refine x_cVv (As := [.ref (ad E g' z10)]) (rest := []) C w (vC hg hz4) (cel_C hg hz4.1) rfl (mtX0_takeOver hg hz4 hg' hz10 hv11) q9_19 q9_20 q9_21 q2_17 q9_22 ydX0_takeOver ⟨rfl, rfl⟩ ⟨by decide, by decide⟩ ⟨Nat.zero_le _, Nat.zero_le _⟩ hl.1 (Nat.le_of_ble_eq_true rfl) rfl dX3_takeOver_133 (fun H locs w => ?_)
        exact TX3_takeOver_136 C hg hg' hk103 _ _ _ h w (lv_sub hl [2, 3, 4] rfl)
theorem TX3_takeOver_103 {GR : M3} {KR : J3}   (C : Cx E A p s m args meth c wdX3_takeOver cX3_takeOver 5 none RX3) (hg : g < 6) (hg' : g' < 6)  : ∀ (n : Nat) (a2 : Int32) (G : M3) (K : J3)  (ls : Array Slot) (H : Heap) (locs : List Loc), fbX3_takeOver_103 F g g' n a2 G K = some (GR, KR) → Wd E A s G K H locs → lv_has ls 5 [(0, .ref (ad E g 0)), (1, .ref (ad E g' 0)), (2, .int a2)] → W p l e rmX3_takeOver s m args below meth c H locs 0 0 (QV E A below args s  GR KR) (F0 m 103 ls []) := by
  intro n
  induction n with
  | zero => intro a2 G K  ls H locs h; exact absurd (show none = _ from h) (fun z => nomatch z)
  | succ n ih => intro a2 G K  ls H locs h w hl; exact SX3_takeOver_103 (F := F) C hg hg'  ih a2 G K  h w hl
noncomputable def fX3_takeOver (F : Nat) (g : Nat) (g' : Nat)  (G : M3) (K : J3) : Option (M3 × J3) := bnd (up3 G g 0 0 (G g' 0 0)) (fun G1 => bnd (up3 G1 g 0 1 (G1 g' 0 1)) (fun G3 => bnd (up3 G3 g 0 2 (G3 g' 0 2)) (fun G5 => bnd (up3 G5 g 0 3 (G5 g' 0 3)) (fun G7 => bnd (up3 G7 g 0 4 (G7 g' 0 4)) (fun G9 => bnd (up3 G9 g 0 5 (G9 g' 0 5)) (fun G11 => bnd (up3 G11 g 0 6 (G11 g' 0 6)) (fun G13 => bnd (sg G13 g (sg (G13 g) 1 (cpy (G13 g' 1) (G13 g 1) 8))) (fun G15 => bnd (sg K g (sg (K g) 2 (cpy (K g' 2) (K g 2) 6))) (fun K17 => bnd (sg G15 g (sg (G15 g) 3 (cpy (G15 g' 3) (G15 g 3) 6))) (fun G19 => fbX3_takeOver_103 F g g' F (0 : Int32) G19 K17))))))))))
set_option maxRecDepth 20000 in
set_option maxHeartbeats 1000000 in
theorem TX3_takeOver {GR : M3} {KR : J3}  (C : Cx E A p s m args meth c wdX3_takeOver cX3_takeOver 5 none RX3) (hg : g < 6) (hg' : g' < 6)   (h : fX3_takeOver F g g' G K = some (GR, KR)) (w : Wd E A s G K H locs) (hl : lv_has ls 5 [(0, .ref (ad E g 0)), (1, .ref (ad E g' 0))]) : W p l e rmX3_takeOver s m args below meth c H locs 0 0 (QV E A below args s  GR KR) (F0 m 0 ls []) := by
  obtain ⟨hx, hb, hr, hml, hown, hts, hlocks, hKK, hA1, hA2⟩ := id C
  unfold fX3_takeOver at h
  refine lv_aload_n hx hb dX3_takeOver_0 rfl (lv_at hl 0 rfl) ?_
  refine lv_aload_n hx hb dX3_takeOver_1 rfl (lv_at hl 1 rfl) ?_
  refine gG_X3_volume hg' C w q2_3 dX3_takeOver_2 ?_
  refine pG_X3_volume hg C w q2_3 dX3_takeOver_5 (fun G1 H locs e2 w => ?_)
  replace h := bnd_of h e2
  refine lv_aload_n hx hb dX3_takeOver_8 rfl (lv_at hl 0 rfl) ?_
  refine lv_aload_n hx hb dX3_takeOver_9 rfl (lv_at hl 1 rfl) ?_
  refine gG_X3_air hg' C w q2_4 dX3_takeOver_10 ?_
  refine pG_X3_air hg C w q2_4 dX3_takeOver_13 (fun G3 H locs e4 w => ?_)
  replace h := bnd_of h e4
  refine lv_aload_n hx hb dX3_takeOver_16 rfl (lv_at hl 0 rfl) ?_
  refine lv_aload_n hx hb dX3_takeOver_17 rfl (lv_at hl 1 rfl) ?_
  refine gG_X3_time hg' C w q4_11 dX3_takeOver_18 ?_
  refine pG_X3_time hg C w q4_11 dX3_takeOver_21 (fun G5 H locs e6 w => ?_)
  replace h := bnd_of h e6
  refine lv_aload_n hx hb dX3_takeOver_24 rfl (lv_at hl 0 rfl) ?_
  refine lv_aload_n hx hb dX3_takeOver_25 rfl (lv_at hl 1 rfl) ?_
  refine gG_X3_sinceRotation hg' C w q4_12 dX3_takeOver_26 ?_
  refine pG_X3_sinceRotation hg C w q4_12 dX3_takeOver_29 (fun G7 H locs e8 w => ?_)
  replace h := bnd_of h e8
  refine lv_aload_n hx hb dX3_takeOver_32 rfl (lv_at hl 0 rfl) ?_
  refine lv_aload_n hx hb dX3_takeOver_33 rfl (lv_at hl 1 rfl) ?_
  refine gG_X3_rotations hg' C w q4_13 dX3_takeOver_34 ?_
  refine pG_X3_rotations hg C w q4_13 dX3_takeOver_37 (fun G9 H locs e10 w => ?_)
  replace h := bnd_of h e10
  refine lv_aload_n hx hb dX3_takeOver_40 rfl (lv_at hl 0 rfl) ?_
  refine lv_aload_n hx hb dX3_takeOver_41 rfl (lv_at hl 1 rfl) ?_
  refine gG_X3_count hg' C w q4_10 dX3_takeOver_42 ?_
  refine pG_X3_count hg C w q4_10 dX3_takeOver_45 (fun G11 H locs e12 w => ?_)
  replace h := bnd_of h e12
  refine lv_aload_n hx hb dX3_takeOver_48 rfl (lv_at hl 0 rfl) ?_
  refine lv_aload_n hx hb dX3_takeOver_49 rfl (lv_at hl 1 rfl) ?_
  refine gG_X3_kept hg' C w q4_14 dX3_takeOver_50 ?_
  refine pG_X3_kept hg C w q4_14 dX3_takeOver_53 (fun G13 H locs e14 w => ?_)
  replace h := bnd_of h e14
  refine lv_aload_n hx hb dX3_takeOver_56 rfl (lv_at hl 1 rfl) ?_
  refine gR_X3_settings hg' C w q2_6 dX3_takeOver_57 ?_
  refine lv_iconst (v := (0 : Int32)) hx hb dX3_takeOver_60 (by decide) ?_
  refine lv_aload_n hx hb dX3_takeOver_61 rfl (lv_at hl 0 rfl) ?_
  refine gR_X3_settings hg C w q2_6 dX3_takeOver_62 ?_
  refine lv_iconst (v := (0 : Int32)) hx hb dX3_takeOver_65 (by decide) ?_
  refine lv_bipush (v := (8 : Int32)) hx hb dX3_takeOver_66 (by decide) ?_
  refine x_cpyI C w hl.1 (vS hg' (by decide)) (vS hg (by decide)) (cS1 hg') (cS1 hg) (by decide) cl_8 (by decide) (by decide) q2_12 q2_13 q2_14 q2_15 (by decide) (by decide +kernel) dX3_takeOver_68 (fun H locs w => ?_)
  obtain ⟨G15, e16⟩ : ∃ z, z = sg G13 g (sg (G13 g) 1 (cpy (G13 g' 1) (G13 g 1) 8)) := ⟨_, rfl⟩
  rw [← e16] at w
  replace h := bnd_of h e16
  refine lv_aload_n hx hb dX3_takeOver_71 rfl (lv_at hl 1 rfl) ?_
  refine gR_X3_amounts hg' C w q2_8 dX3_takeOver_72 ?_
  refine lv_iconst (v := (0 : Int32)) hx hb dX3_takeOver_75 (by decide) ?_
  refine lv_aload_n hx hb dX3_takeOver_76 rfl (lv_at hl 0 rfl) ?_
  refine gR_X3_amounts hg C w q2_8 dX3_takeOver_77 ?_
  refine lv_iconst (v := (0 : Int32)) hx hb dX3_takeOver_80 (by decide) ?_
  refine lv_bipush (v := (6 : Int32)) hx hb dX3_takeOver_81 (by decide) ?_
  refine x_cpyJ C w hl.1 (vS hg' (by decide)) (vS hg (by decide)) (cS2 hg') (cS2 hg) (by decide) cl_6 (by decide) (by decide) q2_12 q2_13 q2_14 q2_15 (by decide) (by decide +kernel) dX3_takeOver_83 (fun H locs w => ?_)
  obtain ⟨K17, e18⟩ : ∃ z, z = sg K g (sg (K g) 2 (cpy (K g' 2) (K g 2) 6)) := ⟨_, rfl⟩
  rw [← e18] at w
  replace h := bnd_of h e18
  refine lv_aload_n hx hb dX3_takeOver_86 rfl (lv_at hl 1 rfl) ?_
  refine gR_X3_results hg' C w q2_9 dX3_takeOver_87 ?_
  refine lv_iconst (v := (0 : Int32)) hx hb dX3_takeOver_90 (by decide) ?_
  refine lv_aload_n hx hb dX3_takeOver_91 rfl (lv_at hl 0 rfl) ?_
  refine gR_X3_results hg C w q2_9 dX3_takeOver_92 ?_
  refine lv_iconst (v := (0 : Int32)) hx hb dX3_takeOver_95 (by decide) ?_
  refine lv_bipush (v := (6 : Int32)) hx hb dX3_takeOver_96 (by decide) ?_
  refine x_cpyI C w hl.1 (vS hg' (by decide)) (vS hg (by decide)) (cS3 hg') (cS3 hg) (by decide) cl_6 (by decide) (by decide) q2_12 q2_13 q2_14 q2_15 (by decide) (by decide +kernel) dX3_takeOver_98 (fun H locs w => ?_)
  obtain ⟨G19, e20⟩ : ∃ z, z = sg G15 g (sg (G15 g) 3 (cpy (G15 g' 3) (G15 g 3) 6)) := ⟨_, rfl⟩
  rw [← e20] at w
  replace h := bnd_of h e20
  refine lv_iconst (v := (0 : Int32)) hx hb dX3_takeOver_101 (by decide) ?_
  refine lv_istore_n (lv' := [(2, .int (0 : Int32)), (0, .ref (ad E g 0)), (1, .ref (ad E g' 0))]) hx hb dX3_takeOver_102 rfl hl (by decide) rfl (fun ls hl => ?_)
  exact TX3_takeOver_103 C hg hg'  _ _ _ _ _ _ _ h w (lv_sub hl [1, 2, 0] rfl)
theorem mtX3_takeOver {GR : M3} {KR : J3}  (hg : g < 6) (hg' : g' < 6)   (h : fX3_takeOver F g g' G K = some (GR, KR)) : MtV l yX3_takeOver wdX3_takeOver rmX3_takeOver E [.ref (ad E g 0), .ref (ad E g' 0)] G K  GR KR := by
  intro sz
  refine Met.ofW (cc := cX3_takeOver) (maxL := 5) (ret := none) (by decide) rfl ?_
  intro p e s m args below meth c s₁ B hml hv
  obtain ⟨rfl, C, w⟩ := Cx.of (own := RX3) B rfl hml hv
  have hl := lv_entry ([.ref (ad E g 0), .ref (ad E g' 0)]) (n := 5) (by first | exact Nat.le_of_ble_eq_true rfl)
  rw [lg_entry_eq]
  generalize (lg_sl ([.ref (ad E g 0), .ref (ad E g' 0)]) ++ List.replicate (5 - (lg_sl ([.ref (ad E g 0), .ref (ad E g' 0)])).length) Slot.unset).toArray = ls at hl ⊢
  exact TX3_takeOver C hg hg'  h w hl
theorem ydX3_takeOver : yX3_takeOver.cls = RX3 ∧ yX3_takeOver.cls ≠ "java/lang/invoke/MethodHandle" ∧ yX3_takeOver.cls ≠ "java/lang/invoke/VarHandle" ∧ (parseMethodDescriptor yX3_takeOver.desc).map (fun d => d.parameters.length) = some 1 := by decide +kernel
end XS2
end
section
section XP1
variable {E : WE} {A : Nat → Prop} {p : Program} {l : Launch} {e : Env} {s : State} {m : MethodId} {args : Array Value} {below : List Frame} {meth : Method} {c : Code} {H : Heap} {locs : List Loc} {ls : Array Slot} {G : M3} {K : J3} {M : M2} {J : J2} {F g q : Nat} {g' q' : Nat}

/-! X1.savedAt(I)LAirStation$State; -/
abbrev rmX1_savedAt : Room := { frames := 1, cells := 0, slots := 0, locals := 12 }
abbrev wdX1_savedAt : Cond := Cond.code yX1_savedAt cX1_savedAt 2 (some (.object "AirStation$State"))
noncomputable def fX1_savedAt (G : M3) (K : J3) (x1 : Int32)  : Option (Option Nat) := (if x1 < 0 then (some none) else ((if (4 : Int32) ≤ x1 then (some none) else (chk (inb x1 4) (some (some (2 + x1.toNatClampNeg)))))))
set_option maxRecDepth 20000 in
set_option maxHeartbeats 1000000 in
theorem TX1_savedAt {rr : Option Nat}  (C : Cx E A p s m args meth c wdX1_savedAt cX1_savedAt 2 (some (.object "AirStation$State")) RX1)  {x1 : Int32}  (h : fX1_savedAt G K x1 = some rr) (w : Wd E A s G K H locs) (hl : lv_has ls 2 [(0, .ref (ad E 6 1)), (1, .int x1)]) : W p l e rmX1_savedAt s m args below meth c H locs 0 0 (QQ E A below args s (rr.map (fun z => ad E z 0)) G K) (F0 m 0 ls []) := by
  obtain ⟨hx, hb, hr, hml, hown, hts, hlocks, hKK, hA1, hA2⟩ := id C
  unfold fX1_savedAt at h
  refine lv_iload_n hx hb dX1_savedAt_0 rfl (lv_at hl 1 rfl) ?_
  refine lv_if_lt (tgt := 22) hx hb dX1_savedAt_1 (by decide) (fun c1 => ?_) (fun c1 => ?_)
  · replace h := ite_t h c1
    refine lv_null hx hb dX1_savedAt_22 ?_
    have e1 := Option.some.inj h
    exact x_rq C w (v := none) rfl (by rw [← e1]; rfl) rfl rfl dX1_savedAt_23
  · replace h := ite_f h c1
    refine lv_iload_n hx hb dX1_savedAt_4 rfl (lv_at hl 1 rfl) ?_
    refine lv_aload_n hx hb dX1_savedAt_5 rfl (lv_at hl 0 rfl) ?_
    refine gR_X1_saved C w q3_2 dX1_savedAt_6 ?_
    refine x_alen (n := 4) (v := (4 : Int32)) (t0 := 3) C w (v6 (by decide)) cel_6 rfl (by decide) dX1_savedAt_9 ?_
    refine lv_icmp_ge (tgt := 22) hx hb dX1_savedAt_10 (by decide) (fun c2 => ?_) (fun c2 => ?_)
    · replace h := ite_t h c2
      refine lv_null hx hb dX1_savedAt_22 ?_
      have e1 := Option.some.inj h
      exact x_rq C w (v := none) rfl (by rw [← e1]; rfl) rfl rfl dX1_savedAt_23
    · replace h := ite_f h c2
      refine lv_aload_n hx hb dX1_savedAt_13 rfl (lv_at hl 0 rfl) ?_
      refine gR_X1_saved C w q3_2 dX1_savedAt_14 ?_
      refine lv_iload_n hx hb dX1_savedAt_17 rfl (lv_at hl 1 rfl) ?_
      obtain ⟨ki3, h⟩ := chk_of h
      have hs4 := isS_ald ki3
      refine x_aldS C w ki3 dX1_savedAt_18 ?_
      refine lv_goto (tgt := 23) hx hb dX1_savedAt_19 (by decide) ?_
      have e1 := Option.some.inj h
      exact x_rq C w (v := (some (ad E (2 + x1.toNatClampNeg) 0))) rfl (by rw [← e1]; rfl) rfl rfl dX1_savedAt_23
theorem mtX1_savedAt {rr : Option Nat}   {x1 : Int32}  (h : fX1_savedAt G K x1 = some rr) : MtQ l yX1_savedAt wdX1_savedAt rmX1_savedAt E [.ref (ad E 6 1), .int x1] G K (rr.map (fun z => ad E z 0)) G K := by
  intro sz
  refine Met.ofW (cc := cX1_savedAt) (maxL := 2) (ret := (some (.object "AirStation$State"))) (by decide) rfl ?_
  intro p e s m args below meth c s₁ B hml hv
  obtain ⟨rfl, C, w⟩ := Cx.of (own := RX1) B rfl hml hv
  have hl := lv_entry ([.ref (ad E 6 1), .int x1]) (n := 2) (by first | exact Nat.le_of_ble_eq_true rfl)
  rw [lg_entry_eq]
  generalize (lg_sl ([.ref (ad E 6 1), .int x1]) ++ List.replicate (2 - (lg_sl ([.ref (ad E 6 1), .int x1])).length) Slot.unset).toArray = ls at hl ⊢
  exact TX1_savedAt C   h w hl
theorem ydX1_savedAt : yX1_savedAt.cls = RX1 ∧ yX1_savedAt.cls ≠ "java/lang/invoke/MethodHandle" ∧ yX1_savedAt.cls ≠ "java/lang/invoke/VarHandle" ∧ (parseMethodDescriptor yX1_savedAt.desc).map (fun d => d.parameters.length) = some 1 := by decide +kernel
/-! X1.save(LAirStation$State;)V -/
abbrev rmX1_save : Room := { frames := 3, cells := 0, slots := 0, locals := 64 }
abbrev wdX1_save : Cond := Cond.code yX1_save cX1_save 3 none
noncomputable def fbX1_save_42 (F : Nat)  (g' : Nat)  (G : M3) (K : J3) : Option (M3 × J3) := bnd (up3 G 6 1 0 (if (4 : Int32) < ((G 6 1 0) + (1 : Int32)) then (4 : Int32) else ((G 6 1 0) + (1 : Int32)))) (fun G1 => some (G1, K))
set_option maxRecDepth 20000 in
set_option maxHeartbeats 1000000 in
theorem TX1_save_42 {GR : M3} {KR : J3}   (C : Cx E A p s m args meth c wdX1_save cX1_save 3 none RX1) (hg' : g' < 6)   (G : M3) (K : J3)  (h : fbX1_save_42 F g' G K = some (GR, KR)) (w : Wd E A s G K H locs) (hl : lv_has ls 3 [(0, .ref (ad E 6 1))]) : W p l e rmX1_save s m args below meth c H locs 0 0 (QV E A below args s  GR KR) (F0 m 42 ls []) := by
  obtain ⟨hx, hb, hr, hml, hown, hts, hlocks, hKK, hA1, hA2⟩ := id C
  unfold fbX1_save_42 at h
  refine lv_aload_n hx hb dX1_save_42 rfl (lv_at hl 0 rfl) ?_
  refine lv_aload_n hx hb dX1_save_43 rfl (lv_at hl 0 rfl) ?_
  refine gG_X1_kept C w q9_6 dX1_save_44 ?_
  refine lv_iconst (v := (1 : Int32)) hx hb dX1_save_47 (by decide) ?_
  refine lv_iadd hx hb dX1_save_48 ?_
  refine lv_iconst (v := (4 : Int32)) hx hb dX1_save_49 (by decide) ?_
  refine x_min C hl.1 q9_7 q9_8 q9_9 q9_10 (by decide) (show _ ≤ _ from Nat.le_of_ble_eq_true rfl) (Nat.zero_le _) (Nat.zero_le _) dX1_save_50 ?_
  refine pG_X1_kept C w q9_6 dX1_save_53 (fun G1 H locs e2 w => ?_)
  replace h := bnd_of h e2
  obtain ⟨e2, e3⟩ := rt2 h
  exact x_rv C w (by rw [e2]) (by rw [e3]) dX1_save_56
noncomputable def fbX1_save_21 (F : Nat)  (g' : Nat) (s0 : Int32) (G : M3) (K : J3) : Option (M3 × J3) := bnd (up3 G 6 1 1 s0) (fun G1 => (fX1_savedAt G1 K (G1 6 1 1)).bind (fun vv4 => oc vv4 (fbX1_save_42 F g'  G1 K) (fun z5 => chk (isS z5) (bd2 (fX3_takeOver F z5 g' G1 K) (fun G7 K8 => fbX1_save_42 F g'  G7 K8)))))
set_option maxRecDepth 20000 in
set_option maxHeartbeats 1000000 in
theorem TX1_save_21 {GR : M3} {KR : J3}   (C : Cx E A p s m args meth c wdX1_save cX1_save 3 none RX1) (hg' : g' < 6)  (s0 : Int32) (G : M3) (K : J3)  (h : fbX1_save_21 F g' s0 G K = some (GR, KR)) (w : Wd E A s G K H locs) (hl : lv_has ls 3 [(0, .ref (ad E 6 1)), (1, .ref (ad E g' 0))]) : W p l e rmX1_save s m args below meth c H locs 0 0 (QV E A below args s  GR KR) (F0 m 21 ls [.int s0, .ref (ad E 6 1)]) := by
  obtain ⟨hx, hb, hr, hml, hown, hts, hlocks, hKK, hA1, hA2⟩ := id C
  unfold fbX1_save_21 at h
  refine pG_X1_newest C w q9_5 dX1_save_21 (fun G1 H locs e2 w => ?_)
  replace h := bnd_of h e2
  refine lv_aload_n hx hb dX1_save_24 rfl (lv_at hl 0 rfl) ?_
  refine lv_aload_n hx hb dX1_save_25 rfl (lv_at hl 0 rfl) ?_
  refine gG_X1_newest C w q9_5 dX1_save_26 ?_
  obtain ⟨vv4, hv3, h⟩ := bind_of h
  refine x_cVq (As := [.int (G1 6 1 1)]) (rest := []) C w (v6 (by decide)) cel_6 rfl (mtX1_savedAt  hv3) q9_11 q9_12 q9_13 q1_17 q9_14 ydX1_savedAt ⟨rfl, rfl⟩ ⟨by decide, by decide⟩ ⟨Nat.zero_le _, Nat.zero_le _⟩ hl.1 (Nat.le_of_ble_eq_true rfl) rfl dX1_save_29 (fun H locs w => ?_)
  cases vv4 with
  | none =>
    replace h := oc_n h
    refine lv_astore_nN (lv' := [(2, .null), (0, .ref (ad E 6 1)), (1, .ref (ad E g' 0))]) hx hb dX1_save_32 rfl hl (by decide) rfl (fun ls hl => ?_)
    refine lv_aload_nN hx hb dX1_save_33 rfl (lv_at hl 0 rfl) ?_
    refine lv_ifnullN (tgt := 42) hx hb dX1_save_34 (by decide) ?_
    exact TX1_save_42 C hg'  _ _ h w (lv_sub hl [1] rfl)
  | some z5 =>
    replace h := oc_s h
    obtain ⟨hz5, h⟩ := chk_of h
    refine lv_astore_n (lv' := [(2, .ref (ad E z5 0)), (0, .ref (ad E 6 1)), (1, .ref (ad E g' 0))]) hx hb dX1_save_32 rfl hl (by decide) rfl (fun ls hl => ?_)
    refine lv_aload_n hx hb dX1_save_33 rfl (lv_at hl 0 rfl) ?_
    refine lv_ifnull hx hb dX1_save_34 ?_
    refine lv_aload_n hx hb dX1_save_37 rfl (lv_at hl 0 rfl) ?_
    refine lv_aload_n hx hb dX1_save_38 rfl (lv_at hl 2 rfl) ?_
    obtain ⟨G7, K8, hv6, h⟩ := bd2_of h
    refine x_cVv (As := [.ref (ad E g' 0)]) (rest := []) C w (vS hz5 (by decide)) (cel_S hz5) rfl (mtX3_takeOver hz5 hg' hv6) q9_15 q9_16 q9_17 q1_12 q9_18 ydX3_takeOver ⟨rfl, rfl⟩ ⟨by decide, by decide⟩ ⟨Nat.zero_le _, Nat.zero_le _⟩ hl.1 (Nat.le_of_ble_eq_true rfl) rfl dX1_save_39 (fun H locs w => ?_)
    exact TX1_save_42 C hg'  _ _ h w (lv_sub hl [1] rfl)
noncomputable def fX1_save (F : Nat) (g' : Nat)  (G : M3) (K : J3) : Option (M3 × J3) := (if (4 : Int32) ≤ ((G 6 1 1) + (1 : Int32)) then (fbX1_save_21 F g' (0 : Int32) G K) else (fbX1_save_21 F g' ((G 6 1 1) + (1 : Int32)) G K))
set_option maxRecDepth 20000 in
set_option maxHeartbeats 1000000 in
theorem TX1_save {GR : M3} {KR : J3}  (C : Cx E A p s m args meth c wdX1_save cX1_save 3 none RX1) (hg' : g' < 6)   (h : fX1_save F g' G K = some (GR, KR)) (w : Wd E A s G K H locs) (hl : lv_has ls 3 [(0, .ref (ad E 6 1)), (1, .ref (ad E g' 0))]) : W p l e rmX1_save s m args below meth c H locs 0 0 (QV E A below args s  GR KR) (F0 m 0 ls []) := by
  obtain ⟨hx, hb, hr, hml, hown, hts, hlocks, hKK, hA1, hA2⟩ := id C
  unfold fX1_save at h
  refine lv_aload_n hx hb dX1_save_0 rfl (lv_at hl 0 rfl) ?_
  refine lv_aload_n hx hb dX1_save_1 rfl (lv_at hl 0 rfl) ?_
  refine gG_X1_newest C w q9_5 dX1_save_2 ?_
  refine lv_iconst (v := (1 : Int32)) hx hb dX1_save_5 (by decide) ?_
  refine lv_iadd hx hb dX1_save_6 ?_
  refine lv_iconst (v := (4 : Int32)) hx hb dX1_save_7 (by decide) ?_
  refine lv_icmp_ge (tgt := 20) hx hb dX1_save_8 (by decide) (fun c1 => ?_) (fun c1 => ?_)
  · replace h := ite_t h c1
    refine lv_iconst (v := (0 : Int32)) hx hb dX1_save_20 (by decide) ?_
    exact TX1_save_21 C hg'  _ _ _ h w (lv_sub hl [0, 1] rfl)
  · replace h := ite_f h c1
    refine lv_aload_n hx hb dX1_save_11 rfl (lv_at hl 0 rfl) ?_
    refine gG_X1_newest C w q9_5 dX1_save_12 ?_
    refine lv_iconst (v := (1 : Int32)) hx hb dX1_save_15 (by decide) ?_
    refine lv_iadd hx hb dX1_save_16 ?_
    refine lv_goto (tgt := 21) hx hb dX1_save_17 (by decide) ?_
    exact TX1_save_21 C hg'  _ _ _ h w (lv_sub hl [0, 1] rfl)
theorem mtX1_save {GR : M3} {KR : J3}  (hg' : g' < 6)   (h : fX1_save F g' G K = some (GR, KR)) : MtV l yX1_save wdX1_save rmX1_save E [.ref (ad E 6 1), .ref (ad E g' 0)] G K  GR KR := by
  intro sz
  refine Met.ofW (cc := cX1_save) (maxL := 3) (ret := none) (by decide) rfl ?_
  intro p e s m args below meth c s₁ B hml hv
  obtain ⟨rfl, C, w⟩ := Cx.of (own := RX1) B rfl hml hv
  have hl := lv_entry ([.ref (ad E 6 1), .ref (ad E g' 0)]) (n := 3) (by first | exact Nat.le_of_ble_eq_true rfl)
  rw [lg_entry_eq]
  generalize (lg_sl ([.ref (ad E 6 1), .ref (ad E g' 0)]) ++ List.replicate (3 - (lg_sl ([.ref (ad E 6 1), .ref (ad E g' 0)])).length) Slot.unset).toArray = ls at hl ⊢
  exact TX1_save C hg'  h w hl
theorem ydX1_save : yX1_save.cls = RX1 ∧ yX1_save.cls ≠ "java/lang/invoke/MethodHandle" ∧ yX1_save.cls ≠ "java/lang/invoke/VarHandle" ∧ (parseMethodDescriptor yX1_save.desc).map (fun d => d.parameters.length) = some 1 := by decide +kernel
/-! X1.restore(LAirStation$State;)V -/
abbrev rmX1_restore : Room := { frames := 3, cells := 0, slots := 0, locals := 64 }
abbrev wdX1_restore : Cond := Cond.code yX1_restore cX1_restore 3 none
noncomputable def fbX1_restore_36 (F : Nat)  (g' : Nat) (s0 : Int32) (G : M3) (K : J3) : Option (M3 × J3) := bnd (up3 G 6 1 1 s0) (fun G1 => bnd (up3 G1 6 1 0 (if ((G1 6 1 0) - (1 : Int32)) < (0 : Int32) then (0 : Int32) else ((G1 6 1 0) - (1 : Int32)))) (fun G3 => some (G3, K)))
set_option maxRecDepth 20000 in
set_option maxHeartbeats 1000000 in
theorem TX1_restore_36 {GR : M3} {KR : J3}   (C : Cx E A p s m args meth c wdX1_restore cX1_restore 3 none RX1) (hg' : g' < 6)  (s0 : Int32) (G : M3) (K : J3)  (h : fbX1_restore_36 F g' s0 G K = some (GR, KR)) (w : Wd E A s G K H locs) (hl : lv_has ls 3 [(0, .ref (ad E 6 1))]) : W p l e rmX1_restore s m args below meth c H locs 0 0 (QV E A below args s  GR KR) (F0 m 36 ls [.int s0, .ref (ad E 6 1)]) := by
  obtain ⟨hx, hb, hr, hml, hown, hts, hlocks, hKK, hA1, hA2⟩ := id C
  unfold fbX1_restore_36 at h
  refine pG_X1_newest C w q9_5 dX1_restore_36 (fun G1 H locs e2 w => ?_)
  replace h := bnd_of h e2
  refine lv_aload_n hx hb dX1_restore_39 rfl (lv_at hl 0 rfl) ?_
  refine lv_aload_n hx hb dX1_restore_40 rfl (lv_at hl 0 rfl) ?_
  refine gG_X1_kept C w q9_6 dX1_restore_41 ?_
  refine lv_iconst (v := (1 : Int32)) hx hb dX1_restore_44 (by decide) ?_
  refine lv_isub hx hb dX1_restore_45 ?_
  refine lv_iconst (v := (0 : Int32)) hx hb dX1_restore_46 (by decide) ?_
  refine x_max C hl.1 q16_23 q17_0 q9_9 q17_1 (by decide) (show _ ≤ _ from Nat.le_of_ble_eq_true rfl) (Nat.zero_le _) (Nat.zero_le _) dX1_restore_47 ?_
  refine pG_X1_kept C w q9_6 dX1_restore_50 (fun G3 H locs e4 w => ?_)
  replace h := bnd_of h e4
  obtain ⟨e2, e3⟩ := rt2 h
  exact x_rv C w (by rw [e2]) (by rw [e3]) dX1_restore_53
noncomputable def fbX1_restore_18 (F : Nat)  (g' : Nat)  (G : M3) (K : J3) : Option (M3 × J3) := (if (G 6 1 1) ≤ 0 then (fbX1_restore_36 F g' (3 : Int32) G K) else (fbX1_restore_36 F g' ((G 6 1 1) - (1 : Int32)) G K))
set_option maxRecDepth 20000 in
set_option maxHeartbeats 1000000 in
theorem TX1_restore_18 {GR : M3} {KR : J3}   (C : Cx E A p s m args meth c wdX1_restore cX1_restore 3 none RX1) (hg' : g' < 6)   (G : M3) (K : J3)  (h : fbX1_restore_18 F g' G K = some (GR, KR)) (w : Wd E A s G K H locs) (hl : lv_has ls 3 [(0, .ref (ad E 6 1))]) : W p l e rmX1_restore s m args below meth c H locs 0 0 (QV E A below args s  GR KR) (F0 m 18 ls []) := by
  obtain ⟨hx, hb, hr, hml, hown, hts, hlocks, hKK, hA1, hA2⟩ := id C
  unfold fbX1_restore_18 at h
  refine lv_aload_n hx hb dX1_restore_18 rfl (lv_at hl 0 rfl) ?_
  refine lv_aload_n hx hb dX1_restore_19 rfl (lv_at hl 0 rfl) ?_
  refine gG_X1_newest C w q9_5 dX1_restore_20 ?_
  refine lv_if_le (tgt := 35) hx hb dX1_restore_23 (by decide) (fun c1 => ?_) (fun c1 => ?_)
  · replace h := ite_t h c1
    refine lv_iconst (v := (3 : Int32)) hx hb dX1_restore_35 (by decide) ?_
    exact TX1_restore_36 C hg'  _ _ _ h w (lv_sub hl [0] rfl)
  · replace h := ite_f h c1
    refine lv_aload_n hx hb dX1_restore_26 rfl (lv_at hl 0 rfl) ?_
    refine gG_X1_newest C w q9_5 dX1_restore_27 ?_
    refine lv_iconst (v := (1 : Int32)) hx hb dX1_restore_30 (by decide) ?_
    refine lv_isub hx hb dX1_restore_31 ?_
    refine lv_goto (tgt := 36) hx hb dX1_restore_32 (by decide) ?_
    exact TX1_restore_36 C hg'  _ _ _ h w (lv_sub hl [0] rfl)
noncomputable def fX1_restore (F : Nat) (g' : Nat)  (G : M3) (K : J3) : Option (M3 × J3) := (fX1_savedAt G K (G 6 1 1)).bind (fun vv2 => oc vv2 (fbX1_restore_18 F g'  G K) (fun z3 => chk (isS z3) (bd2 (fX3_takeOver F g' z3 G K) (fun G5 K6 => fbX1_restore_18 F g'  G5 K6))))
set_option maxRecDepth 20000 in
set_option maxHeartbeats 1000000 in
theorem TX1_restore {GR : M3} {KR : J3}  (C : Cx E A p s m args meth c wdX1_restore cX1_restore 3 none RX1) (hg' : g' < 6)   (h : fX1_restore F g' G K = some (GR, KR)) (w : Wd E A s G K H locs) (hl : lv_has ls 3 [(0, .ref (ad E 6 1)), (1, .ref (ad E g' 0))]) : W p l e rmX1_restore s m args below meth c H locs 0 0 (QV E A below args s  GR KR) (F0 m 0 ls []) := by
  obtain ⟨hx, hb, hr, hml, hown, hts, hlocks, hKK, hA1, hA2⟩ := id C
  unfold fX1_restore at h
  refine lv_aload_n hx hb dX1_restore_0 rfl (lv_at hl 0 rfl) ?_
  refine lv_aload_n hx hb dX1_restore_1 rfl (lv_at hl 0 rfl) ?_
  refine gG_X1_newest C w q9_5 dX1_restore_2 ?_
  obtain ⟨vv2, hv1, h⟩ := bind_of h
  refine x_cVq (As := [.int (G 6 1 1)]) (rest := []) C w (v6 (by decide)) cel_6 rfl (mtX1_savedAt  hv1) q9_11 q9_12 q9_13 q1_17 q9_14 ydX1_savedAt ⟨rfl, rfl⟩ ⟨by decide, by decide⟩ ⟨Nat.zero_le _, Nat.zero_le _⟩ hl.1 (Nat.le_of_ble_eq_true rfl) rfl dX1_restore_5 (fun H locs w => ?_)
  cases vv2 with
  | none =>
    replace h := oc_n h
    refine lv_astore_nN (lv' := [(2, .null), (0, .ref (ad E 6 1)), (1, .ref (ad E g' 0))]) hx hb dX1_restore_8 rfl hl (by decide) rfl (fun ls hl => ?_)
    refine lv_aload_nN hx hb dX1_restore_9 rfl (lv_at hl 0 rfl) ?_
    refine lv_ifnullN (tgt := 18) hx hb dX1_restore_10 (by decide) ?_
    exact TX1_restore_18 C hg'  _ _ h w (lv_sub hl [1] rfl)
  | some z3 =>
    replace h := oc_s h
    obtain ⟨hz3, h⟩ := chk_of h
    refine lv_astore_n (lv' := [(2, .ref (ad E z3 0)), (0, .ref (ad E 6 1)), (1, .ref (ad E g' 0))]) hx hb dX1_restore_8 rfl hl (by decide) rfl (fun ls hl => ?_)
    refine lv_aload_n hx hb dX1_restore_9 rfl (lv_at hl 0 rfl) ?_
    refine lv_ifnull hx hb dX1_restore_10 ?_
    refine lv_aload_n hx hb dX1_restore_13 rfl (lv_at hl 2 rfl) ?_
    refine lv_aload_n hx hb dX1_restore_14 rfl (lv_at hl 0 rfl) ?_
    obtain ⟨G5, K6, hv4, h⟩ := bd2_of h
    refine x_cVv (As := [.ref (ad E z3 0)]) (rest := []) C w (vS hg' (by decide)) (cel_S hg') rfl (mtX3_takeOver hg' hz3 hv4) q9_15 q9_16 q9_17 q1_12 q9_18 ydX3_takeOver ⟨rfl, rfl⟩ ⟨by decide, by decide⟩ ⟨Nat.zero_le _, Nat.zero_le _⟩ hl.1 (Nat.le_of_ble_eq_true rfl) rfl dX1_restore_15 (fun H locs w => ?_)
    exact TX1_restore_18 C hg'  _ _ h w (lv_sub hl [1] rfl)
theorem mtX1_restore {GR : M3} {KR : J3}  (hg' : g' < 6)   (h : fX1_restore F g' G K = some (GR, KR)) : MtV l yX1_restore wdX1_restore rmX1_restore E [.ref (ad E 6 1), .ref (ad E g' 0)] G K  GR KR := by
  intro sz
  refine Met.ofW (cc := cX1_restore) (maxL := 3) (ret := none) (by decide) rfl ?_
  intro p e s m args below meth c s₁ B hml hv
  obtain ⟨rfl, C, w⟩ := Cx.of (own := RX1) B rfl hml hv
  have hl := lv_entry ([.ref (ad E 6 1), .ref (ad E g' 0)]) (n := 3) (by first | exact Nat.le_of_ble_eq_true rfl)
  rw [lg_entry_eq]
  generalize (lg_sl ([.ref (ad E 6 1), .ref (ad E g' 0)]) ++ List.replicate (3 - (lg_sl ([.ref (ad E 6 1), .ref (ad E g' 0)])).length) Slot.unset).toArray = ls at hl ⊢
  exact TX1_restore C hg'  h w hl
theorem ydX1_restore : yX1_restore.cls = RX1 ∧ yX1_restore.cls ≠ "java/lang/invoke/MethodHandle" ∧ yX1_restore.cls ≠ "java/lang/invoke/VarHandle" ∧ (parseMethodDescriptor yX1_restore.desc).map (fun d => d.parameters.length) = some 1 := by decide +kernel
end XP1
end
section
section XA1
variable {E : WE} {A : Nat → Prop} {p : Program} {l : Launch} {e : Env} {s : State} {m : MethodId} {args : Array Value} {below : List Frame} {meth : Method} {c : Code} {H : Heap} {locs : List Loc} {ls : Array Slot} {G : M3} {K : J3} {M : M2} {J : J2} {F g q : Nat} {g' q' : Nat}

/-! X4.rotate()I -/
abbrev rmX4_rotate : Room := { frames := 4, cells := 0, slots := 0, locals := 86 }
abbrev wdX4_rotate : Cond := Cond.code yX4_rotate cX4_rotate 1 (some .int)
noncomputable def fX4_rotate (F : Nat)   (G : M3) (K : J3) : Option (Int32 × M3 × J3) := bd2 (fX1_save F 0 G K) (fun G2 K3 => bd3 (fX3_reorder F (G2 0) (K3 0)) (fun vv11 M5 J6 => bnd (sg G2 0 M5) (fun G7 => bnd (sg K3 0 J6) (fun K8 => some (vv11, G7, K8)))))
set_option maxRecDepth 20000 in
set_option maxHeartbeats 1000000 in
theorem TX4_rotate {rr : Int32} {GR : M3} {KR : J3}  (C : Cx E A p s m args meth c wdX4_rotate cX4_rotate 1 (some .int) RX4)    (h : fX4_rotate F  G K = some (rr, GR, KR)) (w : Wd E A s G K H locs) (hl : lv_has ls 1 [(0, .ref (ad E 6 0))]) : W p l e rmX4_rotate s m args below meth c H locs 0 0 (QI E A below args s rr GR KR) (F0 m 0 ls []) := by
  obtain ⟨hx, hb, hr, hml, hown, hts, hlocks, hKK, hA1, hA2⟩ := id C
  unfold fX4_rotate at h
  refine lv_aload_n hx hb dX4_rotate_0 rfl (lv_at hl 0 rfl) ?_
  refine gR_X4_history C w q1_18 dX4_rotate_1 ?_
  refine lv_aload_n hx hb dX4_rotate_4 rfl (lv_at hl 0 rfl) ?_
  refine gR_X4_state C w q1_13 dX4_rotate_5 ?_
  obtain ⟨G2, K3, hv1, h⟩ := bd2_of h
  refine x_cVv (As := [.ref (ad E 0 0)]) (rest := []) C w (v6 (by decide)) cel_6 rfl (mtX1_save (show (0 : Nat) < 6 by decide) hv1) q9_1 q9_2 q9_3 q1_17 q9_4 ydX1_save ⟨rfl, rfl⟩ ⟨by decide, by decide⟩ ⟨Nat.zero_le _, Nat.zero_le _⟩ hl.1 (Nat.le_of_ble_eq_true rfl) rfl dX4_rotate_8 (fun H locs w => ?_)
  refine lv_aload_n hx hb dX4_rotate_11 rfl (lv_at hl 0 rfl) ?_
  refine gR_X4_state C w q1_13 dX4_rotate_12 ?_
  obtain ⟨vv11, M5, J6, hv4, h⟩ := bd3_of h
  refine x_cVi (As := []) (rest := []) C (Wd.ofS 0 w) (vS (show (0 : Nat) < 6 by decide) (by decide)) (cel_S (show (0 : Nat) < 6 by decide)) rfl (mtX3_reorder (show (0 : Nat) < 6 by decide) hv4) q14_9 q13_1 q13_2 q1_12 q13_3 ydX3_reorder ⟨rfl, rfl⟩ ⟨by decide, by decide⟩ ⟨Nat.zero_le _, Nat.zero_le _⟩ hl.1 (Nat.le_of_ble_eq_true rfl) rfl dX4_rotate_15 (fun H locs w => ?_)
  obtain ⟨G7, e9⟩ : ∃ z, z = sg G2 0 M5 := ⟨_, rfl⟩
  obtain ⟨K8, e10⟩ : ∃ z, z = sg K3 0 J6 := ⟨_, rfl⟩
  rw [← e9, ← e10] at w
  replace h := bnd_of h e9
  replace h := bnd_of h e10
  obtain ⟨e1, e2, e3⟩ := rt3 h
  exact x_ri C w e1 (by rw [e2]) (by rw [e3]) dX4_rotate_18
theorem mtX4_rotate {rr : Int32} {GR : M3} {KR : J3}     (h : fX4_rotate F  G K = some (rr, GR, KR)) : MtI l yX4_rotate wdX4_rotate rmX4_rotate E [.ref (ad E 6 0)] G K rr GR KR := by
  intro sz
  refine Met.ofW (cc := cX4_rotate) (maxL := 1) (ret := (some .int)) (by decide) rfl ?_
  intro p e s m args below meth c s₁ B hml hv
  obtain ⟨rfl, C, w⟩ := Cx.of (own := RX4) B rfl hml hv
  have hl := lv_entry ([.ref (ad E 6 0)]) (n := 1) (by first | exact Nat.le_of_ble_eq_true rfl)
  rw [lg_entry_eq]
  generalize (lg_sl ([.ref (ad E 6 0)]) ++ List.replicate (1 - (lg_sl ([.ref (ad E 6 0)])).length) Slot.unset).toArray = ls at hl ⊢
  exact TX4_rotate C   h w hl
theorem ydX4_rotate : yX4_rotate.cls = RX4 ∧ yX4_rotate.cls ≠ "java/lang/invoke/MethodHandle" ∧ yX4_rotate.cls ≠ "java/lang/invoke/VarHandle" ∧ (parseMethodDescriptor yX4_rotate.desc).map (fun d => d.parameters.length) = some 0 := by decide +kernel
/-! X4.minutesToLoad()I -/
abbrev rmX4_minutesToLoad : Room := { frames := 5, cells := 0, slots := 0, locals := 104 }
abbrev wdX4_minutesToLoad : Cond := Cond.code yX4_minutesToLoad cX4_minutesToLoad 2 (some .int)
noncomputable def fsX4_minutesToLoad_13 (F : Nat)   (k13 : Int32 → M3 → J3 → Option (Int32 × M3 × J3)) : Int32 → M3 → J3 → Option (Int32 × M3 × J3) := fun a1 G K => (if (600 : Int32) < a1 then (some ((-1 : Int32), G, K)) else (bd3 (fX3_runMinute F (G 1) (K 1)) (fun vv9 M3 J4 => bnd (sg G 1 M3) (fun G5 => bnd (sg K 1 J4) (fun K6 => (if vv9 = 0 then (k13 (a1 + (1 : Int32)) G5 K6) else (some (a1, G5, K6))))))))
noncomputable def fbX4_minutesToLoad_13 (F : Nat)   (n : Nat) : Int32 → M3 → J3 → Option (Int32 × M3 × J3) := itr (fsX4_minutesToLoad_13 F ) (fun _ _ _ => none) n
set_option maxRecDepth 20000 in
set_option maxHeartbeats 1000000 in
theorem SX4_minutesToLoad_13 {rr : Int32} {GR : M3} {KR : J3}   {k13 : Int32 → M3 → J3 → Option (Int32 × M3 × J3)} (C : Cx E A p s m args meth c wdX4_minutesToLoad cX4_minutesToLoad 2 (some .int) RX4)   (hk13 : ∀ (a1 : Int32) (G : M3) (K : J3)  (ls : Array Slot) (H : Heap) (locs : List Loc), k13 a1 G K = some (rr, GR, KR) → Wd E A s G K H locs → lv_has ls 2 [(0, .ref (ad E 6 0)), (1, .int a1)] → W p l e rmX4_minutesToLoad s m args below meth c H locs 0 0 (QI E A below args s rr GR KR) (F0 m 13 ls [])) (a1 : Int32) (G : M3) (K : J3)  (h : fsX4_minutesToLoad_13 F  k13 a1 G K = some (rr, GR, KR)) (w : Wd E A s G K H locs) (hl : lv_has ls 2 [(0, .ref (ad E 6 0)), (1, .int a1)]) : W p l e rmX4_minutesToLoad s m args below meth c H locs 0 0 (QI E A below args s rr GR KR) (F0 m 13 ls []) := by
  obtain ⟨hx, hb, hr, hml, hown, hts, hlocks, hKK, hA1, hA2⟩ := id C
  unfold fsX4_minutesToLoad_13 at h
  refine lv_iload_n hx hb dX4_minutesToLoad_13 rfl (lv_at hl 1 rfl) ?_
  refine lv_sipush (v := (600 : Int32)) hx hb dX4_minutesToLoad_14 (by decide) ?_
  refine lv_icmp_gt (tgt := 38) hx hb dX4_minutesToLoad_17 (by decide) (fun c1 => ?_) (fun c1 => ?_)
  · replace h := ite_t h c1
    refine lv_iconst (v := (-1 : Int32)) hx hb dX4_minutesToLoad_38 (by decide) ?_
    obtain ⟨e1, e2, e3⟩ := rt3 h
    exact x_ri C w e1 (by rw [e2]) (by rw [e3]) dX4_minutesToLoad_39
  · replace h := ite_f h c1
    refine lv_aload_n hx hb dX4_minutesToLoad_20 rfl (lv_at hl 0 rfl) ?_
    refine gR_X4_trial C w q1_14 dX4_minutesToLoad_21 ?_
    obtain ⟨vv9, M3, J4, hv2, h⟩ := bd3_of h
    refine x_cVi (As := []) (rest := []) C (Wd.ofS 1 w) (vS (show (1 : Nat) < 6 by decide) (by decide)) (cel_S (show (1 : Nat) < 6 by decide)) rfl (mtX3_runMinute (show (1 : Nat) < 6 by decide) hv2) q16_11 q14_22 q14_23 q1_12 q15_0 ydX3_runMinute ⟨rfl, rfl⟩ ⟨by decide, by decide⟩ ⟨Nat.zero_le _, Nat.zero_le _⟩ hl.1 (Nat.le_of_ble_eq_true rfl) rfl dX4_minutesToLoad_24 (fun H locs w => ?_)
    obtain ⟨G5, e7⟩ : ∃ z, z = sg G 1 M3 := ⟨_, rfl⟩
    obtain ⟨K6, e8⟩ : ∃ z, z = sg K 1 J4 := ⟨_, rfl⟩
    rw [← e7, ← e8] at w
    replace h := bnd_of h e7
    replace h := bnd_of h e8
    refine lv_if_eq (tgt := 32) hx hb dX4_minutesToLoad_27 (by decide) (fun c10 => ?_) (fun c10 => ?_)
    · replace h := ite_t h c10
      refine lv_iinc (v := (a1 + (1 : Int32))) (lv' := [(1, .int (a1 + (1 : Int32))), (0, .ref (ad E 6 0))]) hx hb dX4_minutesToLoad_32 hl (k := 1) rfl (congrArg (HAdd.hAdd _) (by decide)) (by decide) rfl (fun ls hl => ?_)
      refine lv_goto (tgt := 13) hx hb dX4_minutesToLoad_35 (by decide) ?_
      exact hk13 _ _ _ _ _ _ h w (lv_sub hl [1, 0] rfl)
    · replace h := ite_f h c10
      refine lv_iload_n hx hb dX4_minutesToLoad_30 rfl (lv_at hl 1 rfl) ?_
      obtain ⟨e1, e2, e3⟩ := rt3 h
      exact x_ri C w e1 (by rw [e2]) (by rw [e3]) dX4_minutesToLoad_31
theorem TX4_minutesToLoad_13 {rr : Int32} {GR : M3} {KR : J3}   (C : Cx E A p s m args meth c wdX4_minutesToLoad cX4_minutesToLoad 2 (some .int) RX4)   : ∀ (n : Nat) (a1 : Int32) (G : M3) (K : J3)  (ls : Array Slot) (H : Heap) (locs : List Loc), fbX4_minutesToLoad_13 F  n a1 G K = some (rr, GR, KR) → Wd E A s G K H locs → lv_has ls 2 [(0, .ref (ad E 6 0)), (1, .int a1)] → W p l e rmX4_minutesToLoad s m args below meth c H locs 0 0 (QI E A below args s rr GR KR) (F0 m 13 ls []) := by
  intro n
  induction n with
  | zero => intro a1 G K  ls H locs h; exact absurd (show none = _ from h) (fun z => nomatch z)
  | succ n ih => intro a1 G K  ls H locs h w hl; exact SX4_minutesToLoad_13 (F := F) C   ih a1 G K  h w hl
noncomputable def fX4_minutesToLoad (F : Nat)   (G : M3) (K : J3) : Option (Int32 × M3 × J3) := bd2 (fX3_takeOver F 1 0 G K) (fun G2 K3 => fbX4_minutesToLoad_13 F F (1 : Int32) G2 K3)
set_option maxRecDepth 20000 in
set_option maxHeartbeats 1000000 in
theorem TX4_minutesToLoad {rr : Int32} {GR : M3} {KR : J3}  (C : Cx E A p s m args meth c wdX4_minutesToLoad cX4_minutesToLoad 2 (some .int) RX4)    (h : fX4_minutesToLoad F  G K = some (rr, GR, KR)) (w : Wd E A s G K H locs) (hl : lv_has ls 2 [(0, .ref (ad E 6 0))]) : W p l e rmX4_minutesToLoad s m args below meth c H locs 0 0 (QI E A below args s rr GR KR) (F0 m 0 ls []) := by
  obtain ⟨hx, hb, hr, hml, hown, hts, hlocks, hKK, hA1, hA2⟩ := id C
  unfold fX4_minutesToLoad at h
  refine lv_aload_n hx hb dX4_minutesToLoad_0 rfl (lv_at hl 0 rfl) ?_
  refine gR_X4_trial C w q1_14 dX4_minutesToLoad_1 ?_
  refine lv_aload_n hx hb dX4_minutesToLoad_4 rfl (lv_at hl 0 rfl) ?_
  refine gR_X4_state C w q1_13 dX4_minutesToLoad_5 ?_
  obtain ⟨G2, K3, hv1, h⟩ := bd2_of h
  refine x_cVv (As := [.ref (ad E 0 0)]) (rest := []) C w (vS (show (1 : Nat) < 6 by decide) (by decide)) (cel_S (show (1 : Nat) < 6 by decide)) rfl (mtX3_takeOver (show (1 : Nat) < 6 by decide) (show (0 : Nat) < 6 by decide) hv1) q16_10 q9_16 q9_17 q1_12 q9_18 ydX3_takeOver ⟨rfl, rfl⟩ ⟨by decide, by decide⟩ ⟨Nat.zero_le _, Nat.zero_le _⟩ hl.1 (Nat.le_of_ble_eq_true rfl) rfl dX4_minutesToLoad_8 (fun H locs w => ?_)
  refine lv_iconst (v := (1 : Int32)) hx hb dX4_minutesToLoad_11 (by decide) ?_
  refine lv_istore_n (lv' := [(1, .int (1 : Int32)), (0, .ref (ad E 6 0))]) hx hb dX4_minutesToLoad_12 rfl hl (by decide) rfl (fun ls hl => ?_)
  exact TX4_minutesToLoad_13 C   _ _ _ _ _ _ _ h w (lv_sub hl [1, 0] rfl)
theorem mtX4_minutesToLoad {rr : Int32} {GR : M3} {KR : J3}     (h : fX4_minutesToLoad F  G K = some (rr, GR, KR)) : MtI l yX4_minutesToLoad wdX4_minutesToLoad rmX4_minutesToLoad E [.ref (ad E 6 0)] G K rr GR KR := by
  intro sz
  refine Met.ofW (cc := cX4_minutesToLoad) (maxL := 2) (ret := (some .int)) (by decide) rfl ?_
  intro p e s m args below meth c s₁ B hml hv
  obtain ⟨rfl, C, w⟩ := Cx.of (own := RX4) B rfl hml hv
  have hl := lv_entry ([.ref (ad E 6 0)]) (n := 2) (by first | exact Nat.le_of_ble_eq_true rfl)
  rw [lg_entry_eq]
  generalize (lg_sl ([.ref (ad E 6 0)]) ++ List.replicate (2 - (lg_sl ([.ref (ad E 6 0)])).length) Slot.unset).toArray = ls at hl ⊢
  exact TX4_minutesToLoad C   h w hl
theorem ydX4_minutesToLoad : yX4_minutesToLoad.cls = RX4 ∧ yX4_minutesToLoad.cls ≠ "java/lang/invoke/MethodHandle" ∧ yX4_minutesToLoad.cls ≠ "java/lang/invoke/VarHandle" ∧ (parseMethodDescriptor yX4_minutesToLoad.desc).map (fun d => d.parameters.length) = some 0 := by decide +kernel
/-! X4.digestWith(JLAirStation$Compressor;)J -/
abbrev rmX4_digestWith : Room := { frames := 3, cells := 0, slots := 0, locals := 55 }
abbrev wdX4_digestWith : Cond := Cond.code yX4_digestWith cX4_digestWith 7 (some .long)
noncomputable def fsX4_digestWith_12 (F : Nat)  (G : M3) (K : J3) (k12 : Nat → Int64 → Int32 → Option Int64) : Nat → Int64 → Int32 → Option Int64 := fun a3 a4 a6 => (if (10 : Int32) ≤ a6 then ((fX3_pressure (G 0) (K 0)).bind (fun vv3 => some (((31 : Int64) * a4) + (fX3_doingOf (G 0) (K 0) a3 vv3).toInt64))) else (k12 a3 (((31 : Int64) * a4) + (fX3_numberAbout (G 0) (K 0) a3 a6).toInt64) (a6 + (1 : Int32))))
noncomputable def fbX4_digestWith_12 (F : Nat)  (G : M3) (K : J3) (n : Nat) : Nat → Int64 → Int32 → Option Int64 := itr (fsX4_digestWith_12 F G K) (fun _ _ _ => none) n
set_option maxRecDepth 20000 in
set_option maxHeartbeats 1000000 in
theorem SX4_digestWith_12 {rr : Int64}   {k12 : Nat → Int64 → Int32 → Option Int64} (C : Cx E A p s m args meth c wdX4_digestWith cX4_digestWith 7 (some .long) RX4)   (hk12 : ∀ (a3 : Nat) (a4 : Int64) (a6 : Int32)  (ha3 : isC a3) (ls : Array Slot) (H : Heap) (locs : List Loc), k12 a3 a4 a6 = some rr → Wd E A s G K H locs → lv_has ls 7 [(0, .ref (ad E 6 0)), (3, .ref (ad E 0 a3)), (4, .long a4), (6, .int a6)] → W p l e rmX4_digestWith s m args below meth c H locs 0 0 (QL E A below args s rr G K) (F0 m 12 ls [])) (a3 : Nat) (a4 : Int64) (a6 : Int32)  (ha3 : isC a3) (h : fsX4_digestWith_12 F G K k12 a3 a4 a6 = some rr) (w : Wd E A s G K H locs) (hl : lv_has ls 7 [(0, .ref (ad E 6 0)), (3, .ref (ad E 0 a3)), (4, .long a4), (6, .int a6)]) : W p l e rmX4_digestWith s m args below meth c H locs 0 0 (QL E A below args s rr G K) (F0 m 12 ls []) := by
  obtain ⟨hx, hb, hr, hml, hown, hts, hlocks, hKK, hA1, hA2⟩ := id C
  unfold fsX4_digestWith_12 at h
  refine lv_iload hx hb dX4_digestWith_12 (lv_at hl 3 rfl) ?_
  refine lv_bipush (v := (10 : Int32)) hx hb dX4_digestWith_14 (by decide) ?_
  refine lv_icmp_ge (tgt := 45) hx hb dX4_digestWith_16 (by decide) (fun c1 => ?_) (fun c1 => ?_)
  · replace h := ite_t h c1
    refine lv_ldc2 hx hb hown (x_hts C q15_22) dX4_digestWith_45 ?_
    refine lv_lload hx hb dX4_digestWith_48 (lv_at hl 2 rfl) ?_
    refine lv_lmul hx hb dX4_digestWith_50 ?_
    refine lv_aload_n hx hb dX4_digestWith_51 rfl (lv_at hl 0 rfl) ?_
    refine gR_X4_state C w q1_13 dX4_digestWith_52 ?_
    refine lv_aload_n hx hb dX4_digestWith_55 rfl (lv_at hl 1 rfl) ?_
    refine lv_aload_n hx hb dX4_digestWith_56 rfl (lv_at hl 0 rfl) ?_
    refine gR_X4_state C w q1_13 dX4_digestWith_57 ?_
    obtain ⟨vv3, hv2, h⟩ := bind_of h
    refine x_cVi (As := []) (rest := [.ref (ad E 0 a3), .ref (ad E 0 0), .long ((31 : Int64) * a4)]) C (Wd.ofS 0 w) (vS (show (0 : Nat) < 6 by decide) (by decide)) (cel_S (show (0 : Nat) < 6 by decide)) rfl (mtX3_pressure (show (0 : Nat) < 6 by decide) hv2) q8_5 q4_16 q4_17 q1_12 q4_18 ydX3_pressure ⟨rfl, rfl⟩ ⟨by decide, by decide⟩ ⟨Nat.zero_le _, Nat.zero_le _⟩ hl.1 (Nat.le_of_ble_eq_true rfl) rfl dX4_digestWith_60 (fun H locs w => ?_)
    have w := Wd.back w
    refine x_cVi (As := [.ref (ad E 0 a3), .int vv3]) (rest := [.long ((31 : Int64) * a4)]) C (Wd.ofS 0 w) (vS (show (0 : Nat) < 6 by decide) (by decide)) (cel_S (show (0 : Nat) < 6 by decide)) rfl (mtX3_doingOf (show (0 : Nat) < 6 by decide) ha3) q8_6 q8_7 q8_8 q1_12 q8_9 ydX3_doingOf ⟨rfl, rfl⟩ ⟨by decide, by decide⟩ ⟨Nat.zero_le _, Nat.zero_le _⟩ hl.1 (Nat.le_of_ble_eq_true rfl) rfl dX4_digestWith_63 (fun H locs w => ?_)
    have w := Wd.back w
    refine lv_i2l hx hb dX4_digestWith_66 rfl ?_
    refine lv_ladd hx hb dX4_digestWith_67 ?_
    have e1 := Option.some.inj h
    exact x_rl C w e1 rfl rfl dX4_digestWith_68
  · replace h := ite_f h c1
    refine lv_ldc2 hx hb hown (x_hts C q15_22) dX4_digestWith_19 ?_
    refine lv_lload hx hb dX4_digestWith_22 (lv_at hl 2 rfl) ?_
    refine lv_lmul hx hb dX4_digestWith_24 ?_
    refine lv_aload_n hx hb dX4_digestWith_25 rfl (lv_at hl 0 rfl) ?_
    refine gR_X4_state C w q1_13 dX4_digestWith_26 ?_
    refine lv_aload_n hx hb dX4_digestWith_29 rfl (lv_at hl 1 rfl) ?_
    refine lv_iload hx hb dX4_digestWith_30 (lv_at hl 3 rfl) ?_
    refine x_cVi (As := [.ref (ad E 0 a3), .int a6]) (rest := [.long ((31 : Int64) * a4)]) C (Wd.ofS 0 w) (vS (show (0 : Nat) < 6 by decide) (by decide)) (cel_S (show (0 : Nat) < 6 by decide)) rfl (mtX3_numberAbout (show (0 : Nat) < 6 by decide) ha3) q6_8 q6_9 q6_10 q1_12 q6_11 ydX3_numberAbout ⟨rfl, rfl⟩ ⟨by decide, by decide⟩ ⟨Nat.zero_le _, Nat.zero_le _⟩ hl.1 (Nat.le_of_ble_eq_true rfl) rfl dX4_digestWith_32 (fun H locs w => ?_)
    have w := Wd.back w
    refine lv_i2l hx hb dX4_digestWith_35 rfl ?_
    refine lv_ladd hx hb dX4_digestWith_36 ?_
    refine lv_lstore (lv' := [(4, .long (((31 : Int64) * a4) + (fX3_numberAbout (G 0) (K 0) a3 a6).toInt64)), (0, .ref (ad E 6 0)), (3, .ref (ad E 0 a3)), (6, .int a6)]) hx hb dX4_digestWith_37 hl (by decide) rfl (fun ls hl => ?_)
    refine lv_iinc (v := (a6 + (1 : Int32))) (lv' := [(6, .int (a6 + (1 : Int32))), (4, .long (((31 : Int64) * a4) + (fX3_numberAbout (G 0) (K 0) a3 a6).toInt64)), (0, .ref (ad E 6 0)), (3, .ref (ad E 0 a3))]) hx hb dX4_digestWith_39 hl (k := 3) rfl (congrArg (HAdd.hAdd _) (by decide)) (by decide) rfl (fun ls hl => ?_)
    refine lv_goto (tgt := 12) hx hb dX4_digestWith_42 (by decide) ?_
    exact hk12 _ _ _ ha3 _ _ _ h w (lv_sub hl [2, 3, 1, 0] rfl)
theorem TX4_digestWith_12 {rr : Int64}   (C : Cx E A p s m args meth c wdX4_digestWith cX4_digestWith 7 (some .long) RX4)   : ∀ (n : Nat) (a3 : Nat) (a4 : Int64) (a6 : Int32)  (ha3 : isC a3) (ls : Array Slot) (H : Heap) (locs : List Loc), fbX4_digestWith_12 F G K n a3 a4 a6 = some rr → Wd E A s G K H locs → lv_has ls 7 [(0, .ref (ad E 6 0)), (3, .ref (ad E 0 a3)), (4, .long a4), (6, .int a6)] → W p l e rmX4_digestWith s m args below meth c H locs 0 0 (QL E A below args s rr G K) (F0 m 12 ls []) := by
  intro n
  induction n with
  | zero => intro a3 a4 a6 u0 ls H locs h; exact absurd (show none = _ from h) (fun z => nomatch z)
  | succ n ih => intro a3 a4 a6 u0 ls H locs h w hl; exact SX4_digestWith_12 (F := F) C   ih a3 a4 a6 u0 h w hl
noncomputable def fX4_digestWith (F : Nat) (G : M3) (K : J3) (x1 : Int64) (y2 : Option Nat)  : Option Int64 := oc y2 (some x1) (fun z1 => chk (isC z1) (fbX4_digestWith_12 F G K F z1 x1 (0 : Int32)))
set_option maxRecDepth 20000 in
set_option maxHeartbeats 1000000 in
theorem TX4_digestWith {rr : Int64}  (C : Cx E A p s m args meth c wdX4_digestWith cX4_digestWith 7 (some .long) RX4)  {x1 : Int64} {y2 : Option Nat} (hy2 : ∀ z, y2 = some z → isC z) (h : fX4_digestWith F G K x1 y2 = some rr) (w : Wd E A s G K H locs) (hl : lv_has ls 7 [(0, .ref (ad E 6 0)), (1, .long x1), (3, va_rf (y2.map (fun z => ad E 0 z)))]) : W p l e rmX4_digestWith s m args below meth c H locs 0 0 (QL E A below args s rr G K) (F0 m 0 ls []) := by
  obtain ⟨hx, hb, hr, hml, hown, hts, hlocks, hKK, hA1, hA2⟩ := id C
  unfold fX4_digestWith at h
  cases y2 with
  | none =>
    replace h := oc_n h
    have hl : lv_has ls 7 [(0, .ref (ad E 6 0)), (1, .long x1), (3, .null)] := hl
    refine lv_aload_nN hx hb dX4_digestWith_0 rfl (lv_at hl 2 rfl) ?_
    refine lv_ifnonnullN hx hb dX4_digestWith_1 ?_
    refine lv_lload_n hx hb dX4_digestWith_4 rfl (lv_at hl 1 rfl) ?_
    have e1 := Option.some.inj h
    exact x_rl C w e1 rfl rfl dX4_digestWith_5
  | some z1 =>
    replace h := oc_s h
    obtain ⟨hz1, h⟩ := chk_of h
    have hl : lv_has ls 7 [(0, .ref (ad E 6 0)), (1, .long x1), (3, .ref (ad E 0 z1))] := hl
    refine lv_aload_n hx hb dX4_digestWith_0 rfl (lv_at hl 2 rfl) ?_
    refine lv_ifnonnull (tgt := 6) hx hb dX4_digestWith_1 (by decide) ?_
    refine lv_lload_n hx hb dX4_digestWith_6 rfl (lv_at hl 1 rfl) ?_
    refine lv_lstore (lv' := [(4, .long x1), (0, .ref (ad E 6 0)), (1, .long x1), (3, .ref (ad E 0 z1))]) hx hb dX4_digestWith_7 hl (by decide) rfl (fun ls hl => ?_)
    refine lv_iconst (v := (0 : Int32)) hx hb dX4_digestWith_9 (by decide) ?_
    refine lv_istore (lv' := [(6, .int (0 : Int32)), (4, .long x1), (0, .ref (ad E 6 0)), (1, .long x1), (3, .ref (ad E 0 z1))]) hx hb dX4_digestWith_10 hl (by decide) rfl (fun ls hl => ?_)
    exact TX4_digestWith_12 C   _ _ _ _ hz1 _ _ _ h w (lv_sub hl [2, 4, 1, 0] rfl)
theorem mtX4_digestWith {rr : Int64}   {x1 : Int64} {y2 : Option Nat} (hy2 : ∀ z, y2 = some z → isC z) (h : fX4_digestWith F G K x1 y2 = some rr) : MtL l yX4_digestWith wdX4_digestWith rmX4_digestWith E [.ref (ad E 6 0), .long x1, va_rf (y2.map (fun z => ad E 0 z))] G K rr G K := by
  intro sz
  refine Met.ofW (cc := cX4_digestWith) (maxL := 7) (ret := (some .long)) (by decide) rfl ?_
  intro p e s m args below meth c s₁ B hml hv
  obtain ⟨rfl, C, w⟩ := Cx.of (own := RX4) B rfl hml hv
  have hl := lv_entry ([.ref (ad E 6 0), .long x1, va_rf (y2.map (fun z => ad E 0 z))]) (n := 7) (by first | exact Nat.le_of_ble_eq_true rfl | (cases y2 <;> exact Nat.le_of_ble_eq_true rfl))
  rw [lg_entry_eq]
  generalize (lg_sl ([.ref (ad E 6 0), .long x1, va_rf (y2.map (fun z => ad E 0 z))]) ++ List.replicate (7 - (lg_sl ([.ref (ad E 6 0), .long x1, va_rf (y2.map (fun z => ad E 0 z))])).length) Slot.unset).toArray = ls at hl ⊢
  exact TX4_digestWith C  hy2 h w hl
theorem ydX4_digestWith : yX4_digestWith.cls = RX4 ∧ yX4_digestWith.cls ≠ "java/lang/invoke/MethodHandle" ∧ yX4_digestWith.cls ≠ "java/lang/invoke/VarHandle" ∧ (parseMethodDescriptor yX4_digestWith.desc).map (fun d => d.parameters.length) = some 2 := by decide +kernel
/-! X4.digest()J -/
abbrev rmX4_digest : Room := { frames := 4, cells := 0, slots := 0, locals := 81 }
abbrev wdX4_digest : Cond := Cond.code yX4_digest cX4_digest 4 (some .long)
noncomputable def fbX4_digest_173 (F : Nat)  (G : M3) (K : J3) (a1 : Int64)  : Option Int64 := some (((31 : Int64) * a1) + (G 6 1 0).toInt64)
set_option maxRecDepth 20000 in
set_option maxHeartbeats 1000000 in
theorem TX4_digest_173 {rr : Int64}   (C : Cx E A p s m args meth c wdX4_digest cX4_digest 4 (some .long) RX4)   (a1 : Int64)   (h : fbX4_digest_173 F G K a1 = some rr) (w : Wd E A s G K H locs) (hl : lv_has ls 4 [(0, .ref (ad E 6 0)), (1, .long a1)]) : W p l e rmX4_digest s m args below meth c H locs 0 0 (QL E A below args s rr G K) (F0 m 173 ls []) := by
  obtain ⟨hx, hb, hr, hml, hown, hts, hlocks, hKK, hA1, hA2⟩ := id C
  unfold fbX4_digest_173 at h
  refine lv_ldc2 hx hb hown (x_hts C q15_22) dX4_digest_173 ?_
  refine lv_lload_n hx hb dX4_digest_176 rfl (lv_at hl 1 rfl) ?_
  refine lv_lmul hx hb dX4_digest_177 ?_
  refine lv_aload_n hx hb dX4_digest_178 rfl (lv_at hl 0 rfl) ?_
  refine gR_X4_history C w q1_18 dX4_digest_179 ?_
  refine gG_X1_kept C w q16_1 dX4_digest_182 ?_
  refine lv_i2l hx hb dX4_digest_185 rfl ?_
  refine lv_ladd hx hb dX4_digest_186 ?_
  have e1 := Option.some.inj h
  exact x_rl C w e1 rfl rfl dX4_digest_187
noncomputable def fsX4_digest_133 (F : Nat)  (G : M3) (K : J3) (k133 : Int64 → Int32 → Option Int64) : Int64 → Int32 → Option Int64 := fun a1 a3 => (if (G 0 0 6) ≤ a3 then (fbX4_digest_173 F G K a1) else ((if (6 : Int32) ≤ a3 then (fbX4_digest_173 F G K a1) else (chk (inb a3 6) (k133 (((31 : Int64) * a1) + (G 0 3 a3.toNatClampNeg).toInt64) (a3 + (1 : Int32)))))))
noncomputable def fbX4_digest_133 (F : Nat)  (G : M3) (K : J3) (n : Nat) : Int64 → Int32 → Option Int64 := itr (fsX4_digest_133 F G K) (fun _ _ => none) n
set_option maxRecDepth 20000 in
set_option maxHeartbeats 1000000 in
theorem SX4_digest_133 {rr : Int64}   {k133 : Int64 → Int32 → Option Int64} (C : Cx E A p s m args meth c wdX4_digest cX4_digest 4 (some .long) RX4)   (hk133 : ∀ (a1 : Int64) (a3 : Int32)   (ls : Array Slot) (H : Heap) (locs : List Loc), k133 a1 a3 = some rr → Wd E A s G K H locs → lv_has ls 4 [(0, .ref (ad E 6 0)), (1, .long a1), (3, .int a3)] → W p l e rmX4_digest s m args below meth c H locs 0 0 (QL E A below args s rr G K) (F0 m 133 ls [])) (a1 : Int64) (a3 : Int32)   (h : fsX4_digest_133 F G K k133 a1 a3 = some rr) (w : Wd E A s G K H locs) (hl : lv_has ls 4 [(0, .ref (ad E 6 0)), (1, .long a1), (3, .int a3)]) : W p l e rmX4_digest s m args below meth c H locs 0 0 (QL E A below args s rr G K) (F0 m 133 ls []) := by
  obtain ⟨hx, hb, hr, hml, hown, hts, hlocks, hKK, hA1, hA2⟩ := id C
  unfold fsX4_digest_133 at h
  refine lv_iload_n hx hb dX4_digest_133 rfl (lv_at hl 2 rfl) ?_
  refine lv_aload_n hx hb dX4_digest_134 rfl (lv_at hl 0 rfl) ?_
  refine gR_X4_state C w q1_13 dX4_digest_135 ?_
  refine gG_X3_kept (show (0 : Nat) < 6 by decide) C w q15_23 dX4_digest_138 ?_
  refine lv_icmp_ge (tgt := 173) hx hb dX4_digest_141 (by decide) (fun c1 => ?_) (fun c1 => ?_)
  · replace h := ite_t h c1
    exact TX4_digest_173 C   _ h w (lv_sub hl [0, 1] rfl)
  · replace h := ite_f h c1
    refine lv_iload_n hx hb dX4_digest_144 rfl (lv_at hl 2 rfl) ?_
    refine lv_bipush (v := (6 : Int32)) hx hb dX4_digest_145 (by decide) ?_
    refine lv_icmp_ge (tgt := 173) hx hb dX4_digest_147 (by decide) (fun c2 => ?_) (fun c2 => ?_)
    · replace h := ite_t h c2
      exact TX4_digest_173 C   _ h w (lv_sub hl [0, 1] rfl)
    · replace h := ite_f h c2
      refine lv_ldc2 hx hb hown (x_hts C q15_22) dX4_digest_150 ?_
      refine lv_lload_n hx hb dX4_digest_153 rfl (lv_at hl 1 rfl) ?_
      refine lv_lmul hx hb dX4_digest_154 ?_
      refine lv_aload_n hx hb dX4_digest_155 rfl (lv_at hl 0 rfl) ?_
      refine gR_X4_state C w q1_13 dX4_digest_156 ?_
      refine gR_X3_results (show (0 : Nat) < 6 by decide) C w q16_0 dX4_digest_159 ?_
      refine lv_iload_n hx hb dX4_digest_162 rfl (lv_at hl 2 rfl) ?_
      obtain ⟨ki3, h⟩ := chk_of h
      refine x_aldI C w (vS (show (0 : Nat) < 6 by decide) (by decide)) (cS3 (show (0 : Nat) < 6 by decide)) ki3 rfl dX4_digest_163 ?_
      refine lv_i2l hx hb dX4_digest_164 rfl ?_
      refine lv_ladd hx hb dX4_digest_165 ?_
      refine lv_lstore_n (lv' := [(1, .long (((31 : Int64) * a1) + (G 0 3 a3.toNatClampNeg).toInt64)), (0, .ref (ad E 6 0)), (3, .int a3)]) hx hb dX4_digest_166 rfl hl (by decide) rfl (fun ls hl => ?_)
      refine lv_iinc (v := (a3 + (1 : Int32))) (lv' := [(3, .int (a3 + (1 : Int32))), (1, .long (((31 : Int64) * a1) + (G 0 3 a3.toNatClampNeg).toInt64)), (0, .ref (ad E 6 0))]) hx hb dX4_digest_167 hl (k := 2) rfl (congrArg (HAdd.hAdd _) (by decide)) (by decide) rfl (fun ls hl => ?_)
      refine lv_goto (tgt := 133) hx hb dX4_digest_170 (by decide) ?_
      exact hk133 _ _ _ _ _ h w (lv_sub hl [2, 1, 0] rfl)
theorem TX4_digest_133 {rr : Int64}   (C : Cx E A p s m args meth c wdX4_digest cX4_digest 4 (some .long) RX4)   : ∀ (n : Nat) (a1 : Int64) (a3 : Int32)   (ls : Array Slot) (H : Heap) (locs : List Loc), fbX4_digest_133 F G K n a1 a3 = some rr → Wd E A s G K H locs → lv_has ls 4 [(0, .ref (ad E 6 0)), (1, .long a1), (3, .int a3)] → W p l e rmX4_digest s m args below meth c H locs 0 0 (QL E A below args s rr G K) (F0 m 133 ls []) := by
  intro n
  induction n with
  | zero => intro a1 a3  ls H locs h; exact absurd (show none = _ from h) (fun z => nomatch z)
  | succ n ih => intro a1 a3  ls H locs h w hl; exact SX4_digest_133 (F := F) C   ih a1 a3  h w hl
noncomputable def fsX4_digest_106 (F : Nat)  (G : M3) (K : J3) (k106 : Int64 → Int32 → Option Int64) : Int64 → Int32 → Option Int64 := fun a1 a3 => (if (5 : Int32) ≤ a3 then (fbX4_digest_133 F G K F a1 (0 : Int32)) else ((fX3_numbered (G 0) (K 0) a3).bind (fun vv3 => oc vv3 ((fX4_digestWith F G K a1 none).bind (fun vv6 => k106 vv6 (a3 + (1 : Int32)))) (fun z4 => chk (isC z4) ((fX4_digestWith F G K a1 (some z4)).bind (fun vv8 => k106 vv8 (a3 + (1 : Int32))))))))
noncomputable def fbX4_digest_106 (F : Nat)  (G : M3) (K : J3) (n : Nat) : Int64 → Int32 → Option Int64 := itr (fsX4_digest_106 F G K) (fun _ _ => none) n
set_option maxRecDepth 20000 in
set_option maxHeartbeats 1000000 in
theorem SX4_digest_106 {rr : Int64}   {k106 : Int64 → Int32 → Option Int64} (C : Cx E A p s m args meth c wdX4_digest cX4_digest 4 (some .long) RX4)   (hk106 : ∀ (a1 : Int64) (a3 : Int32)   (ls : Array Slot) (H : Heap) (locs : List Loc), k106 a1 a3 = some rr → Wd E A s G K H locs → lv_has ls 4 [(0, .ref (ad E 6 0)), (1, .long a1), (3, .int a3)] → W p l e rmX4_digest s m args below meth c H locs 0 0 (QL E A below args s rr G K) (F0 m 106 ls [])) (a1 : Int64) (a3 : Int32)   (h : fsX4_digest_106 F G K k106 a1 a3 = some rr) (w : Wd E A s G K H locs) (hl : lv_has ls 4 [(0, .ref (ad E 6 0)), (1, .long a1), (3, .int a3)]) : W p l e rmX4_digest s m args below meth c H locs 0 0 (QL E A below args s rr G K) (F0 m 106 ls []) := by
  obtain ⟨hx, hb, hr, hml, hown, hts, hlocks, hKK, hA1, hA2⟩ := id C
  unfold fsX4_digest_106 at h
  refine lv_iload_n hx hb dX4_digest_106 rfl (lv_at hl 2 rfl) ?_
  refine lv_iconst (v := (5 : Int32)) hx hb dX4_digest_107 (by decide) ?_
  refine lv_icmp_ge (tgt := 131) hx hb dX4_digest_108 (by decide) (fun c1 => ?_) (fun c1 => ?_)
  · replace h := ite_t h c1
    refine lv_iconst (v := (0 : Int32)) hx hb dX4_digest_131 (by decide) ?_
    refine lv_istore_n (lv' := [(3, .int (0 : Int32)), (0, .ref (ad E 6 0)), (1, .long a1)]) hx hb dX4_digest_132 rfl hl (by decide) rfl (fun ls hl => ?_)
    exact TX4_digest_133 C   _ _ _ _ _ _ h w (lv_sub hl [1, 2, 0] rfl)
  · replace h := ite_f h c1
    refine lv_aload_n hx hb dX4_digest_111 rfl (lv_at hl 0 rfl) ?_
    refine lv_lload_n hx hb dX4_digest_112 rfl (lv_at hl 1 rfl) ?_
    refine lv_aload_n hx hb dX4_digest_113 rfl (lv_at hl 0 rfl) ?_
    refine gR_X4_state C w q1_13 dX4_digest_114 ?_
    refine lv_iload_n hx hb dX4_digest_117 rfl (lv_at hl 2 rfl) ?_
    obtain ⟨vv3, hv2, h⟩ := bind_of h
    refine x_cVq (As := [.int a3]) (rest := [.long a1, .ref (ad E 6 0)]) C (Wd.ofS 0 w) (vS (show (0 : Nat) < 6 by decide) (by decide)) (cel_S (show (0 : Nat) < 6 by decide)) rfl (mtX3_numbered (show (0 : Nat) < 6 by decide) hv2) q6_7 q5_3 q5_4 q1_12 q5_5 ydX3_numbered ⟨rfl, rfl⟩ ⟨by decide, by decide⟩ ⟨Nat.zero_le _, Nat.zero_le _⟩ hl.1 (Nat.le_of_ble_eq_true rfl) rfl dX4_digest_118 (fun H locs w => ?_)
    have w := Wd.back w
    cases vv3 with
    | none =>
      replace h := oc_n h
      obtain ⟨vv6, hv5, h⟩ := bind_of h
      refine x_cVl (As := [.long a1, .null]) (rest := []) C w (v6 (by decide)) cel_6 rfl (mtX4_digestWith (fun _ h => by cases h) hv5) q16_2 q16_3 q16_4 q1_2 q16_5 ydX4_digestWith ⟨rfl, rfl⟩ ⟨by decide, by decide⟩ ⟨Nat.zero_le _, Nat.zero_le _⟩ hl.1 (Nat.le_of_ble_eq_true rfl) rfl dX4_digest_121 (fun H locs w => ?_)
      refine lv_lstore_n (lv' := [(1, .long vv6), (0, .ref (ad E 6 0)), (3, .int a3)]) hx hb dX4_digest_124 rfl hl (by decide) rfl (fun ls hl => ?_)
      refine lv_iinc (v := (a3 + (1 : Int32))) (lv' := [(3, .int (a3 + (1 : Int32))), (1, .long vv6), (0, .ref (ad E 6 0))]) hx hb dX4_digest_125 hl (k := 2) rfl (congrArg (HAdd.hAdd _) (by decide)) (by decide) rfl (fun ls hl => ?_)
      refine lv_goto (tgt := 106) hx hb dX4_digest_128 (by decide) ?_
      exact hk106 _ _ _ _ _ h w (lv_sub hl [2, 1, 0] rfl)
    | some z4 =>
      replace h := oc_s h
      obtain ⟨hz4, h⟩ := chk_of h
      obtain ⟨vv8, hv7, h⟩ := bind_of h
      refine x_cVl (As := [.long a1, .ref (ad E 0 z4)]) (rest := []) C w (v6 (by decide)) cel_6 rfl (mtX4_digestWith (fun _ h => by cases h; exact hz4) hv7) q16_2 q16_3 q16_4 q1_2 q16_5 ydX4_digestWith ⟨rfl, rfl⟩ ⟨by decide, by decide⟩ ⟨Nat.zero_le _, Nat.zero_le _⟩ hl.1 (Nat.le_of_ble_eq_true rfl) rfl dX4_digest_121 (fun H locs w => ?_)
      refine lv_lstore_n (lv' := [(1, .long vv8), (0, .ref (ad E 6 0)), (3, .int a3)]) hx hb dX4_digest_124 rfl hl (by decide) rfl (fun ls hl => ?_)
      refine lv_iinc (v := (a3 + (1 : Int32))) (lv' := [(3, .int (a3 + (1 : Int32))), (1, .long vv8), (0, .ref (ad E 6 0))]) hx hb dX4_digest_125 hl (k := 2) rfl (congrArg (HAdd.hAdd _) (by decide)) (by decide) rfl (fun ls hl => ?_)
      refine lv_goto (tgt := 106) hx hb dX4_digest_128 (by decide) ?_
      exact hk106 _ _ _ _ _ h w (lv_sub hl [2, 1, 0] rfl)
theorem TX4_digest_106 {rr : Int64}   (C : Cx E A p s m args meth c wdX4_digest cX4_digest 4 (some .long) RX4)   : ∀ (n : Nat) (a1 : Int64) (a3 : Int32)   (ls : Array Slot) (H : Heap) (locs : List Loc), fbX4_digest_106 F G K n a1 a3 = some rr → Wd E A s G K H locs → lv_has ls 4 [(0, .ref (ad E 6 0)), (1, .long a1), (3, .int a3)] → W p l e rmX4_digest s m args below meth c H locs 0 0 (QL E A below args s rr G K) (F0 m 106 ls []) := by
  intro n
  induction n with
  | zero => intro a1 a3  ls H locs h; exact absurd (show none = _ from h) (fun z => nomatch z)
  | succ n ih => intro a1 a3  ls H locs h w hl; exact SX4_digest_106 (F := F) C   ih a1 a3  h w hl
noncomputable def fsX4_digest_76 (F : Nat)  (G : M3) (K : J3) (k76 : Int64 → Int32 → Option Int64) : Int64 → Int32 → Option Int64 := fun a1 a3 => (if (6 : Int32) ≤ a3 then (fbX4_digest_106 F G K F a1 (0 : Int32)) else (chk (inb a3 6) (k76 (((31 : Int64) * a1) + (K 0 2 a3.toNatClampNeg)) (a3 + (1 : Int32)))))
noncomputable def fbX4_digest_76 (F : Nat)  (G : M3) (K : J3) (n : Nat) : Int64 → Int32 → Option Int64 := itr (fsX4_digest_76 F G K) (fun _ _ => none) n
set_option maxRecDepth 20000 in
set_option maxHeartbeats 1000000 in
theorem SX4_digest_76 {rr : Int64}   {k76 : Int64 → Int32 → Option Int64} (C : Cx E A p s m args meth c wdX4_digest cX4_digest 4 (some .long) RX4)   (hk76 : ∀ (a1 : Int64) (a3 : Int32)   (ls : Array Slot) (H : Heap) (locs : List Loc), k76 a1 a3 = some rr → Wd E A s G K H locs → lv_has ls 4 [(0, .ref (ad E 6 0)), (1, .long a1), (3, .int a3)] → W p l e rmX4_digest s m args below meth c H locs 0 0 (QL E A below args s rr G K) (F0 m 76 ls [])) (a1 : Int64) (a3 : Int32)   (h : fsX4_digest_76 F G K k76 a1 a3 = some rr) (w : Wd E A s G K H locs) (hl : lv_has ls 4 [(0, .ref (ad E 6 0)), (1, .long a1), (3, .int a3)]) : W p l e rmX4_digest s m args below meth c H locs 0 0 (QL E A below args s rr G K) (F0 m 76 ls []) := by
  obtain ⟨hx, hb, hr, hml, hown, hts, hlocks, hKK, hA1, hA2⟩ := id C
  unfold fsX4_digest_76 at h
  refine lv_iload_n hx hb dX4_digest_76 rfl (lv_at hl 2 rfl) ?_
  refine lv_bipush (v := (6 : Int32)) hx hb dX4_digest_77 (by decide) ?_
  refine lv_icmp_ge (tgt := 104) hx hb dX4_digest_79 (by decide) (fun c1 => ?_) (fun c1 => ?_)
  · replace h := ite_t h c1
    refine lv_iconst (v := (0 : Int32)) hx hb dX4_digest_104 (by decide) ?_
    refine lv_istore_n (lv' := [(3, .int (0 : Int32)), (0, .ref (ad E 6 0)), (1, .long a1)]) hx hb dX4_digest_105 rfl hl (by decide) rfl (fun ls hl => ?_)
    exact TX4_digest_106 C   _ _ _ _ _ _ h w (lv_sub hl [1, 2, 0] rfl)
  · replace h := ite_f h c1
    refine lv_ldc2 hx hb hown (x_hts C q15_22) dX4_digest_82 ?_
    refine lv_lload_n hx hb dX4_digest_85 rfl (lv_at hl 1 rfl) ?_
    refine lv_lmul hx hb dX4_digest_86 ?_
    refine lv_aload_n hx hb dX4_digest_87 rfl (lv_at hl 0 rfl) ?_
    refine gR_X4_state C w q1_13 dX4_digest_88 ?_
    refine gR_X3_amounts (show (0 : Nat) < 6 by decide) C w q5_19 dX4_digest_91 ?_
    refine lv_iload_n hx hb dX4_digest_94 rfl (lv_at hl 2 rfl) ?_
    obtain ⟨ki2, h⟩ := chk_of h
    refine x_aldJ C w (vS (show (0 : Nat) < 6 by decide) (by decide)) (cS2 (show (0 : Nat) < 6 by decide)) ki2 rfl dX4_digest_95 ?_
    refine lv_ladd hx hb dX4_digest_96 ?_
    refine lv_lstore_n (lv' := [(1, .long (((31 : Int64) * a1) + (K 0 2 a3.toNatClampNeg))), (0, .ref (ad E 6 0)), (3, .int a3)]) hx hb dX4_digest_97 rfl hl (by decide) rfl (fun ls hl => ?_)
    refine lv_iinc (v := (a3 + (1 : Int32))) (lv' := [(3, .int (a3 + (1 : Int32))), (1, .long (((31 : Int64) * a1) + (K 0 2 a3.toNatClampNeg))), (0, .ref (ad E 6 0))]) hx hb dX4_digest_98 hl (k := 2) rfl (congrArg (HAdd.hAdd _) (by decide)) (by decide) rfl (fun ls hl => ?_)
    refine lv_goto (tgt := 76) hx hb dX4_digest_101 (by decide) ?_
    exact hk76 _ _ _ _ _ h w (lv_sub hl [2, 1, 0] rfl)
theorem TX4_digest_76 {rr : Int64}   (C : Cx E A p s m args meth c wdX4_digest cX4_digest 4 (some .long) RX4)   : ∀ (n : Nat) (a1 : Int64) (a3 : Int32)   (ls : Array Slot) (H : Heap) (locs : List Loc), fbX4_digest_76 F G K n a1 a3 = some rr → Wd E A s G K H locs → lv_has ls 4 [(0, .ref (ad E 6 0)), (1, .long a1), (3, .int a3)] → W p l e rmX4_digest s m args below meth c H locs 0 0 (QL E A below args s rr G K) (F0 m 76 ls []) := by
  intro n
  induction n with
  | zero => intro a1 a3  ls H locs h; exact absurd (show none = _ from h) (fun z => nomatch z)
  | succ n ih => intro a1 a3  ls H locs h w hl; exact SX4_digest_76 (F := F) C   ih a1 a3  h w hl
noncomputable def fsX4_digest_45 (F : Nat)  (G : M3) (K : J3) (k45 : Int64 → Int32 → Option Int64) : Int64 → Int32 → Option Int64 := fun a1 a3 => (if (8 : Int32) ≤ a3 then (fbX4_digest_76 F G K F a1 (0 : Int32)) else (chk (inb a3 8) (k45 (((31 : Int64) * a1) + (G 0 1 a3.toNatClampNeg).toInt64) (a3 + (1 : Int32)))))
noncomputable def fbX4_digest_45 (F : Nat)  (G : M3) (K : J3) (n : Nat) : Int64 → Int32 → Option Int64 := itr (fsX4_digest_45 F G K) (fun _ _ => none) n
set_option maxRecDepth 20000 in
set_option maxHeartbeats 1000000 in
theorem SX4_digest_45 {rr : Int64}   {k45 : Int64 → Int32 → Option Int64} (C : Cx E A p s m args meth c wdX4_digest cX4_digest 4 (some .long) RX4)   (hk45 : ∀ (a1 : Int64) (a3 : Int32)   (ls : Array Slot) (H : Heap) (locs : List Loc), k45 a1 a3 = some rr → Wd E A s G K H locs → lv_has ls 4 [(0, .ref (ad E 6 0)), (1, .long a1), (3, .int a3)] → W p l e rmX4_digest s m args below meth c H locs 0 0 (QL E A below args s rr G K) (F0 m 45 ls [])) (a1 : Int64) (a3 : Int32)   (h : fsX4_digest_45 F G K k45 a1 a3 = some rr) (w : Wd E A s G K H locs) (hl : lv_has ls 4 [(0, .ref (ad E 6 0)), (1, .long a1), (3, .int a3)]) : W p l e rmX4_digest s m args below meth c H locs 0 0 (QL E A below args s rr G K) (F0 m 45 ls []) := by
  obtain ⟨hx, hb, hr, hml, hown, hts, hlocks, hKK, hA1, hA2⟩ := id C
  unfold fsX4_digest_45 at h
  refine lv_iload_n hx hb dX4_digest_45 rfl (lv_at hl 2 rfl) ?_
  refine lv_bipush (v := (8 : Int32)) hx hb dX4_digest_46 (by decide) ?_
  refine lv_icmp_ge (tgt := 74) hx hb dX4_digest_48 (by decide) (fun c1 => ?_) (fun c1 => ?_)
  · replace h := ite_t h c1
    refine lv_iconst (v := (0 : Int32)) hx hb dX4_digest_74 (by decide) ?_
    refine lv_istore_n (lv' := [(3, .int (0 : Int32)), (0, .ref (ad E 6 0)), (1, .long a1)]) hx hb dX4_digest_75 rfl hl (by decide) rfl (fun ls hl => ?_)
    exact TX4_digest_76 C   _ _ _ _ _ _ h w (lv_sub hl [1, 2, 0] rfl)
  · replace h := ite_f h c1
    refine lv_ldc2 hx hb hown (x_hts C q15_22) dX4_digest_51 ?_
    refine lv_lload_n hx hb dX4_digest_54 rfl (lv_at hl 1 rfl) ?_
    refine lv_lmul hx hb dX4_digest_55 ?_
    refine lv_aload_n hx hb dX4_digest_56 rfl (lv_at hl 0 rfl) ?_
    refine gR_X4_state C w q1_13 dX4_digest_57 ?_
    refine gR_X3_settings (show (0 : Nat) < 6 by decide) C w q7_21 dX4_digest_60 ?_
    refine lv_iload_n hx hb dX4_digest_63 rfl (lv_at hl 2 rfl) ?_
    obtain ⟨ki2, h⟩ := chk_of h
    refine x_aldI C w (vS (show (0 : Nat) < 6 by decide) (by decide)) (cS1 (show (0 : Nat) < 6 by decide)) ki2 rfl dX4_digest_64 ?_
    refine lv_i2l hx hb dX4_digest_65 rfl ?_
    refine lv_ladd hx hb dX4_digest_66 ?_
    refine lv_lstore_n (lv' := [(1, .long (((31 : Int64) * a1) + (G 0 1 a3.toNatClampNeg).toInt64)), (0, .ref (ad E 6 0)), (3, .int a3)]) hx hb dX4_digest_67 rfl hl (by decide) rfl (fun ls hl => ?_)
    refine lv_iinc (v := (a3 + (1 : Int32))) (lv' := [(3, .int (a3 + (1 : Int32))), (1, .long (((31 : Int64) * a1) + (G 0 1 a3.toNatClampNeg).toInt64)), (0, .ref (ad E 6 0))]) hx hb dX4_digest_68 hl (k := 2) rfl (congrArg (HAdd.hAdd _) (by decide)) (by decide) rfl (fun ls hl => ?_)
    refine lv_goto (tgt := 45) hx hb dX4_digest_71 (by decide) ?_
    exact hk45 _ _ _ _ _ h w (lv_sub hl [2, 1, 0] rfl)
theorem TX4_digest_45 {rr : Int64}   (C : Cx E A p s m args meth c wdX4_digest cX4_digest 4 (some .long) RX4)   : ∀ (n : Nat) (a1 : Int64) (a3 : Int32)   (ls : Array Slot) (H : Heap) (locs : List Loc), fbX4_digest_45 F G K n a1 a3 = some rr → Wd E A s G K H locs → lv_has ls 4 [(0, .ref (ad E 6 0)), (1, .long a1), (3, .int a3)] → W p l e rmX4_digest s m args below meth c H locs 0 0 (QL E A below args s rr G K) (F0 m 45 ls []) := by
  intro n
  induction n with
  | zero => intro a1 a3  ls H locs h; exact absurd (show none = _ from h) (fun z => nomatch z)
  | succ n ih => intro a1 a3  ls H locs h w hl; exact SX4_digest_45 (F := F) C   ih a1 a3  h w hl
noncomputable def fsX4_digest_15 (F : Nat)  (G : M3) (K : J3) (k15 : Int64 → Int32 → Option Int64) : Int64 → Int32 → Option Int64 := fun a1 a3 => (if (12 : Int32) ≤ a3 then (fbX4_digest_45 F G K F a1 (0 : Int32)) else ((fX3_numberOf F (G 0) (K 0) a3).bind (fun vv3 => k15 (((31 : Int64) * a1) + vv3.toInt64) (a3 + (1 : Int32)))))
noncomputable def fbX4_digest_15 (F : Nat)  (G : M3) (K : J3) (n : Nat) : Int64 → Int32 → Option Int64 := itr (fsX4_digest_15 F G K) (fun _ _ => none) n
set_option maxRecDepth 20000 in
set_option maxHeartbeats 1000000 in
theorem SX4_digest_15 {rr : Int64}   {k15 : Int64 → Int32 → Option Int64} (C : Cx E A p s m args meth c wdX4_digest cX4_digest 4 (some .long) RX4)   (hk15 : ∀ (a1 : Int64) (a3 : Int32)   (ls : Array Slot) (H : Heap) (locs : List Loc), k15 a1 a3 = some rr → Wd E A s G K H locs → lv_has ls 4 [(0, .ref (ad E 6 0)), (1, .long a1), (3, .int a3)] → W p l e rmX4_digest s m args below meth c H locs 0 0 (QL E A below args s rr G K) (F0 m 15 ls [])) (a1 : Int64) (a3 : Int32)   (h : fsX4_digest_15 F G K k15 a1 a3 = some rr) (w : Wd E A s G K H locs) (hl : lv_has ls 4 [(0, .ref (ad E 6 0)), (1, .long a1), (3, .int a3)]) : W p l e rmX4_digest s m args below meth c H locs 0 0 (QL E A below args s rr G K) (F0 m 15 ls []) := by
  obtain ⟨hx, hb, hr, hml, hown, hts, hlocks, hKK, hA1, hA2⟩ := id C
  unfold fsX4_digest_15 at h
  refine lv_iload_n hx hb dX4_digest_15 rfl (lv_at hl 2 rfl) ?_
  refine lv_bipush (v := (12 : Int32)) hx hb dX4_digest_16 (by decide) ?_
  refine lv_icmp_ge (tgt := 43) hx hb dX4_digest_18 (by decide) (fun c1 => ?_) (fun c1 => ?_)
  · replace h := ite_t h c1
    refine lv_iconst (v := (0 : Int32)) hx hb dX4_digest_43 (by decide) ?_
    refine lv_istore_n (lv' := [(3, .int (0 : Int32)), (0, .ref (ad E 6 0)), (1, .long a1)]) hx hb dX4_digest_44 rfl hl (by decide) rfl (fun ls hl => ?_)
    exact TX4_digest_45 C   _ _ _ _ _ _ h w (lv_sub hl [1, 2, 0] rfl)
  · replace h := ite_f h c1
    refine lv_ldc2 hx hb hown (x_hts C q15_22) dX4_digest_21 ?_
    refine lv_lload_n hx hb dX4_digest_24 rfl (lv_at hl 1 rfl) ?_
    refine lv_lmul hx hb dX4_digest_25 ?_
    refine lv_aload_n hx hb dX4_digest_26 rfl (lv_at hl 0 rfl) ?_
    refine gR_X4_state C w q1_13 dX4_digest_27 ?_
    refine lv_iload_n hx hb dX4_digest_30 rfl (lv_at hl 2 rfl) ?_
    obtain ⟨vv3, hv2, h⟩ := bind_of h
    refine x_cVi (As := [.int a3]) (rest := [.long ((31 : Int64) * a1)]) C (Wd.ofS 0 w) (vS (show (0 : Nat) < 6 by decide) (by decide)) (cel_S (show (0 : Nat) < 6 by decide)) rfl (mtX3_numberOf (show (0 : Nat) < 6 by decide) hv2) q4_6 q4_7 q4_8 q1_12 q4_9 ydX3_numberOf ⟨rfl, rfl⟩ ⟨by decide, by decide⟩ ⟨Nat.zero_le _, Nat.zero_le _⟩ hl.1 (Nat.le_of_ble_eq_true rfl) rfl dX4_digest_31 (fun H locs w => ?_)
    have w := Wd.back w
    refine lv_i2l hx hb dX4_digest_34 rfl ?_
    refine lv_ladd hx hb dX4_digest_35 ?_
    refine lv_lstore_n (lv' := [(1, .long (((31 : Int64) * a1) + vv3.toInt64)), (0, .ref (ad E 6 0)), (3, .int a3)]) hx hb dX4_digest_36 rfl hl (by decide) rfl (fun ls hl => ?_)
    refine lv_iinc (v := (a3 + (1 : Int32))) (lv' := [(3, .int (a3 + (1 : Int32))), (1, .long (((31 : Int64) * a1) + vv3.toInt64)), (0, .ref (ad E 6 0))]) hx hb dX4_digest_37 hl (k := 2) rfl (congrArg (HAdd.hAdd _) (by decide)) (by decide) rfl (fun ls hl => ?_)
    refine lv_goto (tgt := 15) hx hb dX4_digest_40 (by decide) ?_
    exact hk15 _ _ _ _ _ h w (lv_sub hl [2, 1, 0] rfl)
theorem TX4_digest_15 {rr : Int64}   (C : Cx E A p s m args meth c wdX4_digest cX4_digest 4 (some .long) RX4)   : ∀ (n : Nat) (a1 : Int64) (a3 : Int32)   (ls : Array Slot) (H : Heap) (locs : List Loc), fbX4_digest_15 F G K n a1 a3 = some rr → Wd E A s G K H locs → lv_has ls 4 [(0, .ref (ad E 6 0)), (1, .long a1), (3, .int a3)] → W p l e rmX4_digest s m args below meth c H locs 0 0 (QL E A below args s rr G K) (F0 m 15 ls []) := by
  intro n
  induction n with
  | zero => intro a1 a3  ls H locs h; exact absurd (show none = _ from h) (fun z => nomatch z)
  | succ n ih => intro a1 a3  ls H locs h w hl; exact SX4_digest_15 (F := F) C   ih a1 a3  h w hl
noncomputable def fX4_digest (F : Nat) (G : M3) (K : J3)   : Option Int64 := fbX4_digest_15 F G K F ((112561 : Int64) + (G 7 0 0).toInt64) (0 : Int32)
set_option maxRecDepth 20000 in
set_option maxHeartbeats 1000000 in
theorem TX4_digest {rr : Int64}  (C : Cx E A p s m args meth c wdX4_digest cX4_digest 4 (some .long) RX4)    (h : fX4_digest F G K  = some rr) (w : Wd E A s G K H locs) (hl : lv_has ls 4 [(0, .ref (ad E 6 0))]) : W p l e rmX4_digest s m args below meth c H locs 0 0 (QL E A below args s rr G K) (F0 m 0 ls []) := by
  obtain ⟨hx, hb, hr, hml, hown, hts, hlocks, hKK, hA1, hA2⟩ := id C
  unfold fX4_digest at h
  refine lv_ldc2 hx hb hown (x_hts C q15_20) dX4_digest_0 ?_
  refine lv_aload_n hx hb dX4_digest_3 rfl (lv_at hl 0 rfl) ?_
  refine gR_X4_program C w q1_22 dX4_digest_4 ?_
  refine gG_X2_length C w q15_21 dX4_digest_7 ?_
  refine lv_i2l hx hb dX4_digest_10 rfl ?_
  refine lv_ladd hx hb dX4_digest_11 ?_
  refine lv_lstore_n (lv' := [(1, .long ((112561 : Int64) + (G 7 0 0).toInt64)), (0, .ref (ad E 6 0))]) hx hb dX4_digest_12 rfl hl (by decide) rfl (fun ls hl => ?_)
  refine lv_iconst (v := (0 : Int32)) hx hb dX4_digest_13 (by decide) ?_
  refine lv_istore_n (lv' := [(3, .int (0 : Int32)), (1, .long ((112561 : Int64) + (G 7 0 0).toInt64)), (0, .ref (ad E 6 0))]) hx hb dX4_digest_14 rfl hl (by decide) rfl (fun ls hl => ?_)
  exact TX4_digest_15 C   _ _ _ _ _ _ h w (lv_sub hl [2, 1, 0] rfl)
theorem mtX4_digest {rr : Int64}     (h : fX4_digest F G K  = some rr) : MtL l yX4_digest wdX4_digest rmX4_digest E [.ref (ad E 6 0)] G K rr G K := by
  intro sz
  refine Met.ofW (cc := cX4_digest) (maxL := 4) (ret := (some .long)) (by decide) rfl ?_
  intro p e s m args below meth c s₁ B hml hv
  obtain ⟨rfl, C, w⟩ := Cx.of (own := RX4) B rfl hml hv
  have hl := lv_entry ([.ref (ad E 6 0)]) (n := 4) (by first | exact Nat.le_of_ble_eq_true rfl)
  rw [lg_entry_eq]
  generalize (lg_sl ([.ref (ad E 6 0)]) ++ List.replicate (4 - (lg_sl ([.ref (ad E 6 0)])).length) Slot.unset).toArray = ls at hl ⊢
  exact TX4_digest C   h w hl
theorem ydX4_digest : yX4_digest.cls = RX4 ∧ yX4_digest.cls ≠ "java/lang/invoke/MethodHandle" ∧ yX4_digest.cls ≠ "java/lang/invoke/VarHandle" ∧ (parseMethodDescriptor yX4_digest.desc).map (fun d => d.parameters.length) = some 0 := by decide +kernel
end XA1
end
section
section XA2
variable {E : WE} {A : Nat → Prop} {p : Program} {l : Launch} {e : Env} {s : State} {m : MethodId} {args : Array Value} {below : List Frame} {meth : Method} {c : Code} {H : Heap} {locs : List Loc} {ls : Array Slot} {G : M3} {K : J3} {M : M2} {J : J2} {F g q : Nat} {g' q' : Nat}

/-! X4.set(II)I -/
abbrev rmX4_set (tg : Nat) : Room := { frames := 6, cells := mcT tg, slots := msT tg, locals := 86 }
abbrev wdX4_set : Cond := Cond.code yX4_set cX4_set 4 (some .int)
noncomputable def fX4_set (F : Nat)  (x1 : Int32) (x2 : Int32) (G : M3) (K : J3) : Option (Nat × Int32 × M3 × J3) := (if ¬ (fX4_isWithin x1 (0 : Int32) (7 : Int32)) = 0 then (chk (inb x1 8) (chk (inb x1 8) ((if ¬ (fX4_isWithin x2 (rowLeast x1.toNatClampNeg) (rowMost x1.toNatClampNeg)) = 0 then (bd2 (fX1_save F 0 G K) (fun G8 K9 => chk (inb x1 8) (chk (inb x1 8) (bnd (up3 G8 0 1 (x1.toNatClampNeg) x2) (fun G12 => some (0, (G8 0 1 x1.toNatClampNeg), G12, K9)))))) else (some (1, (0 : Int32), G, K)))))) else (some (1, (0 : Int32), G, K)))
set_option maxRecDepth 20000 in
set_option maxHeartbeats 1000000 in
theorem TX4_set {tg : Nat} {rr : Int32} {GR : M3} {KR : J3}  (C : Cx E A p s m args meth c wdX4_set cX4_set 4 (some .int) RX4) (hst : l.stackTraces = false) (hno : ∀ x ∈ c.exceptionTable.toList, False) {x1 : Int32} {x2 : Int32}  (h : fX4_set F  x1 x2 G K = some (tg, rr, GR, KR)) (w : Wd E A s G K H locs) (hl : lv_has ls 4 [(0, .ref (ad E 6 0)), (1, .int x1), (2, .int x2)]) : W p l e (rmX4_set tg) s m args below meth c H locs 0 0 (QTi E A below args s tg rr GR KR) (F0 m 0 ls []) := by
  obtain ⟨hx, hb, hr, hml, hown, hts, hlocks, hKK, hA1, hA2⟩ := id C
  unfold fX4_set at h
  refine lv_iload_n hx hb dX4_set_0 rfl (lv_at hl 1 rfl) ?_
  refine lv_iconst (v := (0 : Int32)) hx hb dX4_set_1 (by decide) ?_
  refine lv_bipush (v := (7 : Int32)) hx hb dX4_set_2 (by decide) ?_
  refine x_cSi (As := [.int x1, .int (0 : Int32), .int (7 : Int32)]) (rest := []) C w (mtX4_isWithin ) q4_3 q4_4 q1_2 q4_5 ydX4_isWithin ⟨rfl, rfl⟩ ⟨by exact Nat.le_of_ble_eq_true rfl, by exact Nat.le_of_ble_eq_true rfl⟩ ⟨Nat.zero_le _, Nat.zero_le _⟩ hl.1 (Nat.le_of_ble_eq_true rfl) rfl dX4_set_4 (fun H locs w => ?_)
  refine lv_if_ne (tgt := 20) hx hb dX4_set_7 (by decide) (fun c1 => ?_) (fun c1 => ?_)
  · replace h := ite_t h c1
    refine lv_iload_n hx hb dX4_set_20 rfl (lv_at hl 2 rfl) ?_
    refine x_srow C w hKK.2.2.2.1.1 q10_22 dX4_set_21 (fun b2 hXb2 hblb2 hbAb2 => ?_)
    refine lv_iload_n hx hb dX4_set_24 rfl (lv_at hl 1 rfl) ?_
    obtain ⟨ki3, h⟩ := chk_of h
    refine x_sld C w hXb2 hblb2 hbAb2 ki3 rfl dX4_set_25 ?_
    refine x_srow C w hKK.2.2.2.1.2.1 q10_23 dX4_set_26 (fun b4 hXb4 hblb4 hbAb4 => ?_)
    refine lv_iload_n hx hb dX4_set_29 rfl (lv_at hl 1 rfl) ?_
    obtain ⟨ki5, h⟩ := chk_of h
    refine x_sld C w hXb4 hblb4 hbAb4 ki5 rfl dX4_set_30 ?_
    refine x_cSi (As := [.int x2, .int (rowLeast x1.toNatClampNeg), .int (rowMost x1.toNatClampNeg)]) (rest := []) C w (mtX4_isWithin ) q4_3 q4_4 q1_2 q4_5 ydX4_isWithin ⟨rfl, rfl⟩ ⟨by exact Nat.le_of_ble_eq_true rfl, by exact Nat.le_of_ble_eq_true rfl⟩ ⟨Nat.zero_le _, Nat.zero_le _⟩ hl.1 (Nat.le_of_ble_eq_true rfl) rfl dX4_set_31 (fun H locs w => ?_)
    refine lv_if_ne (tgt := 47) hx hb dX4_set_34 (by decide) (fun c6 => ?_) (fun c6 => ?_)
    · replace h := ite_t h c6
      refine lv_aload_n hx hb dX4_set_47 rfl (lv_at hl 0 rfl) ?_
      refine gR_X4_history C w q1_18 dX4_set_48 ?_
      refine lv_aload_n hx hb dX4_set_51 rfl (lv_at hl 0 rfl) ?_
      refine gR_X4_state C w q1_13 dX4_set_52 ?_
      obtain ⟨G8, K9, hv7, h⟩ := bd2_of h
      refine x_cVv (As := [.ref (ad E 0 0)]) (rest := []) C w (v6 (by decide)) cel_6 rfl (mtX1_save (show (0 : Nat) < 6 by decide) hv7) q9_1 q9_2 q9_3 q1_17 q9_4 ydX1_save ⟨rfl, rfl⟩ ⟨by exact Nat.le_of_ble_eq_true rfl, by exact Nat.le_of_ble_eq_true rfl⟩ ⟨Nat.zero_le _, Nat.zero_le _⟩ hl.1 (Nat.le_of_ble_eq_true rfl) rfl dX4_set_55 (fun H locs w => ?_)
      refine lv_aload_n hx hb dX4_set_58 rfl (lv_at hl 0 rfl) ?_
      refine gR_X4_state C w q1_13 dX4_set_59 ?_
      refine gR_X3_settings (show (0 : Nat) < 6 by decide) C w q7_21 dX4_set_62 ?_
      refine lv_iload_n hx hb dX4_set_65 rfl (lv_at hl 1 rfl) ?_
      obtain ⟨ki10, h⟩ := chk_of h
      refine x_aldI C w (vS (show (0 : Nat) < 6 by decide) (by decide)) (cS1 (show (0 : Nat) < 6 by decide)) ki10 rfl dX4_set_66 ?_
      refine lv_istore_n (lv' := [(3, .int (G8 0 1 x1.toNatClampNeg)), (0, .ref (ad E 6 0)), (1, .int x1), (2, .int x2)]) hx hb dX4_set_67 rfl hl (by decide) rfl (fun ls hl => ?_)
      refine lv_aload_n hx hb dX4_set_68 rfl (lv_at hl 1 rfl) ?_
      refine gR_X4_state C w q1_13 dX4_set_69 ?_
      refine gR_X3_settings (show (0 : Nat) < 6 by decide) C w q7_21 dX4_set_72 ?_
      refine lv_iload_n hx hb dX4_set_75 rfl (lv_at hl 2 rfl) ?_
      refine lv_iload_n hx hb dX4_set_76 rfl (lv_at hl 3 rfl) ?_
      obtain ⟨ki11, h⟩ := chk_of h
      refine x_astI_G C w (vS (show (0 : Nat) < 6 by decide) (by decide)) (cS1 (show (0 : Nat) < 6 by decide)) ki11 rfl dX4_set_77 (fun G12 H locs e13 w => ?_)
      replace h := bnd_of h e13
      refine lv_iload_n hx hb dX4_set_78 rfl (lv_at hl 0 rfl) ?_
      obtain ⟨e0, e1, e2, e3⟩ := rt4 h
      exact x_ti C w e0.symm e1 (by rw [e2]) (by rw [e3]) dX4_set_79
    · replace h := ite_f h (fun z => z c6)
      obtain ⟨e0, e1, e2, e3⟩ := rt4 h
      exact x_thrG C w hst hno hl.1 (by rw [← e0]; decide) (by rw [← e0]; rfl) e2 e3 (by decide +kernel) q4_1 q4_2 (List.mem_of_getElem? (i := 1) rfl) thr_w1 thr_in1 thr_g1 dX4_set_37 dX4_set_40 dX4_set_41 dX4_set_43 dX4_set_46 (by exact Nat.le_of_ble_eq_true rfl) (by exact Nat.le_of_ble_eq_true rfl) rfl rfl rfl rfl
  · replace h := ite_f h (fun z => z c1)
    obtain ⟨e0, e1, e2, e3⟩ := rt4 h
    exact x_thrG C w hst hno hl.1 (by rw [← e0]; decide) (by rw [← e0]; rfl) e2 e3 (by decide +kernel) q4_1 q4_2 (List.mem_of_getElem? (i := 0) rfl) thr_w1 thr_in1 thr_g1 dX4_set_10 dX4_set_13 dX4_set_14 dX4_set_16 dX4_set_19 (by exact Nat.le_of_ble_eq_true rfl) (by exact Nat.le_of_ble_eq_true rfl) rfl rfl rfl rfl
theorem mtX4_set {tg : Nat} {rr : Int32} {GR : M3} {KR : J3}  (hst : l.stackTraces = false) {x1 : Int32} {x2 : Int32}  (h : fX4_set F  x1 x2 G K = some (tg, rr, GR, KR)) : XtI l yX4_set wdX4_set (rmX4_set tg) E [.ref (ad E 6 0), .int x1, .int x2] G K tg rr GR KR := by
  intro sz
  refine vx_ofW (cc := cX4_set) (maxL := 4) (ret := (some .int)) (by decide) rfl ?_
  intro p e s m args below meth c s₁ B hml hno hv
  obtain ⟨rfl, C, w⟩ := Cx.of (own := RX4) B rfl hml hv
  have hl := lv_entry ([.ref (ad E 6 0), .int x1, .int x2]) (n := 4) (by first | exact Nat.le_of_ble_eq_true rfl)
  rw [lg_entry_eq]
  generalize (lg_sl ([.ref (ad E 6 0), .int x1, .int x2]) ++ List.replicate (4 - (lg_sl ([.ref (ad E 6 0), .int x1, .int x2])).length) Slot.unset).toArray = ls at hl ⊢
  exact TX4_set C hst hno  h w hl
theorem ydX4_set : yX4_set.cls = RX4 ∧ yX4_set.cls ≠ "java/lang/invoke/MethodHandle" ∧ yX4_set.cls ≠ "java/lang/invoke/VarHandle" ∧ (parseMethodDescriptor yX4_set.desc).map (fun d => d.parameters.length) = some 2 := by decide +kernel
/-! X4.addCompressor(I)I -/
abbrev rmX4_addCompressor (tg : Nat) : Room := { frames := 6, cells := mcT tg, slots := msT tg, locals := 86 }
abbrev wdX4_addCompressor : Cond := Cond.code yX4_addCompressor cX4_addCompressor 2 (some .int)
noncomputable def fX4_addCompressor (F : Nat)  (x1 : Int32) (G : M3) (K : J3) : Option (Nat × Int32 × M3 × J3) := (if ¬ (fX4_isWithin x1 (10 : Int32) (500 : Int32)) = 0 then ((if (G 0 0 5) < (5 : Int32) then (bd2 (fX1_save F 0 G K) (fun G4 K5 => bd3 (fX3_install x1 (G4 0) (K5 0)) (fun vv13 M7 J8 => bnd (sg G4 0 M7) (fun G9 => bnd (sg K5 0 J8) (fun K10 => some (0, vv13, G9, K10)))))) else (some (2, (0 : Int32), G, K)))) else (some (1, (0 : Int32), G, K)))
set_option maxRecDepth 20000 in
set_option maxHeartbeats 1000000 in
theorem TX4_addCompressor {tg : Nat} {rr : Int32} {GR : M3} {KR : J3}  (C : Cx E A p s m args meth c wdX4_addCompressor cX4_addCompressor 2 (some .int) RX4) (hst : l.stackTraces = false) (hno : ∀ x ∈ c.exceptionTable.toList, False) {x1 : Int32}  (h : fX4_addCompressor F  x1 G K = some (tg, rr, GR, KR)) (w : Wd E A s G K H locs) (hl : lv_has ls 2 [(0, .ref (ad E 6 0)), (1, .int x1)]) : W p l e (rmX4_addCompressor tg) s m args below meth c H locs 0 0 (QTi E A below args s tg rr GR KR) (F0 m 0 ls []) := by
  obtain ⟨hx, hb, hr, hml, hown, hts, hlocks, hKK, hA1, hA2⟩ := id C
  unfold fX4_addCompressor at h
  refine lv_iload_n hx hb dX4_addCompressor_0 rfl (lv_at hl 1 rfl) ?_
  refine lv_bipush (v := (10 : Int32)) hx hb dX4_addCompressor_1 (by decide) ?_
  refine lv_sipush (v := (500 : Int32)) hx hb dX4_addCompressor_3 (by decide) ?_
  refine x_cSi (As := [.int x1, .int (10 : Int32), .int (500 : Int32)]) (rest := []) C w (mtX4_isWithin ) q4_3 q4_4 q1_2 q4_5 ydX4_isWithin ⟨rfl, rfl⟩ ⟨by exact Nat.le_of_ble_eq_true rfl, by exact Nat.le_of_ble_eq_true rfl⟩ ⟨Nat.zero_le _, Nat.zero_le _⟩ hl.1 (Nat.le_of_ble_eq_true rfl) rfl dX4_addCompressor_6 (fun H locs w => ?_)
  refine lv_if_ne (tgt := 22) hx hb dX4_addCompressor_9 (by decide) (fun c1 => ?_) (fun c1 => ?_)
  · replace h := ite_t h c1
    refine lv_aload_n hx hb dX4_addCompressor_22 rfl (lv_at hl 0 rfl) ?_
    refine gR_X4_state C w q1_13 dX4_addCompressor_23 ?_
    refine gG_X3_count (show (0 : Nat) < 6 by decide) C w q7_9 dX4_addCompressor_26 ?_
    refine lv_iconst (v := (5 : Int32)) hx hb dX4_addCompressor_29 (by decide) ?_
    refine lv_icmp_lt (tgt := 43) hx hb dX4_addCompressor_30 (by decide) (fun c2 => ?_) (fun c2 => ?_)
    · replace h := ite_t h c2
      refine lv_aload_n hx hb dX4_addCompressor_43 rfl (lv_at hl 0 rfl) ?_
      refine gR_X4_history C w q1_18 dX4_addCompressor_44 ?_
      refine lv_aload_n hx hb dX4_addCompressor_47 rfl (lv_at hl 0 rfl) ?_
      refine gR_X4_state C w q1_13 dX4_addCompressor_48 ?_
      obtain ⟨G4, K5, hv3, h⟩ := bd2_of h
      refine x_cVv (As := [.ref (ad E 0 0)]) (rest := []) C w (v6 (by decide)) cel_6 rfl (mtX1_save (show (0 : Nat) < 6 by decide) hv3) q9_1 q9_2 q9_3 q1_17 q9_4 ydX1_save ⟨rfl, rfl⟩ ⟨by exact Nat.le_of_ble_eq_true rfl, by exact Nat.le_of_ble_eq_true rfl⟩ ⟨Nat.zero_le _, Nat.zero_le _⟩ hl.1 (Nat.le_of_ble_eq_true rfl) rfl dX4_addCompressor_51 (fun H locs w => ?_)
      refine lv_aload_n hx hb dX4_addCompressor_54 rfl (lv_at hl 0 rfl) ?_
      refine gR_X4_state C w q1_13 dX4_addCompressor_55 ?_
      refine lv_iload_n hx hb dX4_addCompressor_58 rfl (lv_at hl 1 rfl) ?_
      obtain ⟨vv13, M7, J8, hv6, h⟩ := bd3_of h
      refine x_cVi (As := [.int x1]) (rest := []) C (Wd.ofS 0 w) (vS (show (0 : Nat) < 6 by decide) (by decide)) (cel_S (show (0 : Nat) < 6 by decide)) rfl (mtX3_install (show (0 : Nat) < 6 by decide) hv6) q10_7 q10_8 q10_9 q1_12 q10_10 ydX3_install ⟨rfl, rfl⟩ ⟨by exact Nat.le_of_ble_eq_true rfl, by exact Nat.le_of_ble_eq_true rfl⟩ ⟨Nat.zero_le _, Nat.zero_le _⟩ hl.1 (Nat.le_of_ble_eq_true rfl) rfl dX4_addCompressor_59 (fun H locs w => ?_)
      obtain ⟨G9, e11⟩ : ∃ z, z = sg G4 0 M7 := ⟨_, rfl⟩
      obtain ⟨K10, e12⟩ : ∃ z, z = sg K5 0 J8 := ⟨_, rfl⟩
      rw [← e11, ← e12] at w
      replace h := bnd_of h e11
      replace h := bnd_of h e12
      obtain ⟨e0, e1, e2, e3⟩ := rt4 h
      exact x_ti C w e0.symm e1 (by rw [e2]) (by rw [e3]) dX4_addCompressor_62
    · replace h := ite_f h c2
      obtain ⟨e0, e1, e2, e3⟩ := rt4 h
      exact x_thrG C w hst hno hl.1 (by rw [← e0]; decide) (by rw [← e0]; rfl) e2 e3 (by decide +kernel) q8_23 q9_0 (List.mem_of_getElem? (i := 3) rfl) thr_w2 thr_in2 thr_g2 dX4_addCompressor_33 dX4_addCompressor_36 dX4_addCompressor_37 dX4_addCompressor_39 dX4_addCompressor_42 (by exact Nat.le_of_ble_eq_true rfl) (by exact Nat.le_of_ble_eq_true rfl) rfl rfl rfl rfl
  · replace h := ite_f h (fun z => z c1)
    obtain ⟨e0, e1, e2, e3⟩ := rt4 h
    exact x_thrG C w hst hno hl.1 (by rw [← e0]; decide) (by rw [← e0]; rfl) e2 e3 (by decide +kernel) q4_1 q4_2 (List.mem_of_getElem? (i := 2) rfl) thr_w1 thr_in1 thr_g1 dX4_addCompressor_12 dX4_addCompressor_15 dX4_addCompressor_16 dX4_addCompressor_18 dX4_addCompressor_21 (by exact Nat.le_of_ble_eq_true rfl) (by exact Nat.le_of_ble_eq_true rfl) rfl rfl rfl rfl
theorem mtX4_addCompressor {tg : Nat} {rr : Int32} {GR : M3} {KR : J3}  (hst : l.stackTraces = false) {x1 : Int32}  (h : fX4_addCompressor F  x1 G K = some (tg, rr, GR, KR)) : XtI l yX4_addCompressor wdX4_addCompressor (rmX4_addCompressor tg) E [.ref (ad E 6 0), .int x1] G K tg rr GR KR := by
  intro sz
  refine vx_ofW (cc := cX4_addCompressor) (maxL := 2) (ret := (some .int)) (by decide) rfl ?_
  intro p e s m args below meth c s₁ B hml hno hv
  obtain ⟨rfl, C, w⟩ := Cx.of (own := RX4) B rfl hml hv
  have hl := lv_entry ([.ref (ad E 6 0), .int x1]) (n := 2) (by first | exact Nat.le_of_ble_eq_true rfl)
  rw [lg_entry_eq]
  generalize (lg_sl ([.ref (ad E 6 0), .int x1]) ++ List.replicate (2 - (lg_sl ([.ref (ad E 6 0), .int x1])).length) Slot.unset).toArray = ls at hl ⊢
  exact TX4_addCompressor C hst hno  h w hl
theorem ydX4_addCompressor : yX4_addCompressor.cls = RX4 ∧ yX4_addCompressor.cls ≠ "java/lang/invoke/MethodHandle" ∧ yX4_addCompressor.cls ≠ "java/lang/invoke/VarHandle" ∧ (parseMethodDescriptor yX4_addCompressor.desc).map (fun d => d.parameters.length) = some 1 := by decide +kernel
/-! X4.trip(I)I -/
abbrev rmX4_trip (tg : Nat) : Room := { frames := 6, cells := mcT tg, slots := msT tg, locals := 86 }
abbrev wdX4_trip : Cond := Cond.code yX4_trip cX4_trip 4 (some .int)
noncomputable def fX4_trip (F : Nat)  (x1 : Int32) (G : M3) (K : J3) : Option (Nat × Int32 × M3 × J3) := (fX3_numbered (G 0) (K 0) x1).bind (fun vv2 => oc vv2 (some (3, (0 : Int32), G, K)) (fun z3 => chk (isC z3) ((if ¬ (G 0 z3 1) = (3 : Int32) then (bd2 (fX1_save F 0 G K) (fun G6 K7 => bd2 (fX0_fail z3 (G6 0) (K7 0)) (fun M9 J10 => bnd (sg G6 0 M9) (fun G11 => bnd (sg K7 0 J10) (fun K12 => some (0, (G6 0 z3 1), G11, K12)))))) else (some (2, (0 : Int32), G, K))))))
set_option maxRecDepth 20000 in
set_option maxHeartbeats 1000000 in
theorem TX4_trip {tg : Nat} {rr : Int32} {GR : M3} {KR : J3}  (C : Cx E A p s m args meth c wdX4_trip cX4_trip 4 (some .int) RX4) (hst : l.stackTraces = false) (hno : ∀ x ∈ c.exceptionTable.toList, False) {x1 : Int32}  (h : fX4_trip F  x1 G K = some (tg, rr, GR, KR)) (w : Wd E A s G K H locs) (hl : lv_has ls 4 [(0, .ref (ad E 6 0)), (1, .int x1)]) : W p l e (rmX4_trip tg) s m args below meth c H locs 0 0 (QTi E A below args s tg rr GR KR) (F0 m 0 ls []) := by
  obtain ⟨hx, hb, hr, hml, hown, hts, hlocks, hKK, hA1, hA2⟩ := id C
  unfold fX4_trip at h
  refine lv_aload_n hx hb dX4_trip_0 rfl (lv_at hl 0 rfl) ?_
  refine gR_X4_state C w q1_13 dX4_trip_1 ?_
  refine lv_iload_n hx hb dX4_trip_4 rfl (lv_at hl 1 rfl) ?_
  obtain ⟨vv2, hv1, h⟩ := bind_of h
  refine x_cVq (As := [.int x1]) (rest := []) C (Wd.ofS 0 w) (vS (show (0 : Nat) < 6 by decide) (by decide)) (cel_S (show (0 : Nat) < 6 by decide)) rfl (mtX3_numbered (show (0 : Nat) < 6 by decide) hv1) q6_7 q5_3 q5_4 q1_12 q5_5 ydX3_numbered ⟨rfl, rfl⟩ ⟨by exact Nat.le_of_ble_eq_true rfl, by exact Nat.le_of_ble_eq_true rfl⟩ ⟨Nat.zero_le _, Nat.zero_le _⟩ hl.1 (Nat.le_of_ble_eq_true rfl) rfl dX4_trip_5 (fun H locs w => ?_)
  have w := Wd.back w
  cases vv2 with
  | none =>
    replace h := oc_n h
    refine lv_astore_nN (lv' := [(2, .null), (0, .ref (ad E 6 0)), (1, .int x1)]) hx hb dX4_trip_8 rfl hl (by decide) rfl (fun ls hl => ?_)
    refine lv_aload_nN hx hb dX4_trip_9 rfl (lv_at hl 0 rfl) ?_
    refine lv_ifnonnullN hx hb dX4_trip_10 ?_
    obtain ⟨e0, e1, e2, e3⟩ := rt4 h
    exact x_thrG C w hst hno hl.1 (by rw [← e0]; decide) (by rw [← e0]; rfl) e2 e3 (by decide +kernel) q6_5 q6_6 (List.mem_of_getElem? (i := 4) rfl) thr_w3 thr_in3 thr_g3 dX4_trip_13 dX4_trip_16 dX4_trip_17 dX4_trip_19 dX4_trip_22 (by exact Nat.le_of_ble_eq_true rfl) (by exact Nat.le_of_ble_eq_true rfl) rfl rfl rfl rfl
  | some z3 =>
    replace h := oc_s h
    obtain ⟨hz3, h⟩ := chk_of h
    refine lv_astore_n (lv' := [(2, .ref (ad E 0 z3)), (0, .ref (ad E 6 0)), (1, .int x1)]) hx hb dX4_trip_8 rfl hl (by decide) rfl (fun ls hl => ?_)
    refine lv_aload_n hx hb dX4_trip_9 rfl (lv_at hl 0 rfl) ?_
    refine lv_ifnonnull (tgt := 23) hx hb dX4_trip_10 (by decide) ?_
    refine lv_aload_n hx hb dX4_trip_23 rfl (lv_at hl 0 rfl) ?_
    refine gG_X0_mode (show (0 : Nat) < 6 by decide) hz3 C w q11_7 dX4_trip_24 ?_
    refine lv_iconst (v := (3 : Int32)) hx hb dX4_trip_27 (by decide) ?_
    refine lv_icmp_ne (tgt := 41) hx hb dX4_trip_28 (by decide) (fun c4 => ?_) (fun c4 => ?_)
    · replace h := ite_t h c4
      refine lv_aload_n hx hb dX4_trip_41 rfl (lv_at hl 1 rfl) ?_
      refine gR_X4_history C w q1_18 dX4_trip_42 ?_
      refine lv_aload_n hx hb dX4_trip_45 rfl (lv_at hl 1 rfl) ?_
      refine gR_X4_state C w q1_13 dX4_trip_46 ?_
      obtain ⟨G6, K7, hv5, h⟩ := bd2_of h
      refine x_cVv (As := [.ref (ad E 0 0)]) (rest := []) C w (v6 (by decide)) cel_6 rfl (mtX1_save (show (0 : Nat) < 6 by decide) hv5) q9_1 q9_2 q9_3 q1_17 q9_4 ydX1_save ⟨rfl, rfl⟩ ⟨by exact Nat.le_of_ble_eq_true rfl, by exact Nat.le_of_ble_eq_true rfl⟩ ⟨Nat.zero_le _, Nat.zero_le _⟩ hl.1 (Nat.le_of_ble_eq_true rfl) rfl dX4_trip_49 (fun H locs w => ?_)
      refine lv_aload_n hx hb dX4_trip_52 rfl (lv_at hl 0 rfl) ?_
      refine gG_X0_mode (show (0 : Nat) < 6 by decide) hz3 C w q11_7 dX4_trip_53 ?_
      refine lv_istore_n (lv' := [(3, .int (G6 0 z3 1)), (2, .ref (ad E 0 z3)), (0, .ref (ad E 6 0)), (1, .int x1)]) hx hb dX4_trip_56 rfl hl (by decide) rfl (fun ls hl => ?_)
      refine lv_aload_n hx hb dX4_trip_57 rfl (lv_at hl 1 rfl) ?_
      obtain ⟨M9, J10, hv8, h⟩ := bd2_of h
      refine x_cVv (As := []) (rest := []) C (Wd.ofS 0 w) (vC (show (0 : Nat) < 6 by decide) hz3) (cel_C (show (0 : Nat) < 6 by decide) hz3.1) rfl (mtX0_fail (show (0 : Nat) < 6 by decide) hz3 hv8) q11_20 q11_21 q11_22 q2_17 q11_23 ydX0_fail ⟨rfl, rfl⟩ ⟨by exact Nat.le_of_ble_eq_true rfl, by exact Nat.le_of_ble_eq_true rfl⟩ ⟨Nat.zero_le _, Nat.zero_le _⟩ hl.1 (Nat.le_of_ble_eq_true rfl) rfl dX4_trip_58 (fun H locs w => ?_)
      obtain ⟨G11, e13⟩ : ∃ z, z = sg G6 0 M9 := ⟨_, rfl⟩
      obtain ⟨K12, e14⟩ : ∃ z, z = sg K7 0 J10 := ⟨_, rfl⟩
      rw [← e13, ← e14] at w
      replace h := bnd_of h e13
      replace h := bnd_of h e14
      refine lv_iload_n hx hb dX4_trip_61 rfl (lv_at hl 0 rfl) ?_
      obtain ⟨e0, e1, e2, e3⟩ := rt4 h
      exact x_ti C w e0.symm e1 (by rw [e2]) (by rw [e3]) dX4_trip_62
    · replace h := ite_f h (fun z => z c4)
      obtain ⟨e0, e1, e2, e3⟩ := rt4 h
      exact x_thrG C w hst hno hl.1 (by rw [← e0]; decide) (by rw [← e0]; rfl) e2 e3 (by decide +kernel) q8_23 q9_0 (List.mem_of_getElem? (i := 5) rfl) thr_w2 thr_in2 thr_g2 dX4_trip_31 dX4_trip_34 dX4_trip_35 dX4_trip_37 dX4_trip_40 (by exact Nat.le_of_ble_eq_true rfl) (by exact Nat.le_of_ble_eq_true rfl) rfl rfl rfl rfl
theorem mtX4_trip {tg : Nat} {rr : Int32} {GR : M3} {KR : J3}  (hst : l.stackTraces = false) {x1 : Int32}  (h : fX4_trip F  x1 G K = some (tg, rr, GR, KR)) : XtI l yX4_trip wdX4_trip (rmX4_trip tg) E [.ref (ad E 6 0), .int x1] G K tg rr GR KR := by
  intro sz
  refine vx_ofW (cc := cX4_trip) (maxL := 4) (ret := (some .int)) (by decide) rfl ?_
  intro p e s m args below meth c s₁ B hml hno hv
  obtain ⟨rfl, C, w⟩ := Cx.of (own := RX4) B rfl hml hv
  have hl := lv_entry ([.ref (ad E 6 0), .int x1]) (n := 4) (by first | exact Nat.le_of_ble_eq_true rfl)
  rw [lg_entry_eq]
  generalize (lg_sl ([.ref (ad E 6 0), .int x1]) ++ List.replicate (4 - (lg_sl ([.ref (ad E 6 0), .int x1])).length) Slot.unset).toArray = ls at hl ⊢
  exact TX4_trip C hst hno  h w hl
theorem ydX4_trip : yX4_trip.cls = RX4 ∧ yX4_trip.cls ≠ "java/lang/invoke/MethodHandle" ∧ yX4_trip.cls ≠ "java/lang/invoke/VarHandle" ∧ (parseMethodDescriptor yX4_trip.desc).map (fun d => d.parameters.length) = some 1 := by decide +kernel
/-! X4.clear(I)I -/
abbrev rmX4_clear (tg : Nat) : Room := { frames := 6, cells := mcT tg, slots := msT tg, locals := 86 }
abbrev wdX4_clear : Cond := Cond.code yX4_clear cX4_clear 3 (some .int)
noncomputable def fX4_clear (F : Nat)  (x1 : Int32) (G : M3) (K : J3) : Option (Nat × Int32 × M3 × J3) := (fX3_numbered (G 0) (K 0) x1).bind (fun vv2 => oc vv2 (some (3, (0 : Int32), G, K)) (fun z3 => chk (isC z3) ((if (G 0 z3 1) = (3 : Int32) then (bd2 (fX1_save F 0 G K) (fun G6 K7 => bd2 (fX0_stop z3 (G6 0 1 4) (G6 0) (K7 0)) (fun M9 J10 => bnd (sg G6 0 M9) (fun G11 => bnd (sg K7 0 J10) (fun K12 => some (0, (G11 0 z3 2), G11, K12)))))) else (some (2, (0 : Int32), G, K))))))
set_option maxRecDepth 20000 in
set_option maxHeartbeats 1000000 in
theorem TX4_clear {tg : Nat} {rr : Int32} {GR : M3} {KR : J3}  (C : Cx E A p s m args meth c wdX4_clear cX4_clear 3 (some .int) RX4) (hst : l.stackTraces = false) (hno : ∀ x ∈ c.exceptionTable.toList, False) {x1 : Int32}  (h : fX4_clear F  x1 G K = some (tg, rr, GR, KR)) (w : Wd E A s G K H locs) (hl : lv_has ls 3 [(0, .ref (ad E 6 0)), (1, .int x1)]) : W p l e (rmX4_clear tg) s m args below meth c H locs 0 0 (QTi E A below args s tg rr GR KR) (F0 m 0 ls []) := by
  obtain ⟨hx, hb, hr, hml, hown, hts, hlocks, hKK, hA1, hA2⟩ := id C
  unfold fX4_clear at h
  refine lv_aload_n hx hb dX4_clear_0 rfl (lv_at hl 0 rfl) ?_
  refine gR_X4_state C w q1_13 dX4_clear_1 ?_
  refine lv_iload_n hx hb dX4_clear_4 rfl (lv_at hl 1 rfl) ?_
  obtain ⟨vv2, hv1, h⟩ := bind_of h
  refine x_cVq (As := [.int x1]) (rest := []) C (Wd.ofS 0 w) (vS (show (0 : Nat) < 6 by decide) (by decide)) (cel_S (show (0 : Nat) < 6 by decide)) rfl (mtX3_numbered (show (0 : Nat) < 6 by decide) hv1) q6_7 q5_3 q5_4 q1_12 q5_5 ydX3_numbered ⟨rfl, rfl⟩ ⟨by exact Nat.le_of_ble_eq_true rfl, by exact Nat.le_of_ble_eq_true rfl⟩ ⟨Nat.zero_le _, Nat.zero_le _⟩ hl.1 (Nat.le_of_ble_eq_true rfl) rfl dX4_clear_5 (fun H locs w => ?_)
  have w := Wd.back w
  cases vv2 with
  | none =>
    replace h := oc_n h
    refine lv_astore_nN (lv' := [(2, .null), (0, .ref (ad E 6 0)), (1, .int x1)]) hx hb dX4_clear_8 rfl hl (by decide) rfl (fun ls hl => ?_)
    refine lv_aload_nN hx hb dX4_clear_9 rfl (lv_at hl 0 rfl) ?_
    refine lv_ifnonnullN hx hb dX4_clear_10 ?_
    obtain ⟨e0, e1, e2, e3⟩ := rt4 h
    exact x_thrG C w hst hno hl.1 (by rw [← e0]; decide) (by rw [← e0]; rfl) e2 e3 (by decide +kernel) q6_5 q6_6 (List.mem_of_getElem? (i := 4) rfl) thr_w3 thr_in3 thr_g3 dX4_clear_13 dX4_clear_16 dX4_clear_17 dX4_clear_19 dX4_clear_22 (by exact Nat.le_of_ble_eq_true rfl) (by exact Nat.le_of_ble_eq_true rfl) rfl rfl rfl rfl
  | some z3 =>
    replace h := oc_s h
    obtain ⟨hz3, h⟩ := chk_of h
    refine lv_astore_n (lv' := [(2, .ref (ad E 0 z3)), (0, .ref (ad E 6 0)), (1, .int x1)]) hx hb dX4_clear_8 rfl hl (by decide) rfl (fun ls hl => ?_)
    refine lv_aload_n hx hb dX4_clear_9 rfl (lv_at hl 0 rfl) ?_
    refine lv_ifnonnull (tgt := 23) hx hb dX4_clear_10 (by decide) ?_
    refine lv_aload_n hx hb dX4_clear_23 rfl (lv_at hl 0 rfl) ?_
    refine gG_X0_mode (show (0 : Nat) < 6 by decide) hz3 C w q11_7 dX4_clear_24 ?_
    refine lv_iconst (v := (3 : Int32)) hx hb dX4_clear_27 (by decide) ?_
    refine lv_icmp_eq (tgt := 41) hx hb dX4_clear_28 (by decide) (fun c4 => ?_) (fun c4 => ?_)
    · replace h := ite_t h c4
      refine lv_aload_n hx hb dX4_clear_41 rfl (lv_at hl 1 rfl) ?_
      refine gR_X4_history C w q1_18 dX4_clear_42 ?_
      refine lv_aload_n hx hb dX4_clear_45 rfl (lv_at hl 1 rfl) ?_
      refine gR_X4_state C w q1_13 dX4_clear_46 ?_
      obtain ⟨G6, K7, hv5, h⟩ := bd2_of h
      refine x_cVv (As := [.ref (ad E 0 0)]) (rest := []) C w (v6 (by decide)) cel_6 rfl (mtX1_save (show (0 : Nat) < 6 by decide) hv5) q9_1 q9_2 q9_3 q1_17 q9_4 ydX1_save ⟨rfl, rfl⟩ ⟨by exact Nat.le_of_ble_eq_true rfl, by exact Nat.le_of_ble_eq_true rfl⟩ ⟨Nat.zero_le _, Nat.zero_le _⟩ hl.1 (Nat.le_of_ble_eq_true rfl) rfl dX4_clear_49 (fun H locs w => ?_)
      refine lv_aload_n hx hb dX4_clear_52 rfl (lv_at hl 0 rfl) ?_
      refine lv_aload_n hx hb dX4_clear_53 rfl (lv_at hl 1 rfl) ?_
      refine gR_X4_state C w q1_13 dX4_clear_54 ?_
      refine gR_X3_settings (show (0 : Nat) < 6 by decide) C w q7_21 dX4_clear_57 ?_
      refine lv_iconst (v := (4 : Int32)) hx hb dX4_clear_60 (by decide) ?_
      refine x_aldI C w (vS (show (0 : Nat) < 6 by decide) (by decide)) (cS1 (show (0 : Nat) < 6 by decide)) (inb_k (k := 4) (by decide) (by decide)) cl_4 dX4_clear_61 ?_
      obtain ⟨M9, J10, hv8, h⟩ := bd2_of h
      refine x_cVv (As := [.int (G6 0 1 4)]) (rest := []) C (Wd.ofS 0 w) (vC (show (0 : Nat) < 6 by decide) hz3) (cel_C (show (0 : Nat) < 6 by decide) hz3.1) rfl (mtX0_stop (show (0 : Nat) < 6 by decide) hz3 hv8) q11_9 q11_10 q11_11 q2_17 q11_12 ydX0_stop ⟨rfl, rfl⟩ ⟨by exact Nat.le_of_ble_eq_true rfl, by exact Nat.le_of_ble_eq_true rfl⟩ ⟨Nat.zero_le _, Nat.zero_le _⟩ hl.1 (Nat.le_of_ble_eq_true rfl) rfl dX4_clear_62 (fun H locs w => ?_)
      obtain ⟨G11, e13⟩ : ∃ z, z = sg G6 0 M9 := ⟨_, rfl⟩
      obtain ⟨K12, e14⟩ : ∃ z, z = sg K7 0 J10 := ⟨_, rfl⟩
      rw [← e13, ← e14] at w
      replace h := bnd_of h e13
      replace h := bnd_of h e14
      refine lv_aload_n hx hb dX4_clear_65 rfl (lv_at hl 0 rfl) ?_
      refine gG_X0_stage (show (0 : Nat) < 6 by decide) hz3 C w q11_8 dX4_clear_66 ?_
      obtain ⟨e0, e1, e2, e3⟩ := rt4 h
      exact x_ti C w e0.symm e1 (by rw [e2]) (by rw [e3]) dX4_clear_69
    · replace h := ite_f h c4
      obtain ⟨e0, e1, e2, e3⟩ := rt4 h
      exact x_thrG C w hst hno hl.1 (by rw [← e0]; decide) (by rw [← e0]; rfl) e2 e3 (by decide +kernel) q8_23 q9_0 (List.mem_of_getElem? (i := 6) rfl) thr_w2 thr_in2 thr_g2 dX4_clear_31 dX4_clear_34 dX4_clear_35 dX4_clear_37 dX4_clear_40 (by exact Nat.le_of_ble_eq_true rfl) (by exact Nat.le_of_ble_eq_true rfl) rfl rfl rfl rfl
theorem mtX4_clear {tg : Nat} {rr : Int32} {GR : M3} {KR : J3}  (hst : l.stackTraces = false) {x1 : Int32}  (h : fX4_clear F  x1 G K = some (tg, rr, GR, KR)) : XtI l yX4_clear wdX4_clear (rmX4_clear tg) E [.ref (ad E 6 0), .int x1] G K tg rr GR KR := by
  intro sz
  refine vx_ofW (cc := cX4_clear) (maxL := 3) (ret := (some .int)) (by decide) rfl ?_
  intro p e s m args below meth c s₁ B hml hno hv
  obtain ⟨rfl, C, w⟩ := Cx.of (own := RX4) B rfl hml hv
  have hl := lv_entry ([.ref (ad E 6 0), .int x1]) (n := 3) (by first | exact Nat.le_of_ble_eq_true rfl)
  rw [lg_entry_eq]
  generalize (lg_sl ([.ref (ad E 6 0), .int x1]) ++ List.replicate (3 - (lg_sl ([.ref (ad E 6 0), .int x1])).length) Slot.unset).toArray = ls at hl ⊢
  exact TX4_clear C hst hno  h w hl
theorem ydX4_clear : yX4_clear.cls = RX4 ∧ yX4_clear.cls ≠ "java/lang/invoke/MethodHandle" ∧ yX4_clear.cls ≠ "java/lang/invoke/VarHandle" ∧ (parseMethodDescriptor yX4_clear.desc).map (fun d => d.parameters.length) = some 1 := by decide +kernel
/-! X4.pass(I)I -/
abbrev rmX4_pass (tg : Nat) : Room := { frames := 6, cells := mcT tg, slots := msT tg, locals := 126 }
abbrev wdX4_pass : Cond := Cond.code yX4_pass cX4_pass 2 (some .int)
noncomputable def fX4_pass (F : Nat)  (x1 : Int32) (G : M3) (K : J3) : Option (Nat × Int32 × M3 × J3) := (if ¬ (fX4_isWithin x1 (1 : Int32) (600 : Int32)) = 0 then ((if ¬ (fX3_hasTimeFor (G 0) (K 0) x1) = 0 then (bd2 (fX1_save F 0 G K) (fun G4 K5 => bd2 (fX3_runMinutes F x1 (G4 0) (K5 0)) (fun M7 J8 => bnd (sg G4 0 M7) (fun G9 => bnd (sg K5 0 J8) (fun K10 => (fX3_pressure (G9 0) (K10 0)).bind (fun vv14 => some (0, vv14, G9, K10))))))) else (some (2, (0 : Int32), G, K)))) else (some (1, (0 : Int32), G, K)))
set_option maxRecDepth 20000 in
set_option maxHeartbeats 1000000 in
theorem TX4_pass {tg : Nat} {rr : Int32} {GR : M3} {KR : J3}  (C : Cx E A p s m args meth c wdX4_pass cX4_pass 2 (some .int) RX4) (hst : l.stackTraces = false) (hno : ∀ x ∈ c.exceptionTable.toList, False) {x1 : Int32}  (h : fX4_pass F  x1 G K = some (tg, rr, GR, KR)) (w : Wd E A s G K H locs) (hl : lv_has ls 2 [(0, .ref (ad E 6 0)), (1, .int x1)]) : W p l e (rmX4_pass tg) s m args below meth c H locs 0 0 (QTi E A below args s tg rr GR KR) (F0 m 0 ls []) := by
  obtain ⟨hx, hb, hr, hml, hown, hts, hlocks, hKK, hA1, hA2⟩ := id C
  unfold fX4_pass at h
  refine lv_iload_n hx hb dX4_pass_0 rfl (lv_at hl 1 rfl) ?_
  refine lv_iconst (v := (1 : Int32)) hx hb dX4_pass_1 (by decide) ?_
  refine lv_sipush (v := (600 : Int32)) hx hb dX4_pass_2 (by decide) ?_
  refine x_cSi (As := [.int x1, .int (1 : Int32), .int (600 : Int32)]) (rest := []) C w (mtX4_isWithin ) q4_3 q4_4 q1_2 q4_5 ydX4_isWithin ⟨rfl, rfl⟩ ⟨by exact Nat.le_of_ble_eq_true rfl, by exact Nat.le_of_ble_eq_true rfl⟩ ⟨Nat.zero_le _, Nat.zero_le _⟩ hl.1 (Nat.le_of_ble_eq_true rfl) rfl dX4_pass_5 (fun H locs w => ?_)
  refine lv_if_ne (tgt := 21) hx hb dX4_pass_8 (by decide) (fun c1 => ?_) (fun c1 => ?_)
  · replace h := ite_t h c1
    refine lv_aload_n hx hb dX4_pass_21 rfl (lv_at hl 0 rfl) ?_
    refine gR_X4_state C w q1_13 dX4_pass_22 ?_
    refine lv_iload_n hx hb dX4_pass_25 rfl (lv_at hl 1 rfl) ?_
    refine x_cVi (As := [.int x1]) (rest := []) C (Wd.ofS 0 w) (vS (show (0 : Nat) < 6 by decide) (by decide)) (cel_S (show (0 : Nat) < 6 by decide)) rfl (mtX3_hasTimeFor (show (0 : Nat) < 6 by decide)) q12_7 q12_8 q12_9 q1_12 q12_10 ydX3_hasTimeFor ⟨rfl, rfl⟩ ⟨by exact Nat.le_of_ble_eq_true rfl, by exact Nat.le_of_ble_eq_true rfl⟩ ⟨Nat.zero_le _, Nat.zero_le _⟩ hl.1 (Nat.le_of_ble_eq_true rfl) rfl dX4_pass_26 (fun H locs w => ?_)
    have w := Wd.back w
    refine lv_if_ne (tgt := 42) hx hb dX4_pass_29 (by decide) (fun c2 => ?_) (fun c2 => ?_)
    · replace h := ite_t h c2
      refine lv_aload_n hx hb dX4_pass_42 rfl (lv_at hl 0 rfl) ?_
      refine gR_X4_history C w q1_18 dX4_pass_43 ?_
      refine lv_aload_n hx hb dX4_pass_46 rfl (lv_at hl 0 rfl) ?_
      refine gR_X4_state C w q1_13 dX4_pass_47 ?_
      obtain ⟨G4, K5, hv3, h⟩ := bd2_of h
      refine x_cVv (As := [.ref (ad E 0 0)]) (rest := []) C w (v6 (by decide)) cel_6 rfl (mtX1_save (show (0 : Nat) < 6 by decide) hv3) q9_1 q9_2 q9_3 q1_17 q9_4 ydX1_save ⟨rfl, rfl⟩ ⟨by exact Nat.le_of_ble_eq_true rfl, by exact Nat.le_of_ble_eq_true rfl⟩ ⟨Nat.zero_le _, Nat.zero_le _⟩ hl.1 (Nat.le_of_ble_eq_true rfl) rfl dX4_pass_50 (fun H locs w => ?_)
      refine lv_aload_n hx hb dX4_pass_53 rfl (lv_at hl 0 rfl) ?_
      refine gR_X4_state C w q1_13 dX4_pass_54 ?_
      refine lv_iload_n hx hb dX4_pass_57 rfl (lv_at hl 1 rfl) ?_
      obtain ⟨M7, J8, hv6, h⟩ := bd2_of h
      refine x_cVv (As := [.int x1]) (rest := []) C (Wd.ofS 0 w) (vS (show (0 : Nat) < 6 by decide) (by decide)) (cel_S (show (0 : Nat) < 6 by decide)) rfl (mtX3_runMinutes (show (0 : Nat) < 6 by decide) hv6) q14_17 q14_18 q14_19 q1_12 q14_20 ydX3_runMinutes ⟨rfl, rfl⟩ ⟨by exact Nat.le_of_ble_eq_true rfl, by exact Nat.le_of_ble_eq_true rfl⟩ ⟨Nat.zero_le _, Nat.zero_le _⟩ hl.1 (Nat.le_of_ble_eq_true rfl) rfl dX4_pass_58 (fun H locs w => ?_)
      obtain ⟨G9, e11⟩ : ∃ z, z = sg G4 0 M7 := ⟨_, rfl⟩
      obtain ⟨K10, e12⟩ : ∃ z, z = sg K5 0 J8 := ⟨_, rfl⟩
      rw [← e11, ← e12] at w
      replace h := bnd_of h e11
      replace h := bnd_of h e12
      refine lv_aload_n hx hb dX4_pass_61 rfl (lv_at hl 0 rfl) ?_
      refine gR_X4_state C w q1_13 dX4_pass_62 ?_
      obtain ⟨vv14, hv13, h⟩ := bind_of h
      refine x_cVi (As := []) (rest := []) C (Wd.ofS 0 w) (vS (show (0 : Nat) < 6 by decide) (by decide)) (cel_S (show (0 : Nat) < 6 by decide)) rfl (mtX3_pressure (show (0 : Nat) < 6 by decide) hv13) q8_5 q4_16 q4_17 q1_12 q4_18 ydX3_pressure ⟨rfl, rfl⟩ ⟨by exact Nat.le_of_ble_eq_true rfl, by exact Nat.le_of_ble_eq_true rfl⟩ ⟨Nat.zero_le _, Nat.zero_le _⟩ hl.1 (Nat.le_of_ble_eq_true rfl) rfl dX4_pass_65 (fun H locs w => ?_)
      have w := Wd.back w
      obtain ⟨e0, e1, e2, e3⟩ := rt4 h
      exact x_ti C w e0.symm e1 (by rw [e2]) (by rw [e3]) dX4_pass_68
    · replace h := ite_f h (fun z => z c2)
      obtain ⟨e0, e1, e2, e3⟩ := rt4 h
      exact x_thrG C w hst hno hl.1 (by rw [← e0]; decide) (by rw [← e0]; rfl) e2 e3 (by decide +kernel) q8_23 q9_0 (List.mem_of_getElem? (i := 8) rfl) thr_w2 thr_in2 thr_g2 dX4_pass_32 dX4_pass_35 dX4_pass_36 dX4_pass_38 dX4_pass_41 (by exact Nat.le_of_ble_eq_true rfl) (by exact Nat.le_of_ble_eq_true rfl) rfl rfl rfl rfl
  · replace h := ite_f h (fun z => z c1)
    obtain ⟨e0, e1, e2, e3⟩ := rt4 h
    exact x_thrG C w hst hno hl.1 (by rw [← e0]; decide) (by rw [← e0]; rfl) e2 e3 (by decide +kernel) q4_1 q4_2 (List.mem_of_getElem? (i := 7) rfl) thr_w1 thr_in1 thr_g1 dX4_pass_11 dX4_pass_14 dX4_pass_15 dX4_pass_17 dX4_pass_20 (by exact Nat.le_of_ble_eq_true rfl) (by exact Nat.le_of_ble_eq_true rfl) rfl rfl rfl rfl
theorem mtX4_pass {tg : Nat} {rr : Int32} {GR : M3} {KR : J3}  (hst : l.stackTraces = false) {x1 : Int32}  (h : fX4_pass F  x1 G K = some (tg, rr, GR, KR)) : XtI l yX4_pass wdX4_pass (rmX4_pass tg) E [.ref (ad E 6 0), .int x1] G K tg rr GR KR := by
  intro sz
  refine vx_ofW (cc := cX4_pass) (maxL := 2) (ret := (some .int)) (by decide) rfl ?_
  intro p e s m args below meth c s₁ B hml hno hv
  obtain ⟨rfl, C, w⟩ := Cx.of (own := RX4) B rfl hml hv
  have hl := lv_entry ([.ref (ad E 6 0), .int x1]) (n := 2) (by first | exact Nat.le_of_ble_eq_true rfl)
  rw [lg_entry_eq]
  generalize (lg_sl ([.ref (ad E 6 0), .int x1]) ++ List.replicate (2 - (lg_sl ([.ref (ad E 6 0), .int x1])).length) Slot.unset).toArray = ls at hl ⊢
  exact TX4_pass C hst hno  h w hl
theorem ydX4_pass : yX4_pass.cls = RX4 ∧ yX4_pass.cls ≠ "java/lang/invoke/MethodHandle" ∧ yX4_pass.cls ≠ "java/lang/invoke/VarHandle" ∧ (parseMethodDescriptor yX4_pass.desc).map (fun d => d.parameters.length) = some 1 := by decide +kernel
/-! X4.leakTest(I)I -/
abbrev rmX4_leakTest (tg : Nat) : Room := { frames := 6, cells := mcT tg, slots := msT tg, locals := 105 }
abbrev wdX4_leakTest : Cond := Cond.code yX4_leakTest cX4_leakTest 2 (some .int)
noncomputable def fX4_leakTest (F : Nat)  (x1 : Int32) (G : M3) (K : J3) : Option (Nat × Int32 × M3 × J3) := (if ¬ (fX4_isWithin x1 (1 : Int32) (60 : Int32)) = 0 then ((if ¬ (fX3_hasTimeFor (G 0) (K 0) x1) = 0 then (bd2 (fX1_save F 0 G K) (fun G4 K5 => bd3 (fX3_runLeakTest F x1 (G4 0) (K5 0)) (fun vv13 M7 J8 => bnd (sg G4 0 M7) (fun G9 => bnd (sg K5 0 J8) (fun K10 => some (0, vv13, G9, K10)))))) else (some (2, (0 : Int32), G, K)))) else (some (1, (0 : Int32), G, K)))
set_option maxRecDepth 20000 in
set_option maxHeartbeats 1000000 in
theorem TX4_leakTest {tg : Nat} {rr : Int32} {GR : M3} {KR : J3}  (C : Cx E A p s m args meth c wdX4_leakTest cX4_leakTest 2 (some .int) RX4) (hst : l.stackTraces = false) (hno : ∀ x ∈ c.exceptionTable.toList, False) {x1 : Int32}  (h : fX4_leakTest F  x1 G K = some (tg, rr, GR, KR)) (w : Wd E A s G K H locs) (hl : lv_has ls 2 [(0, .ref (ad E 6 0)), (1, .int x1)]) : W p l e (rmX4_leakTest tg) s m args below meth c H locs 0 0 (QTi E A below args s tg rr GR KR) (F0 m 0 ls []) := by
  obtain ⟨hx, hb, hr, hml, hown, hts, hlocks, hKK, hA1, hA2⟩ := id C
  unfold fX4_leakTest at h
  refine lv_iload_n hx hb dX4_leakTest_0 rfl (lv_at hl 1 rfl) ?_
  refine lv_iconst (v := (1 : Int32)) hx hb dX4_leakTest_1 (by decide) ?_
  refine lv_bipush (v := (60 : Int32)) hx hb dX4_leakTest_2 (by decide) ?_
  refine x_cSi (As := [.int x1, .int (1 : Int32), .int (60 : Int32)]) (rest := []) C w (mtX4_isWithin ) q4_3 q4_4 q1_2 q4_5 ydX4_isWithin ⟨rfl, rfl⟩ ⟨by exact Nat.le_of_ble_eq_true rfl, by exact Nat.le_of_ble_eq_true rfl⟩ ⟨Nat.zero_le _, Nat.zero_le _⟩ hl.1 (Nat.le_of_ble_eq_true rfl) rfl dX4_leakTest_4 (fun H locs w => ?_)
  refine lv_if_ne (tgt := 20) hx hb dX4_leakTest_7 (by decide) (fun c1 => ?_) (fun c1 => ?_)
  · replace h := ite_t h c1
    refine lv_aload_n hx hb dX4_leakTest_20 rfl (lv_at hl 0 rfl) ?_
    refine gR_X4_state C w q1_13 dX4_leakTest_21 ?_
    refine lv_iload_n hx hb dX4_leakTest_24 rfl (lv_at hl 1 rfl) ?_
    refine x_cVi (As := [.int x1]) (rest := []) C (Wd.ofS 0 w) (vS (show (0 : Nat) < 6 by decide) (by decide)) (cel_S (show (0 : Nat) < 6 by decide)) rfl (mtX3_hasTimeFor (show (0 : Nat) < 6 by decide)) q12_7 q12_8 q12_9 q1_12 q12_10 ydX3_hasTimeFor ⟨rfl, rfl⟩ ⟨by exact Nat.le_of_ble_eq_true rfl, by exact Nat.le_of_ble_eq_true rfl⟩ ⟨Nat.zero_le _, Nat.zero_le _⟩ hl.1 (Nat.le_of_ble_eq_true rfl) rfl dX4_leakTest_25 (fun H locs w => ?_)
    have w := Wd.back w
    refine lv_if_ne (tgt := 41) hx hb dX4_leakTest_28 (by decide) (fun c2 => ?_) (fun c2 => ?_)
    · replace h := ite_t h c2
      refine lv_aload_n hx hb dX4_leakTest_41 rfl (lv_at hl 0 rfl) ?_
      refine gR_X4_history C w q1_18 dX4_leakTest_42 ?_
      refine lv_aload_n hx hb dX4_leakTest_45 rfl (lv_at hl 0 rfl) ?_
      refine gR_X4_state C w q1_13 dX4_leakTest_46 ?_
      obtain ⟨G4, K5, hv3, h⟩ := bd2_of h
      refine x_cVv (As := [.ref (ad E 0 0)]) (rest := []) C w (v6 (by decide)) cel_6 rfl (mtX1_save (show (0 : Nat) < 6 by decide) hv3) q9_1 q9_2 q9_3 q1_17 q9_4 ydX1_save ⟨rfl, rfl⟩ ⟨by exact Nat.le_of_ble_eq_true rfl, by exact Nat.le_of_ble_eq_true rfl⟩ ⟨Nat.zero_le _, Nat.zero_le _⟩ hl.1 (Nat.le_of_ble_eq_true rfl) rfl dX4_leakTest_49 (fun H locs w => ?_)
      refine lv_aload_n hx hb dX4_leakTest_52 rfl (lv_at hl 0 rfl) ?_
      refine gR_X4_state C w q1_13 dX4_leakTest_53 ?_
      refine lv_iload_n hx hb dX4_leakTest_56 rfl (lv_at hl 1 rfl) ?_
      obtain ⟨vv13, M7, J8, hv6, h⟩ := bd3_of h
      refine x_cVi (As := [.int x1]) (rest := []) C (Wd.ofS 0 w) (vS (show (0 : Nat) < 6 by decide) (by decide)) (cel_S (show (0 : Nat) < 6 by decide)) rfl (mtX3_runLeakTest (show (0 : Nat) < 6 by decide) hv6) q12_12 q12_13 q12_14 q1_12 q12_15 ydX3_runLeakTest ⟨rfl, rfl⟩ ⟨by exact Nat.le_of_ble_eq_true rfl, by exact Nat.le_of_ble_eq_true rfl⟩ ⟨Nat.zero_le _, Nat.zero_le _⟩ hl.1 (Nat.le_of_ble_eq_true rfl) rfl dX4_leakTest_57 (fun H locs w => ?_)
      obtain ⟨G9, e11⟩ : ∃ z, z = sg G4 0 M7 := ⟨_, rfl⟩
      obtain ⟨K10, e12⟩ : ∃ z, z = sg K5 0 J8 := ⟨_, rfl⟩
      rw [← e11, ← e12] at w
      replace h := bnd_of h e11
      replace h := bnd_of h e12
      obtain ⟨e0, e1, e2, e3⟩ := rt4 h
      exact x_ti C w e0.symm e1 (by rw [e2]) (by rw [e3]) dX4_leakTest_60
    · replace h := ite_f h (fun z => z c2)
      obtain ⟨e0, e1, e2, e3⟩ := rt4 h
      exact x_thrG C w hst hno hl.1 (by rw [← e0]; decide) (by rw [← e0]; rfl) e2 e3 (by decide +kernel) q8_23 q9_0 (List.mem_of_getElem? (i := 8) rfl) thr_w2 thr_in2 thr_g2 dX4_leakTest_31 dX4_leakTest_34 dX4_leakTest_35 dX4_leakTest_37 dX4_leakTest_40 (by exact Nat.le_of_ble_eq_true rfl) (by exact Nat.le_of_ble_eq_true rfl) rfl rfl rfl rfl
  · replace h := ite_f h (fun z => z c1)
    obtain ⟨e0, e1, e2, e3⟩ := rt4 h
    exact x_thrG C w hst hno hl.1 (by rw [← e0]; decide) (by rw [← e0]; rfl) e2 e3 (by decide +kernel) q4_1 q4_2 (List.mem_of_getElem? (i := 7) rfl) thr_w1 thr_in1 thr_g1 dX4_leakTest_10 dX4_leakTest_13 dX4_leakTest_14 dX4_leakTest_16 dX4_leakTest_19 (by exact Nat.le_of_ble_eq_true rfl) (by exact Nat.le_of_ble_eq_true rfl) rfl rfl rfl rfl
theorem mtX4_leakTest {tg : Nat} {rr : Int32} {GR : M3} {KR : J3}  (hst : l.stackTraces = false) {x1 : Int32}  (h : fX4_leakTest F  x1 G K = some (tg, rr, GR, KR)) : XtI l yX4_leakTest wdX4_leakTest (rmX4_leakTest tg) E [.ref (ad E 6 0), .int x1] G K tg rr GR KR := by
  intro sz
  refine vx_ofW (cc := cX4_leakTest) (maxL := 2) (ret := (some .int)) (by decide) rfl ?_
  intro p e s m args below meth c s₁ B hml hno hv
  obtain ⟨rfl, C, w⟩ := Cx.of (own := RX4) B rfl hml hv
  have hl := lv_entry ([.ref (ad E 6 0), .int x1]) (n := 2) (by first | exact Nat.le_of_ble_eq_true rfl)
  rw [lg_entry_eq]
  generalize (lg_sl ([.ref (ad E 6 0), .int x1]) ++ List.replicate (2 - (lg_sl ([.ref (ad E 6 0), .int x1])).length) Slot.unset).toArray = ls at hl ⊢
  exact TX4_leakTest C hst hno  h w hl
theorem ydX4_leakTest : yX4_leakTest.cls = RX4 ∧ yX4_leakTest.cls ≠ "java/lang/invoke/MethodHandle" ∧ yX4_leakTest.cls ≠ "java/lang/invoke/VarHandle" ∧ (parseMethodDescriptor yX4_leakTest.desc).map (fun d => d.parameters.length) = some 1 := by decide +kernel
/-! X4.compressor(II)I -/
abbrev rmX4_compressor (tg : Nat) : Room := { frames := 6, cells := mcT tg, slots := msT tg, locals := 82 }
abbrev wdX4_compressor : Cond := Cond.code yX4_compressor cX4_compressor 4 (some .int)
noncomputable def fX4_compressor  (x1 : Int32) (x2 : Int32) (G : M3) (K : J3) : Option (Nat × Int32 × M3 × J3) := (fX3_numbered (G 0) (K 0) x1).bind (fun vv2 => oc vv2 (some (3, (0 : Int32), G, K)) (fun z3 => chk (isC z3) ((if ¬ (fX4_isWithin x2 (0 : Int32) (9 : Int32)) = 0 then (some (0, (fX3_numberAbout (G 0) (K 0) z3 x2), G, K)) else (some (1, (0 : Int32), G, K))))))
set_option maxRecDepth 20000 in
set_option maxHeartbeats 1000000 in
theorem TX4_compressor {tg : Nat} {rr : Int32} {GR : M3} {KR : J3}  (C : Cx E A p s m args meth c wdX4_compressor cX4_compressor 4 (some .int) RX4) (hst : l.stackTraces = false) (hno : ∀ x ∈ c.exceptionTable.toList, False) {x1 : Int32} {x2 : Int32}  (h : fX4_compressor  x1 x2 G K = some (tg, rr, GR, KR)) (w : Wd E A s G K H locs) (hl : lv_has ls 4 [(0, .ref (ad E 6 0)), (1, .int x1), (2, .int x2)]) : W p l e (rmX4_compressor tg) s m args below meth c H locs 0 0 (QTi E A below args s tg rr GR KR) (F0 m 0 ls []) := by
  obtain ⟨hx, hb, hr, hml, hown, hts, hlocks, hKK, hA1, hA2⟩ := id C
  unfold fX4_compressor at h
  refine lv_aload_n hx hb dX4_compressor_0 rfl (lv_at hl 0 rfl) ?_
  refine gR_X4_state C w q1_13 dX4_compressor_1 ?_
  refine lv_iload_n hx hb dX4_compressor_4 rfl (lv_at hl 1 rfl) ?_
  obtain ⟨vv2, hv1, h⟩ := bind_of h
  refine x_cVq (As := [.int x1]) (rest := []) C (Wd.ofS 0 w) (vS (show (0 : Nat) < 6 by decide) (by decide)) (cel_S (show (0 : Nat) < 6 by decide)) rfl (mtX3_numbered (show (0 : Nat) < 6 by decide) hv1) q6_7 q5_3 q5_4 q1_12 q5_5 ydX3_numbered ⟨rfl, rfl⟩ ⟨by exact Nat.le_of_ble_eq_true rfl, by exact Nat.le_of_ble_eq_true rfl⟩ ⟨Nat.zero_le _, Nat.zero_le _⟩ hl.1 (Nat.le_of_ble_eq_true rfl) rfl dX4_compressor_5 (fun H locs w => ?_)
  have w := Wd.back w
  cases vv2 with
  | none =>
    replace h := oc_n h
    refine lv_astore_nN (lv' := [(3, .null), (0, .ref (ad E 6 0)), (1, .int x1), (2, .int x2)]) hx hb dX4_compressor_8 rfl hl (by decide) rfl (fun ls hl => ?_)
    refine lv_aload_nN hx hb dX4_compressor_9 rfl (lv_at hl 0 rfl) ?_
    refine lv_ifnonnullN hx hb dX4_compressor_10 ?_
    obtain ⟨e0, e1, e2, e3⟩ := rt4 h
    exact x_thrG C w hst hno hl.1 (by rw [← e0]; decide) (by rw [← e0]; rfl) e2 e3 (by decide +kernel) q6_5 q6_6 (List.mem_of_getElem? (i := 4) rfl) thr_w3 thr_in3 thr_g3 dX4_compressor_13 dX4_compressor_16 dX4_compressor_17 dX4_compressor_19 dX4_compressor_22 (by exact Nat.le_of_ble_eq_true rfl) (by exact Nat.le_of_ble_eq_true rfl) rfl rfl rfl rfl
  | some z3 =>
    replace h := oc_s h
    obtain ⟨hz3, h⟩ := chk_of h
    refine lv_astore_n (lv' := [(3, .ref (ad E 0 z3)), (0, .ref (ad E 6 0)), (1, .int x1), (2, .int x2)]) hx hb dX4_compressor_8 rfl hl (by decide) rfl (fun ls hl => ?_)
    refine lv_aload_n hx hb dX4_compressor_9 rfl (lv_at hl 0 rfl) ?_
    refine lv_ifnonnull (tgt := 23) hx hb dX4_compressor_10 (by decide) ?_
    refine lv_iload_n hx hb dX4_compressor_23 rfl (lv_at hl 3 rfl) ?_
    refine lv_iconst (v := (0 : Int32)) hx hb dX4_compressor_24 (by decide) ?_
    refine lv_bipush (v := (9 : Int32)) hx hb dX4_compressor_25 (by decide) ?_
    refine x_cSi (As := [.int x2, .int (0 : Int32), .int (9 : Int32)]) (rest := []) C w (mtX4_isWithin ) q4_3 q4_4 q1_2 q4_5 ydX4_isWithin ⟨rfl, rfl⟩ ⟨by exact Nat.le_of_ble_eq_true rfl, by exact Nat.le_of_ble_eq_true rfl⟩ ⟨Nat.zero_le _, Nat.zero_le _⟩ hl.1 (Nat.le_of_ble_eq_true rfl) rfl dX4_compressor_27 (fun H locs w => ?_)
    refine lv_if_ne (tgt := 43) hx hb dX4_compressor_30 (by decide) (fun c4 => ?_) (fun c4 => ?_)
    · replace h := ite_t h c4
      refine lv_aload_n hx hb dX4_compressor_43 rfl (lv_at hl 1 rfl) ?_
      refine gR_X4_state C w q1_13 dX4_compressor_44 ?_
      refine lv_aload_n hx hb dX4_compressor_47 rfl (lv_at hl 0 rfl) ?_
      refine lv_iload_n hx hb dX4_compressor_48 rfl (lv_at hl 3 rfl) ?_
      refine x_cVi (As := [.ref (ad E 0 z3), .int x2]) (rest := []) C (Wd.ofS 0 w) (vS (show (0 : Nat) < 6 by decide) (by decide)) (cel_S (show (0 : Nat) < 6 by decide)) rfl (mtX3_numberAbout (show (0 : Nat) < 6 by decide) hz3) q6_8 q6_9 q6_10 q1_12 q6_11 ydX3_numberAbout ⟨rfl, rfl⟩ ⟨by exact Nat.le_of_ble_eq_true rfl, by exact Nat.le_of_ble_eq_true rfl⟩ ⟨Nat.zero_le _, Nat.zero_le _⟩ hl.1 (Nat.le_of_ble_eq_true rfl) rfl dX4_compressor_49 (fun H locs w => ?_)
      have w := Wd.back w
      obtain ⟨e0, e1, e2, e3⟩ := rt4 h
      exact x_ti C w e0.symm e1 (by rw [e2]) (by rw [e3]) dX4_compressor_52
    · replace h := ite_f h (fun z => z c4)
      obtain ⟨e0, e1, e2, e3⟩ := rt4 h
      exact x_thrG C w hst hno hl.1 (by rw [← e0]; decide) (by rw [← e0]; rfl) e2 e3 (by decide +kernel) q4_1 q4_2 (List.mem_of_getElem? (i := 9) rfl) thr_w1 thr_in1 thr_g1 dX4_compressor_33 dX4_compressor_36 dX4_compressor_37 dX4_compressor_39 dX4_compressor_42 (by exact Nat.le_of_ble_eq_true rfl) (by exact Nat.le_of_ble_eq_true rfl) rfl rfl rfl rfl
theorem mtX4_compressor {tg : Nat} {rr : Int32} {GR : M3} {KR : J3}  (hst : l.stackTraces = false) {x1 : Int32} {x2 : Int32}  (h : fX4_compressor  x1 x2 G K = some (tg, rr, GR, KR)) : XtI l yX4_compressor wdX4_compressor (rmX4_compressor tg) E [.ref (ad E 6 0), .int x1, .int x2] G K tg rr GR KR := by
  intro sz
  refine vx_ofW (cc := cX4_compressor) (maxL := 4) (ret := (some .int)) (by decide) rfl ?_
  intro p e s m args below meth c s₁ B hml hno hv
  obtain ⟨rfl, C, w⟩ := Cx.of (own := RX4) B rfl hml hv
  have hl := lv_entry ([.ref (ad E 6 0), .int x1, .int x2]) (n := 4) (by first | exact Nat.le_of_ble_eq_true rfl)
  rw [lg_entry_eq]
  generalize (lg_sl ([.ref (ad E 6 0), .int x1, .int x2]) ++ List.replicate (4 - (lg_sl ([.ref (ad E 6 0), .int x1, .int x2])).length) Slot.unset).toArray = ls at hl ⊢
  exact TX4_compressor C hst hno  h w hl
theorem ydX4_compressor : yX4_compressor.cls = RX4 ∧ yX4_compressor.cls ≠ "java/lang/invoke/MethodHandle" ∧ yX4_compressor.cls ≠ "java/lang/invoke/VarHandle" ∧ (parseMethodDescriptor yX4_compressor.desc).map (fun d => d.parameters.length) = some 2 := by decide +kernel
/-! X4.atStage(I)I -/
abbrev rmX4_atStage (tg : Nat) : Room := { frames := 6, cells := mcT tg, slots := msT tg, locals := 82 }
abbrev wdX4_atStage : Cond := Cond.code yX4_atStage cX4_atStage 2 (some .int)
noncomputable def fX4_atStage (F : Nat)  (x1 : Int32) (G : M3) (K : J3) : Option (Nat × Int32 × M3 × J3) := (if ¬ (fX4_isWithin x1 (0 : Int32) ((G 0 0 5) - (1 : Int32))) = 0 then ((fX3_numberAtStage F (G 0) (K 0) x1).bind (fun vv3 => some (0, vv3, G, K))) else (some (3, (0 : Int32), G, K)))
set_option maxRecDepth 20000 in
set_option maxHeartbeats 1000000 in
theorem TX4_atStage {tg : Nat} {rr : Int32} {GR : M3} {KR : J3}  (C : Cx E A p s m args meth c wdX4_atStage cX4_atStage 2 (some .int) RX4) (hst : l.stackTraces = false) (hno : ∀ x ∈ c.exceptionTable.toList, False) {x1 : Int32}  (h : fX4_atStage F  x1 G K = some (tg, rr, GR, KR)) (w : Wd E A s G K H locs) (hl : lv_has ls 2 [(0, .ref (ad E 6 0)), (1, .int x1)]) : W p l e (rmX4_atStage tg) s m args below meth c H locs 0 0 (QTi E A below args s tg rr GR KR) (F0 m 0 ls []) := by
  obtain ⟨hx, hb, hr, hml, hown, hts, hlocks, hKK, hA1, hA2⟩ := id C
  unfold fX4_atStage at h
  refine lv_iload_n hx hb dX4_atStage_0 rfl (lv_at hl 1 rfl) ?_
  refine lv_iconst (v := (0 : Int32)) hx hb dX4_atStage_1 (by decide) ?_
  refine lv_aload_n hx hb dX4_atStage_2 rfl (lv_at hl 0 rfl) ?_
  refine gR_X4_state C w q1_13 dX4_atStage_3 ?_
  refine gG_X3_count (show (0 : Nat) < 6 by decide) C w q7_9 dX4_atStage_6 ?_
  refine lv_iconst (v := (1 : Int32)) hx hb dX4_atStage_9 (by decide) ?_
  refine lv_isub hx hb dX4_atStage_10 ?_
  refine x_cSi (As := [.int x1, .int (0 : Int32), .int ((G 0 0 5) - (1 : Int32))]) (rest := []) C w (mtX4_isWithin ) q4_3 q4_4 q1_2 q4_5 ydX4_isWithin ⟨rfl, rfl⟩ ⟨by exact Nat.le_of_ble_eq_true rfl, by exact Nat.le_of_ble_eq_true rfl⟩ ⟨Nat.zero_le _, Nat.zero_le _⟩ hl.1 (Nat.le_of_ble_eq_true rfl) rfl dX4_atStage_11 (fun H locs w => ?_)
  refine lv_if_ne (tgt := 27) hx hb dX4_atStage_14 (by decide) (fun c1 => ?_) (fun c1 => ?_)
  · replace h := ite_t h c1
    refine lv_aload_n hx hb dX4_atStage_27 rfl (lv_at hl 0 rfl) ?_
    refine gR_X4_state C w q1_13 dX4_atStage_28 ?_
    refine lv_iload_n hx hb dX4_atStage_31 rfl (lv_at hl 1 rfl) ?_
    obtain ⟨vv3, hv2, h⟩ := bind_of h
    refine x_cVi (As := [.int x1]) (rest := []) C (Wd.ofS 0 w) (vS (show (0 : Nat) < 6 by decide) (by decide)) (cel_S (show (0 : Nat) < 6 by decide)) rfl (mtX3_numberAtStage (show (0 : Nat) < 6 by decide) hv2) q7_10 q7_11 q7_12 q1_12 q7_13 ydX3_numberAtStage ⟨rfl, rfl⟩ ⟨by exact Nat.le_of_ble_eq_true rfl, by exact Nat.le_of_ble_eq_true rfl⟩ ⟨Nat.zero_le _, Nat.zero_le _⟩ hl.1 (Nat.le_of_ble_eq_true rfl) rfl dX4_atStage_32 (fun H locs w => ?_)
    have w := Wd.back w
    obtain ⟨e0, e1, e2, e3⟩ := rt4 h
    exact x_ti C w e0.symm e1 (by rw [e2]) (by rw [e3]) dX4_atStage_35
  · replace h := ite_f h (fun z => z c1)
    obtain ⟨e0, e1, e2, e3⟩ := rt4 h
    exact x_thrG C w hst hno hl.1 (by rw [← e0]; decide) (by rw [← e0]; rfl) e2 e3 (by decide +kernel) q6_5 q6_6 (List.mem_of_getElem? (i := 10) rfl) thr_w3 thr_in3 thr_g3 dX4_atStage_17 dX4_atStage_20 dX4_atStage_21 dX4_atStage_23 dX4_atStage_26 (by exact Nat.le_of_ble_eq_true rfl) (by exact Nat.le_of_ble_eq_true rfl) rfl rfl rfl rfl
theorem mtX4_atStage {tg : Nat} {rr : Int32} {GR : M3} {KR : J3}  (hst : l.stackTraces = false) {x1 : Int32}  (h : fX4_atStage F  x1 G K = some (tg, rr, GR, KR)) : XtI l yX4_atStage wdX4_atStage (rmX4_atStage tg) E [.ref (ad E 6 0), .int x1] G K tg rr GR KR := by
  intro sz
  refine vx_ofW (cc := cX4_atStage) (maxL := 2) (ret := (some .int)) (by decide) rfl ?_
  intro p e s m args below meth c s₁ B hml hno hv
  obtain ⟨rfl, C, w⟩ := Cx.of (own := RX4) B rfl hml hv
  have hl := lv_entry ([.ref (ad E 6 0), .int x1]) (n := 2) (by first | exact Nat.le_of_ble_eq_true rfl)
  rw [lg_entry_eq]
  generalize (lg_sl ([.ref (ad E 6 0), .int x1]) ++ List.replicate (2 - (lg_sl ([.ref (ad E 6 0), .int x1])).length) Slot.unset).toArray = ls at hl ⊢
  exact TX4_atStage C hst hno  h w hl
theorem ydX4_atStage : yX4_atStage.cls = RX4 ∧ yX4_atStage.cls ≠ "java/lang/invoke/MethodHandle" ∧ yX4_atStage.cls ≠ "java/lang/invoke/VarHandle" ∧ (parseMethodDescriptor yX4_atStage.desc).map (fun d => d.parameters.length) = some 1 := by decide +kernel
/-! X4.value(I)I -/
abbrev rmX4_value (tg : Nat) : Room := { frames := 6, cells := mcT tg, slots := msT tg, locals := 82 }
abbrev wdX4_value : Cond := Cond.code yX4_value cX4_value 2 (some .int)
noncomputable def fX4_value (F : Nat)  (x1 : Int32) (G : M3) (K : J3) : Option (Nat × Int32 × M3 × J3) := (if ¬ (fX4_isWithin x1 (0 : Int32) (11 : Int32)) = 0 then ((fX3_numberOf F (G 0) (K 0) x1).bind (fun vv3 => some (0, vv3, G, K))) else (some (1, (0 : Int32), G, K)))
set_option maxRecDepth 20000 in
set_option maxHeartbeats 1000000 in
theorem TX4_value {tg : Nat} {rr : Int32} {GR : M3} {KR : J3}  (C : Cx E A p s m args meth c wdX4_value cX4_value 2 (some .int) RX4) (hst : l.stackTraces = false) (hno : ∀ x ∈ c.exceptionTable.toList, False) {x1 : Int32}  (h : fX4_value F  x1 G K = some (tg, rr, GR, KR)) (w : Wd E A s G K H locs) (hl : lv_has ls 2 [(0, .ref (ad E 6 0)), (1, .int x1)]) : W p l e (rmX4_value tg) s m args below meth c H locs 0 0 (QTi E A below args s tg rr GR KR) (F0 m 0 ls []) := by
  obtain ⟨hx, hb, hr, hml, hown, hts, hlocks, hKK, hA1, hA2⟩ := id C
  unfold fX4_value at h
  refine lv_iload_n hx hb dX4_value_0 rfl (lv_at hl 1 rfl) ?_
  refine lv_iconst (v := (0 : Int32)) hx hb dX4_value_1 (by decide) ?_
  refine lv_bipush (v := (11 : Int32)) hx hb dX4_value_2 (by decide) ?_
  refine x_cSi (As := [.int x1, .int (0 : Int32), .int (11 : Int32)]) (rest := []) C w (mtX4_isWithin ) q4_3 q4_4 q1_2 q4_5 ydX4_isWithin ⟨rfl, rfl⟩ ⟨by exact Nat.le_of_ble_eq_true rfl, by exact Nat.le_of_ble_eq_true rfl⟩ ⟨Nat.zero_le _, Nat.zero_le _⟩ hl.1 (Nat.le_of_ble_eq_true rfl) rfl dX4_value_4 (fun H locs w => ?_)
  refine lv_if_ne (tgt := 20) hx hb dX4_value_7 (by decide) (fun c1 => ?_) (fun c1 => ?_)
  · replace h := ite_t h c1
    refine lv_aload_n hx hb dX4_value_20 rfl (lv_at hl 0 rfl) ?_
    refine gR_X4_state C w q1_13 dX4_value_21 ?_
    refine lv_iload_n hx hb dX4_value_24 rfl (lv_at hl 1 rfl) ?_
    obtain ⟨vv3, hv2, h⟩ := bind_of h
    refine x_cVi (As := [.int x1]) (rest := []) C (Wd.ofS 0 w) (vS (show (0 : Nat) < 6 by decide) (by decide)) (cel_S (show (0 : Nat) < 6 by decide)) rfl (mtX3_numberOf (show (0 : Nat) < 6 by decide) hv2) q4_6 q4_7 q4_8 q1_12 q4_9 ydX3_numberOf ⟨rfl, rfl⟩ ⟨by exact Nat.le_of_ble_eq_true rfl, by exact Nat.le_of_ble_eq_true rfl⟩ ⟨Nat.zero_le _, Nat.zero_le _⟩ hl.1 (Nat.le_of_ble_eq_true rfl) rfl dX4_value_25 (fun H locs w => ?_)
    have w := Wd.back w
    obtain ⟨e0, e1, e2, e3⟩ := rt4 h
    exact x_ti C w e0.symm e1 (by rw [e2]) (by rw [e3]) dX4_value_28
  · replace h := ite_f h (fun z => z c1)
    obtain ⟨e0, e1, e2, e3⟩ := rt4 h
    exact x_thrG C w hst hno hl.1 (by rw [← e0]; decide) (by rw [← e0]; rfl) e2 e3 (by decide +kernel) q4_1 q4_2 (List.mem_of_getElem? (i := 11) rfl) thr_w1 thr_in1 thr_g1 dX4_value_10 dX4_value_13 dX4_value_14 dX4_value_16 dX4_value_19 (by exact Nat.le_of_ble_eq_true rfl) (by exact Nat.le_of_ble_eq_true rfl) rfl rfl rfl rfl
theorem mtX4_value {tg : Nat} {rr : Int32} {GR : M3} {KR : J3}  (hst : l.stackTraces = false) {x1 : Int32}  (h : fX4_value F  x1 G K = some (tg, rr, GR, KR)) : XtI l yX4_value wdX4_value (rmX4_value tg) E [.ref (ad E 6 0), .int x1] G K tg rr GR KR := by
  intro sz
  refine vx_ofW (cc := cX4_value) (maxL := 2) (ret := (some .int)) (by decide) rfl ?_
  intro p e s m args below meth c s₁ B hml hno hv
  obtain ⟨rfl, C, w⟩ := Cx.of (own := RX4) B rfl hml hv
  have hl := lv_entry ([.ref (ad E 6 0), .int x1]) (n := 2) (by first | exact Nat.le_of_ble_eq_true rfl)
  rw [lg_entry_eq]
  generalize (lg_sl ([.ref (ad E 6 0), .int x1]) ++ List.replicate (2 - (lg_sl ([.ref (ad E 6 0), .int x1])).length) Slot.unset).toArray = ls at hl ⊢
  exact TX4_value C hst hno  h w hl
theorem ydX4_value : yX4_value.cls = RX4 ∧ yX4_value.cls ≠ "java/lang/invoke/MethodHandle" ∧ yX4_value.cls ≠ "java/lang/invoke/VarHandle" ∧ (parseMethodDescriptor yX4_value.desc).map (fun d => d.parameters.length) = some 1 := by decide +kernel
/-! X4.setting(I)I -/
abbrev rmX4_setting (tg : Nat) : Room := { frames := 6, cells := mcT tg, slots := msT tg, locals := 82 }
abbrev wdX4_setting : Cond := Cond.code yX4_setting cX4_setting 2 (some .int)
noncomputable def fX4_setting  (x1 : Int32) (G : M3) (K : J3) : Option (Nat × Int32 × M3 × J3) := (if ¬ (fX4_isWithin x1 (0 : Int32) (7 : Int32)) = 0 then (chk (inb x1 8) (some (0, (G 0 1 x1.toNatClampNeg), G, K))) else (some (1, (0 : Int32), G, K)))
set_option maxRecDepth 20000 in
set_option maxHeartbeats 1000000 in
theorem TX4_setting {tg : Nat} {rr : Int32} {GR : M3} {KR : J3}  (C : Cx E A p s m args meth c wdX4_setting cX4_setting 2 (some .int) RX4) (hst : l.stackTraces = false) (hno : ∀ x ∈ c.exceptionTable.toList, False) {x1 : Int32}  (h : fX4_setting  x1 G K = some (tg, rr, GR, KR)) (w : Wd E A s G K H locs) (hl : lv_has ls 2 [(0, .ref (ad E 6 0)), (1, .int x1)]) : W p l e (rmX4_setting tg) s m args below meth c H locs 0 0 (QTi E A below args s tg rr GR KR) (F0 m 0 ls []) := by
  obtain ⟨hx, hb, hr, hml, hown, hts, hlocks, hKK, hA1, hA2⟩ := id C
  unfold fX4_setting at h
  refine lv_iload_n hx hb dX4_setting_0 rfl (lv_at hl 1 rfl) ?_
  refine lv_iconst (v := (0 : Int32)) hx hb dX4_setting_1 (by decide) ?_
  refine lv_bipush (v := (7 : Int32)) hx hb dX4_setting_2 (by decide) ?_
  refine x_cSi (As := [.int x1, .int (0 : Int32), .int (7 : Int32)]) (rest := []) C w (mtX4_isWithin ) q4_3 q4_4 q1_2 q4_5 ydX4_isWithin ⟨rfl, rfl⟩ ⟨by exact Nat.le_of_ble_eq_true rfl, by exact Nat.le_of_ble_eq_true rfl⟩ ⟨Nat.zero_le _, Nat.zero_le _⟩ hl.1 (Nat.le_of_ble_eq_true rfl) rfl dX4_setting_4 (fun H locs w => ?_)
  refine lv_if_ne (tgt := 20) hx hb dX4_setting_7 (by decide) (fun c1 => ?_) (fun c1 => ?_)
  · replace h := ite_t h c1
    refine lv_aload_n hx hb dX4_setting_20 rfl (lv_at hl 0 rfl) ?_
    refine gR_X4_state C w q1_13 dX4_setting_21 ?_
    refine gR_X3_settings (show (0 : Nat) < 6 by decide) C w q7_21 dX4_setting_24 ?_
    refine lv_iload_n hx hb dX4_setting_27 rfl (lv_at hl 1 rfl) ?_
    obtain ⟨ki2, h⟩ := chk_of h
    refine x_aldI C w (vS (show (0 : Nat) < 6 by decide) (by decide)) (cS1 (show (0 : Nat) < 6 by decide)) ki2 rfl dX4_setting_28 ?_
    obtain ⟨e0, e1, e2, e3⟩ := rt4 h
    exact x_ti C w e0.symm e1 (by rw [e2]) (by rw [e3]) dX4_setting_29
  · replace h := ite_f h (fun z => z c1)
    obtain ⟨e0, e1, e2, e3⟩ := rt4 h
    exact x_thrG C w hst hno hl.1 (by rw [← e0]; decide) (by rw [← e0]; rfl) e2 e3 (by decide +kernel) q4_1 q4_2 (List.mem_of_getElem? (i := 0) rfl) thr_w1 thr_in1 thr_g1 dX4_setting_10 dX4_setting_13 dX4_setting_14 dX4_setting_16 dX4_setting_19 (by exact Nat.le_of_ble_eq_true rfl) (by exact Nat.le_of_ble_eq_true rfl) rfl rfl rfl rfl
theorem mtX4_setting {tg : Nat} {rr : Int32} {GR : M3} {KR : J3}  (hst : l.stackTraces = false) {x1 : Int32}  (h : fX4_setting  x1 G K = some (tg, rr, GR, KR)) : XtI l yX4_setting wdX4_setting (rmX4_setting tg) E [.ref (ad E 6 0), .int x1] G K tg rr GR KR := by
  intro sz
  refine vx_ofW (cc := cX4_setting) (maxL := 2) (ret := (some .int)) (by decide) rfl ?_
  intro p e s m args below meth c s₁ B hml hno hv
  obtain ⟨rfl, C, w⟩ := Cx.of (own := RX4) B rfl hml hv
  have hl := lv_entry ([.ref (ad E 6 0), .int x1]) (n := 2) (by first | exact Nat.le_of_ble_eq_true rfl)
  rw [lg_entry_eq]
  generalize (lg_sl ([.ref (ad E 6 0), .int x1]) ++ List.replicate (2 - (lg_sl ([.ref (ad E 6 0), .int x1])).length) Slot.unset).toArray = ls at hl ⊢
  exact TX4_setting C hst hno  h w hl
theorem ydX4_setting : yX4_setting.cls = RX4 ∧ yX4_setting.cls ≠ "java/lang/invoke/MethodHandle" ∧ yX4_setting.cls ≠ "java/lang/invoke/VarHandle" ∧ (parseMethodDescriptor yX4_setting.desc).map (fun d => d.parameters.length) = some 1 := by decide +kernel
/-! X4.booked(I)J -/
abbrev rmX4_booked (tg : Nat) : Room := { frames := 6, cells := mcT tg, slots := msT tg, locals := 82 }
abbrev wdX4_booked : Cond := Cond.code yX4_booked cX4_booked 2 (some .long)
noncomputable def fX4_booked  (x1 : Int32) (G : M3) (K : J3) : Option (Nat × Int64 × M3 × J3) := (if ¬ (fX4_isWithin x1 (0 : Int32) (5 : Int32)) = 0 then (chk (inb x1 6) (some (0, (K 0 2 x1.toNatClampNeg), G, K))) else (some (1, (0 : Int64), G, K)))
set_option maxRecDepth 20000 in
set_option maxHeartbeats 1000000 in
theorem TX4_booked {tg : Nat} {rr : Int64} {GR : M3} {KR : J3}  (C : Cx E A p s m args meth c wdX4_booked cX4_booked 2 (some .long) RX4) (hst : l.stackTraces = false) (hno : ∀ x ∈ c.exceptionTable.toList, False) {x1 : Int32}  (h : fX4_booked  x1 G K = some (tg, rr, GR, KR)) (w : Wd E A s G K H locs) (hl : lv_has ls 2 [(0, .ref (ad E 6 0)), (1, .int x1)]) : W p l e (rmX4_booked tg) s m args below meth c H locs 0 0 (QTl E A below args s tg rr GR KR) (F0 m 0 ls []) := by
  obtain ⟨hx, hb, hr, hml, hown, hts, hlocks, hKK, hA1, hA2⟩ := id C
  unfold fX4_booked at h
  refine lv_iload_n hx hb dX4_booked_0 rfl (lv_at hl 1 rfl) ?_
  refine lv_iconst (v := (0 : Int32)) hx hb dX4_booked_1 (by decide) ?_
  refine lv_iconst (v := (5 : Int32)) hx hb dX4_booked_2 (by decide) ?_
  refine x_cSi (As := [.int x1, .int (0 : Int32), .int (5 : Int32)]) (rest := []) C w (mtX4_isWithin ) q4_3 q4_4 q1_2 q4_5 ydX4_isWithin ⟨rfl, rfl⟩ ⟨by exact Nat.le_of_ble_eq_true rfl, by exact Nat.le_of_ble_eq_true rfl⟩ ⟨Nat.zero_le _, Nat.zero_le _⟩ hl.1 (Nat.le_of_ble_eq_true rfl) rfl dX4_booked_3 (fun H locs w => ?_)
  refine lv_if_ne (tgt := 19) hx hb dX4_booked_6 (by decide) (fun c1 => ?_) (fun c1 => ?_)
  · replace h := ite_t h c1
    refine lv_aload_n hx hb dX4_booked_19 rfl (lv_at hl 0 rfl) ?_
    refine gR_X4_state C w q1_13 dX4_booked_20 ?_
    refine gR_X3_amounts (show (0 : Nat) < 6 by decide) C w q5_19 dX4_booked_23 ?_
    refine lv_iload_n hx hb dX4_booked_26 rfl (lv_at hl 1 rfl) ?_
    obtain ⟨ki2, h⟩ := chk_of h
    refine x_aldJ C w (vS (show (0 : Nat) < 6 by decide) (by decide)) (cS2 (show (0 : Nat) < 6 by decide)) ki2 rfl dX4_booked_27 ?_
    obtain ⟨e0, e1, e2, e3⟩ := rt4 h
    exact x_tl C w e0.symm e1 (by rw [e2]) (by rw [e3]) dX4_booked_28
  · replace h := ite_f h (fun z => z c1)
    obtain ⟨e0, e1, e2, e3⟩ := rt4 h
    exact x_thrG C w hst hno hl.1 (by rw [← e0]; decide) (by rw [← e0]; rfl) e2 e3 (by decide +kernel) q4_1 q4_2 (List.mem_of_getElem? (i := 12) rfl) thr_w1 thr_in1 thr_g1 dX4_booked_9 dX4_booked_12 dX4_booked_13 dX4_booked_15 dX4_booked_18 (by exact Nat.le_of_ble_eq_true rfl) (by exact Nat.le_of_ble_eq_true rfl) rfl rfl rfl rfl
theorem mtX4_booked {tg : Nat} {rr : Int64} {GR : M3} {KR : J3}  (hst : l.stackTraces = false) {x1 : Int32}  (h : fX4_booked  x1 G K = some (tg, rr, GR, KR)) : XtL l yX4_booked wdX4_booked (rmX4_booked tg) E [.ref (ad E 6 0), .int x1] G K tg rr GR KR := by
  intro sz
  refine vx_ofW (cc := cX4_booked) (maxL := 2) (ret := (some .long)) (by decide) rfl ?_
  intro p e s m args below meth c s₁ B hml hno hv
  obtain ⟨rfl, C, w⟩ := Cx.of (own := RX4) B rfl hml hv
  have hl := lv_entry ([.ref (ad E 6 0), .int x1]) (n := 2) (by first | exact Nat.le_of_ble_eq_true rfl)
  rw [lg_entry_eq]
  generalize (lg_sl ([.ref (ad E 6 0), .int x1]) ++ List.replicate (2 - (lg_sl ([.ref (ad E 6 0), .int x1])).length) Slot.unset).toArray = ls at hl ⊢
  exact TX4_booked C hst hno  h w hl
theorem ydX4_booked : yX4_booked.cls = RX4 ∧ yX4_booked.cls ≠ "java/lang/invoke/MethodHandle" ∧ yX4_booked.cls ≠ "java/lang/invoke/VarHandle" ∧ (parseMethodDescriptor yX4_booked.desc).map (fun d => d.parameters.length) = some 1 := by decide +kernel
/-! X4.next(I)I -/
abbrev rmX4_next (tg : Nat) : Room := { frames := 6, cells := mcT tg, slots := msT tg, locals := 82 }
abbrev wdX4_next : Cond := Cond.code yX4_next cX4_next 3 (some .int)
noncomputable def fX4_next  (x1 : Int32) (G : M3) (K : J3) : Option (Nat × Int32 × M3 × J3) := (fX3_numbered (G 0) (K 0) x1).bind (fun vv2 => oc vv2 (some (3, (0 : Int32), G, K)) (fun z3 => chk (isC z3) ((fX3_pressure (G 0) (K 0)).bind (fun vv5 => some (0, (fX3_doingOf (G 0) (K 0) z3 vv5), G, K)))))
set_option maxRecDepth 20000 in
set_option maxHeartbeats 1000000 in
theorem TX4_next {tg : Nat} {rr : Int32} {GR : M3} {KR : J3}  (C : Cx E A p s m args meth c wdX4_next cX4_next 3 (some .int) RX4) (hst : l.stackTraces = false) (hno : ∀ x ∈ c.exceptionTable.toList, False) {x1 : Int32}  (h : fX4_next  x1 G K = some (tg, rr, GR, KR)) (w : Wd E A s G K H locs) (hl : lv_has ls 3 [(0, .ref (ad E 6 0)), (1, .int x1)]) : W p l e (rmX4_next tg) s m args below meth c H locs 0 0 (QTi E A below args s tg rr GR KR) (F0 m 0 ls []) := by
  obtain ⟨hx, hb, hr, hml, hown, hts, hlocks, hKK, hA1, hA2⟩ := id C
  unfold fX4_next at h
  refine lv_aload_n hx hb dX4_next_0 rfl (lv_at hl 0 rfl) ?_
  refine gR_X4_state C w q1_13 dX4_next_1 ?_
  refine lv_iload_n hx hb dX4_next_4 rfl (lv_at hl 1 rfl) ?_
  obtain ⟨vv2, hv1, h⟩ := bind_of h
  refine x_cVq (As := [.int x1]) (rest := []) C (Wd.ofS 0 w) (vS (show (0 : Nat) < 6 by decide) (by decide)) (cel_S (show (0 : Nat) < 6 by decide)) rfl (mtX3_numbered (show (0 : Nat) < 6 by decide) hv1) q6_7 q5_3 q5_4 q1_12 q5_5 ydX3_numbered ⟨rfl, rfl⟩ ⟨by exact Nat.le_of_ble_eq_true rfl, by exact Nat.le_of_ble_eq_true rfl⟩ ⟨Nat.zero_le _, Nat.zero_le _⟩ hl.1 (Nat.le_of_ble_eq_true rfl) rfl dX4_next_5 (fun H locs w => ?_)
  have w := Wd.back w
  cases vv2 with
  | none =>
    replace h := oc_n h
    refine lv_astore_nN (lv' := [(2, .null), (0, .ref (ad E 6 0)), (1, .int x1)]) hx hb dX4_next_8 rfl hl (by decide) rfl (fun ls hl => ?_)
    refine lv_aload_nN hx hb dX4_next_9 rfl (lv_at hl 0 rfl) ?_
    refine lv_ifnonnullN hx hb dX4_next_10 ?_
    obtain ⟨e0, e1, e2, e3⟩ := rt4 h
    exact x_thrG C w hst hno hl.1 (by rw [← e0]; decide) (by rw [← e0]; rfl) e2 e3 (by decide +kernel) q6_5 q6_6 (List.mem_of_getElem? (i := 4) rfl) thr_w3 thr_in3 thr_g3 dX4_next_13 dX4_next_16 dX4_next_17 dX4_next_19 dX4_next_22 (by exact Nat.le_of_ble_eq_true rfl) (by exact Nat.le_of_ble_eq_true rfl) rfl rfl rfl rfl
  | some z3 =>
    replace h := oc_s h
    obtain ⟨hz3, h⟩ := chk_of h
    refine lv_astore_n (lv' := [(2, .ref (ad E 0 z3)), (0, .ref (ad E 6 0)), (1, .int x1)]) hx hb dX4_next_8 rfl hl (by decide) rfl (fun ls hl => ?_)
    refine lv_aload_n hx hb dX4_next_9 rfl (lv_at hl 0 rfl) ?_
    refine lv_ifnonnull (tgt := 23) hx hb dX4_next_10 (by decide) ?_
    refine lv_aload_n hx hb dX4_next_23 rfl (lv_at hl 1 rfl) ?_
    refine gR_X4_state C w q1_13 dX4_next_24 ?_
    refine lv_aload_n hx hb dX4_next_27 rfl (lv_at hl 0 rfl) ?_
    refine lv_aload_n hx hb dX4_next_28 rfl (lv_at hl 1 rfl) ?_
    refine gR_X4_state C w q1_13 dX4_next_29 ?_
    obtain ⟨vv5, hv4, h⟩ := bind_of h
    refine x_cVi (As := []) (rest := [.ref (ad E 0 z3), .ref (ad E 0 0)]) C (Wd.ofS 0 w) (vS (show (0 : Nat) < 6 by decide) (by decide)) (cel_S (show (0 : Nat) < 6 by decide)) rfl (mtX3_pressure (show (0 : Nat) < 6 by decide) hv4) q8_5 q4_16 q4_17 q1_12 q4_18 ydX3_pressure ⟨rfl, rfl⟩ ⟨by exact Nat.le_of_ble_eq_true rfl, by exact Nat.le_of_ble_eq_true rfl⟩ ⟨Nat.zero_le _, Nat.zero_le _⟩ hl.1 (Nat.le_of_ble_eq_true rfl) rfl dX4_next_32 (fun H locs w => ?_)
    have w := Wd.back w
    refine x_cVi (As := [.ref (ad E 0 z3), .int vv5]) (rest := []) C (Wd.ofS 0 w) (vS (show (0 : Nat) < 6 by decide) (by decide)) (cel_S (show (0 : Nat) < 6 by decide)) rfl (mtX3_doingOf (show (0 : Nat) < 6 by decide) hz3) q8_6 q8_7 q8_8 q1_12 q8_9 ydX3_doingOf ⟨rfl, rfl⟩ ⟨by exact Nat.le_of_ble_eq_true rfl, by exact Nat.le_of_ble_eq_true rfl⟩ ⟨Nat.zero_le _, Nat.zero_le _⟩ hl.1 (Nat.le_of_ble_eq_true rfl) rfl dX4_next_35 (fun H locs w => ?_)
    have w := Wd.back w
    obtain ⟨e0, e1, e2, e3⟩ := rt4 h
    exact x_ti C w e0.symm e1 (by rw [e2]) (by rw [e3]) dX4_next_38
theorem mtX4_next {tg : Nat} {rr : Int32} {GR : M3} {KR : J3}  (hst : l.stackTraces = false) {x1 : Int32}  (h : fX4_next  x1 G K = some (tg, rr, GR, KR)) : XtI l yX4_next wdX4_next (rmX4_next tg) E [.ref (ad E 6 0), .int x1] G K tg rr GR KR := by
  intro sz
  refine vx_ofW (cc := cX4_next) (maxL := 3) (ret := (some .int)) (by decide) rfl ?_
  intro p e s m args below meth c s₁ B hml hno hv
  obtain ⟨rfl, C, w⟩ := Cx.of (own := RX4) B rfl hml hv
  have hl := lv_entry ([.ref (ad E 6 0), .int x1]) (n := 3) (by first | exact Nat.le_of_ble_eq_true rfl)
  rw [lg_entry_eq]
  generalize (lg_sl ([.ref (ad E 6 0), .int x1]) ++ List.replicate (3 - (lg_sl ([.ref (ad E 6 0), .int x1])).length) Slot.unset).toArray = ls at hl ⊢
  exact TX4_next C hst hno  h w hl
theorem ydX4_next : yX4_next.cls = RX4 ∧ yX4_next.cls ≠ "java/lang/invoke/MethodHandle" ∧ yX4_next.cls ≠ "java/lang/invoke/VarHandle" ∧ (parseMethodDescriptor yX4_next.desc).map (fun d => d.parameters.length) = some 1 := by decide +kernel
/-! X4.undo()I -/
abbrev rmX4_undo (tg : Nat) : Room := { frames := 6, cells := mcT tg, slots := msT tg, locals := 86 }
abbrev wdX4_undo : Cond := Cond.code yX4_undo cX4_undo 1 (some .int)
noncomputable def fX4_undo (F : Nat)   (G : M3) (K : J3) : Option (Nat × Int32 × M3 × J3) := (if ¬ (G 6 1 0) = 0 then (bd2 (fX1_restore F 0 G K) (fun G3 K4 => some (0, (G3 6 1 0), G3, K4))) else (some (2, (0 : Int32), G, K)))
set_option maxRecDepth 20000 in
set_option maxHeartbeats 1000000 in
theorem TX4_undo {tg : Nat} {rr : Int32} {GR : M3} {KR : J3}  (C : Cx E A p s m args meth c wdX4_undo cX4_undo 1 (some .int) RX4) (hst : l.stackTraces = false) (hno : ∀ x ∈ c.exceptionTable.toList, False)   (h : fX4_undo F  G K = some (tg, rr, GR, KR)) (w : Wd E A s G K H locs) (hl : lv_has ls 1 [(0, .ref (ad E 6 0))]) : W p l e (rmX4_undo tg) s m args below meth c H locs 0 0 (QTi E A below args s tg rr GR KR) (F0 m 0 ls []) := by
  obtain ⟨hx, hb, hr, hml, hown, hts, hlocks, hKK, hA1, hA2⟩ := id C
  unfold fX4_undo at h
  refine lv_aload_n hx hb dX4_undo_0 rfl (lv_at hl 0 rfl) ?_
  refine gR_X4_history C w q1_18 dX4_undo_1 ?_
  refine gG_X1_kept C w q16_1 dX4_undo_4 ?_
  refine lv_if_ne (tgt := 20) hx hb dX4_undo_7 (by decide) (fun c1 => ?_) (fun c1 => ?_)
  · replace h := ite_t h c1
    refine lv_aload_n hx hb dX4_undo_20 rfl (lv_at hl 0 rfl) ?_
    refine gR_X4_history C w q1_18 dX4_undo_21 ?_
    refine lv_aload_n hx hb dX4_undo_24 rfl (lv_at hl 0 rfl) ?_
    refine gR_X4_state C w q1_13 dX4_undo_25 ?_
    obtain ⟨G3, K4, hv2, h⟩ := bd2_of h
    refine x_cVv (As := [.ref (ad E 0 0)]) (rest := []) C w (v6 (by decide)) cel_6 rfl (mtX1_restore (show (0 : Nat) < 6 by decide) hv2) q16_19 q16_20 q16_21 q1_17 q16_22 ydX1_restore ⟨rfl, rfl⟩ ⟨by exact Nat.le_of_ble_eq_true rfl, by exact Nat.le_of_ble_eq_true rfl⟩ ⟨Nat.zero_le _, Nat.zero_le _⟩ hl.1 (Nat.le_of_ble_eq_true rfl) rfl dX4_undo_28 (fun H locs w => ?_)
    refine lv_aload_n hx hb dX4_undo_31 rfl (lv_at hl 0 rfl) ?_
    refine gR_X4_history C w q1_18 dX4_undo_32 ?_
    refine gG_X1_kept C w q16_1 dX4_undo_35 ?_
    obtain ⟨e0, e1, e2, e3⟩ := rt4 h
    exact x_ti C w e0.symm e1 (by rw [e2]) (by rw [e3]) dX4_undo_38
  · replace h := ite_f h (fun z => z c1)
    obtain ⟨e0, e1, e2, e3⟩ := rt4 h
    exact x_thrG C w hst hno hl.1 (by rw [← e0]; decide) (by rw [← e0]; rfl) e2 e3 (by decide +kernel) q8_23 q9_0 (List.mem_of_getElem? (i := 13) rfl) thr_w2 thr_in2 thr_g2 dX4_undo_10 dX4_undo_13 dX4_undo_14 dX4_undo_16 dX4_undo_19 (by exact Nat.le_of_ble_eq_true rfl) (by exact Nat.le_of_ble_eq_true rfl) rfl rfl rfl rfl
theorem mtX4_undo {tg : Nat} {rr : Int32} {GR : M3} {KR : J3}  (hst : l.stackTraces = false)   (h : fX4_undo F  G K = some (tg, rr, GR, KR)) : XtI l yX4_undo wdX4_undo (rmX4_undo tg) E [.ref (ad E 6 0)] G K tg rr GR KR := by
  intro sz
  refine vx_ofW (cc := cX4_undo) (maxL := 1) (ret := (some .int)) (by decide) rfl ?_
  intro p e s m args below meth c s₁ B hml hno hv
  obtain ⟨rfl, C, w⟩ := Cx.of (own := RX4) B rfl hml hv
  have hl := lv_entry ([.ref (ad E 6 0)]) (n := 1) (by first | exact Nat.le_of_ble_eq_true rfl)
  rw [lg_entry_eq]
  generalize (lg_sl ([.ref (ad E 6 0)]) ++ List.replicate (1 - (lg_sl ([.ref (ad E 6 0)])).length) Slot.unset).toArray = ls at hl ⊢
  exact TX4_undo C hst hno  h w hl
theorem ydX4_undo : yX4_undo.cls = RX4 ∧ yX4_undo.cls ≠ "java/lang/invoke/MethodHandle" ∧ yX4_undo.cls ≠ "java/lang/invoke/VarHandle" ∧ (parseMethodDescriptor yX4_undo.desc).map (fun d => d.parameters.length) = some 0 := by decide +kernel
end XA2
end
section
theorem t_1 {w : Cond} (h : w ∈ tables_1_1) : w ∈ lw_tbl := List.mem_append_right _ (List.mem_append_left _ h)
theorem t_2 {w : Cond} (h : w ∈ tables_1_2) : w ∈ lw_tbl := List.mem_append_right _ (List.mem_append_right _ (List.mem_append_left _ h))
theorem t_3 {w : Cond} (h : w ∈ tables_1_3) : w ∈ lw_tbl := List.mem_append_right _ (List.mem_append_right _ (List.mem_append_right _ (h)))
theorem t_s {w : Cond} (h : w ∈ k2_sels lw_privs) : w ∈ lw_tbl := List.mem_append_left _ h
set_option maxRecDepth 20000 in
theorem lin_r1 : ∀ w ∈ wsL_law0_r1, w ∈ lw_tbl := List.forall_mem_cons.mpr ⟨t_1 (List.mem_of_getElem? (i := 14) rfl), List.forall_mem_cons.mpr ⟨t_1 (List.mem_of_getElem? (i := 15) rfl), List.forall_mem_cons.mpr ⟨t_1 (List.mem_of_getElem? (i := 1) rfl), List.forall_mem_cons.mpr ⟨t_2 (List.mem_of_getElem? (i := 153) rfl), List.forall_mem_cons.mpr ⟨t_1 (List.mem_of_getElem? (i := 16) rfl), List.forall_mem_cons.mpr ⟨t_1 (List.mem_of_getElem? (i := 17) rfl), List.forall_mem_cons.mpr ⟨t_1 (List.mem_of_getElem? (i := 18) rfl), List.forall_mem_cons.mpr ⟨t_1 (List.mem_of_getElem? (i := 19) rfl), List.forall_mem_cons.mpr ⟨t_1 (List.mem_of_getElem? (i := 20) rfl), List.forall_mem_cons.mpr ⟨t_1 (List.mem_of_getElem? (i := 21) rfl), List.forall_mem_cons.mpr ⟨t_1 (List.mem_of_getElem? (i := 22) rfl), List.forall_mem_cons.mpr ⟨t_1 (List.mem_of_getElem? (i := 23) rfl), List.forall_mem_cons.mpr ⟨t_1 (List.mem_of_getElem? (i := 2) rfl), List.forall_mem_cons.mpr ⟨t_1 (List.mem_of_getElem? (i := 161) rfl), List.forall_mem_cons.mpr ⟨t_1 (List.mem_of_getElem? (i := 162) rfl), List.forall_mem_cons.mpr ⟨t_1 (List.mem_of_getElem? (i := 116) rfl), List.forall_mem_cons.mpr ⟨t_1 (List.mem_of_getElem? (i := 117) rfl), List.forall_mem_cons.mpr ⟨t_1 (List.mem_of_getElem? (i := 5) rfl), List.forall_mem_cons.mpr ⟨t_1 (List.mem_of_getElem? (i := 163) rfl), List.forall_mem_cons.mpr ⟨t_1 (List.mem_of_getElem? (i := 136) rfl), List.forall_mem_cons.mpr ⟨t_1 (List.mem_of_getElem? (i := 137) rfl), List.forall_mem_cons.mpr ⟨t_1 (List.mem_of_getElem? (i := 6) rfl), List.forall_mem_cons.mpr ⟨t_1 (List.mem_of_getElem? (i := 164) rfl), List.forall_mem_cons.mpr ⟨t_1 (List.mem_of_getElem? (i := 24) rfl), fun _ h => absurd h List.not_mem_nil⟩⟩⟩⟩⟩⟩⟩⟩⟩⟩⟩⟩⟩⟩⟩⟩⟩⟩⟩⟩⟩⟩⟩⟩
set_option maxRecDepth 20000 in
theorem lin_r2 : ∀ w ∈ wsL_law0_r2, w ∈ lw_tbl := List.forall_mem_cons.mpr ⟨t_1 (List.mem_of_getElem? (i := 25) rfl), List.forall_mem_cons.mpr ⟨t_1 (List.mem_of_getElem? (i := 26) rfl), List.forall_mem_cons.mpr ⟨t_1 (List.mem_of_getElem? (i := 27) rfl), List.forall_mem_cons.mpr ⟨t_1 (List.mem_of_getElem? (i := 77) rfl), List.forall_mem_cons.mpr ⟨t_1 (List.mem_of_getElem? (i := 78) rfl), List.forall_mem_cons.mpr ⟨t_1 (List.mem_of_getElem? (i := 75) rfl), List.forall_mem_cons.mpr ⟨t_1 (List.mem_of_getElem? (i := 86) rfl), List.forall_mem_cons.mpr ⟨t_1 (List.mem_of_getElem? (i := 76) rfl), List.forall_mem_cons.mpr ⟨t_1 (List.mem_of_getElem? (i := 88) rfl), List.forall_mem_cons.mpr ⟨t_1 (List.mem_of_getElem? (i := 90) rfl), List.forall_mem_cons.mpr ⟨t_1 (List.mem_of_getElem? (i := 28) rfl), List.forall_mem_cons.mpr ⟨t_1 (List.mem_of_getElem? (i := 92) rfl), List.forall_mem_cons.mpr ⟨t_1 (List.mem_of_getElem? (i := 32) rfl), List.forall_mem_cons.mpr ⟨t_1 (List.mem_of_getElem? (i := 34) rfl), List.forall_mem_cons.mpr ⟨t_1 (List.mem_of_getElem? (i := 33) rfl), List.forall_mem_cons.mpr ⟨t_1 (List.mem_of_getElem? (i := 3) rfl), List.forall_mem_cons.mpr ⟨t_1 (List.mem_of_getElem? (i := 35) rfl), List.forall_mem_cons.mpr ⟨t_1 (List.mem_of_getElem? (i := 4) rfl), List.forall_mem_cons.mpr ⟨t_1 (List.mem_of_getElem? (i := 37) rfl), List.forall_mem_cons.mpr ⟨t_1 (List.mem_of_getElem? (i := 38) rfl), List.forall_mem_cons.mpr ⟨t_1 (List.mem_of_getElem? (i := 39) rfl), List.forall_mem_cons.mpr ⟨t_1 (List.mem_of_getElem? (i := 118) rfl), List.forall_mem_cons.mpr ⟨t_1 (List.mem_of_getElem? (i := 119) rfl), List.forall_mem_cons.mpr ⟨t_1 (List.mem_of_getElem? (i := 120) rfl), fun _ h => absurd h List.not_mem_nil⟩⟩⟩⟩⟩⟩⟩⟩⟩⟩⟩⟩⟩⟩⟩⟩⟩⟩⟩⟩⟩⟩⟩⟩
set_option maxRecDepth 20000 in
theorem lin_r3 : ∀ w ∈ wsL_law0_r3, w ∈ lw_tbl := List.forall_mem_cons.mpr ⟨t_1 (List.mem_of_getElem? (i := 121) rfl), List.forall_mem_cons.mpr ⟨t_1 (List.mem_of_getElem? (i := 122) rfl), List.forall_mem_cons.mpr ⟨t_1 (List.mem_of_getElem? (i := 128) rfl), List.forall_mem_cons.mpr ⟨t_1 (List.mem_of_getElem? (i := 124) rfl), List.forall_mem_cons.mpr ⟨t_1 (List.mem_of_getElem? (i := 139) rfl), List.forall_mem_cons.mpr ⟨t_1 (List.mem_of_getElem? (i := 140) rfl), List.forall_mem_cons.mpr ⟨t_1 (List.mem_of_getElem? (i := 141) rfl), List.forall_mem_cons.mpr ⟨t_1 (List.mem_of_getElem? (i := 143) rfl), List.forall_mem_cons.mpr ⟨t_1 (List.mem_of_getElem? (i := 144) rfl), List.forall_mem_cons.mpr ⟨t_1 (List.mem_of_getElem? (i := 145) rfl), List.forall_mem_cons.mpr ⟨t_3 (List.mem_of_getElem? (i := 84) rfl), List.forall_mem_cons.mpr ⟨t_3 (List.mem_of_getElem? (i := 85) rfl), List.forall_mem_cons.mpr ⟨t_1 (List.mem_of_getElem? (i := 0) rfl), List.forall_mem_cons.mpr ⟨t_3 (List.mem_of_getElem? (i := 86) rfl), List.forall_mem_cons.mpr ⟨t_3 (List.mem_of_getElem? (i := 87) rfl), List.forall_mem_cons.mpr ⟨t_3 (List.mem_of_getElem? (i := 88) rfl), List.forall_mem_cons.mpr ⟨t_3 (List.mem_of_getElem? (i := 89) rfl), List.forall_mem_cons.mpr ⟨t_3 (List.mem_of_getElem? (i := 45) rfl), List.forall_mem_cons.mpr ⟨t_3 (List.mem_of_getElem? (i := 46) rfl), List.forall_mem_cons.mpr ⟨t_3 (List.mem_of_getElem? (i := 47) rfl), List.forall_mem_cons.mpr ⟨t_2 (List.mem_of_getElem? (i := 72) rfl), List.forall_mem_cons.mpr ⟨t_3 (List.mem_of_getElem? (i := 48) rfl), List.forall_mem_cons.mpr ⟨t_3 (List.mem_of_getElem? (i := 49) rfl), List.forall_mem_cons.mpr ⟨t_3 (List.mem_of_getElem? (i := 50) rfl), fun _ h => absurd h List.not_mem_nil⟩⟩⟩⟩⟩⟩⟩⟩⟩⟩⟩⟩⟩⟩⟩⟩⟩⟩⟩⟩⟩⟩⟩⟩
set_option maxRecDepth 20000 in
theorem lin_r4 : ∀ w ∈ wsL_law0_r4, w ∈ lw_tbl := List.forall_mem_cons.mpr ⟨t_3 (List.mem_of_getElem? (i := 51) rfl), List.forall_mem_cons.mpr ⟨t_2 (List.mem_of_getElem? (i := 80) rfl), List.forall_mem_cons.mpr ⟨t_1 (List.mem_of_getElem? (i := 10) rfl), List.forall_mem_cons.mpr ⟨t_2 (List.mem_of_getElem? (i := 77) rfl), List.forall_mem_cons.mpr ⟨t_2 (List.mem_of_getElem? (i := 78) rfl), List.forall_mem_cons.mpr ⟨t_2 (List.mem_of_getElem? (i := 79) rfl), List.forall_mem_cons.mpr ⟨t_2 (List.mem_of_getElem? (i := 41) rfl), List.forall_mem_cons.mpr ⟨t_2 (List.mem_of_getElem? (i := 42) rfl), List.forall_mem_cons.mpr ⟨t_2 (List.mem_of_getElem? (i := 43) rfl), List.forall_mem_cons.mpr ⟨t_2 (List.mem_of_getElem? (i := 44) rfl), List.forall_mem_cons.mpr ⟨t_1 (List.mem_of_getElem? (i := 82) rfl), List.forall_mem_cons.mpr ⟨t_1 (List.mem_of_getElem? (i := 79) rfl), List.forall_mem_cons.mpr ⟨t_1 (List.mem_of_getElem? (i := 80) rfl), List.forall_mem_cons.mpr ⟨t_1 (List.mem_of_getElem? (i := 81) rfl), List.forall_mem_cons.mpr ⟨t_1 (List.mem_of_getElem? (i := 84) rfl), List.forall_mem_cons.mpr ⟨t_1 (List.mem_of_getElem? (i := 219) rfl), List.forall_mem_cons.mpr ⟨t_1 (List.mem_of_getElem? (i := 220) rfl), List.forall_mem_cons.mpr ⟨t_1 (List.mem_of_getElem? (i := 221) rfl), List.forall_mem_cons.mpr ⟨t_1 (List.mem_of_getElem? (i := 222) rfl), List.forall_mem_cons.mpr ⟨t_1 (List.mem_of_getElem? (i := 224) rfl), List.forall_mem_cons.mpr ⟨t_1 (List.mem_of_getElem? (i := 225) rfl), List.forall_mem_cons.mpr ⟨t_2 (List.mem_of_getElem? (i := 45) rfl), List.forall_mem_cons.mpr ⟨t_2 (List.mem_of_getElem? (i := 47) rfl), List.forall_mem_cons.mpr ⟨t_s (List.mem_of_getElem? (i := 6) rfl), fun _ h => absurd h List.not_mem_nil⟩⟩⟩⟩⟩⟩⟩⟩⟩⟩⟩⟩⟩⟩⟩⟩⟩⟩⟩⟩⟩⟩⟩⟩
set_option maxRecDepth 20000 in
theorem lin_r5 : ∀ w ∈ wsL_law0_r5, w ∈ lw_tbl := List.forall_mem_cons.mpr ⟨t_2 (List.mem_of_getElem? (i := 48) rfl), List.forall_mem_cons.mpr ⟨t_1 (List.mem_of_getElem? (i := 44) rfl), List.forall_mem_cons.mpr ⟨t_1 (List.mem_of_getElem? (i := 190) rfl), List.forall_mem_cons.mpr ⟨t_1 (List.mem_of_getElem? (i := 191) rfl), List.forall_mem_cons.mpr ⟨t_1 (List.mem_of_getElem? (i := 192) rfl), List.forall_mem_cons.mpr ⟨t_1 (List.mem_of_getElem? (i := 193) rfl), List.forall_mem_cons.mpr ⟨t_2 (List.mem_of_getElem? (i := 49) rfl), List.forall_mem_cons.mpr ⟨t_2 (List.mem_of_getElem? (i := 51) rfl), List.forall_mem_cons.mpr ⟨t_s (List.mem_of_getElem? (i := 7) rfl), List.forall_mem_cons.mpr ⟨t_2 (List.mem_of_getElem? (i := 52) rfl), List.forall_mem_cons.mpr ⟨t_1 (List.mem_of_getElem? (i := 41) rfl), List.forall_mem_cons.mpr ⟨t_3 (List.mem_of_getElem? (i := 75) rfl), List.forall_mem_cons.mpr ⟨t_3 (List.mem_of_getElem? (i := 76) rfl), List.forall_mem_cons.mpr ⟨t_3 (List.mem_of_getElem? (i := 77) rfl), List.forall_mem_cons.mpr ⟨t_3 (List.mem_of_getElem? (i := 83) rfl), List.forall_mem_cons.mpr ⟨t_3 (List.mem_of_getElem? (i := 78) rfl), List.forall_mem_cons.mpr ⟨t_3 (List.mem_of_getElem? (i := 79) rfl), List.forall_mem_cons.mpr ⟨t_3 (List.mem_of_getElem? (i := 80) rfl), List.forall_mem_cons.mpr ⟨t_3 (List.mem_of_getElem? (i := 81) rfl), List.forall_mem_cons.mpr ⟨t_1 (List.mem_of_getElem? (i := 89) rfl), List.forall_mem_cons.mpr ⟨t_3 (List.mem_of_getElem? (i := 25) rfl), List.forall_mem_cons.mpr ⟨t_3 (List.mem_of_getElem? (i := 26) rfl), List.forall_mem_cons.mpr ⟨t_3 (List.mem_of_getElem? (i := 27) rfl), List.forall_mem_cons.mpr ⟨t_2 (List.mem_of_getElem? (i := 191) rfl), fun _ h => absurd h List.not_mem_nil⟩⟩⟩⟩⟩⟩⟩⟩⟩⟩⟩⟩⟩⟩⟩⟩⟩⟩⟩⟩⟩⟩⟩⟩
set_option maxRecDepth 20000 in
theorem lin_r6 : ∀ w ∈ wsL_law0_r6, w ∈ lw_tbl := List.forall_mem_cons.mpr ⟨t_2 (List.mem_of_getElem? (i := 187) rfl), List.forall_mem_cons.mpr ⟨t_3 (List.mem_of_getElem? (i := 28) rfl), List.forall_mem_cons.mpr ⟨t_3 (List.mem_of_getElem? (i := 29) rfl), List.forall_mem_cons.mpr ⟨t_3 (List.mem_of_getElem? (i := 30) rfl), List.forall_mem_cons.mpr ⟨t_3 (List.mem_of_getElem? (i := 31) rfl), List.forall_mem_cons.mpr ⟨t_2 (List.mem_of_getElem? (i := 196) rfl), List.forall_mem_cons.mpr ⟨t_1 (List.mem_of_getElem? (i := 11) rfl), List.forall_mem_cons.mpr ⟨t_2 (List.mem_of_getElem? (i := 53) rfl), List.forall_mem_cons.mpr ⟨t_2 (List.mem_of_getElem? (i := 58) rfl), List.forall_mem_cons.mpr ⟨t_2 (List.mem_of_getElem? (i := 59) rfl), List.forall_mem_cons.mpr ⟨t_2 (List.mem_of_getElem? (i := 60) rfl), List.forall_mem_cons.mpr ⟨t_2 (List.mem_of_getElem? (i := 61) rfl), List.forall_mem_cons.mpr ⟨t_1 (List.mem_of_getElem? (i := 47) rfl), List.forall_mem_cons.mpr ⟨t_1 (List.mem_of_getElem? (i := 49) rfl), List.forall_mem_cons.mpr ⟨t_1 (List.mem_of_getElem? (i := 51) rfl), List.forall_mem_cons.mpr ⟨t_1 (List.mem_of_getElem? (i := 53) rfl), List.forall_mem_cons.mpr ⟨t_1 (List.mem_of_getElem? (i := 55) rfl), List.forall_mem_cons.mpr ⟨t_1 (List.mem_of_getElem? (i := 57) rfl), List.forall_mem_cons.mpr ⟨t_1 (List.mem_of_getElem? (i := 234) rfl), List.forall_mem_cons.mpr ⟨t_1 (List.mem_of_getElem? (i := 235) rfl), List.forall_mem_cons.mpr ⟨t_1 (List.mem_of_getElem? (i := 236) rfl), List.forall_mem_cons.mpr ⟨t_1 (List.mem_of_getElem? (i := 237) rfl), List.forall_mem_cons.mpr ⟨t_1 (List.mem_of_getElem? (i := 238) rfl), List.forall_mem_cons.mpr ⟨t_1 (List.mem_of_getElem? (i := 239) rfl), fun _ h => absurd h List.not_mem_nil⟩⟩⟩⟩⟩⟩⟩⟩⟩⟩⟩⟩⟩⟩⟩⟩⟩⟩⟩⟩⟩⟩⟩⟩
set_option maxRecDepth 20000 in
theorem lin_r7 : ∀ w ∈ wsL_law0_r7, w ∈ lw_tbl := List.forall_mem_cons.mpr ⟨t_2 (List.mem_of_getElem? (i := 0) rfl), List.forall_mem_cons.mpr ⟨t_2 (List.mem_of_getElem? (i := 1) rfl), List.forall_mem_cons.mpr ⟨t_3 (List.mem_of_getElem? (i := 33) rfl), List.forall_mem_cons.mpr ⟨t_3 (List.mem_of_getElem? (i := 34) rfl), List.forall_mem_cons.mpr ⟨t_3 (List.mem_of_getElem? (i := 35) rfl), List.forall_mem_cons.mpr ⟨t_3 (List.mem_of_getElem? (i := 36) rfl), List.forall_mem_cons.mpr ⟨t_3 (List.mem_of_getElem? (i := 37) rfl), List.forall_mem_cons.mpr ⟨t_3 (List.mem_of_getElem? (i := 38) rfl), List.forall_mem_cons.mpr ⟨t_3 (List.mem_of_getElem? (i := 39) rfl), List.forall_mem_cons.mpr ⟨t_1 (List.mem_of_getElem? (i := 83) rfl), List.forall_mem_cons.mpr ⟨t_3 (List.mem_of_getElem? (i := 41) rfl), List.forall_mem_cons.mpr ⟨t_3 (List.mem_of_getElem? (i := 42) rfl), List.forall_mem_cons.mpr ⟨t_3 (List.mem_of_getElem? (i := 43) rfl), List.forall_mem_cons.mpr ⟨t_3 (List.mem_of_getElem? (i := 44) rfl), List.forall_mem_cons.mpr ⟨t_3 (List.mem_of_getElem? (i := 53) rfl), List.forall_mem_cons.mpr ⟨t_3 (List.mem_of_getElem? (i := 54) rfl), List.forall_mem_cons.mpr ⟨t_3 (List.mem_of_getElem? (i := 55) rfl), List.forall_mem_cons.mpr ⟨t_3 (List.mem_of_getElem? (i := 56) rfl), List.forall_mem_cons.mpr ⟨t_3 (List.mem_of_getElem? (i := 57) rfl), List.forall_mem_cons.mpr ⟨t_3 (List.mem_of_getElem? (i := 58) rfl), List.forall_mem_cons.mpr ⟨t_3 (List.mem_of_getElem? (i := 59) rfl), List.forall_mem_cons.mpr ⟨t_1 (List.mem_of_getElem? (i := 87) rfl), List.forall_mem_cons.mpr ⟨t_3 (List.mem_of_getElem? (i := 90) rfl), List.forall_mem_cons.mpr ⟨t_3 (List.mem_of_getElem? (i := 91) rfl), fun _ h => absurd h List.not_mem_nil⟩⟩⟩⟩⟩⟩⟩⟩⟩⟩⟩⟩⟩⟩⟩⟩⟩⟩⟩⟩⟩⟩⟩⟩
set_option maxRecDepth 20000 in
theorem lin_r8 : ∀ w ∈ wsL_law0_r8, w ∈ lw_tbl := List.forall_mem_cons.mpr ⟨t_3 (List.mem_of_getElem? (i := 92) rfl), List.forall_mem_cons.mpr ⟨t_3 (List.mem_of_getElem? (i := 93) rfl), List.forall_mem_cons.mpr ⟨t_3 (List.mem_of_getElem? (i := 94) rfl), List.forall_mem_cons.mpr ⟨t_3 (List.mem_of_getElem? (i := 95) rfl), List.forall_mem_cons.mpr ⟨t_3 (List.mem_of_getElem? (i := 96) rfl), List.forall_mem_cons.mpr ⟨t_2 (List.mem_of_getElem? (i := 62) rfl), List.forall_mem_cons.mpr ⟨t_2 (List.mem_of_getElem? (i := 63) rfl), List.forall_mem_cons.mpr ⟨t_1 (List.mem_of_getElem? (i := 231) rfl), List.forall_mem_cons.mpr ⟨t_1 (List.mem_of_getElem? (i := 232) rfl), List.forall_mem_cons.mpr ⟨t_1 (List.mem_of_getElem? (i := 233) rfl), List.forall_mem_cons.mpr ⟨t_2 (List.mem_of_getElem? (i := 64) rfl), List.forall_mem_cons.mpr ⟨t_2 (List.mem_of_getElem? (i := 65) rfl), List.forall_mem_cons.mpr ⟨t_2 (List.mem_of_getElem? (i := 66) rfl), List.forall_mem_cons.mpr ⟨t_2 (List.mem_of_getElem? (i := 67) rfl), List.forall_mem_cons.mpr ⟨t_2 (List.mem_of_getElem? (i := 68) rfl), List.forall_mem_cons.mpr ⟨t_2 (List.mem_of_getElem? (i := 154) rfl), List.forall_mem_cons.mpr ⟨t_2 (List.mem_of_getElem? (i := 155) rfl), List.forall_mem_cons.mpr ⟨t_2 (List.mem_of_getElem? (i := 156) rfl), List.forall_mem_cons.mpr ⟨t_2 (List.mem_of_getElem? (i := 157) rfl), List.forall_mem_cons.mpr ⟨t_2 (List.mem_of_getElem? (i := 158) rfl), List.forall_mem_cons.mpr ⟨t_2 (List.mem_of_getElem? (i := 159) rfl), List.forall_mem_cons.mpr ⟨t_2 (List.mem_of_getElem? (i := 160) rfl), List.forall_mem_cons.mpr ⟨t_2 (List.mem_of_getElem? (i := 161) rfl), List.forall_mem_cons.mpr ⟨t_2 (List.mem_of_getElem? (i := 163) rfl), fun _ h => absurd h List.not_mem_nil⟩⟩⟩⟩⟩⟩⟩⟩⟩⟩⟩⟩⟩⟩⟩⟩⟩⟩⟩⟩⟩⟩⟩⟩
set_option maxRecDepth 20000 in
theorem lin_r9 : ∀ w ∈ wsL_law0_r9, w ∈ lw_tbl := List.forall_mem_cons.mpr ⟨t_1 (List.mem_of_getElem? (i := 12) rfl), List.forall_mem_cons.mpr ⟨t_1 (List.mem_of_getElem? (i := 178) rfl), List.forall_mem_cons.mpr ⟨t_1 (List.mem_of_getElem? (i := 179) rfl), List.forall_mem_cons.mpr ⟨t_1 (List.mem_of_getElem? (i := 180) rfl), List.forall_mem_cons.mpr ⟨t_1 (List.mem_of_getElem? (i := 181) rfl), List.forall_mem_cons.mpr ⟨t_1 (List.mem_of_getElem? (i := 127) rfl), List.forall_mem_cons.mpr ⟨t_1 (List.mem_of_getElem? (i := 125) rfl), List.forall_mem_cons.mpr ⟨t_1 (List.mem_of_getElem? (i := 198) rfl), List.forall_mem_cons.mpr ⟨t_1 (List.mem_of_getElem? (i := 199) rfl), List.forall_mem_cons.mpr ⟨t_1 (List.mem_of_getElem? (i := 13) rfl), List.forall_mem_cons.mpr ⟨t_1 (List.mem_of_getElem? (i := 200) rfl), List.forall_mem_cons.mpr ⟨t_1 (List.mem_of_getElem? (i := 182) rfl), List.forall_mem_cons.mpr ⟨t_1 (List.mem_of_getElem? (i := 184) rfl), List.forall_mem_cons.mpr ⟨t_s (List.mem_of_getElem? (i := 0) rfl), List.forall_mem_cons.mpr ⟨t_1 (List.mem_of_getElem? (i := 185) rfl), List.forall_mem_cons.mpr ⟨t_1 (List.mem_of_getElem? (i := 186) rfl), List.forall_mem_cons.mpr ⟨t_1 (List.mem_of_getElem? (i := 187) rfl), List.forall_mem_cons.mpr ⟨t_1 (List.mem_of_getElem? (i := 188) rfl), List.forall_mem_cons.mpr ⟨t_1 (List.mem_of_getElem? (i := 189) rfl), List.forall_mem_cons.mpr ⟨t_1 (List.mem_of_getElem? (i := 194) rfl), List.forall_mem_cons.mpr ⟨t_1 (List.mem_of_getElem? (i := 195) rfl), List.forall_mem_cons.mpr ⟨t_1 (List.mem_of_getElem? (i := 196) rfl), List.forall_mem_cons.mpr ⟨t_1 (List.mem_of_getElem? (i := 197) rfl), List.forall_mem_cons.mpr ⟨t_1 (List.mem_of_getElem? (i := 40) rfl), fun _ h => absurd h List.not_mem_nil⟩⟩⟩⟩⟩⟩⟩⟩⟩⟩⟩⟩⟩⟩⟩⟩⟩⟩⟩⟩⟩⟩⟩⟩
set_option maxRecDepth 20000 in
theorem lin_r10 : ∀ w ∈ wsL_law0_r10, w ∈ lw_tbl := List.forall_mem_cons.mpr ⟨t_1 (List.mem_of_getElem? (i := 42) rfl), List.forall_mem_cons.mpr ⟨t_1 (List.mem_of_getElem? (i := 45) rfl), List.forall_mem_cons.mpr ⟨t_1 (List.mem_of_getElem? (i := 48) rfl), List.forall_mem_cons.mpr ⟨t_1 (List.mem_of_getElem? (i := 50) rfl), List.forall_mem_cons.mpr ⟨t_1 (List.mem_of_getElem? (i := 52) rfl), List.forall_mem_cons.mpr ⟨t_1 (List.mem_of_getElem? (i := 54) rfl), List.forall_mem_cons.mpr ⟨t_1 (List.mem_of_getElem? (i := 56) rfl), List.forall_mem_cons.mpr ⟨t_2 (List.mem_of_getElem? (i := 179) rfl), List.forall_mem_cons.mpr ⟨t_2 (List.mem_of_getElem? (i := 180) rfl), List.forall_mem_cons.mpr ⟨t_2 (List.mem_of_getElem? (i := 181) rfl), List.forall_mem_cons.mpr ⟨t_2 (List.mem_of_getElem? (i := 182) rfl), List.forall_mem_cons.mpr ⟨t_2 (List.mem_of_getElem? (i := 183) rfl), List.forall_mem_cons.mpr ⟨t_2 (List.mem_of_getElem? (i := 184) rfl), List.forall_mem_cons.mpr ⟨t_2 (List.mem_of_getElem? (i := 185) rfl), List.forall_mem_cons.mpr ⟨t_2 (List.mem_of_getElem? (i := 186) rfl), List.forall_mem_cons.mpr ⟨t_2 (List.mem_of_getElem? (i := 69) rfl), List.forall_mem_cons.mpr ⟨t_2 (List.mem_of_getElem? (i := 70) rfl), List.forall_mem_cons.mpr ⟨t_2 (List.mem_of_getElem? (i := 71) rfl), List.forall_mem_cons.mpr ⟨t_2 (List.mem_of_getElem? (i := 73) rfl), List.forall_mem_cons.mpr ⟨t_2 (List.mem_of_getElem? (i := 74) rfl), List.forall_mem_cons.mpr ⟨t_2 (List.mem_of_getElem? (i := 75) rfl), List.forall_mem_cons.mpr ⟨t_2 (List.mem_of_getElem? (i := 76) rfl), List.forall_mem_cons.mpr ⟨t_2 (List.mem_of_getElem? (i := 148) rfl), List.forall_mem_cons.mpr ⟨t_2 (List.mem_of_getElem? (i := 150) rfl), fun _ h => absurd h List.not_mem_nil⟩⟩⟩⟩⟩⟩⟩⟩⟩⟩⟩⟩⟩⟩⟩⟩⟩⟩⟩⟩⟩⟩⟩⟩
set_option maxRecDepth 20000 in
theorem lin_r11 : ∀ w ∈ wsL_law0_r11, w ∈ lw_tbl := List.forall_mem_cons.mpr ⟨t_2 (List.mem_of_getElem? (i := 217) rfl), List.forall_mem_cons.mpr ⟨t_2 (List.mem_of_getElem? (i := 218) rfl), List.forall_mem_cons.mpr ⟨t_2 (List.mem_of_getElem? (i := 219) rfl), List.forall_mem_cons.mpr ⟨t_2 (List.mem_of_getElem? (i := 220) rfl), List.forall_mem_cons.mpr ⟨t_2 (List.mem_of_getElem? (i := 221) rfl), List.forall_mem_cons.mpr ⟨t_2 (List.mem_of_getElem? (i := 222) rfl), List.forall_mem_cons.mpr ⟨t_2 (List.mem_of_getElem? (i := 223) rfl), List.forall_mem_cons.mpr ⟨t_1 (List.mem_of_getElem? (i := 43) rfl), List.forall_mem_cons.mpr ⟨t_1 (List.mem_of_getElem? (i := 46) rfl), List.forall_mem_cons.mpr ⟨t_2 (List.mem_of_getElem? (i := 225) rfl), List.forall_mem_cons.mpr ⟨t_2 (List.mem_of_getElem? (i := 15) rfl), List.forall_mem_cons.mpr ⟨t_2 (List.mem_of_getElem? (i := 16) rfl), List.forall_mem_cons.mpr ⟨t_2 (List.mem_of_getElem? (i := 17) rfl), List.forall_mem_cons.mpr ⟨t_2 (List.mem_of_getElem? (i := 188) rfl), List.forall_mem_cons.mpr ⟨t_2 (List.mem_of_getElem? (i := 189) rfl), List.forall_mem_cons.mpr ⟨t_2 (List.mem_of_getElem? (i := 190) rfl), List.forall_mem_cons.mpr ⟨t_2 (List.mem_of_getElem? (i := 192) rfl), List.forall_mem_cons.mpr ⟨t_2 (List.mem_of_getElem? (i := 193) rfl), List.forall_mem_cons.mpr ⟨t_2 (List.mem_of_getElem? (i := 194) rfl), List.forall_mem_cons.mpr ⟨t_2 (List.mem_of_getElem? (i := 195) rfl), List.forall_mem_cons.mpr ⟨t_2 (List.mem_of_getElem? (i := 213) rfl), List.forall_mem_cons.mpr ⟨t_2 (List.mem_of_getElem? (i := 214) rfl), List.forall_mem_cons.mpr ⟨t_2 (List.mem_of_getElem? (i := 215) rfl), List.forall_mem_cons.mpr ⟨t_2 (List.mem_of_getElem? (i := 216) rfl), fun _ h => absurd h List.not_mem_nil⟩⟩⟩⟩⟩⟩⟩⟩⟩⟩⟩⟩⟩⟩⟩⟩⟩⟩⟩⟩⟩⟩⟩⟩
set_option maxRecDepth 20000 in
theorem lin_r12 : ∀ w ∈ wsL_law0_r12, w ∈ lw_tbl := List.forall_mem_cons.mpr ⟨t_3 (List.mem_of_getElem? (i := 5) rfl), List.forall_mem_cons.mpr ⟨t_3 (List.mem_of_getElem? (i := 6) rfl), List.forall_mem_cons.mpr ⟨t_3 (List.mem_of_getElem? (i := 7) rfl), List.forall_mem_cons.mpr ⟨t_3 (List.mem_of_getElem? (i := 8) rfl), List.forall_mem_cons.mpr ⟨t_3 (List.mem_of_getElem? (i := 9) rfl), List.forall_mem_cons.mpr ⟨t_3 (List.mem_of_getElem? (i := 10) rfl), List.forall_mem_cons.mpr ⟨t_3 (List.mem_of_getElem? (i := 11) rfl), List.forall_mem_cons.mpr ⟨t_2 (List.mem_of_getElem? (i := 234) rfl), List.forall_mem_cons.mpr ⟨t_2 (List.mem_of_getElem? (i := 235) rfl), List.forall_mem_cons.mpr ⟨t_2 (List.mem_of_getElem? (i := 236) rfl), List.forall_mem_cons.mpr ⟨t_2 (List.mem_of_getElem? (i := 237) rfl), List.forall_mem_cons.mpr ⟨t_2 (List.mem_of_getElem? (i := 238) rfl), List.forall_mem_cons.mpr ⟨t_3 (List.mem_of_getElem? (i := 12) rfl), List.forall_mem_cons.mpr ⟨t_3 (List.mem_of_getElem? (i := 13) rfl), List.forall_mem_cons.mpr ⟨t_3 (List.mem_of_getElem? (i := 14) rfl), List.forall_mem_cons.mpr ⟨t_3 (List.mem_of_getElem? (i := 15) rfl), List.forall_mem_cons.mpr ⟨t_3 (List.mem_of_getElem? (i := 16) rfl), List.forall_mem_cons.mpr ⟨t_3 (List.mem_of_getElem? (i := 18) rfl), List.forall_mem_cons.mpr ⟨t_s (List.mem_of_getElem? (i := 10) rfl), List.forall_mem_cons.mpr ⟨t_3 (List.mem_of_getElem? (i := 19) rfl), List.forall_mem_cons.mpr ⟨t_3 (List.mem_of_getElem? (i := 20) rfl), List.forall_mem_cons.mpr ⟨t_2 (List.mem_of_getElem? (i := 11) rfl), List.forall_mem_cons.mpr ⟨t_2 (List.mem_of_getElem? (i := 12) rfl), List.forall_mem_cons.mpr ⟨t_2 (List.mem_of_getElem? (i := 13) rfl), fun _ h => absurd h List.not_mem_nil⟩⟩⟩⟩⟩⟩⟩⟩⟩⟩⟩⟩⟩⟩⟩⟩⟩⟩⟩⟩⟩⟩⟩⟩
set_option maxRecDepth 20000 in
theorem lin_r13 : ∀ w ∈ wsL_law0_r13, w ∈ lw_tbl := List.forall_mem_cons.mpr ⟨t_1 (List.mem_of_getElem? (i := 218) rfl), List.forall_mem_cons.mpr ⟨t_1 (List.mem_of_getElem? (i := 202) rfl), List.forall_mem_cons.mpr ⟨t_1 (List.mem_of_getElem? (i := 203) rfl), List.forall_mem_cons.mpr ⟨t_1 (List.mem_of_getElem? (i := 204) rfl), List.forall_mem_cons.mpr ⟨t_1 (List.mem_of_getElem? (i := 205) rfl), List.forall_mem_cons.mpr ⟨t_1 (List.mem_of_getElem? (i := 207) rfl), List.forall_mem_cons.mpr ⟨t_s (List.mem_of_getElem? (i := 1) rfl), List.forall_mem_cons.mpr ⟨t_1 (List.mem_of_getElem? (i := 208) rfl), List.forall_mem_cons.mpr ⟨t_2 (List.mem_of_getElem? (i := 18) rfl), List.forall_mem_cons.mpr ⟨t_2 (List.mem_of_getElem? (i := 20) rfl), List.forall_mem_cons.mpr ⟨t_s (List.mem_of_getElem? (i := 3) rfl), List.forall_mem_cons.mpr ⟨t_2 (List.mem_of_getElem? (i := 21) rfl), List.forall_mem_cons.mpr ⟨t_2 (List.mem_of_getElem? (i := 30) rfl), List.forall_mem_cons.mpr ⟨t_2 (List.mem_of_getElem? (i := 22) rfl), List.forall_mem_cons.mpr ⟨t_2 (List.mem_of_getElem? (i := 24) rfl), List.forall_mem_cons.mpr ⟨t_s (List.mem_of_getElem? (i := 4) rfl), List.forall_mem_cons.mpr ⟨t_2 (List.mem_of_getElem? (i := 25) rfl), List.forall_mem_cons.mpr ⟨t_2 (List.mem_of_getElem? (i := 26) rfl), List.forall_mem_cons.mpr ⟨t_2 (List.mem_of_getElem? (i := 27) rfl), List.forall_mem_cons.mpr ⟨t_2 (List.mem_of_getElem? (i := 28) rfl), List.forall_mem_cons.mpr ⟨t_2 (List.mem_of_getElem? (i := 29) rfl), List.forall_mem_cons.mpr ⟨t_2 (List.mem_of_getElem? (i := 31) rfl), List.forall_mem_cons.mpr ⟨t_2 (List.mem_of_getElem? (i := 33) rfl), List.forall_mem_cons.mpr ⟨t_s (List.mem_of_getElem? (i := 5) rfl), fun _ h => absurd h List.not_mem_nil⟩⟩⟩⟩⟩⟩⟩⟩⟩⟩⟩⟩⟩⟩⟩⟩⟩⟩⟩⟩⟩⟩⟩⟩
set_option maxRecDepth 20000 in
theorem lin_r14 : ∀ w ∈ wsL_law0_r14, w ∈ lw_tbl := List.forall_mem_cons.mpr ⟨t_2 (List.mem_of_getElem? (i := 34) rfl), List.forall_mem_cons.mpr ⟨t_3 (List.mem_of_getElem? (i := 21) rfl), List.forall_mem_cons.mpr ⟨t_3 (List.mem_of_getElem? (i := 23) rfl), List.forall_mem_cons.mpr ⟨t_s (List.mem_of_getElem? (i := 11) rfl), List.forall_mem_cons.mpr ⟨t_3 (List.mem_of_getElem? (i := 24) rfl), List.forall_mem_cons.mpr ⟨t_1 (List.mem_of_getElem? (i := 174) rfl), List.forall_mem_cons.mpr ⟨t_1 (List.mem_of_getElem? (i := 175) rfl), List.forall_mem_cons.mpr ⟨t_1 (List.mem_of_getElem? (i := 176) rfl), List.forall_mem_cons.mpr ⟨t_1 (List.mem_of_getElem? (i := 177) rfl), List.forall_mem_cons.mpr ⟨t_1 (List.mem_of_getElem? (i := 201) rfl), List.forall_mem_cons.mpr ⟨t_2 (List.mem_of_getElem? (i := 226) rfl), List.forall_mem_cons.mpr ⟨t_2 (List.mem_of_getElem? (i := 227) rfl), List.forall_mem_cons.mpr ⟨t_2 (List.mem_of_getElem? (i := 228) rfl), List.forall_mem_cons.mpr ⟨t_2 (List.mem_of_getElem? (i := 229) rfl), List.forall_mem_cons.mpr ⟨t_2 (List.mem_of_getElem? (i := 230) rfl), List.forall_mem_cons.mpr ⟨t_2 (List.mem_of_getElem? (i := 231) rfl), List.forall_mem_cons.mpr ⟨t_2 (List.mem_of_getElem? (i := 232) rfl), List.forall_mem_cons.mpr ⟨t_3 (List.mem_of_getElem? (i := 0) rfl), List.forall_mem_cons.mpr ⟨t_3 (List.mem_of_getElem? (i := 1) rfl), List.forall_mem_cons.mpr ⟨t_3 (List.mem_of_getElem? (i := 2) rfl), List.forall_mem_cons.mpr ⟨t_3 (List.mem_of_getElem? (i := 3) rfl), List.forall_mem_cons.mpr ⟨t_3 (List.mem_of_getElem? (i := 4) rfl), List.forall_mem_cons.mpr ⟨t_1 (List.mem_of_getElem? (i := 215) rfl), List.forall_mem_cons.mpr ⟨t_1 (List.mem_of_getElem? (i := 216) rfl), fun _ h => absurd h List.not_mem_nil⟩⟩⟩⟩⟩⟩⟩⟩⟩⟩⟩⟩⟩⟩⟩⟩⟩⟩⟩⟩⟩⟩⟩⟩
set_option maxRecDepth 20000 in
theorem lin_r15 : ∀ w ∈ wsL_law0_r15, w ∈ lw_tbl := List.forall_mem_cons.mpr ⟨t_1 (List.mem_of_getElem? (i := 217) rfl), List.forall_mem_cons.mpr ⟨t_1 (List.mem_of_getElem? (i := 226) rfl), List.forall_mem_cons.mpr ⟨t_1 (List.mem_of_getElem? (i := 228) rfl), List.forall_mem_cons.mpr ⟨t_s (List.mem_of_getElem? (i := 2) rfl), List.forall_mem_cons.mpr ⟨t_1 (List.mem_of_getElem? (i := 229) rfl), List.forall_mem_cons.mpr ⟨t_1 (List.mem_of_getElem? (i := 230) rfl), List.forall_mem_cons.mpr ⟨t_2 (List.mem_of_getElem? (i := 2) rfl), List.forall_mem_cons.mpr ⟨t_2 (List.mem_of_getElem? (i := 3) rfl), List.forall_mem_cons.mpr ⟨t_2 (List.mem_of_getElem? (i := 4) rfl), List.forall_mem_cons.mpr ⟨t_2 (List.mem_of_getElem? (i := 5) rfl), List.forall_mem_cons.mpr ⟨t_2 (List.mem_of_getElem? (i := 6) rfl), List.forall_mem_cons.mpr ⟨t_2 (List.mem_of_getElem? (i := 7) rfl), List.forall_mem_cons.mpr ⟨t_2 (List.mem_of_getElem? (i := 8) rfl), List.forall_mem_cons.mpr ⟨t_2 (List.mem_of_getElem? (i := 9) rfl), List.forall_mem_cons.mpr ⟨t_2 (List.mem_of_getElem? (i := 10) rfl), List.forall_mem_cons.mpr ⟨t_2 (List.mem_of_getElem? (i := 14) rfl), List.forall_mem_cons.mpr ⟨t_2 (List.mem_of_getElem? (i := 35) rfl), List.forall_mem_cons.mpr ⟨t_2 (List.mem_of_getElem? (i := 36) rfl), List.forall_mem_cons.mpr ⟨t_2 (List.mem_of_getElem? (i := 37) rfl), List.forall_mem_cons.mpr ⟨t_2 (List.mem_of_getElem? (i := 38) rfl), List.forall_mem_cons.mpr ⟨t_2 (List.mem_of_getElem? (i := 39) rfl), List.forall_mem_cons.mpr ⟨t_1 (List.mem_of_getElem? (i := 142) rfl), List.forall_mem_cons.mpr ⟨t_2 (List.mem_of_getElem? (i := 40) rfl), List.forall_mem_cons.mpr ⟨t_1 (List.mem_of_getElem? (i := 85) rfl), fun _ h => absurd h List.not_mem_nil⟩⟩⟩⟩⟩⟩⟩⟩⟩⟩⟩⟩⟩⟩⟩⟩⟩⟩⟩⟩⟩⟩⟩⟩
set_option maxRecDepth 20000 in
theorem lin_r16 : ∀ w ∈ wsL_law0_r16, w ∈ lw_tbl := List.forall_mem_cons.mpr ⟨t_1 (List.mem_of_getElem? (i := 91) rfl), List.forall_mem_cons.mpr ⟨t_1 (List.mem_of_getElem? (i := 126) rfl), List.forall_mem_cons.mpr ⟨t_2 (List.mem_of_getElem? (i := 54) rfl), List.forall_mem_cons.mpr ⟨t_2 (List.mem_of_getElem? (i := 56) rfl), List.forall_mem_cons.mpr ⟨t_s (List.mem_of_getElem? (i := 8) rfl), List.forall_mem_cons.mpr ⟨t_2 (List.mem_of_getElem? (i := 57) rfl), List.forall_mem_cons.mpr ⟨t_1 (List.mem_of_getElem? (i := 209) rfl), List.forall_mem_cons.mpr ⟨t_1 (List.mem_of_getElem? (i := 210) rfl), List.forall_mem_cons.mpr ⟨t_1 (List.mem_of_getElem? (i := 211) rfl), List.forall_mem_cons.mpr ⟨t_1 (List.mem_of_getElem? (i := 212) rfl), List.forall_mem_cons.mpr ⟨t_1 (List.mem_of_getElem? (i := 213) rfl), List.forall_mem_cons.mpr ⟨t_1 (List.mem_of_getElem? (i := 214) rfl), List.forall_mem_cons.mpr ⟨t_3 (List.mem_of_getElem? (i := 60) rfl), List.forall_mem_cons.mpr ⟨t_3 (List.mem_of_getElem? (i := 61) rfl), List.forall_mem_cons.mpr ⟨t_3 (List.mem_of_getElem? (i := 62) rfl), List.forall_mem_cons.mpr ⟨t_3 (List.mem_of_getElem? (i := 63) rfl), List.forall_mem_cons.mpr ⟨t_3 (List.mem_of_getElem? (i := 64) rfl), List.forall_mem_cons.mpr ⟨t_3 (List.mem_of_getElem? (i := 65) rfl), List.forall_mem_cons.mpr ⟨t_3 (List.mem_of_getElem? (i := 66) rfl), List.forall_mem_cons.mpr ⟨t_3 (List.mem_of_getElem? (i := 68) rfl), List.forall_mem_cons.mpr ⟨t_3 (List.mem_of_getElem? (i := 69) rfl), List.forall_mem_cons.mpr ⟨t_3 (List.mem_of_getElem? (i := 70) rfl), List.forall_mem_cons.mpr ⟨t_3 (List.mem_of_getElem? (i := 71) rfl), List.forall_mem_cons.mpr ⟨t_3 (List.mem_of_getElem? (i := 72) rfl), fun _ h => absurd h List.not_mem_nil⟩⟩⟩⟩⟩⟩⟩⟩⟩⟩⟩⟩⟩⟩⟩⟩⟩⟩⟩⟩⟩⟩⟩⟩
set_option maxRecDepth 20000 in
theorem lin_r17 : ∀ w ∈ wsL_law0_r17, w ∈ lw_tbl := List.forall_mem_cons.mpr ⟨t_3 (List.mem_of_getElem? (i := 73) rfl), List.forall_mem_cons.mpr ⟨t_3 (List.mem_of_getElem? (i := 74) rfl), fun _ h => absurd h List.not_mem_nil⟩⟩
theorem lin_X0 : ∀ w ∈ wsX00, w ∈ lw_tbl := by decide +kernel
theorem lin_X1 : ∀ w ∈ wsX10, w ∈ lw_tbl := by decide +kernel
theorem lin_X2 : ∀ w ∈ wsX20, w ∈ lw_tbl := by decide +kernel
theorem lin_X3 : ∀ w ∈ wsX30, w ∈ lw_tbl := by decide +kernel
theorem lin_X4 : ∀ w ∈ wsX40, w ∈ lw_tbl := by decide +kernel
theorem wsL_law_in0 : ∀ w ∈ wsL_law0, w ∈ lw_tbl := List.forall_mem_append.mpr ⟨List.forall_mem_append.mpr ⟨List.forall_mem_append.mpr ⟨List.forall_mem_append.mpr ⟨List.forall_mem_append.mpr ⟨List.forall_mem_append.mpr ⟨List.forall_mem_append.mpr ⟨lin_r1, List.forall_mem_append.mpr ⟨lin_r2, List.forall_mem_append.mpr ⟨lin_r3, List.forall_mem_append.mpr ⟨lin_r4, List.forall_mem_append.mpr ⟨lin_r5, List.forall_mem_append.mpr ⟨lin_r6, List.forall_mem_append.mpr ⟨lin_r7, List.forall_mem_append.mpr ⟨lin_r8, List.forall_mem_append.mpr ⟨lin_r9, List.forall_mem_append.mpr ⟨lin_r10, List.forall_mem_append.mpr ⟨lin_r11, List.forall_mem_append.mpr ⟨lin_r12, List.forall_mem_append.mpr ⟨lin_r13, List.forall_mem_append.mpr ⟨lin_r14, List.forall_mem_append.mpr ⟨lin_r15, List.forall_mem_append.mpr ⟨lin_r16, lin_r17⟩⟩⟩⟩⟩⟩⟩⟩⟩⟩⟩⟩⟩⟩⟩⟩, lin_X4⟩, lin_X3⟩, lin_X1⟩, lin_X2⟩, lin_X0⟩, fun _ h => absurd h List.not_mem_nil⟩
theorem wsL_law_x0 : ∀ w ∈ (vx_atS RX4 41 "java/lang/IllegalArgumentException" ["java/lang/RuntimeException", "java/lang/Exception"]).filter goodWord, w ∈ lw_tbl := by decide +kernel
theorem wsL_law_x1 : ∀ w ∈ (vx_atS RX4 101 "java/lang/IndexOutOfBoundsException" ["java/lang/RuntimeException", "java/lang/Exception"]).filter goodWord, w ∈ lw_tbl := by decide +kernel
theorem wsL_law_x2 : ∀ w ∈ (vx_atS RX4 60 "java/lang/IllegalStateException" ["java/lang/RuntimeException", "java/lang/Exception"]).filter goodWord, w ∈ lw_tbl := by decide +kernel
theorem wsL_law_in : ∀ w ∈ wsL_law, w ∈ lw_tbl := fun w h => (List.mem_append.mp h).elim (fun h => (List.mem_append.mp h).elim (fun h => (List.mem_append.mp h).elim (fun h => wsL_law_in0 w h) (fun h => wsL_law_x0 w h)) (fun h => wsL_law_x1 w h)) (fun h => wsL_law_x2 w h)
theorem inX0 : ∀ w ∈ wsX00, w ∈ lw_tbl := fun w h => wsL_law_in w (inlX0 w h)
theorem inX1 : ∀ w ∈ wsX10, w ∈ lw_tbl := fun w h => wsL_law_in w (inlX1 w h)
theorem inX2 : ∀ w ∈ wsX20, w ∈ lw_tbl := fun w h => wsL_law_in w (inlX2 w h)
theorem inX3 : ∀ w ∈ wsX30, w ∈ lw_tbl := fun w h => wsL_law_in w (inlX3 w h)
theorem inX4 : ∀ w ∈ wsX40, w ∈ lw_tbl := fun w h => wsL_law_in w (inlX4 w h)
end
