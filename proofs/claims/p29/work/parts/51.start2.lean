def Cl (E : WE) (A : Nat → Prop) (p : Program) (s : State) (m : MethodId) (args : Array Value) (c : Code) (w0 : Cond) (cc : ByteArray) (nL : Nat) (own : String) : Prop :=
  p.tables.exec = Jvm.exec ∧ c.code = cc ∧ c.maxLocals = nL ∧ s.vm.findClass own = some m.cls ∧ (∀ w ∈ wsM w0, w.before args s = true) ∧ KC E A s s.heap ∧ (∀ q, s.heap.size ≤ q → A q)
section XC2
variable {E : WE} {A : Nat → Prop} {p : Program} {l : Launch} {e : Env} {R : Room} {s : State} {m : MethodId} {args : Array Value} {below : List Frame} {meth : Method} {c : Code} {H : Heap} {locs : List Loc} {cells slots : Nat} {Q : State → Prop}
variable {w0 : Cond} {cc : ByteArray} {nL : Nat} {own : String} {pc index : Nat} {ls : Array Slot} {rest : List Value} {ws : va_W} {a : Nat}
theorem z_hts (C : Cl E A p s m args c w0 cc nL own) {w : Cond} (h : w ∈ wsL_law) : w.before args s = true := C.2.2.2.2.1 _ (List.mem_cons_of_mem _ h)
theorem z_new {ci N : Nat} {T : u_T} {Cn : String} {ty : Nat → FieldType} {fs : List Value} (C : Cl E A p s m args c w0 cc nL own) (w : Wc E A s ws H locs) (hcl : vwCl[ci]? = some (Cn, T, N)) (hin : ∀ w ∈ u_ws Cn T N, w ∈ wsL_law) (hty : ∀ k, k < N → parseFieldDescriptor (T k).2.2.1 = some (ty k)) (q1 : Cond.classLink own index Cn ∈ wsL_law) (q2 : Cond.instantiable Cn N ∈ wsL_law) (q3 : Cond.initialized Cn ∈ wsL_law) (hfs : ∀ j, j < N → defaultValue (ty j) = vp_V fs j) (hcells : cells + 1 ≤ R.cells) (hslots : slots + N ≤ R.slots) (hd : decode cc pc = .ok (.new index, 3))
    (kk : ∀ (q : Nat) (H1 : Heap), Wc E A s (ws ++ [(q, .inr (ci, fs))]) H1 locs → W p l e R s m args below meth c H1 locs (cells + 1) (slots + N) Q (F0 m (pc + 3) ls (.ref q :: rest))) : W p l e R s m args below meth c H locs cells slots Q (F0 m pc ls rest) := by
  obtain ⟨hx, hb, -, hown, hts, hKC, hA⟩ := id C
  exact va_new (D := E.1) hx hb hts (fun w h => List.mem_cons_of_mem _ (hin w h)) ty hty hown (z_hts C q1) (z_hts C q2) (z_hts C q3) hKC.1 w.1 w.2.1 w.2.2 hA hcl hfs hcells hslots hd (fun q H1 hP hD hS => kk q H1 ⟨hP, hD, hS⟩)
theorem z_newJ {n : Int32} {N' : Nat} (C : Cl E A p s m args c w0 cc nL own) (w : Wc E A s ws H locs) (q1 : Cond.arrayClass .long ∈ wsL_law) (hn : ¬ n < 0) (hN : n.toNatClampNeg = N') (hby : N' * 8 ≤ 536870912) (hcells : cells + 1 ≤ R.cells) (hslots : slots + N' ≤ R.slots) (hd : decode cc pc = .ok (.newarray .long, 2))
    (kk : ∀ (q : Nat) (H1 : Heap), Wc E A s (ws ++ [(q, .inl (E.2.1 1, N', .inr (.inl (fun _ => 0))))]) H1 locs → W p l e R s m args below meth c H1 locs (cells + 1) (slots + N') Q (F0 m (pc + 2) ls (.ref q :: rest))) : W p l e R s m args below meth c H locs cells slots Q (F0 m pc ls (.int n :: rest)) := by
  obtain ⟨hx, hb, -, hown, hts, hKC, hA⟩ := id C
  refine va_newa (D := E.1) (atype := .long) (a0 := (N', .inr (.inl (fun _ => 0)))) hx hb (z_hts C q1) rfl hKC.1 w.1 w.2.1 w.2.2 hA (fun cA => rfl) hn hN hby hcells hslots hd (fun q cA H1 hK hP hD hS => ?_)
  have e1 := y_cls (t0 := 1) hK rfl
  subst e1
  exact kk q H1 ⟨hP, hD, hS⟩
theorem z_call {y : MethodName} {cc2 : ByteArray} {n2 qc mc ms : Nat} {rm2 : Room} {st : List Value} {e0 : va_E} {wf : (Nat → Nat) → va_W} {wr : va_W} {isR : List Nat} (C : Cl E A p s m args c w0 cc nL own) (w : Wc E A s ws H locs) (hM : MtC l y (Cond.code y cc2 n2 none) rm2 E a e0 wf mc ms) (he : ws[qc]? = some (a, e0)) (hR : isR.map (fun i => ws[i]?) = wr.map some) (hnd : va_nd isR = true) (hdis : ∀ i ∈ isR, i ∉ [qc])
    (cw : CallB R s args own index y cc2 n2 none (wsM (Cond.code y cc2 n2 none)) rm2 mc ms 0 ∧ y.name = "<init>" ∧ (Cond.instanceMethod y).before args s = true) (hcs : cells + mc ≤ R.cells ∧ slots + ms ≤ R.slots) (hl : ls.size = nL) (hst : (rest.map fun v => v.category).sum ≤ 8) (hst2 : st = .ref a :: rest) (hd : decode cc pc = .ok (.invokespecial index, 3))
    (kk : ∀ (u : Nat → Nat) (H1 : Heap) (locs1 : List Loc), Wc E A s (wr ++ wf u) H1 locs1 → W p l e R s m args below meth c H1 locs1 (cells + mc) (slots + ms) Q (F0 m (pc + 3) ls rest)) : W p l e R s m args below meth c H locs cells slots Q (F0 m pc ls st) := by
  obtain ⟨hx, hb, hml, hown, hts, hKC, hA⟩ := id C
  have hC : [qc].map (fun i => ws[i]?) = ([(a, e0)] : va_W).map some := by simp [he]
  have hFc := va_free (wc := [(a, e0)]) w.2.1 w.2.2 hA [qc] hC
  have hPc : va_P E.1 vwCl [(a, e0)] H := w.1.sub [qc] (by simp [he])
  have hDc : va_D A [(a, e0)] := w.2.1.sub [qc] rfl hC
  refine va_callv (va_runI (As := []) (rest := rest) ⟨hx, hb, hml, hown, hts⟩ (hM H.size) cw ⟨PreC.blind, fun U hU hW => ⟨rfl, by rw [hU], by rw [hU]; exact hPc, hDc.weaken (fun _ _ _ _ => trivial), KC.mv hKC w.2.2 hW hU hFc⟩⟩ rfl rfl hl hst2 (lv_room hst) hd hcs) w.2.2 (fun q _ h => hFc q h) hFc (fun u t H1 locs1 ht _ _ hB _ hk1 hS => ?_)
  rw [ht] at hB
  obtain ⟨hP, hD⟩ := va_join w.1 w.2.1 [qc] isR hC hR hnd hdis hk1 hFc hB.1 hB.2
  exact kk u H1 locs1 ⟨hP, hD, hS⟩
end XC2
/-- the memory at the loop's first round -/
def G0 : M3 := fun g r => if g < 6 then (if r = 0 then lsF [1000, 6000] else if r = 1 then rowFirst else fun _ => 0) else fun _ => 0
def K0 : J3 := fun _ _ _ => 0
/-- where the modules lie -/
def adF (x : Nat) (u : Nat → Nat) (g r : Nat) : Nat :=
  if g < 2 then u (10 + 10 * g + r) else if g < 6 then u (30 + (10 + 10 * (g - 2) + r)) else if g = 6 then (if r = 0 then x else if r = 1 then u 30 else u (30 + 1)) else u (80 + r)
theorem wfH_f {E : WE} {h : Nat} {u : Nat → Nat} {f : Nat → Option Nat} (hf : ∀ i, (if i < 4 then some (u (10 + 10 * i)) else none) = f i) : wfH E h u = [(h, .inr (1, [.int 0, .int 0, .ref (u 1)])), (u 1, .inl (E.2.1 3, 4, .inr (.inr (.inr (.inr f)))))] ++ wfS E (u 10) (fun r => u (10 + r)) ++ wfS E (u 20) (fun r => u (20 + r)) ++ wfS E (u 30) (fun r => u (30 + r)) ++ wfS E (u 40) (fun r => u (40 + r)) := by
  unfold wfH
  rw [show (fun i => if i < 4 then some (u (10 + 10 * i)) else none) = f from funext hf]
def stPerm : List Nat := [1, 2, 3, 4, 5, 6, 7, 8, 9, 10, 11, 12, 13, 14, 15, 16, 17, 18, 19, 20, 23, 24, 25, 26, 27, 28, 29, 30, 31, 32, 33, 34, 35, 36, 37, 38, 39, 40, 41, 42, 43, 44, 45, 46, 47, 48, 49, 50, 51, 52, 53, 54, 55, 56, 57, 58, 59, 60, 61, 62, 0, 21, 22, 63, 64, 65, 66]
set_option maxRecDepth 20000 in
set_option maxHeartbeats 4000000 in
theorem st_Wl {D : va_G} {cs : Nat → ClassId} {ad0 : Nat → Nat → Nat} {x : Nat} {u : Nat → Nat} : stPerm.filterMap (fun i => (wfA (D, cs, ad0) x u)[i]?) = Wl (D, cs, adF x u) G0 K0 := by
  unfold wfA
  rw [wfH_f (f := fun i => if i < 4 then some (adF x u (2 + i) 0) else none) (fun i => by
    by_cases hi : i < 4
    · rw [if_pos hi, if_pos hi]
      unfold adF
      rw [if_neg (by omega), if_pos (by omega)]
      rw [show 2 + i - 2 = i by omega]
      rfl
    · rw [if_neg hi, if_neg hi])]
  rfl
set_option maxRecDepth 20000 in
set_option maxHeartbeats 4000000 in
theorem st_WlD {D : va_G} {cs : Nat → ClassId} {ad0 : Nat → Nat → Nat} {x : Nat} {u : Nat → Nat} : stPerm.map (fun i => (wfA (D, cs, ad0) x u)[i]?) = (Wl (D, cs, adF x u) G0 K0).map some := by
  rw [← st_Wl (D := D) (cs := cs) (ad0 := ad0)]
  rfl
theorem st_inj {E : WE} {A : Nat → Prop} {G : M3} {K : J3} (h : va_D A (Wl E G K)) : Inj E := by
  intro g r g' r' v v' e
  exact pl_inj v v' (h.1 _ _ _ _ (Wl_get v) (Wl_get v') e)
theorem st_all {E : WE} {A : Nat → Prop} {G : M3} {K : J3} (h : va_D A (Wl E G K)) : ∀ g r, vld g r → A (ad E g r) := fun g r v => h.2 _ _ (Wl_get v)
