section XZR
variable {E : WE} {A : Nat → Prop} {p : Program} {l : Launch} {e : Env} {R : Room} {s : State} {m : MethodId} {args : Array Value} {below : List Frame} {meth : Method} {c : Code} {H : Heap} {locs : List Loc} {cells slots : Nat} {Q : State → Prop}
variable {w0 : Cond} {cc : ByteArray} {nL : Nat} {ret : Option FieldType} {own : String} {pc index : Nat} {ls : Array Slot} {rest : List Value} {G : M3} {K : J3}
theorem x_goodW {w1 w2 : Cond} {idx : Nat} {y : MethodName} (h : w2 ∈ wsL_law) (q1 : Cond.methodLink own idx y ∈ wsL_law) (q2 : Cond.static y ∈ wsL_law) (q4 : Cond.initialized y.cls ∈ wsL_law) : GoodIn (wsM w1) (va_wsS own idx y (wsM w2)) := by
  refine goodIn_app (fun w hw => ?_) (x_good h)
  have h2 : w ∈ wsL_law := by
    simp only [List.mem_cons, List.not_mem_nil, or_false] at hw
    rcases hw with rfl | rfl | rfl <;> assumption
  exact ⟨List.mem_cons_of_mem _ h2, good_of_word (List.all_eq_true.mp x_goodAll w h2)⟩
theorem x_cYi {y : MethodName} {cc2 : ByteArray} {n2 mc ms : Nat} {ret2 : Option FieldType} {hh : List (Nat × Nat × Nat × Nat)} {rm2 : Room} {st As : List Value} {v : Int32} {G' : M3} {K' : J3} (C : Cx E A p s m args meth c w0 cc nL ret own) (w : Wd E A s G K H locs)
    (hM : MtZ l y (Cond.codeWith y cc2 n2 ret2 hh) rm2 E As G K v G' K' mc ms) (q1 : Cond.methodLink own index y ∈ wsL_law) (q2 : Cond.static y ∈ wsL_law) (q4 : Cond.initialized y.cls ∈ wsL_law) (q5 : Cond.codeWith y cc2 n2 ret2 hh ∈ wsL_law)
    (hd1 : y.cls ≠ "java/lang/invoke/MethodHandle" ∧ y.cls ≠ "java/lang/invoke/VarHandle" ∧ (parseMethodDescriptor y.desc).map (fun d => d.parameters.length) = some As.length) (h00 : rm2.cells = mc ∧ rm2.slots = ms) (hR : rm2.frames + 1 ≤ R.frames ∧ 8 + (n2 + 11) + rm2.locals ≤ R.locals) (hcs : cells + mc ≤ R.cells ∧ slots + ms ≤ R.slots) (hl : ls.size = nL) (hst : (rest.map fun v => v.category).sum ≤ 8) (hst2 : st = As.reverse ++ rest) (hd : decode cc pc = .ok (.invokestatic index, 3))
    (kk : ∀ (H1 : Heap) (locs1 : List Loc), Wd E A s G' K' H1 locs1 → W p l e R s m args below meth c H1 locs1 (cells + mc) (slots + ms) Q (F0 m (pc + 3) ls (.int v :: rest))) : W p l e R s m args below meth c H locs cells slots Q (F0 m pc ls st) := by
  obtain ⟨hx, hb, -, hml, hown, hts, -, hKK, -, -⟩ := id C
  refine va_calli (vx_runSW (As := As) (rest := rest) ⟨hx, hb, hml, hown, hts⟩ (hM H.size) (vx_cwSW As.length hts (x_goodW q5 q1 q2 q4) rfl h00.1 h00.2 hd1 hR) ⟨PreM.blind, fun U hU hW => ⟨rfl, x_pre C w hU hW⟩⟩ rfl rfl hl hst2 (lv_room hst) hd hcs) w.2 (fun q _ h => x_sub C w q h) (x_sub C w) (fun r u t H1 locs1 ht _ hw hB _ _ hS => by subst hw; exact kk H1 locs1 ⟨by rw [← ht]; exact hB, hS⟩)
theorem x_cZi {y : MethodName} {cc2 : ByteArray} {n2 : Nat} {ret2 : Option FieldType} {hh : List (Nat × Nat × Nat × Nat)} {rm2 : Room} {st As : List Value} {v : Int32} {G' : M3} {K' : J3} (C : Cx E A p s m args meth c w0 cc nL ret own) (w : Wd E A s G K H locs)
    (hM : MtZ l y (Cond.codeWith y cc2 n2 ret2 hh) rm2 E As G K v G' K' 0 0) (q1 : Cond.methodLink own index y ∈ wsL_law) (q2 : Cond.static y ∈ wsL_law) (q4 : Cond.initialized y.cls ∈ wsL_law) (q5 : Cond.codeWith y cc2 n2 ret2 hh ∈ wsL_law)
    (hd1 : y.cls ≠ "java/lang/invoke/MethodHandle" ∧ y.cls ≠ "java/lang/invoke/VarHandle" ∧ (parseMethodDescriptor y.desc).map (fun d => d.parameters.length) = some As.length) (h00 : rm2.cells = 0 ∧ rm2.slots = 0) (hR : rm2.frames + 1 ≤ R.frames ∧ 8 + (n2 + 11) + rm2.locals ≤ R.locals) (hcs : cells ≤ R.cells ∧ slots ≤ R.slots) (hl : ls.size = nL) (hst : (rest.map fun v => v.category).sum ≤ 8) (hst2 : st = As.reverse ++ rest) (hd : decode cc pc = .ok (.invokestatic index, 3))
    (kk : ∀ (H1 : Heap) (locs1 : List Loc), Wd E A s G' K' H1 locs1 → W p l e R s m args below meth c H1 locs1 cells slots Q (F0 m (pc + 3) ls (.int v :: rest))) : W p l e R s m args below meth c H locs cells slots Q (F0 m pc ls st) := by
  obtain ⟨hx, hb, -, hml, hown, hts, -, hKK, -, -⟩ := id C
  refine va_calli (vx_runSW (As := As) (rest := rest) ⟨hx, hb, hml, hown, hts⟩ (hM H.size) (vx_cwSW As.length hts (x_goodW q5 q1 q2 q4) rfl h00.1 h00.2 hd1 hR) ⟨PreM.blind, fun U hU hW => ⟨rfl, x_pre C w hU hW⟩⟩ rfl rfl hl hst2 (lv_room hst) hd hcs) w.2 (fun q _ h => x_sub C w q h) (x_sub C w) (fun r u t H1 locs1 ht _ hw hB _ _ hS => by subst hw; exact kk H1 locs1 ⟨by rw [← ht]; exact hB, hS⟩)
theorem x_cZl {y : MethodName} {cc2 : ByteArray} {n2 : Nat} {ret2 : Option FieldType} {hh : List (Nat × Nat × Nat × Nat)} {rm2 : Room} {st As : List Value} {v : Int64} {G' : M3} {K' : J3} (C : Cx E A p s m args meth c w0 cc nL ret own) (w : Wd E A s G K H locs)
    (hM : MtZl l y (Cond.codeWith y cc2 n2 ret2 hh) rm2 E As G K v G' K' 0 0) (q1 : Cond.methodLink own index y ∈ wsL_law) (q2 : Cond.static y ∈ wsL_law) (q4 : Cond.initialized y.cls ∈ wsL_law) (q5 : Cond.codeWith y cc2 n2 ret2 hh ∈ wsL_law)
    (hd1 : y.cls ≠ "java/lang/invoke/MethodHandle" ∧ y.cls ≠ "java/lang/invoke/VarHandle" ∧ (parseMethodDescriptor y.desc).map (fun d => d.parameters.length) = some As.length) (h00 : rm2.cells = 0 ∧ rm2.slots = 0) (hR : rm2.frames + 1 ≤ R.frames ∧ 8 + (n2 + 11) + rm2.locals ≤ R.locals) (hcs : cells ≤ R.cells ∧ slots ≤ R.slots) (hl : ls.size = nL) (hst : (rest.map fun v => v.category).sum ≤ 8) (hst2 : st = As.reverse ++ rest) (hd : decode cc pc = .ok (.invokestatic index, 3))
    (kk : ∀ (H1 : Heap) (locs1 : List Loc), Wd E A s G' K' H1 locs1 → W p l e R s m args below meth c H1 locs1 cells slots Q (F0 m (pc + 3) ls (.long v :: rest))) : W p l e R s m args below meth c H locs cells slots Q (F0 m pc ls st) := by
  obtain ⟨hx, hb, -, hml, hown, hts, -, hKK, -, -⟩ := id C
  refine va_calll (vx_runSW (As := As) (rest := rest) ⟨hx, hb, hml, hown, hts⟩ (hM H.size) (vx_cwSW As.length hts (x_goodW q5 q1 q2 q4) rfl h00.1 h00.2 hd1 hR) ⟨PreM.blind, fun U hU hW => ⟨rfl, x_pre C w hU hW⟩⟩ rfl rfl hl hst2 (lv_room hst) hd hcs) w.2 (fun q _ h => x_sub C w q h) (x_sub C w) (fun r u t H1 locs1 ht _ hw hB _ _ hS => by subst hw; exact kk H1 locs1 ⟨by rw [← ht]; exact hB, hS⟩)
theorem x_scr {b L ki : Nat} {f : Nat → Int32} {i : Int32} (C : Cx E A p s m args meth c w0 cc nL ret own) (w : Wd E A s G K H locs) (hX : va_X b L f s s.heap) (hbl : b < s.heap.size) (hbA : ¬ A b) (hi : inb i L) (hk : i.toNatClampNeg = ki) (hd : decode cc pc = .ok (.iaload, 1))
    (kk : W p l e R s m args below meth c H locs cells slots Q (F0 m (pc + 1) ls (.int (f ki) :: rest))) : W p l e R s m args below meth c H locs cells slots Q (F0 m pc ls (.int i :: .ref b :: rest)) := by
  subst hk
  exact va_sld C.1 C.2.1 hX hbl hbA w.2 (inb_in hi) hd kk
theorem x_scl {b L : Nat} {f : Nat → Int32} (C : Cx E A p s m args meth c w0 cc nL ret own) (w : Wd E A s G K H locs) (hX : va_X b L f s s.heap) (hbl : b < s.heap.size) (hbA : ¬ A b) (hd : decode cc pc = .ok (.arraylength, 1))
    (kk : W p l e R s m args below meth c H locs cells slots Q (F0 m (pc + 1) ls (.int (Int32.ofNat L) :: rest))) : W p l e R s m args below meth c H locs cells slots Q (F0 m pc ls (.ref b :: rest)) :=
  va_slen C.1 C.2.1 hX hbl hbA w.2 hd kk
end XZR
/-- the script's number k: a contract beside the world -/
def PreX (E : WE) (b L : Nat) (xs : Nat → Int32) (G : M3) (K : J3) (sz : Nat) (U : State) : Prop := PreM E G K sz U ∧ va_X b L xs U U.heap ∧ b < sz ∧ ¬ AA E sz b
theorem PreX.blind {E : WE} {G : M3} {K : J3} {b L sz : Nat} {xs : Nat → Int32} {a : List Value} : FrameBlind (va_Pc a (PreX E b L xs G K sz)) := by
  rintro b0 U g mk ⟨h0, h1, h2, h3, h4⟩
  have hA : U.vm.Alike (U.calling g mk b0).vm := Vm.Alike.refl U.vm
  have h5 := PreM.blind b0 U g mk ⟨h0, h1⟩
  exact ⟨h0, h5.2, va_X.moved (u := U) (U := U.calling g mk b0) hA h2, h3, h4⟩
def fL_cell (L : Nat) (xs : Nat → Int32) (k : Int32) : Option Int32 := if Int32.ofNat L ≤ k then some (((40503 : Int32) * (k + (3 : Int32))) &&& (2147483647 : Int32)) else chk (inb k L) (some (xs k.toNatClampNeg &&& (2147483647 : Int32)))
abbrev rmL_cell : Room := { frames := 1, cells := 0, slots := 0, locals := 12 }
abbrev wdL_cell : Cond := Cond.code yL_cell cL_cell 2 (some .int)
section XZS
variable {E : WE} {A : Nat → Prop} {p : Program} {l : Launch} {e : Env} {R : Room} {s : State} {m : MethodId} {args : Array Value} {below : List Frame} {meth : Method} {c : Code} {H : Heap} {locs : List Loc} {cells slots : Nat} {Q : State → Prop}
variable {w0 : Cond} {cc : ByteArray} {nL : Nat} {ret : Option FieldType} {own : String} {pc index : Nat} {ls : Array Slot} {rest : List Value} {G : M3} {K : J3}
theorem mtL_cell {b L : Nat} {xs : Nat → Int32} {k rr : Int32} (h : fL_cell L xs k = some rr) : ∀ sz, Met l yL_cell (wsM wdL_cell) rmL_cell (va_Pc [.ref b, .int k] (PreX E b L xs G K sz)) (va_Qi (fun (r1 : Int32) (_ : Unit) => r1 = rr) (fun _ t => PosM E G K t) (AA E sz)) 0 0 (AA E sz) := by
  intro sz
  refine Met.ofW (cc := cL_cell) (maxL := 2) (ret := (some .int)) (by decide) rfl ?_
  intro p e s m args below meth c s₁ B hml hv
  obtain ⟨h0, h1, hX, hbl, hbA⟩ := hv
  obtain ⟨rfl, C, w⟩ := Cx.of (own := RL) B rfl hml (show va_Pc [.ref b, .int k] (PreM E G K sz) args s from ⟨h0, h1⟩)
  have hsz : s.heap.size = sz := h1.1
  rw [← hsz] at hbl
  have hl := lv_entry ([.ref b, .int k]) (n := 2) (by exact Nat.le_of_ble_eq_true rfl)
  rw [lg_entry_eq]
  generalize (lg_sl ([.ref b, .int k]) ++ List.replicate (2 - (lg_sl ([.ref b, .int k])).length) Slot.unset).toArray = ls at hl ⊢
  obtain ⟨hx, hb, hr, hml, hown, hts, hlocks, hKK, hA1, hA2⟩ := id C
  unfold fL_cell at h
  refine lv_iload_n hx hb dL_cell_0 rfl (lv_at hl 1 rfl) ?_
  refine lv_aload_n hx hb dL_cell_1 rfl (lv_at hl 0 rfl) ?_
  refine x_scl C w hX hbl hbA dL_cell_2 ?_
  refine lv_icmp_ge (tgt := 12) hx hb dL_cell_3 (by decide) (fun c1 => ?_) (fun c1 => ?_)
  · replace h := ite_t h c1
    refine lv_ldc hx hb hown (x_hts C q8_13) dL_cell_12 ?_
    refine lv_iload_n hx hb dL_cell_14 rfl (lv_at hl 1 rfl) ?_
    refine lv_iconst (v := (3 : Int32)) hx hb dL_cell_15 (by decide) ?_
    refine lv_iadd hx hb dL_cell_16 ?_
    refine lv_imul hx hb dL_cell_17 ?_
    refine lv_ldc hx hb hown (x_hts C q8_14) dL_cell_18 ?_
    refine lv_iand hx hb dL_cell_20 ?_
    exact x_ri C w (Option.some.inj h) rfl rfl dL_cell_21
  · replace h := ite_f h c1
    obtain ⟨ki, h⟩ := chk_of h
    refine lv_aload_n hx hb dL_cell_6 rfl (lv_at hl 0 rfl) ?_
    refine lv_iload_n hx hb dL_cell_7 rfl (lv_at hl 1 rfl) ?_
    refine x_scr C w hX hbl hbA ki rfl dL_cell_8 ?_
    refine lv_goto (tgt := 18) hx hb dL_cell_9 (by decide) ?_
    refine lv_ldc hx hb hown (x_hts C q8_14) dL_cell_18 ?_
    refine lv_iand hx hb dL_cell_20 ?_
    exact x_ri C w (Option.some.inj h) rfl rfl dL_cell_21
theorem ydL_cell : yL_cell.cls = RL ∧ yL_cell.cls ≠ "java/lang/invoke/MethodHandle" ∧ yL_cell.cls ≠ "java/lang/invoke/VarHandle" ∧ (parseMethodDescriptor yL_cell.desc).map (fun d => d.parameters.length) = some 2 := by decide +kernel
theorem x_cell {b L : Nat} {xs : Nat → Int32} {k : Int32} {st : List Value} {v : Int32} (C : Cx E A p s m args meth c w0 cc nL ret RL) (w : Wd E A s G K H locs) (hX : va_X b L xs s s.heap) (hbl : b < s.heap.size) (hbA : ¬ A b)
    (hv : fL_cell L xs k = some v) (hR : rmL_cell.frames + 1 ≤ R.frames ∧ 8 + (2 + 11) + rmL_cell.locals ≤ R.locals) (hcs : cells + 0 ≤ R.cells ∧ slots + 0 ≤ R.slots) (hl : ls.size = nL) (hst : (rest.map fun v => v.category).sum ≤ 8) (hst2 : st = .int k :: .ref b :: rest) (q1 : Cond.methodLink RL index yL_cell ∈ wsL_law) (hd : decode cc pc = .ok (.invokestatic index, 3))
    (kk : ∀ (H1 : Heap) (locs1 : List Loc), Wd E A s G K H1 locs1 → W p l e R s m args below meth c H1 locs1 cells slots Q (F0 m (pc + 3) ls (.int v :: rest))) : W p l e R s m args below meth c H locs cells slots Q (F0 m pc ls st) := by
  obtain ⟨hx, hb, -, hml, hown, hts, -, hKK, -, -⟩ := id C
  exact va_calli (va_runS (As := [.ref b, .int k]) (rest := rest) ⟨hx, hb, hml, hown, hts⟩ (mtL_cell (E := E) (G := G) (K := K) hv H.size) (cwS 2 hts (x_goodS q8_12 q1 q8_11 q3_12) rfl rfl rfl ydL_cell hR) ⟨PreX.blind, fun U hU hW => ⟨rfl, x_pre C w hU hW, by rw [hU]; exact va_X.moved hW.alike (hX.kept (w.2.2.1 b hbl hbA)), Nat.lt_of_lt_of_le hbl w.2.1, fun h => hbA (x_sub C w b h)⟩⟩ rfl rfl hl hst2 (lv_room hst) hd hcs) w.2 (fun q _ h => x_sub C w q h) (x_sub C w) (fun r u t H1 locs1 ht _ hw hB _ _ hS => by subst hw; exact kk H1 locs1 ⟨by rw [← ht]; exact hB, hS⟩)
end XZS
def bdz {α β γ δ : Type} (o : Option (Nat × α × β × γ)) (f : α → β → γ → Option δ) : Option δ := match o with
  | some (0, a, b, c) => f a b c
  | _ => none
theorem bdz_of {α β γ δ : Type} {o : Option (Nat × α × β × γ)} {f : α → β → γ → Option δ} {r : δ} (h : bdz o f = some r) : ∃ a b c, o = some (0, a, b, c) ∧ f a b c = some r := by
  match o, h with
  | some (0, a, b, c), h => exact ⟨a, b, c, rfl, h⟩
  | some (n + 1, a, b, c), h => cases h
theorem bdz_s {α β γ δ : Type} (a : α) (b : β) (c : γ) (f : α → β → γ → Option δ) : bdz (some (0, a, b, c)) f = f a b c := rfl
/-- a call that throws, as its tag says: nothing of its answer is used -/
def bdx {α β γ δ : Type} (n : Nat) (o : Option (Nat × α × β × γ)) (f : β → γ → Option δ) : Option δ := bd4 o (fun t _ b c => if t = n then f b c else none)
theorem bdx_of {α β γ δ : Type} {n : Nat} {o : Option (Nat × α × β × γ)} {f : β → γ → Option δ} {r : δ} (h : bdx n o f = some r) : ∃ a b c, o = some (n, a, b, c) ∧ f b c = some r := by
  obtain ⟨t, a, b, c, h1, h2⟩ := bd4_of h
  by_cases e : t = n
  · rw [if_pos e] at h2
    subst e
    exact ⟨a, b, c, h1, h2⟩
  · rw [if_neg e] at h2
    cases h2
theorem bdx_s {α β γ δ : Type} {n : Nat} (a : α) (b : β) (c : γ) (f : β → γ → Option δ) : bdx n (some (n, a, b, c)) f = f b c := by
  show (if n = n then f b c else none) = f b c
  exact if_pos rfl
/-- holds: it answers true -/
def bdh {β γ δ : Type} (o : Option (Int32 × β × γ)) (f : β → γ → Option δ) : Option δ := bd3 o (fun v b c => if v = 1 then f b c else none)
theorem bdh_of {β γ δ : Type} {o : Option (Int32 × β × γ)} {f : β → γ → Option δ} {r : δ} (h : bdh o f = some r) : ∃ b c, o = some (1, b, c) ∧ f b c = some r := by
  obtain ⟨v, b, c, h1, h2⟩ := bd3_of h
  by_cases e : v = 1
  · rw [if_pos e] at h2
    subst e
    exact ⟨b, c, h1, h2⟩
  · rw [if_neg e] at h2
    cases h2
theorem bdh_s {β γ δ : Type} (b : β) (c : γ) (f : β → γ → Option δ) : bdh (some (1, b, c)) f = f b c := by
  show (if (1 : Int32) = 1 then f b c else none) = f b c
  exact if_pos rfl
