set_option maxRecDepth 20000 in
set_option maxHeartbeats 8000000 in
/-- the law comes to its end with true, where its loop's function does so -/
theorem st_walk {p : Program} {e : Env} {s : State} {m : MethodId} {below : List Frame} {meth : Method} {c : Code} (l : Launch) (hflags : l.flags = flags0) {b L F : Nat} {xs : Nat → Int32} (hF : fbL_law_8 F xs L G0 K0 = some 1) (C0 : lw_At p s m meth c b L xs) : W p l e room_1 s m #[Value.ref b] below meth c s.heap [] 0 0 (lw_Z below #[Value.ref b] s) (entryFrame m ([Value.ref b] : List Value).toArray 16) := by
  have hst : l.stackTraces = false := by unfold Launch.stackTraces; rw [hflags]; decide
  obtain ⟨hx, hb, hr, hml, hown, htsT, hX, hbl, hlocks, hgv⟩ := C0
  have hs : ∀ c ∈ gvC, c.before #[Value.ref b] s = true := flat_of_before _ hgv
  have hw0 : Cond.initialized RX4 ∈ lw_tbl := wsL_law_in _ q1_2
  have hts : ∀ w ∈ wsM (Cond.initialized RX4), w.before #[Value.ref b] s = true := fun w hw => (List.mem_cons.mp hw).elim (fun h => by rw [h]; exact htsT _ hw0) (fun h => htsT _ (wsL_law_in w h))
  have htl : ∀ w ∈ wsL_law, w.before #[Value.ref b] s = true := fun w h => htsT _ (wsL_law_in w h)
  obtain ⟨c0, i0, k0⟩ := u_known (C := RX0) (T := TX0) (N := 8) htl inlX0 (htl _ q2_16)
  obtain ⟨c1, i1, k1⟩ := u_known (C := RX1) (T := TX1) (N := 3) htl inlX1 (htl _ q1_16)
  obtain ⟨c2, i2, k2⟩ := u_known (C := RX2) (T := TX2) (N := 7) htl inlX2 (htl _ q1_20)
  obtain ⟨c3, i3, k3⟩ := u_known (C := RX3) (T := TX3) (N := 11) htl inlX3 (htl _ q1_11)
  obtain ⟨c4, i4, k4⟩ := u_known (C := RX4) (T := TX4) (N := 4) htl inlX4 (htl _ q1_1)
  obtain ⟨cI, kI, pI, fI, gI, nI⟩ := Cond.arrayClass_spec (htl _ q2_5)
  obtain ⟨cJ, kJ, pJ, fJ, gJ, nJ⟩ := Cond.arrayClass_spec (htl _ q2_7)
  have hlay := fun w hw => htsT w (st_layT w hw)
  obtain ⟨pC, cC, kC, fC1, -, gC, nC, fC2⟩ := Cond.arrayOver_spec (hlay (Cond.arrayOver (.object "AirStation$Compressor")) (List.mem_of_getElem? (i := 7) rfl))
  obtain ⟨pS, cS, kS, fS1, -, gS, nS, fS2⟩ := Cond.arrayOver_spec (hlay (Cond.arrayOver (.object "AirStation$State")) (List.mem_of_getElem? (i := 8) rfl))
  obtain ⟨D, hD⟩ : ∃ D : va_G, D = (fun k => match k with | 0 => c0 | 1 => c1 | 2 => c2 | 3 => c3 | _ => c4, fun k => match k with | 0 => i0 | 1 => i1 | 2 => i2 | 3 => i3 | _ => i4) := ⟨_, rfl⟩
  obtain ⟨cs, hcs⟩ : ∃ cs : Nat → ClassId, cs = (fun k => match k with | 0 => cI | 1 => cJ | 2 => cC | _ => cS) := ⟨_, rfl⟩
  have hK : ∀ ad0 : Nat → Nat → Nat, va_K D vwCl (tyW (D, cs, ad0)) s := by
    intro ad0
    subst hD
    subst hcs
    refine ⟨fun k q hq => ?_, fun k q hq => ?_⟩
    · match k, hq with
      | 0, hq => cases hq; exact k0
      | 1, hq => cases hq; exact k1
      | 2, hq => cases hq; exact k2
      | 3, hq => cases hq; exact k3
      | 4, hq => cases hq; exact k4
      | k + 5, hq => cases hq
    · match k, hq with
      | 0, hq => cases hq; exact ⟨fun n z => ⟨(fun k h => by cases h), kI, gI, pI, nI⟩, fI⟩
      | 1, hq => cases hq; exact ⟨fun n z => ⟨(fun k h => by cases h), kJ, gJ, pJ, nJ⟩, fJ⟩
      | 2, hq => cases hq; exact ⟨fun n z => ⟨(fun k h => by cases h), kC, gC, pC, nC⟩, kC, pC, gC, nC, fC1, fC2⟩
      | 3, hq => cases hq; exact ⟨fun n z => ⟨(fun k h => by cases h), kS, gS, pS, nS⟩, kS, pS, gS, nS, fS1, fS2⟩
      | k + 4, hq => cases hq
  obtain ⟨A, hA⟩ : ∃ A : Nat → Prop, A = (fun q : Nat => s.heap.size ≤ q) := ⟨_, rfl⟩
  have hAn : ∀ a : Nat, a < s.heap.size → ¬ A a := by subst hA; exact fun a h1 h2 => absurd h1 (Nat.not_lt.mpr h2)
  have hA1 : ∀ q, s.heap.size ≤ q → A q := by subst hA; exact fun q h => h
  have hini := hlay (Cond.initialized "AirStation") (List.mem_of_getElem? (i := 5) rfl)
  have r1 : rowZ "FIRST_SETTINGS" rowFirst A s s.heap := by subst hA; exact st_rowZ (hlay _ (List.mem_of_getElem? (i := 0) rfl)) hini (hs _ st_rowFirst_a) (hs _ st_rowFirst_l) (st_rowFirst_e hs)
  have r2 : rowZ "LEAST_SETTINGS" rowLeast A s s.heap := by subst hA; exact st_rowZ (hlay _ (List.mem_of_getElem? (i := 1) rfl)) hini (hs _ st_rowLeast_a) (hs _ st_rowLeast_l) (st_rowLeast_e hs)
  have r3 : rowZ "GREATEST_SETTINGS" rowMost A s s.heap := by subst hA; exact st_rowZ (hlay _ (List.mem_of_getElem? (i := 2) rfl)) hini (hs _ st_rowMost_a) (hs _ st_rowMost_l) (st_rowMost_e hs)
  have r4 := vx_Zqof (A := A) (hlay _ (List.mem_of_getElem? (i := 3) rfl)) (hlay (Cond.initialized Bundle.tN) (List.mem_of_getElem? (i := 6) rfl)) (hs _ st_refG.1) hAn
  have r5 := vx_Zqof (A := A) (hlay _ (List.mem_of_getElem? (i := 4) rfl)) (hlay (Cond.initialized Bundle.tN) (List.mem_of_getElem? (i := 6) rfl)) (hs _ st_refG.2) hAn
  have hKC : ∀ ad0 : Nat → Nat → Nat, KC (D, cs, ad0) A s s.heap := fun ad0 => ⟨hK ad0, va_AO.of (hlay _ (List.mem_of_getElem? (i := 7) rfl)), va_AO.of (hlay _ (List.mem_of_getElem? (i := 8) rfl)), fun w hw => va_Nw.of (st_nestCO w hw) (htsT w (st_nestCT w hw)), r1⟩
  have hKK : ∀ ad0 : Nat → Nat → Nat, Inj (D, cs, ad0) → KK (D, cs, ad0) A s s.heap := fun ad0 hi => ⟨hK ad0, hi, fun w hw => va_Nw.of (st_nestO w hw) (htsT w (st_nestT w hw)), ⟨r2, r3, r4, r5⟩, fun q hq => st_txt (htsT _ (st_txtT q hq)) (hs _ (st_txtG q hq)), fun q hq => va_Nc.of (hs _ (st_ncG q hq))⟩
  have C : Cl (D, cs, fun _ _ => 0) A p s m #[Value.ref b] c (Cond.initialized RX4) code 16 RL := ⟨hx, hb, hml, hown, hts, hKC _, hA1⟩
  have w : Wc (D, cs, fun _ _ => 0) A s [] s.heap [] := ⟨(fun k q h => by cases h), ⟨(fun i j p q h => by cases h), (fun k q h => by cases h)⟩, va_S.rf⟩
  have hl := lv_entry ([.ref b]) (n := 16) (Nat.le_of_ble_eq_true rfl)
  rw [lg_entry_eq]
  generalize (lg_sl ([.ref b]) ++ List.replicate (16 - (lg_sl ([.ref b])).length) Slot.unset).toArray = ls at hl ⊢
  have hl : lv_has ls 16 [(0, .ref b)] := hl
  refine z_new (ci := 4) (ty := tyX4) (fs := [.null, .null, .null, .null]) C w rfl inlX4 tyX4_ok q1_0 q1_1 q1_2 (by decide) (show _ ≤ _ from Nat.le_of_ble_eq_true rfl) (show _ ≤ _ from Nat.le_of_ble_eq_true rfl) dL_law_0 (fun x H w => ?_)
  refine lv_dup hx hb dL_law_3 rfl ?_
  refine z_call (rest := [.ref x]) (wr := []) (isR := []) (qc := 0) C w (mtX4_init (E := (D, cs, fun _ _ => 0)) (h0 := x)) rfl rfl (by decide) (by decide) (cwI 0 hts (x_good q1_6) rfl rfl rfl (z_hts C q1_2) (z_hts C q1_4) (z_hts C q1_5) rfl ynX4_init ⟨by decide, by decide⟩) ⟨show _ ≤ _ from Nat.le_of_ble_eq_true rfl, show _ ≤ _ from Nat.le_of_ble_eq_true rfl⟩ hl.1 (Nat.le_of_ble_eq_true rfl) rfl dL_law_4 (fun u H locs w => ?_)
  replace w : Wc (D, cs, fun _ _ => 0) A s (wfA (D, cs, fun _ _ => 0) x u) _ _ := w
  refine lv_astore_n hx hb dL_law_7 rfl hl (by decide) rfl (fun ls hl => ?_)
  have hWD : va_D A (Wl (D, cs, adF x u) G0 K0) := w.2.1.sub stPerm (by decide) (st_WlD (D := D) (cs := cs) (ad0 := fun _ _ => 0))
  have hWP : va_P D vwCl (Wl (D, cs, adF x u) G0 K0) H := w.1.sub stPerm (st_Wl (D := D) (cs := cs) (ad0 := fun _ _ => 0))
  have Cw : Cx (D, cs, adF x u) A p s m #[Value.ref b] meth c (Cond.initialized RX4) code 16 ret RL := ⟨hx, hb, hr, hml, hown, hts, hlocks, hKK _ (st_inj hWD), hA1, st_all hWD⟩
  have hwd : Wd (D, cs, adF x u) A s G0 K0 H locs := ⟨hWP, w.2.2⟩
  have hbA : ¬ A b := fun h => hAn b hbl h
  have hAn2 : ∀ q, A q → s.heap.size ≤ q := by subst hA; exact fun q h => h
  exact TL_law_8 Cw hst hX hbl hbA hAn2 ⟨show _ ≤ _ from Nat.le_of_ble_eq_true rfl, show _ ≤ _ from Nat.le_of_ble_eq_true rfl⟩ G0 K0 hF hwd (lv_sub hl [1, 0] rfl)
