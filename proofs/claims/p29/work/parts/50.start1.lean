/-! the law's start: what the Statement gives of the world before, and the walk up to the loop -/
theorem st_row {args : Array Value} {s : State} {t : Term} {f : Nat → Int32} (harr : (Cond.arrayOf t .int).before args s = true) (hlen : (Cond.eq (.length t) (.int 8)).before args s = true) (hel : ∀ j : Nat, j < 8 → (Cond.eq (.elem t (.int (Int32.ofNat j))) (.int (f j))).before args s = true) : ∃ b : Nat, t.eval args s none [] s = some (.ref b) ∧ va_X b 8 f s s.heap ∧ b < s.heap.size := by
  have h1 := va_eqt hlen
  obtain ⟨b, ht, cell, hcell, hof, hkn, hN, hsz, hj, -⟩ := va_Tof (A := fun _ => False) (N := 8) (f := fun j => .int (f j)) (by decide) harr h1 (fun j hj => va_eqt (hel j hj)) (fun _ _ h => h)
  obtain ⟨b', cell', ht', harr', -⟩ := Term.length_spec h1
  cases ht.symm.trans ht'
  obtain ⟨hcell', -, -, -⟩ := State.arrayAt?_spec harr'
  cases hcell.symm.trans hcell'
  have hlt : cell.slots.size < 2147483648 := by
    simp only [Term.eval, ht, harr', Option.bind_eq_bind, Option.bind_some] at h1
    by_cases hlt : cell.slots.size < 2147483648
    · exact hlt
    · simp [hlt] at h1
  have e := congrArg Int32.toInt hsz
  rw [show cell.slots.size.toInt32 = Int32.ofNat cell.slots.size from rfl, Int32.toInt_ofNat_small hlt, Int32.toInt_ofNat_small (by decide)] at e
  exact ⟨b, ht, ⟨cell, hcell, hof, hkn, by omega, hj⟩, (Array.getElem?_eq_some_iff.mp hcell).1⟩
theorem st_rowZ {args : Array Value} {s : State} {n : String} {f : Nat → Int32} (hl : (Cond.laysStatic "AirStation" n "[I").before args s = true) (hini : (Cond.initialized "AirStation").before args s = true) (harr : (Cond.arrayOf (.static "AirStation" n "[I") .int).before args s = true) (hlen : (Cond.eq (.length (.static "AirStation" n "[I")) (.int 8)).before args s = true) (hel : ∀ j : Nat, j < 8 → (Cond.eq (.elem (.static "AirStation" n "[I") (.int (Int32.ofNat j))) (.int (f j))).before args s = true) : rowZ n f (fun q => s.heap.size ≤ q) s s.heap := by
  obtain ⟨b, h1, h2, h3⟩ := st_row harr hlen hel
  exact ⟨b, va_Zref hl hini h1 (fun a h1 h2 => absurd h1 (Nat.not_lt.mpr h2)), h2, h3, Nat.not_le.mpr h3⟩
theorem st_txt {args : Array Value} {s : State} {k : Nat} {tx : String} (h1 : (Cond.stringRef "AirStation" k tx).before args s = true) (h2 : (Cond.exactly (.string "AirStation" k) "java/lang/String").before args s = true) : ∃ a, vk_R "AirStation" k tx a s := by
  obtain ⟨a, c, cell, k', h, -⟩ := Cond.exactly_spec h2
  exact ⟨a, h1, h⟩
/-- the Statement's words of the start -/
abbrev gvC : List Cond := flatC (Jvm.Cond.and given_1 narrow_1)
set_option maxRecDepth 20000 in
theorem st_rowFirst_a : Cond.arrayOf (.static "AirStation" "FIRST_SETTINGS" "[I") .int ∈ gvC := List.mem_of_getElem? (i := 5) (by decide +kernel)
set_option maxRecDepth 20000 in
theorem st_rowFirst_l : Cond.eq (.length (.static "AirStation" "FIRST_SETTINGS" "[I")) (.int 8) ∈ gvC := List.mem_of_getElem? (i := 6) (by decide +kernel)
set_option maxRecDepth 20000 in
theorem st_rowFirst_0 : Cond.eq (.elem (.static "AirStation" "FIRST_SETTINGS" "[I") (.int 0)) (.int 6500) ∈ gvC := List.mem_of_getElem? (i := 7) (by decide +kernel)
set_option maxRecDepth 20000 in
theorem st_rowFirst_1 : Cond.eq (.elem (.static "AirStation" "FIRST_SETTINGS" "[I") (.int 1)) (.int 200) ∈ gvC := List.mem_of_getElem? (i := 8) (by decide +kernel)
set_option maxRecDepth 20000 in
theorem st_rowFirst_2 : Cond.eq (.elem (.static "AirStation" "FIRST_SETTINGS" "[I") (.int 2)) (.int 10000) ∈ gvC := List.mem_of_getElem? (i := 9) (by decide +kernel)
set_option maxRecDepth 20000 in
theorem st_rowFirst_3 : Cond.eq (.elem (.static "AirStation" "FIRST_SETTINGS" "[I") (.int 3)) (.int 5) ∈ gvC := List.mem_of_getElem? (i := 10) (by decide +kernel)
set_option maxRecDepth 20000 in
theorem st_rowFirst_4 : Cond.eq (.elem (.static "AirStation" "FIRST_SETTINGS" "[I") (.int 4)) (.int 3) ∈ gvC := List.mem_of_getElem? (i := 11) (by decide +kernel)
set_option maxRecDepth 20000 in
theorem st_rowFirst_5 : Cond.eq (.elem (.static "AirStation" "FIRST_SETTINGS" "[I") (.int 5)) (.int 2) ∈ gvC := List.mem_of_getElem? (i := 12) (by decide +kernel)
set_option maxRecDepth 20000 in
theorem st_rowFirst_6 : Cond.eq (.elem (.static "AirStation" "FIRST_SETTINGS" "[I") (.int 6)) (.int 100) ∈ gvC := List.mem_of_getElem? (i := 13) (by decide +kernel)
set_option maxRecDepth 20000 in
theorem st_rowFirst_7 : Cond.eq (.elem (.static "AirStation" "FIRST_SETTINGS" "[I") (.int 7)) (.int 480) ∈ gvC := List.mem_of_getElem? (i := 14) (by decide +kernel)
theorem st_rowFirst_e {args : Array Value} {s : State} (hs : ∀ c ∈ gvC, c.before args s = true) : ∀ j : Nat, j < 8 → (Cond.eq (.elem (.static "AirStation" "FIRST_SETTINGS" "[I") (.int (Int32.ofNat j))) (.int (rowFirst j))).before args s = true := by
  intro j hj
  match j, hj with
  | 0, _ => exact hs _ st_rowFirst_0
  | 1, _ => exact hs _ st_rowFirst_1
  | 2, _ => exact hs _ st_rowFirst_2
  | 3, _ => exact hs _ st_rowFirst_3
  | 4, _ => exact hs _ st_rowFirst_4
  | 5, _ => exact hs _ st_rowFirst_5
  | 6, _ => exact hs _ st_rowFirst_6
  | 7, _ => exact hs _ st_rowFirst_7
  | _ + 8, h => exact absurd h (by omega)
set_option maxRecDepth 20000 in
theorem st_rowLeast_a : Cond.arrayOf (.static "AirStation" "LEAST_SETTINGS" "[I") .int ∈ gvC := List.mem_of_getElem? (i := 18) (by decide +kernel)
set_option maxRecDepth 20000 in
theorem st_rowLeast_l : Cond.eq (.length (.static "AirStation" "LEAST_SETTINGS" "[I")) (.int 8) ∈ gvC := List.mem_of_getElem? (i := 19) (by decide +kernel)
set_option maxRecDepth 20000 in
theorem st_rowLeast_0 : Cond.eq (.elem (.static "AirStation" "LEAST_SETTINGS" "[I") (.int 0)) (.int 1000) ∈ gvC := List.mem_of_getElem? (i := 20) (by decide +kernel)
set_option maxRecDepth 20000 in
theorem st_rowLeast_1 : Cond.eq (.elem (.static "AirStation" "LEAST_SETTINGS" "[I") (.int 1)) (.int 10) ∈ gvC := List.mem_of_getElem? (i := 21) (by decide +kernel)
set_option maxRecDepth 20000 in
theorem st_rowLeast_2 : Cond.eq (.elem (.static "AirStation" "LEAST_SETTINGS" "[I") (.int 2)) (.int 2000) ∈ gvC := List.mem_of_getElem? (i := 22) (by decide +kernel)
set_option maxRecDepth 20000 in
theorem st_rowLeast_3 : Cond.eq (.elem (.static "AirStation" "LEAST_SETTINGS" "[I") (.int 3)) (.int 1) ∈ gvC := List.mem_of_getElem? (i := 23) (by decide +kernel)
set_option maxRecDepth 20000 in
theorem st_rowLeast_4 : Cond.eq (.elem (.static "AirStation" "LEAST_SETTINGS" "[I") (.int 4)) (.int 0) ∈ gvC := List.mem_of_getElem? (i := 24) (by decide +kernel)
set_option maxRecDepth 20000 in
theorem st_rowLeast_5 : Cond.eq (.elem (.static "AirStation" "LEAST_SETTINGS" "[I") (.int 5)) (.int 0) ∈ gvC := List.mem_of_getElem? (i := 25) (by decide +kernel)
set_option maxRecDepth 20000 in
theorem st_rowLeast_6 : Cond.eq (.elem (.static "AirStation" "LEAST_SETTINGS" "[I") (.int 6)) (.int 0) ∈ gvC := List.mem_of_getElem? (i := 26) (by decide +kernel)
set_option maxRecDepth 20000 in
theorem st_rowLeast_7 : Cond.eq (.elem (.static "AirStation" "LEAST_SETTINGS" "[I") (.int 7)) (.int 10) ∈ gvC := List.mem_of_getElem? (i := 27) (by decide +kernel)
theorem st_rowLeast_e {args : Array Value} {s : State} (hs : ∀ c ∈ gvC, c.before args s = true) : ∀ j : Nat, j < 8 → (Cond.eq (.elem (.static "AirStation" "LEAST_SETTINGS" "[I") (.int (Int32.ofNat j))) (.int (rowLeast j))).before args s = true := by
  intro j hj
  match j, hj with
  | 0, _ => exact hs _ st_rowLeast_0
  | 1, _ => exact hs _ st_rowLeast_1
  | 2, _ => exact hs _ st_rowLeast_2
  | 3, _ => exact hs _ st_rowLeast_3
  | 4, _ => exact hs _ st_rowLeast_4
  | 5, _ => exact hs _ st_rowLeast_5
  | 6, _ => exact hs _ st_rowLeast_6
  | 7, _ => exact hs _ st_rowLeast_7
  | _ + 8, h => exact absurd h (by omega)
set_option maxRecDepth 20000 in
theorem st_rowMost_a : Cond.arrayOf (.static "AirStation" "GREATEST_SETTINGS" "[I") .int ∈ gvC := List.mem_of_getElem? (i := 29) (by decide +kernel)
set_option maxRecDepth 20000 in
theorem st_rowMost_l : Cond.eq (.length (.static "AirStation" "GREATEST_SETTINGS" "[I")) (.int 8) ∈ gvC := List.mem_of_getElem? (i := 30) (by decide +kernel)
set_option maxRecDepth 20000 in
theorem st_rowMost_0 : Cond.eq (.elem (.static "AirStation" "GREATEST_SETTINGS" "[I") (.int 0)) (.int 12000) ∈ gvC := List.mem_of_getElem? (i := 31) (by decide +kernel)
set_option maxRecDepth 20000 in
theorem st_rowMost_1 : Cond.eq (.elem (.static "AirStation" "GREATEST_SETTINGS" "[I") (.int 1)) (.int 500) ∈ gvC := List.mem_of_getElem? (i := 32) (by decide +kernel)
set_option maxRecDepth 20000 in
theorem st_rowMost_2 : Cond.eq (.elem (.static "AirStation" "GREATEST_SETTINGS" "[I") (.int 2)) (.int 16000) ∈ gvC := List.mem_of_getElem? (i := 33) (by decide +kernel)
set_option maxRecDepth 20000 in
theorem st_rowMost_3 : Cond.eq (.elem (.static "AirStation" "GREATEST_SETTINGS" "[I") (.int 3)) (.int 60) ∈ gvC := List.mem_of_getElem? (i := 34) (by decide +kernel)
set_option maxRecDepth 20000 in
theorem st_rowMost_4 : Cond.eq (.elem (.static "AirStation" "GREATEST_SETTINGS" "[I") (.int 4)) (.int 30) ∈ gvC := List.mem_of_getElem? (i := 35) (by decide +kernel)
set_option maxRecDepth 20000 in
theorem st_rowMost_5 : Cond.eq (.elem (.static "AirStation" "GREATEST_SETTINGS" "[I") (.int 5)) (.int 50) ∈ gvC := List.mem_of_getElem? (i := 36) (by decide +kernel)
set_option maxRecDepth 20000 in
theorem st_rowMost_6 : Cond.eq (.elem (.static "AirStation" "GREATEST_SETTINGS" "[I") (.int 6)) (.int 3000) ∈ gvC := List.mem_of_getElem? (i := 37) (by decide +kernel)
set_option maxRecDepth 20000 in
theorem st_rowMost_7 : Cond.eq (.elem (.static "AirStation" "GREATEST_SETTINGS" "[I") (.int 7)) (.int 5000) ∈ gvC := List.mem_of_getElem? (i := 38) (by decide +kernel)
theorem st_rowMost_e {args : Array Value} {s : State} (hs : ∀ c ∈ gvC, c.before args s = true) : ∀ j : Nat, j < 8 → (Cond.eq (.elem (.static "AirStation" "GREATEST_SETTINGS" "[I") (.int (Int32.ofNat j))) (.int (rowMost j))).before args s = true := by
  intro j hj
  match j, hj with
  | 0, _ => exact hs _ st_rowMost_0
  | 1, _ => exact hs _ st_rowMost_1
  | 2, _ => exact hs _ st_rowMost_2
  | 3, _ => exact hs _ st_rowMost_3
  | 4, _ => exact hs _ st_rowMost_4
  | 5, _ => exact hs _ st_rowMost_5
  | 6, _ => exact hs _ st_rowMost_6
  | 7, _ => exact hs _ st_rowMost_7
  | _ + 8, h => exact absurd h (by omega)
set_option maxRecDepth 20000 in
theorem st_txtG : ∀ q ∈ txtW, Cond.exactly (.string "AirStation" q.1) "java/lang/String" ∈ gvC := by decide +kernel
set_option maxRecDepth 20000 in
theorem st_txtT : ∀ q ∈ txtW, Cond.stringRef "AirStation" q.1 q.2 ∈ lw_tbl := by decide +kernel
set_option maxRecDepth 20000 in
theorem st_ncG : ∀ q ∈ ncW, Cond.not (.castable q.1 q.2) ∈ gvC := by decide +kernel
set_option maxRecDepth 20000 in
theorem st_nestT : ∀ w ∈ nestW, w ∈ lw_tbl := by decide +kernel
set_option maxRecDepth 20000 in
theorem st_nestCT : ∀ w ∈ nestC, w ∈ lw_tbl := by decide +kernel
theorem st_nestO : ∀ w ∈ nestW, w.onTables = true := by decide +kernel
theorem st_nestCO : ∀ w ∈ nestC, w.onTables = true := by decide +kernel
set_option maxRecDepth 20000 in
theorem st_refG : Cond.isRef (.static Bundle.tN "UNASSIGNED_STACK" Bundle.steD) ∈ gvC ∧ Cond.isRef (.static Bundle.tN "SUPPRESSED_SENTINEL" Bundle.listD) ∈ gvC := by decide +kernel
set_option maxRecDepth 20000 in
theorem st_layT : ∀ w ∈ [Cond.laysStatic "AirStation" "FIRST_SETTINGS" "[I", Cond.laysStatic "AirStation" "LEAST_SETTINGS" "[I", Cond.laysStatic "AirStation" "GREATEST_SETTINGS" "[I", Cond.laysStatic Bundle.tN "UNASSIGNED_STACK" Bundle.steD, Cond.laysStatic Bundle.tN "SUPPRESSED_SENTINEL" Bundle.listD, Cond.initialized "AirStation", Cond.initialized Bundle.tN, Cond.arrayOver (.object "AirStation$Compressor"), Cond.arrayOver (.object "AirStation$State")], w ∈ lw_tbl := by decide +kernel
