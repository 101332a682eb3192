theorem law_nw {A : Array Value} {s : State} (hts : ∀ w ∈ lw_tbl, w.before A s = true) : ∀ w ∈ gb_nW, va_Nw w s := fun w h => va_Nw.of (gb_nW_on w h) (hts w (gb_nW_in w h))
theorem law_prim {A : Array Value} {s : State} {ty : FieldType} (hp : ∀ (cA : ClassId), s.vm.findClass ("[" ++ ty.toString) = some cA → va_RA s cA ty) (h : (Cond.arrayClass ty).before A s = true) : ∃ cA, ArrOfT s cA ty ∧ va_RA s cA ty := by
  obtain ⟨cA, kA, comp, h1, h2, h3⟩ := Cond.arrayClass_spec h
  exact ⟨cA, fun n z => ⟨fun k h => (by cases h), kA, h2, comp, h3⟩, hp cA h1⟩
theorem law_objs {A : Array Value} {s : State} {C : String} (h : (Cond.arrayOver (.object C)).before A s = true) : ∃ cA, ArrOfT s cA (.object C) ∧ va_RA s cA (.object C) := by
  obtain ⟨comp, cA, kA, h1, h2, h3, h4, h5⟩ := Cond.arrayOver_spec h
  exact ⟨cA, fun N z => ⟨(fun k h => by cases h), kA, h3, comp, h4⟩, kA, comp, h3, h4, h1, h5⟩
set_option maxRecDepth 100000 in
theorem law_t0 {A : Array Value} {s : State} (hgv : (Jvm.Cond.and given_1 narrow_1).before A s = true) (hl : (Cond.laysStatic "GooseBorder" "FIRST_LINE" "[I").before A s = true) (hini : (Cond.initialized "GooseBorder").before A s = true) : ∃ t, va_Z "GooseBorder" "FIRST_LINE" "[I" (.ref t) (gb_ge s.heap.size) s s.heap ∧ va_T .int t 5 gb_f0 (gb_ge s.heap.size) s s.heap := by
  have hs := flat_of_before _ hgv
  have hA : ∀ a : Nat, a < s.heap.size → ¬ gb_ge s.heap.size a := fun a h => Nat.not_le.mpr h
  have h1 : (Cond.arrayOf (.static "GooseBorder" "FIRST_LINE" "[I") .int).before A s = true := hs _ (List.mem_of_getElem? (i := 5) (by decide +kernel))
  have h2 : (Cond.eq (.length (.static "GooseBorder" "FIRST_LINE" "[I")) (.int 5)).before A s = true := hs _ (List.mem_of_getElem? (i := 6) (by decide +kernel))
  obtain ⟨t, h3, h4⟩ := va_Tof (N := 5) (f := gb_f0) (A := gb_ge s.heap.size) (by decide) h1 (va_eqt h2) (fun j hj => va_eqt (hs _ (va_run (L := flatC (Jvm.Cond.and given_1 narrow_1)) (N := 5) (p := 7) (f := fun j => Cond.eq (.elem (.static "GooseBorder" "FIRST_LINE" "[I") (.int (Int32.ofNat j))) (.int (([0, 3, 12, 17, 18] : List Int32).getD j 0))) (by decide +kernel) j hj))) hA
  exact ⟨t, va_Zref hl hini h3 hA, h4⟩
set_option maxRecDepth 100000 in
theorem law_t1 {A : Array Value} {s : State} (hgv : (Jvm.Cond.and given_1 narrow_1).before A s = true) (hl : (Cond.laysStatic "GooseBorder" "NUMBERS" "[I").before A s = true) (hini : (Cond.initialized "GooseBorder").before A s = true) : ∃ t, va_Z "GooseBorder" "NUMBERS" "[I" (.ref t) (gb_ge s.heap.size) s s.heap ∧ va_T .int t 18 gb_f1 (gb_ge s.heap.size) s s.heap := by
  have hs := flat_of_before _ hgv
  have hA : ∀ a : Nat, a < s.heap.size → ¬ gb_ge s.heap.size a := fun a h => Nat.not_le.mpr h
  have h1 : (Cond.arrayOf (.static "GooseBorder" "NUMBERS" "[I") .int).before A s = true := hs _ (List.mem_of_getElem? (i := 18) (by decide +kernel))
  have h2 : (Cond.eq (.length (.static "GooseBorder" "NUMBERS" "[I")) (.int 18)).before A s = true := hs _ (List.mem_of_getElem? (i := 19) (by decide +kernel))
  obtain ⟨t, h3, h4⟩ := va_Tof (N := 18) (f := gb_f1) (A := gb_ge s.heap.size) (by decide) h1 (va_eqt h2) (fun j hj => va_eqt (hs _ (va_run (L := flatC (Jvm.Cond.and given_1 narrow_1)) (N := 18) (p := 20) (f := fun j => Cond.eq (.elem (.static "GooseBorder" "NUMBERS" "[I") (.int (Int32.ofNat j))) (.int (([3, 5, 1, 2, 2, 2, 3, 2, 1, 0, 0, 1, 1, 2, 2, 1, 1, 2] : List Int32).getD j 0))) (by decide +kernel) j hj))) hA
  exact ⟨t, va_Zref hl hini h3 hA, h4⟩
set_option maxRecDepth 100000 in
theorem law_t2 {A : Array Value} {s : State} (hgv : (Jvm.Cond.and given_1 narrow_1).before A s = true) (hl : (Cond.laysStatic "GooseBorder" "BOUNDS" "[I").before A s = true) (hini : (Cond.initialized "GooseBorder").before A s = true) : ∃ t, va_Z "GooseBorder" "BOUNDS" "[I" (.ref t) (gb_ge s.heap.size) s s.heap ∧ va_T .int t 90 gb_f2 (gb_ge s.heap.size) s s.heap := by
  have hs := flat_of_before _ hgv
  have hA : ∀ a : Nat, a < s.heap.size → ¬ gb_ge s.heap.size a := fun a h => Nat.not_le.mpr h
  have h1 : (Cond.arrayOf (.static "GooseBorder" "BOUNDS" "[I") .int).before A s = true := hs _ (List.mem_of_getElem? (i := 39) (by decide +kernel))
  have h2 : (Cond.eq (.length (.static "GooseBorder" "BOUNDS" "[I")) (.int 90)).before A s = true := hs _ (List.mem_of_getElem? (i := 40) (by decide +kernel))
  obtain ⟨t, h3, h4⟩ := va_Tof (N := 90) (f := gb_f2) (A := gb_ge s.heap.size) (by decide) h1 (va_eqt h2) (fun j hj => va_eqt (hs _ (va_run (L := flatC (Jvm.Cond.and given_1 narrow_1)) (N := 90) (p := 41) (f := fun j => Cond.eq (.elem (.static "GooseBorder" "BOUNDS" "[I") (.int (Int32.ofNat j))) (.int (([20, 9, 9, 0, 0, 4, 4, 60, 1, 99, 999, 0, 0, 0, 0, 7, 4, 0, 0, 0, 7, 4, 0, 0, 0, 7, 4, 0, 0, 0, 7, 7, 4, 0, 0, 7, 60, 0, 0, 0, 10, 0, 0, 0, 0, 0, 0, 0, 0, 0, 0, 0, 0, 0, 0, 4, 0, 0, 0, 0, 9, 0, 0, 0, 0, 999, 99, 0, 0, 0, 999, 99, 0, 0, 0, 99, 0, 0, 0, 0, 999, 0, 0, 0, 0, 4, 999, 0, 0, 0] : List Int32).getD j 0))) (by decide +kernel) j hj))) hA
  exact ⟨t, va_Zref hl hini h3 hA, h4⟩
