/-! WHAT HOLDS OF EVERY STATE: classes, array classes, words of nest mates, statics that nobody writes -/
def gb_TY (cT : Nat → ClassId) : List (ClassId × FieldType) := [(cT 0, .int), (cT 1, .byte), (cT 2, .boolean), (cT 3, .long), (cT 4, .object "GooseBorder$Border"), (cT 5, .object "GooseBorder$Night"), (cT 6, .object "GooseBorder$Law"), (cT 7, .object "GooseBorder$Dawn"), (cT 8, .object "GooseBorder$Told"), (cT 9, .object "GooseBorder$Sheet")]
def gb_ge (b : Nat) : Nat → Prop := fun q => b ≤ q
def gb_fr (b n : Nat) : Nat → Prop := fun q => b ≤ q ∧ q < b + n
def gb_aC : List String := ["GooseBorder$Border", "GooseBorder$Night", "GooseBorder$Law", "GooseBorder$Dawn", "GooseBorder$Told", "GooseBorder$Sheet"]
def gb_f0 (k : Nat) : Value := .int (([0, 3, 12, 17, 18] : List Int32).getD k 0)
def gb_f1 (k : Nat) : Value := .int (([3, 5, 1, 2, 2, 2, 3, 2, 1, 0, 0, 1, 1, 2, 2, 1, 1, 2] : List Int32).getD k 0)
def gb_f2 (k : Nat) : Value := .int (([20, 9, 9, 0, 0, 4, 4, 60, 1, 99, 999, 0, 0, 0, 0, 7, 4, 0, 0, 0, 7, 4, 0, 0, 0, 7, 4, 0, 0, 0, 7, 7, 4, 0, 0, 7, 60, 0, 0, 0, 10, 0, 0, 0, 0, 0, 0, 0, 0, 0, 0, 0, 0, 0, 0, 4, 0, 0, 0, 0, 9, 0, 0, 0, 0, 999, 99, 0, 0, 0, 999, 99, 0, 0, 0, 99, 0, 0, 0, 0, 999, 0, 0, 0, 0, 4, 999, 0, 0, 0] : List Int32).getD k 0)
def gb_nW : List Cond := [(Cond.methodLinkNest "GooseBorder" (11 : Nat) ({ cls := "GooseBorder$Told", name := "<init>", desc := "()V" } : MethodName) "GooseBorder"), (Cond.fieldLinkNest "GooseBorder$Night" (3 : Nat) "GooseBorder" "FIRST_LINE" "[I" "GooseBorder"), (Cond.fieldLinkNest "GooseBorder$Law" (3 : Nat) "GooseBorder" "FIRST_LINE" "[I" "GooseBorder"), (Cond.fieldLinkNest "GooseBorder$Dawn" (3 : Nat) "GooseBorder" "FIRST_LINE" "[I" "GooseBorder"), (Cond.methodLinkNest "GooseBorder" (48 : Nat) ({ cls := "GooseBorder$Reader", name := "<init>", desc := "()V" } : MethodName) "GooseBorder"), (Cond.methodLinkNest "GooseBorder" (55 : Nat) ({ cls := "GooseBorder$Play", name := "<init>", desc := "()V" } : MethodName) "GooseBorder"), (Cond.methodLinkNest "GooseBorder" (62 : Nat) ({ cls := "GooseBorder$Sharing", name := "<init>", desc := "()V" } : MethodName) "GooseBorder"), (Cond.methodLinkNest "GooseBorder" (69 : Nat) ({ cls := "GooseBorder$Flocks", name := "<init>", desc := "()V" } : MethodName) "GooseBorder"), (Cond.declares ({ cls := "GooseBorder$Sheet", name := "clear", desc := "()V" } : MethodName)), (Cond.fieldLinkNest "GooseBorder$Reader" (77 : Nat) "GooseBorder" "FIRST_LINE" "[I" "GooseBorder"), (Cond.declares ({ cls := "GooseBorder$Sheet", name := "hasRoomFor", desc := "(I)Z" } : MethodName)), (Cond.fieldLinkNest "GooseBorder$Reader" (66 : Nat) "GooseBorder" "NUMBERS" "[I" "GooseBorder"), (Cond.fieldLinkNest "GooseBorder$Reader" (101 : Nat) "GooseBorder" "BOUNDS" "[I" "GooseBorder"), (Cond.declares ({ cls := "GooseBorder$Sheet", name := "addLine", desc := "(I[I)V" } : MethodName)), (Cond.fieldLinkNest "GooseBorder$Lines" (33 : Nat) "GooseBorder" "NUMBERS" "[I" "GooseBorder"), (Cond.declares ({ cls := "GooseBorder$Sheet", name := "clashes", desc := "()Z" } : MethodName)), (Cond.declares ({ cls := "GooseBorder$Lines", name := "size", desc := "()I" } : MethodName)), (Cond.declares ({ cls := "GooseBorder$Lines", name := "cell", desc := "(II)I" } : MethodName)), (Cond.declares ({ cls := "GooseBorder$Lines", name := "kind", desc := "(I)I" } : MethodName)), (Cond.declares ({ cls := "GooseBorder$Sheet", name := "copyFrom", desc := "(LGooseBorder$Sheet;)V" } : MethodName)), (Cond.castable "GooseBorder$Border" "GooseBorder$Sheet"), (Cond.castable "GooseBorder$Night" "GooseBorder$Sheet"), (Cond.castable "GooseBorder$Law" "GooseBorder$Sheet"), (Cond.castable "GooseBorder$Dawn" "GooseBorder$Sheet")]
theorem gb_nW_in : ∀ w ∈ gb_nW, w ∈ lw_tbl := List.forall_mem_cons.mpr ⟨List.mem_append_right _ (gb_tt1 (i := 32) rfl), List.forall_mem_cons.mpr ⟨List.mem_append_right _ (gb_tt1 (i := 66) rfl), List.forall_mem_cons.mpr ⟨List.mem_append_right _ (gb_tt1 (i := 92) rfl), List.forall_mem_cons.mpr ⟨List.mem_append_right _ (gb_tt1 (i := 105) rfl), List.forall_mem_cons.mpr ⟨List.mem_append_right _ (gb_tt1 (i := 163) rfl), List.forall_mem_cons.mpr ⟨List.mem_append_right _ (gb_tt1 (i := 191) rfl), List.forall_mem_cons.mpr ⟨List.mem_append_right _ (gb_tt2 (i := 5) rfl), List.forall_mem_cons.mpr ⟨List.mem_append_right _ (gb_tt2 (i := 50) rfl), List.forall_mem_cons.mpr ⟨List.mem_append_right _ (gb_tt2 (i := 130) rfl), List.forall_mem_cons.mpr ⟨List.mem_append_right _ (gb_tt2 (i := 152) rfl), List.forall_mem_cons.mpr ⟨List.mem_append_right _ (gb_tt2 (i := 227) rfl), List.forall_mem_cons.mpr ⟨List.mem_append_right _ (gb_tt3 (i := 16) rfl), List.forall_mem_cons.mpr ⟨List.mem_append_right _ (gb_tt3 (i := 26) rfl), List.forall_mem_cons.mpr ⟨List.mem_append_right _ (gb_tt3 (i := 29) rfl), List.forall_mem_cons.mpr ⟨List.mem_append_right _ (gb_tt3 (i := 42) rfl), List.forall_mem_cons.mpr ⟨List.mem_append_right _ (gb_tt3 (i := 46) rfl), List.forall_mem_cons.mpr ⟨List.mem_append_right _ (gb_tt3 (i := 56) rfl), List.forall_mem_cons.mpr ⟨List.mem_append_right _ (gb_tt3 (i := 64) rfl), List.forall_mem_cons.mpr ⟨List.mem_append_right _ (gb_tt3 (i := 207) rfl), List.forall_mem_cons.mpr ⟨List.mem_append_right _ (gb_tt4 (i := 154) rfl), List.forall_mem_cons.mpr ⟨List.mem_append_right _ (gb_tt8 (i := 54) rfl), List.forall_mem_cons.mpr ⟨List.mem_append_right _ (gb_tt8 (i := 55) rfl), List.forall_mem_cons.mpr ⟨List.mem_append_right _ (gb_tt8 (i := 56) rfl), List.forall_mem_cons.mpr ⟨List.mem_append_right _ (gb_tt8 (i := 57) rfl), fun _ h => absurd h List.not_mem_nil⟩⟩⟩⟩⟩⟩⟩⟩⟩⟩⟩⟩⟩⟩⟩⟩⟩⟩⟩⟩⟩⟩⟩⟩
theorem gb_nW_warm : ∀ w ∈ gb_nW, ∀ s U : State, s.WarmedH U.vm → va_Nw w s → va_Nw w U := List.forall_mem_cons.mpr ⟨fun _ _ hW h => va_Nw.warmM hW h, List.forall_mem_cons.mpr ⟨fun _ _ hW h => va_Nw.warmF hW h, List.forall_mem_cons.mpr ⟨fun _ _ hW h => va_Nw.warmF hW h, List.forall_mem_cons.mpr ⟨fun _ _ hW h => va_Nw.warmF hW h, List.forall_mem_cons.mpr ⟨fun _ _ hW h => va_Nw.warmM hW h, List.forall_mem_cons.mpr ⟨fun _ _ hW h => va_Nw.warmM hW h, List.forall_mem_cons.mpr ⟨fun _ _ hW h => va_Nw.warmM hW h, List.forall_mem_cons.mpr ⟨fun _ _ hW h => va_Nw.warmM hW h, List.forall_mem_cons.mpr ⟨fun _ _ hW h => va_Nw.warmD hW h, List.forall_mem_cons.mpr ⟨fun _ _ hW h => va_Nw.warmF hW h, List.forall_mem_cons.mpr ⟨fun _ _ hW h => va_Nw.warmD hW h, List.forall_mem_cons.mpr ⟨fun _ _ hW h => va_Nw.warmF hW h, List.forall_mem_cons.mpr ⟨fun _ _ hW h => va_Nw.warmF hW h, List.forall_mem_cons.mpr ⟨fun _ _ hW h => va_Nw.warmD hW h, List.forall_mem_cons.mpr ⟨fun _ _ hW h => va_Nw.warmF hW h, List.forall_mem_cons.mpr ⟨fun _ _ hW h => va_Nw.warmD hW h, List.forall_mem_cons.mpr ⟨fun _ _ hW h => va_Nw.warmD hW h, List.forall_mem_cons.mpr ⟨fun _ _ hW h => va_Nw.warmD hW h, List.forall_mem_cons.mpr ⟨fun _ _ hW h => va_Nw.warmD hW h, List.forall_mem_cons.mpr ⟨fun _ _ hW h => va_Nw.warmD hW h, List.forall_mem_cons.mpr ⟨fun _ _ hW h => va_Nw.warmC hW h, List.forall_mem_cons.mpr ⟨fun _ _ hW h => va_Nw.warmC hW h, List.forall_mem_cons.mpr ⟨fun _ _ hW h => va_Nw.warmC hW h, List.forall_mem_cons.mpr ⟨fun _ _ hW h => va_Nw.warmC hW h, fun _ h => absurd h List.not_mem_nil⟩⟩⟩⟩⟩⟩⟩⟩⟩⟩⟩⟩⟩⟩⟩⟩⟩⟩⟩⟩⟩⟩⟩⟩
theorem gb_nW_on : ∀ w ∈ gb_nW, w.onTables = true := List.forall_mem_cons.mpr ⟨rfl, List.forall_mem_cons.mpr ⟨rfl, List.forall_mem_cons.mpr ⟨rfl, List.forall_mem_cons.mpr ⟨rfl, List.forall_mem_cons.mpr ⟨rfl, List.forall_mem_cons.mpr ⟨rfl, List.forall_mem_cons.mpr ⟨rfl, List.forall_mem_cons.mpr ⟨rfl, List.forall_mem_cons.mpr ⟨rfl, List.forall_mem_cons.mpr ⟨rfl, List.forall_mem_cons.mpr ⟨rfl, List.forall_mem_cons.mpr ⟨rfl, List.forall_mem_cons.mpr ⟨rfl, List.forall_mem_cons.mpr ⟨rfl, List.forall_mem_cons.mpr ⟨rfl, List.forall_mem_cons.mpr ⟨rfl, List.forall_mem_cons.mpr ⟨rfl, List.forall_mem_cons.mpr ⟨rfl, List.forall_mem_cons.mpr ⟨rfl, List.forall_mem_cons.mpr ⟨rfl, List.forall_mem_cons.mpr ⟨rfl, List.forall_mem_cons.mpr ⟨rfl, List.forall_mem_cons.mpr ⟨rfl, List.forall_mem_cons.mpr ⟨rfl, fun _ h => absurd h List.not_mem_nil⟩⟩⟩⟩⟩⟩⟩⟩⟩⟩⟩⟩⟩⟩⟩⟩⟩⟩⟩⟩⟩⟩⟩⟩
theorem gb_n32 : (Cond.methodLinkNest "GooseBorder" (11 : Nat) ({ cls := "GooseBorder$Told", name := "<init>", desc := "()V" } : MethodName) "GooseBorder") ∈ gb_nW := List.mem_of_getElem? (i := 0) rfl
theorem gb_n66 : (Cond.fieldLinkNest "GooseBorder$Night" (3 : Nat) "GooseBorder" "FIRST_LINE" "[I" "GooseBorder") ∈ gb_nW := List.mem_of_getElem? (i := 1) rfl
theorem gb_n92 : (Cond.fieldLinkNest "GooseBorder$Law" (3 : Nat) "GooseBorder" "FIRST_LINE" "[I" "GooseBorder") ∈ gb_nW := List.mem_of_getElem? (i := 2) rfl
theorem gb_n105 : (Cond.fieldLinkNest "GooseBorder$Dawn" (3 : Nat) "GooseBorder" "FIRST_LINE" "[I" "GooseBorder") ∈ gb_nW := List.mem_of_getElem? (i := 3) rfl
theorem gb_n163 : (Cond.methodLinkNest "GooseBorder" (48 : Nat) ({ cls := "GooseBorder$Reader", name := "<init>", desc := "()V" } : MethodName) "GooseBorder") ∈ gb_nW := List.mem_of_getElem? (i := 4) rfl
theorem gb_n191 : (Cond.methodLinkNest "GooseBorder" (55 : Nat) ({ cls := "GooseBorder$Play", name := "<init>", desc := "()V" } : MethodName) "GooseBorder") ∈ gb_nW := List.mem_of_getElem? (i := 5) rfl
theorem gb_n245 : (Cond.methodLinkNest "GooseBorder" (62 : Nat) ({ cls := "GooseBorder$Sharing", name := "<init>", desc := "()V" } : MethodName) "GooseBorder") ∈ gb_nW := List.mem_of_getElem? (i := 6) rfl
theorem gb_n290 : (Cond.methodLinkNest "GooseBorder" (69 : Nat) ({ cls := "GooseBorder$Flocks", name := "<init>", desc := "()V" } : MethodName) "GooseBorder") ∈ gb_nW := List.mem_of_getElem? (i := 7) rfl
theorem gb_n370 : (Cond.declares ({ cls := "GooseBorder$Sheet", name := "clear", desc := "()V" } : MethodName)) ∈ gb_nW := List.mem_of_getElem? (i := 8) rfl
theorem gb_n392 : (Cond.fieldLinkNest "GooseBorder$Reader" (77 : Nat) "GooseBorder" "FIRST_LINE" "[I" "GooseBorder") ∈ gb_nW := List.mem_of_getElem? (i := 9) rfl
theorem gb_n467 : (Cond.declares ({ cls := "GooseBorder$Sheet", name := "hasRoomFor", desc := "(I)Z" } : MethodName)) ∈ gb_nW := List.mem_of_getElem? (i := 10) rfl
theorem gb_n496 : (Cond.fieldLinkNest "GooseBorder$Reader" (66 : Nat) "GooseBorder" "NUMBERS" "[I" "GooseBorder") ∈ gb_nW := List.mem_of_getElem? (i := 11) rfl
theorem gb_n506 : (Cond.fieldLinkNest "GooseBorder$Reader" (101 : Nat) "GooseBorder" "BOUNDS" "[I" "GooseBorder") ∈ gb_nW := List.mem_of_getElem? (i := 12) rfl
theorem gb_n509 : (Cond.declares ({ cls := "GooseBorder$Sheet", name := "addLine", desc := "(I[I)V" } : MethodName)) ∈ gb_nW := List.mem_of_getElem? (i := 13) rfl
theorem gb_n522 : (Cond.fieldLinkNest "GooseBorder$Lines" (33 : Nat) "GooseBorder" "NUMBERS" "[I" "GooseBorder") ∈ gb_nW := List.mem_of_getElem? (i := 14) rfl
theorem gb_n526 : (Cond.declares ({ cls := "GooseBorder$Sheet", name := "clashes", desc := "()Z" } : MethodName)) ∈ gb_nW := List.mem_of_getElem? (i := 15) rfl
theorem gb_n536 : (Cond.declares ({ cls := "GooseBorder$Lines", name := "size", desc := "()I" } : MethodName)) ∈ gb_nW := List.mem_of_getElem? (i := 16) rfl
theorem gb_n544 : (Cond.declares ({ cls := "GooseBorder$Lines", name := "cell", desc := "(II)I" } : MethodName)) ∈ gb_nW := List.mem_of_getElem? (i := 17) rfl
theorem gb_n687 : (Cond.declares ({ cls := "GooseBorder$Lines", name := "kind", desc := "(I)I" } : MethodName)) ∈ gb_nW := List.mem_of_getElem? (i := 18) rfl
theorem gb_n874 : (Cond.declares ({ cls := "GooseBorder$Sheet", name := "copyFrom", desc := "(LGooseBorder$Sheet;)V" } : MethodName)) ∈ gb_nW := List.mem_of_getElem? (i := 19) rfl
theorem gb_n1734 : (Cond.castable "GooseBorder$Border" "GooseBorder$Sheet") ∈ gb_nW := List.mem_of_getElem? (i := 20) rfl
theorem gb_n1735 : (Cond.castable "GooseBorder$Night" "GooseBorder$Sheet") ∈ gb_nW := List.mem_of_getElem? (i := 21) rfl
theorem gb_n1736 : (Cond.castable "GooseBorder$Law" "GooseBorder$Sheet") ∈ gb_nW := List.mem_of_getElem? (i := 22) rfl
theorem gb_n1737 : (Cond.castable "GooseBorder$Dawn" "GooseBorder$Sheet") ∈ gb_nW := List.mem_of_getElem? (i := 23) rfl
def gb_St (D : va_G) (cT : Nat → ClassId) (tt : Nat → Nat) (b1 : Nat) (U : State) : Prop :=
  va_K D vwCl (gb_TY cT) U ∧ (∀ w ∈ gb_nW, va_Nw w U) ∧ (∀ C ∈ gb_aC, va_AO C U) ∧
  (va_Z "GooseBorder" "FIRST_LINE" "[I" (.ref (tt 0)) (gb_ge b1) U U.heap ∧ va_T .int (tt 0) 5 gb_f0 (gb_ge b1) U U.heap) ∧
  (va_Z "GooseBorder" "NUMBERS" "[I" (.ref (tt 1)) (gb_ge b1) U U.heap ∧ va_T .int (tt 1) 18 gb_f1 (gb_ge b1) U U.heap) ∧
  (va_Z "GooseBorder" "BOUNDS" "[I" (.ref (tt 2)) (gb_ge b1) U U.heap ∧ va_T .int (tt 2) 90 gb_f2 (gb_ge b1) U U.heap)
section GBS
variable {D : va_G} {cT : Nat → ClassId} {tt : Nat → Nat} {b1 : Nat}
theorem gb_St.calling {U : State} (h : gb_St D cT tt b1 U) (g : JFrame) (mk : MethodId) (a : Array Value) : gb_St D cT tt b1 (U.calling g mk a) := by
  obtain ⟨h1, h2, h3, ⟨h4, h5⟩, ⟨h6, h7⟩, ⟨h8, h9⟩⟩ := h
  exact ⟨va_K.moved (u := U) (U := U.calling g mk a) (Vm.Alike.refl U.vm) h1, fun w hw => va_Nw.same (u := U) (U := U.calling g mk a) (gb_nW_on w hw) rfl (h2 w hw), fun C hC => va_AO.moved (U := U.calling g mk a) (Vm.Alike.refl U.vm) (h3 C hC), ⟨va_Z.moved (U := U.calling g mk a) (Vm.Alike.refl U.vm) h4, va_T.moved (U := U.calling g mk a) (Vm.Alike.refl U.vm) h5⟩, ⟨va_Z.moved (U := U.calling g mk a) (Vm.Alike.refl U.vm) h6, va_T.moved (U := U.calling g mk a) (Vm.Alike.refl U.vm) h7⟩, ⟨va_Z.moved (U := U.calling g mk a) (Vm.Alike.refl U.vm) h8, va_T.moved (U := U.calling g mk a) (Vm.Alike.refl U.vm) h9⟩⟩
theorem gb_St.warm {s U : State} {A : Nat → Prop} {H : Heap} {locs : List Loc} (h : gb_St D cT tt b1 s) (hW : s.WarmedH U.vm) (hS : va_S A s.heap H locs) (hA : ∀ q, A q → b1 ≤ q) (hU : U.heap = H) : gb_St D cT tt b1 U := by
  have hk : ∀ a : Nat, a < s.heap.size → ¬ gb_ge b1 a → U.heap[a]? = s.heap[a]? := fun a h1 h2 => by rw [hU]; exact hS.2.1 a h1 (fun z => h2 (hA a z))
  obtain ⟨h1, h2, h3, ⟨h4, h5⟩, ⟨h6, h7⟩, ⟨h8, h9⟩⟩ := h
  exact ⟨h1.moved hW.alike, fun w hw => gb_nW_warm w hw s U hW (h2 w hw), fun C hC => (h3 C hC).moved hW.alike, ⟨(h4.kept hk).moved hW.alike, (h5.kept hk).moved hW.alike⟩, ⟨(h6.kept hk).moved hW.alike, (h7.kept hk).moved hW.alike⟩, ⟨(h8.kept hk).moved hW.alike, (h9.kept hk).moved hW.alike⟩⟩
end GBS
/-- a method's start and its ends, over heaps -/
def gb_Pc (D : va_G) (cT : Nat → ClassId) (tt : Nat → Nat) (b1 : Nat) (av : List Value) (X : Heap → Prop) : Array Value → State → Prop := va_Pc av (fun U => gb_St D cT tt b1 U ∧ X U.heap)
def gb_Qi (Y : Int32 → Heap → Prop) (A : Nat → Prop) : Array Value → State → Outcome → State → Prop := va_Qi (fun r (u : Int32) => u = r) (fun u t => Y u t.heap) A
def gb_Ql (Y : Int64 → Heap → Prop) (A : Nat → Prop) : Array Value → State → Outcome → State → Prop := va_Ql (fun r (u : Int64) => u = r) (fun u t => Y u t.heap) A
def gb_Qv (Y : Heap → Prop) (A : Nat → Prop) : Array Value → State → Outcome → State → Prop := va_Qv (fun _ : Unit => True) (fun _ t => Y t.heap) A
def gb_Qq (Y : Option Nat → Heap → Prop) (A : Nat → Prop) : Array Value → State → Outcome → State → Prop := va_Qq (fun r (u : Option Nat) => u = r) (fun u t => Y u t.heap) A
theorem gb_rv {Y : Heap → Prop} {A : Nat → Prop} {a : Array Value} {s t : State} {H : Heap} {locs : List Loc} (ht : t.heap = H) (hY : Y H) (hS : va_S A s.heap H locs) : gb_Qv Y A a s (.returned none) t := ⟨⟨(), rfl, trivial, by show Y t.heap; rw [ht]; exact hY⟩, hS.F ht⟩
theorem gb_ri {Y : Int32 → Heap → Prop} {A : Nat → Prop} {a : Array Value} {s t : State} {H : Heap} {locs : List Loc} {v : Int32} (ht : t.heap = H) (hY : Y v H) (hS : va_S A s.heap H locs) : gb_Qi Y A a s (.returned (some (.int v))) t := ⟨⟨v, v, rfl, rfl, by show Y v t.heap; rw [ht]; exact hY⟩, hS.F ht⟩
theorem gb_rl {Y : Int64 → Heap → Prop} {A : Nat → Prop} {a : Array Value} {s t : State} {H : Heap} {locs : List Loc} {v : Int64} (ht : t.heap = H) (hY : Y v H) (hS : va_S A s.heap H locs) : gb_Ql Y A a s (.returned (some (.long v))) t := ⟨⟨v, v, rfl, rfl, by show Y v t.heap; rw [ht]; exact hY⟩, hS.F ht⟩
theorem gb_rq {Y : Option Nat → Heap → Prop} {A : Nat → Prop} {a : Array Value} {s t : State} {H : Heap} {locs : List Loc} (v : Option Nat) (ht : t.heap = H) (hY : Y v H) (hS : va_S A s.heap H locs) : gb_Qq Y A a s (.returned (some (va_rf v))) t := ⟨⟨v, v, rfl, rfl, by show Y v t.heap; rw [ht]; exact hY⟩, hS.F ht⟩
theorem gb_blind {D : va_G} {cT : Nat → ClassId} {tt : Nat → Nat} {b1 : Nat} {av : List Value} {X : Heap → Prop} : FrameBlind (gb_Pc D cT tt b1 av X) := fun a U g mk h => ⟨h.1, h.2.1.calling g mk a, h.2.2⟩
theorem gb_preV {D : va_G} {cT : Nat → ClassId} {tt : Nat → Nat} {b1 : Nat} {s : State} {H : Heap} {A : Nat → Prop} {locs : List Loc} {ws : va_W} {a ci q0 : Nat} {r : vw_C} {fs : List Value} {X : Heap → Prop} {As : List Value} (hSt : gb_St D cT tt b1 s) (hP : va_P D vwCl ws H) (hc : vwCl[ci]? = some r) (he : ws[q0]? = some (a, .inr (ci, fs))) (hS : va_S A s.heap H locs) (hA : ∀ q, A q → b1 ≤ q) (hX : X H) : PreV s H r.1 a (gb_Pc D cT tt b1 (.ref a :: As) X) As :=
  ⟨gb_blind, va_recv hSt.1 hP hc he, fun U hU hW => ⟨rfl, hSt.warm hW hS hA hU, by rw [hU]; exact hX⟩⟩
theorem gb_preS {D : va_G} {cT : Nat → ClassId} {tt : Nat → Nat} {b1 : Nat} {s : State} {H : Heap} {A : Nat → Prop} {locs : List Loc} {X : Heap → Prop} {As : List Value} (hSt : gb_St D cT tt b1 s) (hS : va_S A s.heap H locs) (hA : ∀ q, A q → b1 ≤ q) (hX : X H) : PreS s H (gb_Pc D cT tt b1 As X) As :=
  ⟨gb_blind, fun U hU hW => ⟨rfl, hSt.warm hW hS hA hU, by rw [hU]; exact hX⟩⟩
theorem gb_gV {own C : String} {idx : Nat} {y : MethodName} {c0 : Cond} (h1 : Cond.methodLink own idx y ∈ gb_wA) (h2 : Cond.instanceMethod y ∈ gb_wA) (h3 : Cond.selects C y y ∈ gb_wA) (h4 : Cond.initialized C ∈ gb_wA) (h5 : c0 ∈ gb_wA) : GoodIn gb_wA (wsV own idx C y (c0 :: gb_wA)) := by
  have key : ∀ w ∈ wsV own idx C y (c0 :: gb_wA), w ∈ gb_wA := by
    intro w h
    simp only [wsV, List.cons_append, List.nil_append, List.mem_cons] at h
    rcases h with h | h | h | h | h | h
    · rw [h]; exact h1
    · rw [h]; exact h2
    · rw [h]; exact h3
    · rw [h]; exact h4
    · rw [h]; exact h5
    · exact h
  exact fun w h => gb_good (fun _ h => h) w (key w h)
theorem gb_gS {own : String} {idx : Nat} {y : MethodName} {c0 : Cond} (h1 : Cond.methodLink own idx y ∈ gb_wA) (h2 : Cond.static y ∈ gb_wA) (h4 : Cond.initialized y.cls ∈ gb_wA) (h5 : c0 ∈ gb_wA) : GoodIn gb_wA (va_wsS own idx y (c0 :: gb_wA)) := by
  have key : ∀ w ∈ va_wsS own idx y (c0 :: gb_wA), w ∈ gb_wA := by
    intro w h
    simp only [va_wsS, List.cons_append, List.nil_append, List.mem_cons] at h
    rcases h with h | h | h | h | h
    · rw [h]; exact h1
    · rw [h]; exact h2
    · rw [h]; exact h4
    · rw [h]; exact h5
    · exact h
  exact fun w h => gb_good (fun _ h => h) w (key w h)
theorem gb_gU {own C owner : String} {idx : Nat} {x y : MethodName} {c0 : Cond} (h1 : Cond.methodLink own idx x ∈ gb_wA) (h2 : Cond.sameMethod x.cls owner x.name x.desc ∈ gb_wA) (h3 : Cond.selects C x y ∈ gb_wA) (h4 : Cond.instanceMethod y ∈ gb_wA) (h5 : Cond.initialized y.cls ∈ gb_wA) (h6 : c0 ∈ gb_wA) : GoodIn gb_wA (va_wsU own idx C owner x y (c0 :: gb_wA)) := by
  have key : ∀ w ∈ va_wsU own idx C owner x y (c0 :: gb_wA), w ∈ gb_wA := by
    intro w h
    simp only [va_wsU, List.cons_append, List.nil_append, List.mem_cons] at h
    rcases h with h | h | h | h | h | h | h
    · rw [h]; exact h1
    · rw [h]; exact h2
    · rw [h]; exact h3
    · rw [h]; exact h4
    · rw [h]; exact h5
    · rw [h]; exact h6
    · exact h
  exact fun w h => gb_good (fun _ h => h) w (key w h)
theorem gb_ss {cs : List va_E} {i : Nat} {e0 x : va_E} (h : cs[i]? = some e0) : (cs.set i x)[i]? = some x := List.getElem?_set_self (List.getElem?_eq_some_iff.mp h).1
theorem gb_sn {cs : List va_E} {i j : Nat} {e x : va_E} (hij : i ≠ j) (h : cs[j]? = some e) : (cs.set i x)[j]? = some e := (List.getElem?_set_ne hij).trans h
theorem gb_gI {c0 : Cond} (h5 : c0 ∈ gb_wA) : GoodIn gb_wA (c0 :: gb_wA) := gb_goodc (fun _ h => h) h5
theorem gb_in {i : Int32} {n : Nat} (h : decide (¬ (i < 0 ∨ n ≤ i.toNatClampNeg)) = true) : vp_in i n := by
  unfold vp_in
  exact of_decide_eq_true h
/-- a block is cut at a place, and glued again -/
theorem gb_drop {D : va_G} {cl : List vw_C} {b : Nat} {cs suf : List va_E} {H : Heap} (h : va_P D cl (gb_wl b cs) H) (k : Nat) (hs : cs.drop k = suf) (hk : (cs.take k).length = k) : va_P D cl (gb_wl (b + k) suf) H := by
  rw [← List.take_append_drop k cs, gb_app, hk] at h
  rw [← hs]
  intro j q hj
  refine h ((gb_wl b (cs.take k)).length + j) q ?_
  rw [List.getElem?_append_right (by omega), show (gb_wl b (cs.take k)).length + j - (gb_wl b (cs.take k)).length = j by omega]
  exact hj
theorem gb_glue {D : va_G} {cl : List vw_C} {b : Nat} {cs pre post : List va_E} {H H1 : Heap} (h : va_P D cl (gb_wl b cs) H) (k : Nat) (hp : cs.take k = pre) (hk : pre.length = k) (hkeep : ∀ q, q < H.size → ¬ gb_ge (b + k) q → H1[q]? = H[q]?) (h1 : va_P D cl (gb_wl (b + k) post) H1) : va_P D cl (gb_wl b (pre ++ post)) H1 := by
  rw [gb_app, hk]
  refine va_P.app (fun j q hj => ?_) h1
  have h9 := gb_of hj
  have hlt : j < pre.length := (List.getElem?_eq_some_iff.mp h9.2).1
  have hc : cs[j]? = some q.2 := by
    rw [← hp] at h9
    rw [← h9.2, List.getElem?_take, if_pos (by omega)]
  have hq : (gb_wl b cs)[j]? = some q := by
    rw [gb_get, hc]
    show some (b + j, q.2) = some q
    rw [← h9.1]
  refine (h j q hq).kept (hkeep _ ((h j q hq).lt) (fun z => ?_))
  have : b + k ≤ q.1 := z
  omega
section GBC
variable {p : Program} {l : Launch} {e : Env} {R : Room} {s : State} {m : MethodId} {args : Array Value} {below : List Frame} {meth : Method} {c : Code} {H : Heap} {locs : List Loc} {cells slots : Nat} {Q : State → Prop}
variable {pc : Nat} {ls : Array Slot} {rest st0 : List Value} {a : Array Value} {A0 A1 : Nat → Prop} {H0 : Heap} {mc ms : Nat} {free : Addr → Prop}
theorem gb_calli {Y : Int32 → Heap → Prop} (hr : va_Run p l e R s m args below meth c H locs cells slots mc ms (F0 m pc ls st0) rest (gb_Qi Y A1 a) free) (hS : va_S A0 H0 H locs) (hA : ∀ q, A1 q → A0 q) (hf : ∀ q, free q → A0 q)
    (kk : ∀ (r : Int32) (H1 : Heap) (locs1 : List Loc), Y r H1 → (∀ q : Nat, q < H.size → ¬ A1 q → H1[q]? = H[q]?) → va_S A0 H0 H1 locs1 → W p l e R s m args below meth c H1 locs1 (cells + mc) (slots + ms) Q (F0 m (pc + 3) ls (.int r :: rest))) : W p l e R s m args below meth c H locs cells slots Q (F0 m pc ls st0) :=
  va_calli hr hS (fun q _ h => hA q h) hf (fun r u t H1 locs1 ht _ hw hB _ hk1 hS1 => kk r H1 locs1 (by have hw2 : u = r := hw; subst hw2; rw [← ht]; exact hB) hk1 hS1)
theorem gb_calll {Y : Int64 → Heap → Prop} (hr : va_Run p l e R s m args below meth c H locs cells slots mc ms (F0 m pc ls st0) rest (gb_Ql Y A1 a) free) (hS : va_S A0 H0 H locs) (hA : ∀ q, A1 q → A0 q) (hf : ∀ q, free q → A0 q)
    (kk : ∀ (r : Int64) (H1 : Heap) (locs1 : List Loc), Y r H1 → (∀ q : Nat, q < H.size → ¬ A1 q → H1[q]? = H[q]?) → va_S A0 H0 H1 locs1 → W p l e R s m args below meth c H1 locs1 (cells + mc) (slots + ms) Q (F0 m (pc + 3) ls (.long r :: rest))) : W p l e R s m args below meth c H locs cells slots Q (F0 m pc ls st0) :=
  va_calll hr hS (fun q _ h => hA q h) hf (fun r u t H1 locs1 ht _ hw hB _ hk1 hS1 => kk r H1 locs1 (by have hw2 : u = r := hw; subst hw2; rw [← ht]; exact hB) hk1 hS1)
theorem gb_callv {Y : Heap → Prop} (hr : va_Run p l e R s m args below meth c H locs cells slots mc ms (F0 m pc ls st0) rest (gb_Qv Y A1 a) free) (hS : va_S A0 H0 H locs) (hA : ∀ q, A1 q → A0 q) (hf : ∀ q, free q → A0 q)
    (kk : ∀ (H1 : Heap) (locs1 : List Loc), Y H1 → (∀ q : Nat, q < H.size → ¬ A1 q → H1[q]? = H[q]?) → va_S A0 H0 H1 locs1 → W p l e R s m args below meth c H1 locs1 (cells + mc) (slots + ms) Q (F0 m (pc + 3) ls rest)) : W p l e R s m args below meth c H locs cells slots Q (F0 m pc ls st0) :=
  va_callv hr hS (fun q _ h => hA q h) hf (fun u t H1 locs1 ht _ hw hB _ hk1 hS1 => kk H1 locs1 (by rw [← ht]; exact hB) hk1 hS1)
theorem gb_callq {Y : Option Nat → Heap → Prop} (hr : va_Run p l e R s m args below meth c H locs cells slots mc ms (F0 m pc ls st0) rest (gb_Qq Y A1 a) free) (hS : va_S A0 H0 H locs) (hA : ∀ q, A1 q → A0 q) (hf : ∀ q, free q → A0 q)
    (kk : ∀ (r : Option Nat) (H1 : Heap) (locs1 : List Loc), Y r H1 → (∀ q : Nat, q < H.size → ¬ A1 q → H1[q]? = H[q]?) → va_S A0 H0 H1 locs1 → W p l e R s m args below meth c H1 locs1 (cells + mc) (slots + ms) Q (F0 m (pc + 3) ls (va_rf r :: rest))) : W p l e R s m args below meth c H locs cells slots Q (F0 m pc ls st0) :=
  va_callq hr hS (fun q _ h => hA q h) hf (fun r u t H1 locs1 ht _ hw hB _ hk1 hS1 => kk r H1 locs1 (by have hw2 : u = r := hw; subst hw2; rw [← ht]; exact hB) hk1 hS1)
end GBC
section GBL
variable {p : Program} {l : Launch} {e : Env} {R : Room} {s : State} {m : MethodId} {args : Array Value} {below : List Frame} {meth : Method} {c : Code} {H : Heap} {locs : List Loc} {cells slots : Nat} {Q : State → Prop}
variable {cc : ByteArray} {pc : Nat} {ls : Array Slot} {rest : List Value} {D : va_G} {cl : List vw_C} {tys : List (ClassId × FieldType)} {ws : va_W} {a : Nat}
theorem gb_iald (hexec : p.tables.exec = Jvm.exec) (hb : c.code = cc) (hK : va_K D cl tys s) (hP : va_P D cl ws H) (q0 t0 : Nat) {cA : ClassId} {n : Nat} {f : Nat → Int32} (ha : ws[q0]? = some (a, .inl (cA, n, .inl f))) (ht : tys[t0]? = some (cA, .int)) {i v : Int32} (hin : vp_in i n) (hv : f i.toNatClampNeg = v) (hdg : decode cc pc = .ok (.iaload, 1))
    (kk : W p l e R s m args below meth c H locs cells slots Q (F0 m (pc + 1) ls (.int v :: rest))) : W p l e R s m args below meth c H locs cells slots Q (F0 m pc ls (.int i :: .ref a :: rest)) := by
  subst hv
  exact va_iald hexec hb hK hP q0 t0 ha ht hin hdg kk
theorem gb_zald (hexec : p.tables.exec = Jvm.exec) (hb : c.code = cc) (hK : va_K D cl tys s) (hP : va_P D cl ws H) (q0 t0 : Nat) {cA : ClassId} {n : Nat} {f : Nat → Int32} (ha : ws[q0]? = some (a, .inl (cA, n, .inl f))) (ht : tys[t0]? = some (cA, .boolean)) {i v : Int32} (hin : vp_in i n) (hv : f i.toNatClampNeg = v) (hdg : decode cc pc = .ok (.baload, 1))
    (kk : W p l e R s m args below meth c H locs cells slots Q (F0 m (pc + 1) ls (.int v :: rest))) : W p l e R s m args below meth c H locs cells slots Q (F0 m pc ls (.int i :: .ref a :: rest)) := by
  subst hv
  exact va_zald hexec hb hK hP q0 t0 ha ht hin hdg kk
theorem gb_aald (hexec : p.tables.exec = Jvm.exec) (hb : c.code = cc) (hK : va_K D cl tys s) (hP : va_P D cl ws H) (q0 t0 : Nat) {cA : ClassId} {C : String} {n : Nat} {f : Nat → Option Nat} (ha : ws[q0]? = some (a, .inl (cA, n, .inr (.inr (.inr (.inr f)))))) (ht : tys[t0]? = some (cA, .object C)) {i : Int32} {v : Value} (hin : vp_in i n) (hv : va_rf (f i.toNatClampNeg) = v) (hdg : decode cc pc = .ok (.aaload, 1))
    (kk : W p l e R s m args below meth c H locs cells slots Q (F0 m (pc + 1) ls (v :: rest))) : W p l e R s m args below meth c H locs cells slots Q (F0 m pc ls (.int i :: .ref a :: rest)) := by
  subst hv
  exact va_aldq hexec hb hK hP q0 t0 ha ht hin hdg kk
end GBL
