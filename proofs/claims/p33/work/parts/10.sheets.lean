theorem dX0_init_0 : decode cX0_init 0 = .ok (.aload_n 0, 1) := dc_42 (show ((cX0_init.data.toList.drop 0).take 1).map UInt8.toNat = [42] by decide +kernel)
theorem dX0_init_1 : decode cX0_init 1 = .ok (.bipush 58, 2) := dc_16 (show ((cX0_init.data.toList.drop 1).take 2).map UInt8.toNat = [16, 58] by decide +kernel) rfl
theorem dX0_init_3 : decode cX0_init 3 = .ok (.invokespecial 5, 3) := dc_183 (show ((cX0_init.data.toList.drop 3).take 3).map UInt8.toNat = [183, 0, 5] by decide +kernel) rfl
theorem dX9_init_0 : decode cX9_init 0 = .ok (.aload_n 0, 1) := dc_42 (show ((cX9_init.data.toList.drop 0).take 1).map UInt8.toNat = [42] by decide +kernel)
theorem dX9_init_1 : decode cX9_init 1 = .ok (.invokespecial 1, 3) := dc_183 (show ((cX9_init.data.toList.drop 1).take 3).map UInt8.toNat = [183, 0, 1] by decide +kernel) rfl
theorem w_45 : (Cond.methodLink "GooseBorder$Sheet" (1 : Nat) ({ cls := "java/lang/Object", name := "<init>", desc := "()V" } : MethodName)) ∈ gb_wA := gb_t1 45 rfl rfl
theorem w_28 : (Cond.instanceMethod ({ cls := "java/lang/Object", name := "<init>", desc := "()V" } : MethodName)) ∈ gb_wA := gb_t1 28 rfl rfl
theorem w_29 : (Cond.code ({ cls := "java/lang/Object", name := "<init>", desc := "()V" } : MethodName) object_method_1_code (1 : Nat) (Option.none : Option FieldType)) ∈ gb_wA := gb_t1 29 rfl rfl
theorem dX9_init_4 : decode cX9_init 4 = .ok (.aload_n 0, 1) := dc_42 (show ((cX9_init.data.toList.drop 4).take 1).map UInt8.toNat = [42] by decide +kernel)
theorem dX9_init_5 : decode cX9_init 5 = .ok (.iconst 1, 1) := dc_4 (show ((cX9_init.data.toList.drop 5).take 1).map UInt8.toNat = [4] by decide +kernel)
theorem dX9_init_6 : decode cX9_init 6 = .ok (.iload_n 1, 1) := dc_27 (show ((cX9_init.data.toList.drop 6).take 1).map UInt8.toNat = [27] by decide +kernel)
theorem dX9_init_7 : decode cX9_init 7 = .ok (.invokestatic 7, 3) := dc_184 (show ((cX9_init.data.toList.drop 7).take 3).map UInt8.toNat = [184, 0, 7] by decide +kernel) rfl
theorem w_46 : (Cond.methodLink "GooseBorder$Sheet" (7 : Nat) ({ cls := "java/lang/Math", name := "max", desc := "(II)I" } : MethodName)) ∈ gb_wA := gb_t1 46 rfl rfl
theorem w_47 : (Cond.static ({ cls := "java/lang/Math", name := "max", desc := "(II)I" } : MethodName)) ∈ gb_wA := gb_t1 47 rfl rfl
theorem w_5 : (Cond.initialized "java/lang/Math") ∈ gb_wA := gb_t1 5 rfl rfl
theorem w_48 : (Cond.code ({ cls := "java/lang/Math", name := "max", desc := "(II)I" } : MethodName) prog_16_method_65_code (2 : Nat) (Option.some FieldType.int)) ∈ gb_wA := gb_t1 48 rfl rfl
theorem dX9_init_10 : decode cX9_init 10 = .ok (.newarray .int, 2) := dc_188_10 (show ((cX9_init.data.toList.drop 10).take 2).map UInt8.toNat = [188, 10] by decide +kernel)
theorem w_59 : (Cond.arrayClass FieldType.int) ∈ gb_wA := gb_t1 59 rfl rfl
theorem dX9_init_12 : decode cX9_init 12 = .ok (.putfield 13, 3) := dc_181 (show ((cX9_init.data.toList.drop 12).take 3).map UInt8.toNat = [181, 0, 13] by decide +kernel) rfl
theorem w_56 : (Cond.laysFinal "GooseBorder$Border" "GooseBorder$Sheet" "cells" "[I") ∈ gb_wA := gb_t1 56 rfl rfl
theorem i_X0 : ∀ w ∈ u_ws RX0 TX0 1, w ∈ gb_wA := (List.forall_mem_cons.mpr ⟨w_56, fun _ h => absurd h List.not_mem_nil⟩ : ∀ w ∈ ([Cond.laysFinal "GooseBorder$Border" "GooseBorder$Sheet" "cells" "[I"] : List Cond), w ∈ gb_wA)
theorem w_51 : (Cond.fieldLink "GooseBorder$Sheet" (13 : Nat) "GooseBorder$Sheet" "cells" "[I") ∈ gb_wA := gb_t1 51 rfl rfl
theorem dX9_init_15 : decode cX9_init 15 = .ok (.return_, 1) := dc_177 (show ((cX9_init.data.toList.drop 15).take 1).map UInt8.toNat = [177] by decide +kernel)
set_option maxHeartbeats 4000000 in
set_option maxRecDepth 100000 in
theorem k_X9_init (l : Launch) (D : va_G) (cT : Nat → ClassId) (tt : Nat → Nat) (b1 b : Nat) (hb1 : b1 ≤ b) : Met l yX9_init (.code yX9_init cX9_init 2 none :: gb_wA) ({ frames := 1, cells := 1, slots := 58, locals := 14 }) (gb_Pc D cT tt b1 [.ref (b + 0), .int 58] (fun h => va_P D vwCl (gb_wl b [.inr (0, [.null])]) h ∧ Array.size h = b + 1)) (gb_Qv (fun h => va_P D vwCl (gb_wl b [.inr (0, [.ref (b + 1)]), .inl (cT 0, 58, .inl (fun _ => 0))]) h ∧ Array.size h = b + 2) (gb_ge b)) 1 58 (gb_ge b) := by
  refine Met.ofW (cc := cX9_init) (maxL := 2) (ret := none) (by decide) rfl ?_
  intro p e s m args below meth c s₁ B hml hv
  obtain ⟨rfl, hSt, hP, hz⟩ := hv
  have hx := B.exec
  have hb := B.bytes
  have hr := B.returns
  have hts := atoms_spec (ws := .code yX9_init cX9_init 2 none :: gb_wA) B.pre
  have hq : ∀ w ∈ gb_wA, w.before _ s = true := fun w h => hts w (List.mem_cons_of_mem _ h)
  have hown : s.vm.findClass RX9 = some m.cls := findClass_of_methodNamed B.named
  have hlocks := B.notSynchronized
  have hin : meth.name = "<init>" := (name_of_methodNamed B.named B.method).1
  have hK := hSt.1
  have hS : va_S (gb_ge b) s.heap s.heap [] := va_S.rf
  have hl := lv_entry ([.ref (b + 0), .int 58]) (n := 2) (Nat.le_of_ble_eq_true rfl)
  rw [lg_entry_eq]
  generalize (lg_sl ([.ref (b + 0), .int 58]) ++ List.replicate (2 - (lg_sl ([.ref (b + 0), .int 58])).length) Slot.unset).toArray = ls at hl ⊢
  have hl : lv_has ls 2 [(0, .ref (b + 0)), (1, .int 58)] := hl
  refine lv_aload_n hx hb dX9_init_0 rfl (lv_at hl 0 rfl) ?_
  refine W.objInit hx hb hown (hq _ w_45) (hq _ w_28) (hq _ w_29) rfl (by rw [hml]; exact hl.1) rfl dX9_init_1 (Nat.le_of_ble_eq_true rfl) (Nat.le_of_ble_eq_true rfl) ?_
  refine W.eq (g2 := F0 m 4 ls []) rfl ?_
  refine lv_aload_n hx hb dX9_init_4 rfl (lv_at hl 0 rfl) ?_
  refine lv_iconst (v := 1) hx hb dX9_init_5 (by decide) ?_
  refine lv_iload_n hx hb dX9_init_6 rfl (lv_at hl 1 rfl) ?_
  refine va_mmax hx hb (hml.trans hl.1.symm) hown (hq _ w_46) (hq _ w_47) (hq _ w_5) (hq _ w_48) (Nat.le_of_ble_eq_true rfl) (Nat.le_of_ble_eq_true rfl) (Nat.le_of_ble_eq_true rfl) (Nat.le_of_ble_eq_true rfl) dX9_init_7 ?_
  refine W.eq (g2 := F0 m 10 ls [.int 58, .ref (b + 0)]) (congrArg (fun v => F0 m 10 ls (Value.int v :: [.ref (b + 0)])) (by decide)) ?_
  refine gb_newa (atype := .int) (a0 := (58, .inl (fun _ => 0))) hx hb (hq _ w_59) (ty := .int) rfl hK hP hS 1 hz rfl 0 rfl (fun h => h) (fun _ => rfl) (by decide) (by decide) (Nat.le_of_ble_eq_true rfl) (Nat.le_of_ble_eq_true rfl) (Nat.le_of_ble_eq_true rfl) dX9_init_10 (fun H hP hz hS => ?_)
  have hP : va_P D vwCl (gb_wl b [.inr (0, [.null]), .inl (cT 0, 58, .inl (fun _ => 0))]) H := hP
  refine W.widen (k := 1) (n := 58) (Nat.le_of_ble_eq_true rfl) (Nat.le_of_ble_eq_true rfl) ?_
  refine gb_putF (ci := 0) (v := (.ref (b + 1))) (ty := .array .int) (C := RX0) (T := TX0) (N := 1) hx hb hq i_X0 tyX0 tyX0_ok nmX0 hown hK hP (fun k _ => Nat.le_add_right b k) hS hz 0 rfl rfl 0 (by decide) (hq _ w_51) (fun _ h9 => h9) rfl hin rfl (by decide +kernel) rfl rfl (Nat.le_of_ble_eq_true rfl) dX9_init_12 (fun H locs hP hz hS => ?_)
  have hP : va_P D vwCl (gb_wl b [.inr (0, [.ref (b + 1)]), .inl (cT 0, 58, .inl (fun _ => 0))]) H := hP
  exact W.vret hx hb hr (fun t ht hW => gb_rv ht ⟨hP, hz⟩ hS) hS.2.2 dX9_init_15
theorem w_44 : (Cond.code ({ cls := "GooseBorder$Sheet", name := "<init>", desc := "(I)V" } : MethodName) prog_11_method_1_code (2 : Nat) (Option.none : Option FieldType)) ∈ gb_wA := gb_t1 44 rfl rfl
theorem w_3 : (Cond.initialized "GooseBorder$Sheet") ∈ gb_wA := gb_t1 3 rfl rfl
theorem w_42 : (Cond.methodLink "GooseBorder$Border" (5 : Nat) ({ cls := "GooseBorder$Sheet", name := "<init>", desc := "(I)V" } : MethodName)) ∈ gb_wA := gb_t1 42 rfl rfl
theorem w_43 : (Cond.instanceMethod ({ cls := "GooseBorder$Sheet", name := "<init>", desc := "(I)V" } : MethodName)) ∈ gb_wA := gb_t1 43 rfl rfl
theorem dX0_init_6 : decode cX0_init 6 = .ok (.aload_n 0, 1) := dc_42 (show ((cX0_init.data.toList.drop 6).take 1).map UInt8.toNat = [42] by decide +kernel)
theorem dX0_init_7 : decode cX0_init 7 = .ok (.getfield 11, 3) := dc_180 (show ((cX0_init.data.toList.drop 7).take 3).map UInt8.toNat = [180, 0, 11] by decide +kernel) rfl
theorem w_50 : (Cond.sameField "GooseBorder$Border" "GooseBorder$Sheet" "cells" "[I") ∈ gb_wA := gb_t1 50 rfl rfl
theorem w_49 : (Cond.fieldLink "GooseBorder$Border" (11 : Nat) "GooseBorder$Border" "cells" "[I") ∈ gb_wA := gb_t1 49 rfl rfl
theorem dX0_init_10 : decode cX0_init 10 = .ok (.iconst 2, 1) := dc_5 (show ((cX0_init.data.toList.drop 10).take 1).map UInt8.toNat = [5] by decide +kernel)
theorem dX0_init_11 : decode cX0_init 11 = .ok (.iconst (-1), 1) := dc_2 (show ((cX0_init.data.toList.drop 11).take 1).map UInt8.toNat = [2] by decide +kernel)
theorem dX0_init_12 : decode cX0_init 12 = .ok (.iastore, 1) := dc_79 (show ((cX0_init.data.toList.drop 12).take 1).map UInt8.toNat = [79] by decide +kernel)
theorem dX0_init_13 : decode cX0_init 13 = .ok (.return_, 1) := dc_177 (show ((cX0_init.data.toList.drop 13).take 1).map UInt8.toNat = [177] by decide +kernel)
set_option maxHeartbeats 4000000 in
set_option maxRecDepth 100000 in
theorem k_X0_init (l : Launch) (D : va_G) (cT : Nat → ClassId) (tt : Nat → Nat) (b1 b : Nat) (hb1 : b1 ≤ b) : Met l yX0_init (.code yX0_init cX0_init 1 none :: gb_wA) ({ frames := 2, cells := 1, slots := 58, locals := 35 }) (gb_Pc D cT tt b1 [.ref (b + 0)] (fun h => va_P D vwCl (gb_wl b [.inr (0, [.null])]) h ∧ Array.size h = b + 1)) (gb_Qv (fun h => va_P D vwCl (gb_wl b [.inr (0, [.ref (b + 1)]), .inl (cT 0, 58, .inl (upd (fun _ => 0) 2 (-1)))]) h ∧ Array.size h = b + 2) (gb_ge b)) 1 58 (gb_ge b) := by
  refine Met.ofW (cc := cX0_init) (maxL := 1) (ret := none) (by decide) rfl ?_
  intro p e s m args below meth c s₁ B hml hv
  obtain ⟨rfl, hSt, hP, hz⟩ := hv
  have hx := B.exec
  have hb := B.bytes
  have hr := B.returns
  have hts := atoms_spec (ws := .code yX0_init cX0_init 1 none :: gb_wA) B.pre
  have hq : ∀ w ∈ gb_wA, w.before _ s = true := fun w h => hts w (List.mem_cons_of_mem _ h)
  have hown : s.vm.findClass RX0 = some m.cls := findClass_of_methodNamed B.named
  have hlocks := B.notSynchronized
  have hin : meth.name = "<init>" := (name_of_methodNamed B.named B.method).1
  have hK := hSt.1
  have hS : va_S (gb_ge b) s.heap s.heap [] := va_S.rf
  have hl := lv_entry ([.ref (b + 0)]) (n := 1) (Nat.le_of_ble_eq_true rfl)
  rw [lg_entry_eq]
  generalize (lg_sl ([.ref (b + 0)]) ++ List.replicate (1 - (lg_sl ([.ref (b + 0)])).length) Slot.unset).toArray = ls at hl ⊢
  have hl : lv_has ls 1 [(0, .ref (b + 0))] := hl
  refine lv_aload_n hx hb dX0_init_0 rfl (lv_at hl 0 rfl) ?_
  refine lv_bipush (v := 58) hx hb dX0_init_1 (by decide) ?_
  have hPc := gb_drop hP 0 (suf := [.inr (0, [.null])]) rfl rfl
  refine gb_callv (va_runI (As := [.int 58]) (rest := []) ⟨hx, hb, hml, hown, hq⟩ (k_X9_init l D cT tt b1 (b + 0) (Nat.le_trans hb1 (Nat.le_add_right b 0))) (cwI 1 hq (gb_gI w_44) rfl rfl rfl (hq _ w_3) (hq _ w_42) (hq _ w_43) rfl (by decide +kernel) ⟨Nat.le_of_ble_eq_true rfl, Nat.le_of_ble_eq_true rfl⟩) (gb_preS hSt hS (fun q h => Nat.le_trans hb1 h) (show va_P D vwCl (gb_wl (b + 0) [.inr (0, [.null])]) s.heap ∧ Array.size s.heap = b + 0 + 1 from ⟨hPc, hz⟩)) rfl rfl hl.1 rfl (lv_room (Nat.le_of_ble_eq_true rfl)) dX0_init_3 ⟨Nat.le_of_ble_eq_true rfl, Nat.le_of_ble_eq_true rfl⟩) hS (fun q h => Nat.le_trans (Nat.le_add_right b 0) h) (fun q h => Nat.le_trans (Nat.le_add_right b 0) h) (fun H locs hY hk hS => ?_)
  have hP := gb_glue hP 0 (pre := []) rfl rfl hk hY.1
  have hP : va_P D vwCl (gb_wl b [.inr (0, [.ref (b + 1)]), .inl (cT 0, 58, .inl (fun _ => 0))]) H := hP
  have hz : Array.size H = b + 2 := hY.2
  refine W.widen (k := 1) (n := 58) (Nat.le_of_ble_eq_true rfl) (Nat.le_of_ble_eq_true rfl) ?_
  refine lv_aload_n hx hb dX0_init_6 rfl (lv_at hl 0 rfl) ?_
  refine va_get (ci := 0) (v := (.ref (b + 1))) (C := RX0) (T := TX0) (N := 1) hx hb hq i_X0 hown hK hP 0 (gb_at b rfl) rfl 0 (by decide) (hq _ w_49) (fun x9 h9 => u_same (hq _ w_50) x9 h9) rfl dX0_init_7 ?_
  refine lv_iconst (v := 2) hx hb dX0_init_10 (by decide) ?_
  refine lv_iconst (v := (-1)) hx hb dX0_init_11 (by decide) ?_
  refine gb_iast (x := (-1)) hx hb hK hP (fun k _ => Nat.le_add_right b k) hS hz 1 0 rfl rfl (gb_in rfl) dX0_init_12 (fun H locs hP hz hS => ?_)
  have hP : va_P D vwCl (gb_wl b [.inr (0, [.ref (b + 1)]), .inl (cT 0, 58, .inl (upd (fun _ => 0) 2 (-1)))]) H := hP
  exact W.vret hx hb hr (fun t ht hW => gb_rv ht ⟨hP, hz⟩ hS) hS.2.2 dX0_init_13
theorem dX5_init_0 : decode cX5_init 0 = .ok (.aload_n 0, 1) := dc_42 (show ((cX5_init.data.toList.drop 0).take 1).map UInt8.toNat = [42] by decide +kernel)
theorem dX5_init_1 : decode cX5_init 1 = .ok (.bipush 24, 2) := dc_16 (show ((cX5_init.data.toList.drop 1).take 2).map UInt8.toNat = [16, 24] by decide +kernel) rfl
theorem dX5_init_3 : decode cX5_init 3 = .ok (.iconst 3, 1) := dc_6 (show ((cX5_init.data.toList.drop 3).take 1).map UInt8.toNat = [6] by decide +kernel)
theorem dX5_init_4 : decode cX5_init 4 = .ok (.getstatic 3, 3) := dc_178 (show ((cX5_init.data.toList.drop 4).take 3).map UInt8.toNat = [178, 0, 3] by decide +kernel) rfl
theorem dX5_init_7 : decode cX5_init 7 = .ok (.iconst 1, 1) := dc_4 (show ((cX5_init.data.toList.drop 7).take 1).map UInt8.toNat = [4] by decide +kernel)
theorem dX5_init_8 : decode cX5_init 8 = .ok (.iaload, 1) := dc_46 (show ((cX5_init.data.toList.drop 8).take 1).map UInt8.toNat = [46] by decide +kernel)
theorem dX5_init_9 : decode cX5_init 9 = .ok (.invokespecial 7, 3) := dc_183 (show ((cX5_init.data.toList.drop 9).take 3).map UInt8.toNat = [183, 0, 7] by decide +kernel) rfl
theorem dX4_init_0 : decode cX4_init 0 = .ok (.aload_n 0, 1) := dc_42 (show ((cX4_init.data.toList.drop 0).take 1).map UInt8.toNat = [42] by decide +kernel)
theorem dX4_init_1 : decode cX4_init 1 = .ok (.iconst 1, 1) := dc_4 (show ((cX4_init.data.toList.drop 1).take 1).map UInt8.toNat = [4] by decide +kernel)
theorem dX4_init_2 : decode cX4_init 2 = .ok (.iload_n 1, 1) := dc_27 (show ((cX4_init.data.toList.drop 2).take 1).map UInt8.toNat = [27] by decide +kernel)
theorem dX4_init_3 : decode cX4_init 3 = .ok (.iload_n 2, 1) := dc_28 (show ((cX4_init.data.toList.drop 3).take 1).map UInt8.toNat = [28] by decide +kernel)
theorem dX4_init_4 : decode cX4_init 4 = .ok (.iconst 1, 1) := dc_4 (show ((cX4_init.data.toList.drop 4).take 1).map UInt8.toNat = [4] by decide +kernel)
theorem dX4_init_5 : decode cX4_init 5 = .ok (.iadd, 1) := dc_96 (show ((cX4_init.data.toList.drop 5).take 1).map UInt8.toNat = [96] by decide +kernel)
theorem dX4_init_6 : decode cX4_init 6 = .ok (.imul, 1) := dc_104 (show ((cX4_init.data.toList.drop 6).take 1).map UInt8.toNat = [104] by decide +kernel)
theorem dX4_init_7 : decode cX4_init 7 = .ok (.iadd, 1) := dc_96 (show ((cX4_init.data.toList.drop 7).take 1).map UInt8.toNat = [96] by decide +kernel)
theorem dX4_init_8 : decode cX4_init 8 = .ok (.invokespecial 3, 3) := dc_183 (show ((cX4_init.data.toList.drop 8).take 3).map UInt8.toNat = [183, 0, 3] by decide +kernel) rfl
theorem w_78 : (Cond.laysFinal "GooseBorder$Night" "GooseBorder$Lines" "most" "I") ∈ gb_wA := gb_t1 78 rfl rfl
theorem w_80 : (Cond.laysFinal "GooseBorder$Night" "GooseBorder$Lines" "numbers" "I") ∈ gb_wA := gb_t1 80 rfl rfl
theorem w_82 : (Cond.laysFinal "GooseBorder$Night" "GooseBorder$Lines" "firstLine" "I") ∈ gb_wA := gb_t1 82 rfl rfl
theorem w_84 : (Cond.laysFinal "GooseBorder$Night" "GooseBorder$Sheet" "cells" "[I") ∈ gb_wA := gb_t1 84 rfl rfl
theorem i_X5 : ∀ w ∈ u_ws RX5 TX5 4, w ∈ gb_wA := (List.forall_mem_cons.mpr ⟨w_78, List.forall_mem_cons.mpr ⟨w_80, List.forall_mem_cons.mpr ⟨w_82, List.forall_mem_cons.mpr ⟨w_84, fun _ h => absurd h List.not_mem_nil⟩⟩⟩⟩ : ∀ w ∈ ([Cond.laysFinal "GooseBorder$Night" "GooseBorder$Lines" "most" "I", Cond.laysFinal "GooseBorder$Night" "GooseBorder$Lines" "numbers" "I", Cond.laysFinal "GooseBorder$Night" "GooseBorder$Lines" "firstLine" "I", Cond.laysFinal "GooseBorder$Night" "GooseBorder$Sheet" "cells" "[I"] : List Cond), w ∈ gb_wA)
set_option maxHeartbeats 4000000 in
set_option maxRecDepth 100000 in
theorem k_X9_init_2 (l : Launch) (D : va_G) (cT : Nat → ClassId) (tt : Nat → Nat) (b1 b : Nat) (hb1 : b1 ≤ b) : Met l yX9_init (.code yX9_init cX9_init 2 none :: gb_wA) ({ frames := 1, cells := 1, slots := 97, locals := 14 }) (gb_Pc D cT tt b1 [.ref (b + 0), .int 97] (fun h => va_P D vwCl (gb_wl b [.inr (4, [.int 0, .int 0, .int 0, .null])]) h ∧ Array.size h = b + 1)) (gb_Qv (fun h => va_P D vwCl (gb_wl b [.inr (4, [.int 0, .int 0, .int 0, .ref (b + 1)]), .inl (cT 0, 97, .inl (fun _ => 0))]) h ∧ Array.size h = b + 2) (gb_ge b)) 1 97 (gb_ge b) := by
  refine Met.ofW (cc := cX9_init) (maxL := 2) (ret := none) (by decide) rfl ?_
  intro p e s m args below meth c s₁ B hml hv
  obtain ⟨rfl, hSt, hP, hz⟩ := hv
  have hx := B.exec
  have hb := B.bytes
  have hr := B.returns
  have hts := atoms_spec (ws := .code yX9_init cX9_init 2 none :: gb_wA) B.pre
  have hq : ∀ w ∈ gb_wA, w.before _ s = true := fun w h => hts w (List.mem_cons_of_mem _ h)
  have hown : s.vm.findClass RX9 = some m.cls := findClass_of_methodNamed B.named
  have hlocks := B.notSynchronized
  have hin : meth.name = "<init>" := (name_of_methodNamed B.named B.method).1
  have hK := hSt.1
  have hS : va_S (gb_ge b) s.heap s.heap [] := va_S.rf
  have hl := lv_entry ([.ref (b + 0), .int 97]) (n := 2) (Nat.le_of_ble_eq_true rfl)
  rw [lg_entry_eq]
  generalize (lg_sl ([.ref (b + 0), .int 97]) ++ List.replicate (2 - (lg_sl ([.ref (b + 0), .int 97])).length) Slot.unset).toArray = ls at hl ⊢
  have hl : lv_has ls 2 [(0, .ref (b + 0)), (1, .int 97)] := hl
  refine lv_aload_n hx hb dX9_init_0 rfl (lv_at hl 0 rfl) ?_
  refine W.objInit hx hb hown (hq _ w_45) (hq _ w_28) (hq _ w_29) rfl (by rw [hml]; exact hl.1) rfl dX9_init_1 (Nat.le_of_ble_eq_true rfl) (Nat.le_of_ble_eq_true rfl) ?_
  refine W.eq (g2 := F0 m 4 ls []) rfl ?_
  refine lv_aload_n hx hb dX9_init_4 rfl (lv_at hl 0 rfl) ?_
  refine lv_iconst (v := 1) hx hb dX9_init_5 (by decide) ?_
  refine lv_iload_n hx hb dX9_init_6 rfl (lv_at hl 1 rfl) ?_
  refine va_mmax hx hb (hml.trans hl.1.symm) hown (hq _ w_46) (hq _ w_47) (hq _ w_5) (hq _ w_48) (Nat.le_of_ble_eq_true rfl) (Nat.le_of_ble_eq_true rfl) (Nat.le_of_ble_eq_true rfl) (Nat.le_of_ble_eq_true rfl) dX9_init_7 ?_
  refine W.eq (g2 := F0 m 10 ls [.int 97, .ref (b + 0)]) (congrArg (fun v => F0 m 10 ls (Value.int v :: [.ref (b + 0)])) (by decide)) ?_
  refine gb_newa (atype := .int) (a0 := (97, .inl (fun _ => 0))) hx hb (hq _ w_59) (ty := .int) rfl hK hP hS 1 hz rfl 0 rfl (fun h => h) (fun _ => rfl) (by decide) (by decide) (Nat.le_of_ble_eq_true rfl) (Nat.le_of_ble_eq_true rfl) (Nat.le_of_ble_eq_true rfl) dX9_init_10 (fun H hP hz hS => ?_)
  have hP : va_P D vwCl (gb_wl b [.inr (4, [.int 0, .int 0, .int 0, .null]), .inl (cT 0, 97, .inl (fun _ => 0))]) H := hP
  refine W.widen (k := 1) (n := 97) (Nat.le_of_ble_eq_true rfl) (Nat.le_of_ble_eq_true rfl) ?_
  refine gb_putF (ci := 4) (v := (.ref (b + 1))) (ty := .array .int) (C := RX5) (T := TX5) (N := 4) hx hb hq i_X5 tyX5 tyX5_ok nmX5 hown hK hP (fun k _ => Nat.le_add_right b k) hS hz 0 rfl rfl 3 (by decide) (hq _ w_51) (fun _ h9 => h9) rfl hin rfl (by decide +kernel) rfl rfl (Nat.le_of_ble_eq_true rfl) dX9_init_12 (fun H locs hP hz hS => ?_)
  have hP : va_P D vwCl (gb_wl b [.inr (4, [.int 0, .int 0, .int 0, .ref (b + 1)]), .inl (cT 0, 97, .inl (fun _ => 0))]) H := hP
  exact W.vret hx hb hr (fun t ht hW => gb_rv ht ⟨hP, hz⟩ hS) hS.2.2 dX9_init_15
theorem w_71 : (Cond.methodLink "GooseBorder$Lines" (3 : Nat) ({ cls := "GooseBorder$Sheet", name := "<init>", desc := "(I)V" } : MethodName)) ∈ gb_wA := gb_t1 71 rfl rfl
theorem dX4_init_11 : decode cX4_init 11 = .ok (.aload_n 0, 1) := dc_42 (show ((cX4_init.data.toList.drop 11).take 1).map UInt8.toNat = [42] by decide +kernel)
theorem dX4_init_12 : decode cX4_init 12 = .ok (.iload_n 1, 1) := dc_27 (show ((cX4_init.data.toList.drop 12).take 1).map UInt8.toNat = [27] by decide +kernel)
theorem dX4_init_13 : decode cX4_init 13 = .ok (.putfield 9, 3) := dc_181 (show ((cX4_init.data.toList.drop 13).take 3).map UInt8.toNat = [181, 0, 9] by decide +kernel) rfl
theorem w_72 : (Cond.fieldLink "GooseBorder$Lines" (9 : Nat) "GooseBorder$Lines" "most" "I") ∈ gb_wA := gb_t1 72 rfl rfl
theorem dX4_init_16 : decode cX4_init 16 = .ok (.aload_n 0, 1) := dc_42 (show ((cX4_init.data.toList.drop 16).take 1).map UInt8.toNat = [42] by decide +kernel)
theorem dX4_init_17 : decode cX4_init 17 = .ok (.iload_n 2, 1) := dc_28 (show ((cX4_init.data.toList.drop 17).take 1).map UInt8.toNat = [28] by decide +kernel)
theorem dX4_init_18 : decode cX4_init 18 = .ok (.putfield 15, 3) := dc_181 (show ((cX4_init.data.toList.drop 18).take 3).map UInt8.toNat = [181, 0, 15] by decide +kernel) rfl
theorem w_73 : (Cond.fieldLink "GooseBorder$Lines" (15 : Nat) "GooseBorder$Lines" "numbers" "I") ∈ gb_wA := gb_t1 73 rfl rfl
theorem dX4_init_21 : decode cX4_init 21 = .ok (.aload_n 0, 1) := dc_42 (show ((cX4_init.data.toList.drop 21).take 1).map UInt8.toNat = [42] by decide +kernel)
theorem dX4_init_22 : decode cX4_init 22 = .ok (.iload_n 3, 1) := dc_29 (show ((cX4_init.data.toList.drop 22).take 1).map UInt8.toNat = [29] by decide +kernel)
theorem dX4_init_23 : decode cX4_init 23 = .ok (.putfield 18, 3) := dc_181 (show ((cX4_init.data.toList.drop 23).take 3).map UInt8.toNat = [181, 0, 18] by decide +kernel) rfl
theorem w_77 : (Cond.fieldLink "GooseBorder$Lines" (18 : Nat) "GooseBorder$Lines" "firstLine" "I") ∈ gb_wA := gb_t1 77 rfl rfl
theorem dX4_init_26 : decode cX4_init 26 = .ok (.return_, 1) := dc_177 (show ((cX4_init.data.toList.drop 26).take 1).map UInt8.toNat = [177] by decide +kernel)
set_option maxHeartbeats 4000000 in
set_option maxRecDepth 100000 in
theorem k_X4_init (l : Launch) (D : va_G) (cT : Nat → ClassId) (tt : Nat → Nat) (b1 b : Nat) (hb1 : b1 ≤ b) : Met l yX4_init (.code yX4_init cX4_init 4 none :: gb_wA) ({ frames := 2, cells := 1, slots := 97, locals := 35 }) (gb_Pc D cT tt b1 [.ref (b + 0), .int 24, .int 3, .int 3] (fun h => va_P D vwCl (gb_wl b [.inr (4, [.int 0, .int 0, .int 0, .null])]) h ∧ Array.size h = b + 1)) (gb_Qv (fun h => va_P D vwCl (gb_wl b [.inr (4, [.int 24, .int 3, .int 3, .ref (b + 1)]), .inl (cT 0, 97, .inl (fun _ => 0))]) h ∧ Array.size h = b + 2) (gb_ge b)) 1 97 (gb_ge b) := by
  refine Met.ofW (cc := cX4_init) (maxL := 4) (ret := none) (by decide) rfl ?_
  intro p e s m args below meth c s₁ B hml hv
  obtain ⟨rfl, hSt, hP, hz⟩ := hv
  have hx := B.exec
  have hb := B.bytes
  have hr := B.returns
  have hts := atoms_spec (ws := .code yX4_init cX4_init 4 none :: gb_wA) B.pre
  have hq : ∀ w ∈ gb_wA, w.before _ s = true := fun w h => hts w (List.mem_cons_of_mem _ h)
  have hown : s.vm.findClass RX4 = some m.cls := findClass_of_methodNamed B.named
  have hlocks := B.notSynchronized
  have hin : meth.name = "<init>" := (name_of_methodNamed B.named B.method).1
  have hK := hSt.1
  have hS : va_S (gb_ge b) s.heap s.heap [] := va_S.rf
  have hl := lv_entry ([.ref (b + 0), .int 24, .int 3, .int 3]) (n := 4) (Nat.le_of_ble_eq_true rfl)
  rw [lg_entry_eq]
  generalize (lg_sl ([.ref (b + 0), .int 24, .int 3, .int 3]) ++ List.replicate (4 - (lg_sl ([.ref (b + 0), .int 24, .int 3, .int 3])).length) Slot.unset).toArray = ls at hl ⊢
  have hl : lv_has ls 4 [(0, .ref (b + 0)), (1, .int 24), (2, .int 3), (3, .int 3)] := hl
  refine lv_aload_n hx hb dX4_init_0 rfl (lv_at hl 0 rfl) ?_
  refine lv_iconst (v := 1) hx hb dX4_init_1 (by decide) ?_
  refine lv_iload_n hx hb dX4_init_2 rfl (lv_at hl 1 rfl) ?_
  refine lv_iload_n hx hb dX4_init_3 rfl (lv_at hl 2 rfl) ?_
  refine lv_iconst (v := 1) hx hb dX4_init_4 (by decide) ?_
  refine lv_iadd hx hb dX4_init_5 ?_
  refine W.eq (g2 := F0 m 6 ls [.int 4, .int 24, .int 1, .ref (b + 0)]) (congrArg (fun v => F0 m 6 ls (Value.int v :: [.int 24, .int 1, .ref (b + 0)])) (show (3 : Int32) + 1 = 4 by decide)) ?_
  refine lv_imul hx hb dX4_init_6 ?_
  refine W.eq (g2 := F0 m 7 ls [.int 96, .int 1, .ref (b + 0)]) (congrArg (fun v => F0 m 7 ls (Value.int v :: [.int 1, .ref (b + 0)])) (show (24 : Int32) * 4 = 96 by decide)) ?_
  refine lv_iadd hx hb dX4_init_7 ?_
  refine W.eq (g2 := F0 m 8 ls [.int 97, .ref (b + 0)]) (congrArg (fun v => F0 m 8 ls (Value.int v :: [.ref (b + 0)])) (show (1 : Int32) + 96 = 97 by decide)) ?_
  have hPc := gb_drop hP 0 (suf := [.inr (4, [.int 0, .int 0, .int 0, .null])]) rfl rfl
  refine gb_callv (va_runI (As := [.int 97]) (rest := []) ⟨hx, hb, hml, hown, hq⟩ (k_X9_init_2 l D cT tt b1 (b + 0) (Nat.le_trans hb1 (Nat.le_add_right b 0))) (cwI 1 hq (gb_gI w_44) rfl rfl rfl (hq _ w_3) (hq _ w_71) (hq _ w_43) rfl (by decide +kernel) ⟨Nat.le_of_ble_eq_true rfl, Nat.le_of_ble_eq_true rfl⟩) (gb_preS hSt hS (fun q h => Nat.le_trans hb1 h) (show va_P D vwCl (gb_wl (b + 0) [.inr (4, [.int 0, .int 0, .int 0, .null])]) s.heap ∧ Array.size s.heap = b + 0 + 1 from ⟨hPc, hz⟩)) rfl rfl hl.1 rfl (lv_room (Nat.le_of_ble_eq_true rfl)) dX4_init_8 ⟨Nat.le_of_ble_eq_true rfl, Nat.le_of_ble_eq_true rfl⟩) hS (fun q h => Nat.le_trans (Nat.le_add_right b 0) h) (fun q h => Nat.le_trans (Nat.le_add_right b 0) h) (fun H locs hY hk hS => ?_)
  have hP := gb_glue hP 0 (pre := []) rfl rfl hk hY.1
  have hP : va_P D vwCl (gb_wl b [.inr (4, [.int 0, .int 0, .int 0, .ref (b + 1)]), .inl (cT 0, 97, .inl (fun _ => 0))]) H := hP
  have hz : Array.size H = b + 2 := hY.2
  refine W.widen (k := 1) (n := 97) (Nat.le_of_ble_eq_true rfl) (Nat.le_of_ble_eq_true rfl) ?_
  refine lv_aload_n hx hb dX4_init_11 rfl (lv_at hl 0 rfl) ?_
  refine lv_iload_n hx hb dX4_init_12 rfl (lv_at hl 1 rfl) ?_
  refine gb_putF (ci := 4) (v := (.int 24)) (ty := .int) (C := RX5) (T := TX5) (N := 4) hx hb hq i_X5 tyX5 tyX5_ok nmX5 hown hK hP (fun k _ => Nat.le_add_right b k) hS hz 0 rfl rfl 0 (by decide) (hq _ w_72) (fun _ h9 => h9) rfl hin rfl (by decide +kernel) rfl rfl (Nat.le_of_ble_eq_true rfl) dX4_init_13 (fun H locs hP hz hS => ?_)
  have hP : va_P D vwCl (gb_wl b [.inr (4, [.int 24, .int 0, .int 0, .ref (b + 1)]), .inl (cT 0, 97, .inl (fun _ => 0))]) H := hP
  refine lv_aload_n hx hb dX4_init_16 rfl (lv_at hl 0 rfl) ?_
  refine lv_iload_n hx hb dX4_init_17 rfl (lv_at hl 2 rfl) ?_
  refine gb_putF (ci := 4) (v := (.int 3)) (ty := .int) (C := RX5) (T := TX5) (N := 4) hx hb hq i_X5 tyX5 tyX5_ok nmX5 hown hK hP (fun k _ => Nat.le_add_right b k) hS hz 0 rfl rfl 1 (by decide) (hq _ w_73) (fun _ h9 => h9) rfl hin rfl (by decide +kernel) rfl rfl (Nat.le_of_ble_eq_true rfl) dX4_init_18 (fun H locs hP hz hS => ?_)
  have hP : va_P D vwCl (gb_wl b [.inr (4, [.int 24, .int 3, .int 0, .ref (b + 1)]), .inl (cT 0, 97, .inl (fun _ => 0))]) H := hP
  refine lv_aload_n hx hb dX4_init_21 rfl (lv_at hl 0 rfl) ?_
  refine lv_iload_n hx hb dX4_init_22 rfl (lv_at hl 3 rfl) ?_
  refine gb_putF (ci := 4) (v := (.int 3)) (ty := .int) (C := RX5) (T := TX5) (N := 4) hx hb hq i_X5 tyX5 tyX5_ok nmX5 hown hK hP (fun k _ => Nat.le_add_right b k) hS hz 0 rfl rfl 2 (by decide) (hq _ w_77) (fun _ h9 => h9) rfl hin rfl (by decide +kernel) rfl rfl (Nat.le_of_ble_eq_true rfl) dX4_init_23 (fun H locs hP hz hS => ?_)
  have hP : va_P D vwCl (gb_wl b [.inr (4, [.int 24, .int 3, .int 3, .ref (b + 1)]), .inl (cT 0, 97, .inl (fun _ => 0))]) H := hP
  exact W.vret hx hb hr (fun t ht hW => gb_rv ht ⟨hP, hz⟩ hS) hS.2.2 dX4_init_26
theorem w_70 : (Cond.code ({ cls := "GooseBorder$Lines", name := "<init>", desc := "(III)V" } : MethodName) prog_6_method_1_code (4 : Nat) (Option.none : Option FieldType)) ∈ gb_wA := gb_t1 70 rfl rfl
theorem w_6 : (Cond.initialized "GooseBorder$Lines") ∈ gb_wA := gb_t1 6 rfl rfl
theorem w_68 : (Cond.methodLink "GooseBorder$Night" (7 : Nat) ({ cls := "GooseBorder$Lines", name := "<init>", desc := "(III)V" } : MethodName)) ∈ gb_wA := gb_t1 68 rfl rfl
theorem w_69 : (Cond.instanceMethod ({ cls := "GooseBorder$Lines", name := "<init>", desc := "(III)V" } : MethodName)) ∈ gb_wA := gb_t1 69 rfl rfl
theorem dX5_init_12 : decode cX5_init 12 = .ok (.return_, 1) := dc_177 (show ((cX5_init.data.toList.drop 12).take 1).map UInt8.toNat = [177] by decide +kernel)
set_option maxHeartbeats 4000000 in
set_option maxRecDepth 100000 in
theorem k_X5_init (l : Launch) (D : va_G) (cT : Nat → ClassId) (tt : Nat → Nat) (b1 b : Nat) (hb1 : b1 ≤ b) : Met l yX5_init (.code yX5_init cX5_init 1 none :: gb_wA) ({ frames := 3, cells := 1, slots := 97, locals := 58 }) (gb_Pc D cT tt b1 [.ref (b + 0)] (fun h => va_P D vwCl (gb_wl b [.inr (4, [.int 0, .int 0, .int 0, .null])]) h ∧ Array.size h = b + 1)) (gb_Qv (fun h => va_P D vwCl (gb_wl b [.inr (4, [.int 24, .int 3, .int 3, .ref (b + 1)]), .inl (cT 0, 97, .inl (fun _ => 0))]) h ∧ Array.size h = b + 2) (gb_ge b)) 1 97 (gb_ge b) := by
  refine Met.ofW (cc := cX5_init) (maxL := 1) (ret := none) (by decide) rfl ?_
  intro p e s m args below meth c s₁ B hml hv
  obtain ⟨rfl, hSt, hP, hz⟩ := hv
  have hx := B.exec
  have hb := B.bytes
  have hr := B.returns
  have hts := atoms_spec (ws := .code yX5_init cX5_init 1 none :: gb_wA) B.pre
  have hq : ∀ w ∈ gb_wA, w.before _ s = true := fun w h => hts w (List.mem_cons_of_mem _ h)
  have hown : s.vm.findClass RX5 = some m.cls := findClass_of_methodNamed B.named
  have hlocks := B.notSynchronized
  have hin : meth.name = "<init>" := (name_of_methodNamed B.named B.method).1
  have hK := hSt.1
  have hS : va_S (gb_ge b) s.heap s.heap [] := va_S.rf
  have hl := lv_entry ([.ref (b + 0)]) (n := 1) (Nat.le_of_ble_eq_true rfl)
  rw [lg_entry_eq]
  generalize (lg_sl ([.ref (b + 0)]) ++ List.replicate (1 - (lg_sl ([.ref (b + 0)])).length) Slot.unset).toArray = ls at hl ⊢
  have hl : lv_has ls 1 [(0, .ref (b + 0))] := hl
  refine lv_aload_n hx hb dX5_init_0 rfl (lv_at hl 0 rfl) ?_
  refine lv_bipush (v := 24) hx hb dX5_init_1 (by decide) ?_
  refine lv_iconst (v := 3) hx hb dX5_init_3 (by decide) ?_
  refine va_getsN hx hb (hSt.2.2.2.1.1.narrow (fun q h => Nat.le_trans hb1 h)) hS hown (va_Nw.use rfl (hSt.2.1 _ gb_n66)) (fun _ h9 => h9) dX5_init_4 ?_
  refine lv_iconst (v := 1) hx hb dX5_init_7 (by decide) ?_
  refine va_ti (v := (.int 3)) hx hb (hSt.2.2.2.1.2.narrow (fun q h => Nat.le_trans hb1 h)) hS (gb_in rfl) rfl dX5_init_8 ?_
  have hPc := gb_drop hP 0 (suf := [.inr (4, [.int 0, .int 0, .int 0, .null])]) rfl rfl
  refine gb_callv (va_runI (As := [.int 24, .int 3, .int 3]) (rest := []) ⟨hx, hb, hml, hown, hq⟩ (k_X4_init l D cT tt b1 (b + 0) (Nat.le_trans hb1 (Nat.le_add_right b 0))) (cwI 3 hq (gb_gI w_70) rfl rfl rfl (hq _ w_6) (hq _ w_68) (hq _ w_69) rfl (by decide +kernel) ⟨Nat.le_of_ble_eq_true rfl, Nat.le_of_ble_eq_true rfl⟩) (gb_preS hSt hS (fun q h => Nat.le_trans hb1 h) (show va_P D vwCl (gb_wl (b + 0) [.inr (4, [.int 0, .int 0, .int 0, .null])]) s.heap ∧ Array.size s.heap = b + 0 + 1 from ⟨hPc, hz⟩)) rfl rfl hl.1 rfl (lv_room (Nat.le_of_ble_eq_true rfl)) dX5_init_9 ⟨Nat.le_of_ble_eq_true rfl, Nat.le_of_ble_eq_true rfl⟩) hS (fun q h => Nat.le_trans (Nat.le_add_right b 0) h) (fun q h => Nat.le_trans (Nat.le_add_right b 0) h) (fun H locs hY hk hS => ?_)
  have hP := gb_glue hP 0 (pre := []) rfl rfl hk hY.1
  have hP : va_P D vwCl (gb_wl b [.inr (4, [.int 24, .int 3, .int 3, .ref (b + 1)]), .inl (cT 0, 97, .inl (fun _ => 0))]) H := hP
  have hz : Array.size H = b + 2 := hY.2
  refine W.widen (k := 1) (n := 97) (Nat.le_of_ble_eq_true rfl) (Nat.le_of_ble_eq_true rfl) ?_
  exact W.vret hx hb hr (fun t ht hW => gb_rv ht ⟨hP, hz⟩ hS) hS.2.2 dX5_init_12
theorem dX3_init_0 : decode cX3_init 0 = .ok (.aload_n 0, 1) := dc_42 (show ((cX3_init.data.toList.drop 0).take 1).map UInt8.toNat = [42] by decide +kernel)
theorem dX3_init_1 : decode cX3_init 1 = .ok (.bipush 8, 2) := dc_16 (show ((cX3_init.data.toList.drop 1).take 2).map UInt8.toNat = [16, 8] by decide +kernel) rfl
theorem dX3_init_3 : decode cX3_init 3 = .ok (.iconst 2, 1) := dc_5 (show ((cX3_init.data.toList.drop 3).take 1).map UInt8.toNat = [5] by decide +kernel)
theorem dX3_init_4 : decode cX3_init 4 = .ok (.getstatic 3, 3) := dc_178 (show ((cX3_init.data.toList.drop 4).take 3).map UInt8.toNat = [178, 0, 3] by decide +kernel) rfl
theorem dX3_init_7 : decode cX3_init 7 = .ok (.iconst 2, 1) := dc_5 (show ((cX3_init.data.toList.drop 7).take 1).map UInt8.toNat = [5] by decide +kernel)
theorem dX3_init_8 : decode cX3_init 8 = .ok (.iaload, 1) := dc_46 (show ((cX3_init.data.toList.drop 8).take 1).map UInt8.toNat = [46] by decide +kernel)
theorem dX3_init_9 : decode cX3_init 9 = .ok (.invokespecial 7, 3) := dc_183 (show ((cX3_init.data.toList.drop 9).take 3).map UInt8.toNat = [183, 0, 7] by decide +kernel) rfl
theorem w_94 : (Cond.laysFinal "GooseBorder$Law" "GooseBorder$Lines" "most" "I") ∈ gb_wA := gb_t1 94 rfl rfl
theorem w_95 : (Cond.laysFinal "GooseBorder$Law" "GooseBorder$Lines" "numbers" "I") ∈ gb_wA := gb_t1 95 rfl rfl
theorem w_96 : (Cond.laysFinal "GooseBorder$Law" "GooseBorder$Lines" "firstLine" "I") ∈ gb_wA := gb_t1 96 rfl rfl
theorem w_97 : (Cond.laysFinal "GooseBorder$Law" "GooseBorder$Sheet" "cells" "[I") ∈ gb_wA := gb_t1 97 rfl rfl
theorem i_X3 : ∀ w ∈ u_ws RX3 TX3 4, w ∈ gb_wA := (List.forall_mem_cons.mpr ⟨w_94, List.forall_mem_cons.mpr ⟨w_95, List.forall_mem_cons.mpr ⟨w_96, List.forall_mem_cons.mpr ⟨w_97, fun _ h => absurd h List.not_mem_nil⟩⟩⟩⟩ : ∀ w ∈ ([Cond.laysFinal "GooseBorder$Law" "GooseBorder$Lines" "most" "I", Cond.laysFinal "GooseBorder$Law" "GooseBorder$Lines" "numbers" "I", Cond.laysFinal "GooseBorder$Law" "GooseBorder$Lines" "firstLine" "I", Cond.laysFinal "GooseBorder$Law" "GooseBorder$Sheet" "cells" "[I"] : List Cond), w ∈ gb_wA)
set_option maxHeartbeats 4000000 in
set_option maxRecDepth 100000 in
theorem k_X9_init_3 (l : Launch) (D : va_G) (cT : Nat → ClassId) (tt : Nat → Nat) (b1 b : Nat) (hb1 : b1 ≤ b) : Met l yX9_init (.code yX9_init cX9_init 2 none :: gb_wA) ({ frames := 1, cells := 1, slots := 25, locals := 14 }) (gb_Pc D cT tt b1 [.ref (b + 0), .int 25] (fun h => va_P D vwCl (gb_wl b [.inr (3, [.int 0, .int 0, .int 0, .null])]) h ∧ Array.size h = b + 1)) (gb_Qv (fun h => va_P D vwCl (gb_wl b [.inr (3, [.int 0, .int 0, .int 0, .ref (b + 1)]), .inl (cT 0, 25, .inl (fun _ => 0))]) h ∧ Array.size h = b + 2) (gb_ge b)) 1 25 (gb_ge b) := by
  refine Met.ofW (cc := cX9_init) (maxL := 2) (ret := none) (by decide) rfl ?_
  intro p e s m args below meth c s₁ B hml hv
  obtain ⟨rfl, hSt, hP, hz⟩ := hv
  have hx := B.exec
  have hb := B.bytes
  have hr := B.returns
  have hts := atoms_spec (ws := .code yX9_init cX9_init 2 none :: gb_wA) B.pre
  have hq : ∀ w ∈ gb_wA, w.before _ s = true := fun w h => hts w (List.mem_cons_of_mem _ h)
  have hown : s.vm.findClass RX9 = some m.cls := findClass_of_methodNamed B.named
  have hlocks := B.notSynchronized
  have hin : meth.name = "<init>" := (name_of_methodNamed B.named B.method).1
  have hK := hSt.1
  have hS : va_S (gb_ge b) s.heap s.heap [] := va_S.rf
  have hl := lv_entry ([.ref (b + 0), .int 25]) (n := 2) (Nat.le_of_ble_eq_true rfl)
  rw [lg_entry_eq]
  generalize (lg_sl ([.ref (b + 0), .int 25]) ++ List.replicate (2 - (lg_sl ([.ref (b + 0), .int 25])).length) Slot.unset).toArray = ls at hl ⊢
  have hl : lv_has ls 2 [(0, .ref (b + 0)), (1, .int 25)] := hl
  refine lv_aload_n hx hb dX9_init_0 rfl (lv_at hl 0 rfl) ?_
  refine W.objInit hx hb hown (hq _ w_45) (hq _ w_28) (hq _ w_29) rfl (by rw [hml]; exact hl.1) rfl dX9_init_1 (Nat.le_of_ble_eq_true rfl) (Nat.le_of_ble_eq_true rfl) ?_
  refine W.eq (g2 := F0 m 4 ls []) rfl ?_
  refine lv_aload_n hx hb dX9_init_4 rfl (lv_at hl 0 rfl) ?_
  refine lv_iconst (v := 1) hx hb dX9_init_5 (by decide) ?_
  refine lv_iload_n hx hb dX9_init_6 rfl (lv_at hl 1 rfl) ?_
  refine va_mmax hx hb (hml.trans hl.1.symm) hown (hq _ w_46) (hq _ w_47) (hq _ w_5) (hq _ w_48) (Nat.le_of_ble_eq_true rfl) (Nat.le_of_ble_eq_true rfl) (Nat.le_of_ble_eq_true rfl) (Nat.le_of_ble_eq_true rfl) dX9_init_7 ?_
  refine W.eq (g2 := F0 m 10 ls [.int 25, .ref (b + 0)]) (congrArg (fun v => F0 m 10 ls (Value.int v :: [.ref (b + 0)])) (by decide)) ?_
  refine gb_newa (atype := .int) (a0 := (25, .inl (fun _ => 0))) hx hb (hq _ w_59) (ty := .int) rfl hK hP hS 1 hz rfl 0 rfl (fun h => h) (fun _ => rfl) (by decide) (by decide) (Nat.le_of_ble_eq_true rfl) (Nat.le_of_ble_eq_true rfl) (Nat.le_of_ble_eq_true rfl) dX9_init_10 (fun H hP hz hS => ?_)
  have hP : va_P D vwCl (gb_wl b [.inr (3, [.int 0, .int 0, .int 0, .null]), .inl (cT 0, 25, .inl (fun _ => 0))]) H := hP
  refine W.widen (k := 1) (n := 25) (Nat.le_of_ble_eq_true rfl) (Nat.le_of_ble_eq_true rfl) ?_
  refine gb_putF (ci := 3) (v := (.ref (b + 1))) (ty := .array .int) (C := RX3) (T := TX3) (N := 4) hx hb hq i_X3 tyX3 tyX3_ok nmX3 hown hK hP (fun k _ => Nat.le_add_right b k) hS hz 0 rfl rfl 3 (by decide) (hq _ w_51) (fun _ h9 => h9) rfl hin rfl (by decide +kernel) rfl rfl (Nat.le_of_ble_eq_true rfl) dX9_init_12 (fun H locs hP hz hS => ?_)
  have hP : va_P D vwCl (gb_wl b [.inr (3, [.int 0, .int 0, .int 0, .ref (b + 1)]), .inl (cT 0, 25, .inl (fun _ => 0))]) H := hP
  exact W.vret hx hb hr (fun t ht hW => gb_rv ht ⟨hP, hz⟩ hS) hS.2.2 dX9_init_15
set_option maxHeartbeats 4000000 in
set_option maxRecDepth 100000 in
theorem k_X4_init_2 (l : Launch) (D : va_G) (cT : Nat → ClassId) (tt : Nat → Nat) (b1 b : Nat) (hb1 : b1 ≤ b) : Met l yX4_init (.code yX4_init cX4_init 4 none :: gb_wA) ({ frames := 2, cells := 1, slots := 25, locals := 35 }) (gb_Pc D cT tt b1 [.ref (b + 0), .int 8, .int 2, .int 12] (fun h => va_P D vwCl (gb_wl b [.inr (3, [.int 0, .int 0, .int 0, .null])]) h ∧ Array.size h = b + 1)) (gb_Qv (fun h => va_P D vwCl (gb_wl b [.inr (3, [.int 8, .int 2, .int 12, .ref (b + 1)]), .inl (cT 0, 25, .inl (fun _ => 0))]) h ∧ Array.size h = b + 2) (gb_ge b)) 1 25 (gb_ge b) := by
  refine Met.ofW (cc := cX4_init) (maxL := 4) (ret := none) (by decide) rfl ?_
  intro p e s m args below meth c s₁ B hml hv
  obtain ⟨rfl, hSt, hP, hz⟩ := hv
  have hx := B.exec
  have hb := B.bytes
  have hr := B.returns
  have hts := atoms_spec (ws := .code yX4_init cX4_init 4 none :: gb_wA) B.pre
  have hq : ∀ w ∈ gb_wA, w.before _ s = true := fun w h => hts w (List.mem_cons_of_mem _ h)
  have hown : s.vm.findClass RX4 = some m.cls := findClass_of_methodNamed B.named
  have hlocks := B.notSynchronized
  have hin : meth.name = "<init>" := (name_of_methodNamed B.named B.method).1
  have hK := hSt.1
  have hS : va_S (gb_ge b) s.heap s.heap [] := va_S.rf
  have hl := lv_entry ([.ref (b + 0), .int 8, .int 2, .int 12]) (n := 4) (Nat.le_of_ble_eq_true rfl)
  rw [lg_entry_eq]
  generalize (lg_sl ([.ref (b + 0), .int 8, .int 2, .int 12]) ++ List.replicate (4 - (lg_sl ([.ref (b + 0), .int 8, .int 2, .int 12])).length) Slot.unset).toArray = ls at hl ⊢
  have hl : lv_has ls 4 [(0, .ref (b + 0)), (1, .int 8), (2, .int 2), (3, .int 12)] := hl
  refine lv_aload_n hx hb dX4_init_0 rfl (lv_at hl 0 rfl) ?_
  refine lv_iconst (v := 1) hx hb dX4_init_1 (by decide) ?_
  refine lv_iload_n hx hb dX4_init_2 rfl (lv_at hl 1 rfl) ?_
  refine lv_iload_n hx hb dX4_init_3 rfl (lv_at hl 2 rfl) ?_
  refine lv_iconst (v := 1) hx hb dX4_init_4 (by decide) ?_
  refine lv_iadd hx hb dX4_init_5 ?_
  refine W.eq (g2 := F0 m 6 ls [.int 3, .int 8, .int 1, .ref (b + 0)]) (congrArg (fun v => F0 m 6 ls (Value.int v :: [.int 8, .int 1, .ref (b + 0)])) (show (2 : Int32) + 1 = 3 by decide)) ?_
  refine lv_imul hx hb dX4_init_6 ?_
  refine W.eq (g2 := F0 m 7 ls [.int 24, .int 1, .ref (b + 0)]) (congrArg (fun v => F0 m 7 ls (Value.int v :: [.int 1, .ref (b + 0)])) (show (8 : Int32) * 3 = 24 by decide)) ?_
  refine lv_iadd hx hb dX4_init_7 ?_
  refine W.eq (g2 := F0 m 8 ls [.int 25, .ref (b + 0)]) (congrArg (fun v => F0 m 8 ls (Value.int v :: [.ref (b + 0)])) (show (1 : Int32) + 24 = 25 by decide)) ?_
  have hPc := gb_drop hP 0 (suf := [.inr (3, [.int 0, .int 0, .int 0, .null])]) rfl rfl
  refine gb_callv (va_runI (As := [.int 25]) (rest := []) ⟨hx, hb, hml, hown, hq⟩ (k_X9_init_3 l D cT tt b1 (b + 0) (Nat.le_trans hb1 (Nat.le_add_right b 0))) (cwI 1 hq (gb_gI w_44) rfl rfl rfl (hq _ w_3) (hq _ w_71) (hq _ w_43) rfl (by decide +kernel) ⟨Nat.le_of_ble_eq_true rfl, Nat.le_of_ble_eq_true rfl⟩) (gb_preS hSt hS (fun q h => Nat.le_trans hb1 h) (show va_P D vwCl (gb_wl (b + 0) [.inr (3, [.int 0, .int 0, .int 0, .null])]) s.heap ∧ Array.size s.heap = b + 0 + 1 from ⟨hPc, hz⟩)) rfl rfl hl.1 rfl (lv_room (Nat.le_of_ble_eq_true rfl)) dX4_init_8 ⟨Nat.le_of_ble_eq_true rfl, Nat.le_of_ble_eq_true rfl⟩) hS (fun q h => Nat.le_trans (Nat.le_add_right b 0) h) (fun q h => Nat.le_trans (Nat.le_add_right b 0) h) (fun H locs hY hk hS => ?_)
  have hP := gb_glue hP 0 (pre := []) rfl rfl hk hY.1
  have hP : va_P D vwCl (gb_wl b [.inr (3, [.int 0, .int 0, .int 0, .ref (b + 1)]), .inl (cT 0, 25, .inl (fun _ => 0))]) H := hP
  have hz : Array.size H = b + 2 := hY.2
  refine W.widen (k := 1) (n := 25) (Nat.le_of_ble_eq_true rfl) (Nat.le_of_ble_eq_true rfl) ?_
  refine lv_aload_n hx hb dX4_init_11 rfl (lv_at hl 0 rfl) ?_
  refine lv_iload_n hx hb dX4_init_12 rfl (lv_at hl 1 rfl) ?_
  refine gb_putF (ci := 3) (v := (.int 8)) (ty := .int) (C := RX3) (T := TX3) (N := 4) hx hb hq i_X3 tyX3 tyX3_ok nmX3 hown hK hP (fun k _ => Nat.le_add_right b k) hS hz 0 rfl rfl 0 (by decide) (hq _ w_72) (fun _ h9 => h9) rfl hin rfl (by decide +kernel) rfl rfl (Nat.le_of_ble_eq_true rfl) dX4_init_13 (fun H locs hP hz hS => ?_)
  have hP : va_P D vwCl (gb_wl b [.inr (3, [.int 8, .int 0, .int 0, .ref (b + 1)]), .inl (cT 0, 25, .inl (fun _ => 0))]) H := hP
  refine lv_aload_n hx hb dX4_init_16 rfl (lv_at hl 0 rfl) ?_
  refine lv_iload_n hx hb dX4_init_17 rfl (lv_at hl 2 rfl) ?_
  refine gb_putF (ci := 3) (v := (.int 2)) (ty := .int) (C := RX3) (T := TX3) (N := 4) hx hb hq i_X3 tyX3 tyX3_ok nmX3 hown hK hP (fun k _ => Nat.le_add_right b k) hS hz 0 rfl rfl 1 (by decide) (hq _ w_73) (fun _ h9 => h9) rfl hin rfl (by decide +kernel) rfl rfl (Nat.le_of_ble_eq_true rfl) dX4_init_18 (fun H locs hP hz hS => ?_)
  have hP : va_P D vwCl (gb_wl b [.inr (3, [.int 8, .int 2, .int 0, .ref (b + 1)]), .inl (cT 0, 25, .inl (fun _ => 0))]) H := hP
  refine lv_aload_n hx hb dX4_init_21 rfl (lv_at hl 0 rfl) ?_
  refine lv_iload_n hx hb dX4_init_22 rfl (lv_at hl 3 rfl) ?_
  refine gb_putF (ci := 3) (v := (.int 12)) (ty := .int) (C := RX3) (T := TX3) (N := 4) hx hb hq i_X3 tyX3 tyX3_ok nmX3 hown hK hP (fun k _ => Nat.le_add_right b k) hS hz 0 rfl rfl 2 (by decide) (hq _ w_77) (fun _ h9 => h9) rfl hin rfl (by decide +kernel) rfl rfl (Nat.le_of_ble_eq_true rfl) dX4_init_23 (fun H locs hP hz hS => ?_)
  have hP : va_P D vwCl (gb_wl b [.inr (3, [.int 8, .int 2, .int 12, .ref (b + 1)]), .inl (cT 0, 25, .inl (fun _ => 0))]) H := hP
  exact W.vret hx hb hr (fun t ht hW => gb_rv ht ⟨hP, hz⟩ hS) hS.2.2 dX4_init_26
theorem w_93 : (Cond.methodLink "GooseBorder$Law" (7 : Nat) ({ cls := "GooseBorder$Lines", name := "<init>", desc := "(III)V" } : MethodName)) ∈ gb_wA := gb_t1 93 rfl rfl
theorem dX3_init_12 : decode cX3_init 12 = .ok (.return_, 1) := dc_177 (show ((cX3_init.data.toList.drop 12).take 1).map UInt8.toNat = [177] by decide +kernel)
set_option maxHeartbeats 4000000 in
set_option maxRecDepth 100000 in
theorem k_X3_init (l : Launch) (D : va_G) (cT : Nat → ClassId) (tt : Nat → Nat) (b1 b : Nat) (hb1 : b1 ≤ b) : Met l yX3_init (.code yX3_init cX3_init 1 none :: gb_wA) ({ frames := 3, cells := 1, slots := 25, locals := 58 }) (gb_Pc D cT tt b1 [.ref (b + 0)] (fun h => va_P D vwCl (gb_wl b [.inr (3, [.int 0, .int 0, .int 0, .null])]) h ∧ Array.size h = b + 1)) (gb_Qv (fun h => va_P D vwCl (gb_wl b [.inr (3, [.int 8, .int 2, .int 12, .ref (b + 1)]), .inl (cT 0, 25, .inl (fun _ => 0))]) h ∧ Array.size h = b + 2) (gb_ge b)) 1 25 (gb_ge b) := by
  refine Met.ofW (cc := cX3_init) (maxL := 1) (ret := none) (by decide) rfl ?_
  intro p e s m args below meth c s₁ B hml hv
  obtain ⟨rfl, hSt, hP, hz⟩ := hv
  have hx := B.exec
  have hb := B.bytes
  have hr := B.returns
  have hts := atoms_spec (ws := .code yX3_init cX3_init 1 none :: gb_wA) B.pre
  have hq : ∀ w ∈ gb_wA, w.before _ s = true := fun w h => hts w (List.mem_cons_of_mem _ h)
  have hown : s.vm.findClass RX3 = some m.cls := findClass_of_methodNamed B.named
  have hlocks := B.notSynchronized
  have hin : meth.name = "<init>" := (name_of_methodNamed B.named B.method).1
  have hK := hSt.1
  have hS : va_S (gb_ge b) s.heap s.heap [] := va_S.rf
  have hl := lv_entry ([.ref (b + 0)]) (n := 1) (Nat.le_of_ble_eq_true rfl)
  rw [lg_entry_eq]
  generalize (lg_sl ([.ref (b + 0)]) ++ List.replicate (1 - (lg_sl ([.ref (b + 0)])).length) Slot.unset).toArray = ls at hl ⊢
  have hl : lv_has ls 1 [(0, .ref (b + 0))] := hl
  refine lv_aload_n hx hb dX3_init_0 rfl (lv_at hl 0 rfl) ?_
  refine lv_bipush (v := 8) hx hb dX3_init_1 (by decide) ?_
  refine lv_iconst (v := 2) hx hb dX3_init_3 (by decide) ?_
  refine va_getsN hx hb (hSt.2.2.2.1.1.narrow (fun q h => Nat.le_trans hb1 h)) hS hown (va_Nw.use rfl (hSt.2.1 _ gb_n92)) (fun _ h9 => h9) dX3_init_4 ?_
  refine lv_iconst (v := 2) hx hb dX3_init_7 (by decide) ?_
  refine va_ti (v := (.int 12)) hx hb (hSt.2.2.2.1.2.narrow (fun q h => Nat.le_trans hb1 h)) hS (gb_in rfl) rfl dX3_init_8 ?_
  have hPc := gb_drop hP 0 (suf := [.inr (3, [.int 0, .int 0, .int 0, .null])]) rfl rfl
  refine gb_callv (va_runI (As := [.int 8, .int 2, .int 12]) (rest := []) ⟨hx, hb, hml, hown, hq⟩ (k_X4_init_2 l D cT tt b1 (b + 0) (Nat.le_trans hb1 (Nat.le_add_right b 0))) (cwI 3 hq (gb_gI w_70) rfl rfl rfl (hq _ w_6) (hq _ w_93) (hq _ w_69) rfl (by decide +kernel) ⟨Nat.le_of_ble_eq_true rfl, Nat.le_of_ble_eq_true rfl⟩) (gb_preS hSt hS (fun q h => Nat.le_trans hb1 h) (show va_P D vwCl (gb_wl (b + 0) [.inr (3, [.int 0, .int 0, .int 0, .null])]) s.heap ∧ Array.size s.heap = b + 0 + 1 from ⟨hPc, hz⟩)) rfl rfl hl.1 rfl (lv_room (Nat.le_of_ble_eq_true rfl)) dX3_init_9 ⟨Nat.le_of_ble_eq_true rfl, Nat.le_of_ble_eq_true rfl⟩) hS (fun q h => Nat.le_trans (Nat.le_add_right b 0) h) (fun q h => Nat.le_trans (Nat.le_add_right b 0) h) (fun H locs hY hk hS => ?_)
  have hP := gb_glue hP 0 (pre := []) rfl rfl hk hY.1
  have hP : va_P D vwCl (gb_wl b [.inr (3, [.int 8, .int 2, .int 12, .ref (b + 1)]), .inl (cT 0, 25, .inl (fun _ => 0))]) H := hP
  have hz : Array.size H = b + 2 := hY.2
  refine W.widen (k := 1) (n := 25) (Nat.le_of_ble_eq_true rfl) (Nat.le_of_ble_eq_true rfl) ?_
  exact W.vret hx hb hr (fun t ht hW => gb_rv ht ⟨hP, hz⟩ hS) hS.2.2 dX3_init_12
theorem dX1_init_0 : decode cX1_init 0 = .ok (.aload_n 0, 1) := dc_42 (show ((cX1_init.data.toList.drop 0).take 1).map UInt8.toNat = [42] by decide +kernel)
theorem dX1_init_1 : decode cX1_init 1 = .ok (.iconst 5, 1) := dc_8 (show ((cX1_init.data.toList.drop 1).take 1).map UInt8.toNat = [8] by decide +kernel)
theorem dX1_init_2 : decode cX1_init 2 = .ok (.iconst 2, 1) := dc_5 (show ((cX1_init.data.toList.drop 2).take 1).map UInt8.toNat = [5] by decide +kernel)
theorem dX1_init_3 : decode cX1_init 3 = .ok (.getstatic 3, 3) := dc_178 (show ((cX1_init.data.toList.drop 3).take 3).map UInt8.toNat = [178, 0, 3] by decide +kernel) rfl
theorem dX1_init_6 : decode cX1_init 6 = .ok (.iconst 3, 1) := dc_6 (show ((cX1_init.data.toList.drop 6).take 1).map UInt8.toNat = [6] by decide +kernel)
theorem dX1_init_7 : decode cX1_init 7 = .ok (.iaload, 1) := dc_46 (show ((cX1_init.data.toList.drop 7).take 1).map UInt8.toNat = [46] by decide +kernel)
theorem dX1_init_8 : decode cX1_init 8 = .ok (.invokespecial 7, 3) := dc_183 (show ((cX1_init.data.toList.drop 8).take 3).map UInt8.toNat = [183, 0, 7] by decide +kernel) rfl
theorem w_107 : (Cond.laysFinal "GooseBorder$Dawn" "GooseBorder$Lines" "most" "I") ∈ gb_wA := gb_t1 107 rfl rfl
theorem w_108 : (Cond.laysFinal "GooseBorder$Dawn" "GooseBorder$Lines" "numbers" "I") ∈ gb_wA := gb_t1 108 rfl rfl
theorem w_109 : (Cond.laysFinal "GooseBorder$Dawn" "GooseBorder$Lines" "firstLine" "I") ∈ gb_wA := gb_t1 109 rfl rfl
theorem w_110 : (Cond.laysFinal "GooseBorder$Dawn" "GooseBorder$Sheet" "cells" "[I") ∈ gb_wA := gb_t1 110 rfl rfl
theorem i_X1 : ∀ w ∈ u_ws RX1 TX1 4, w ∈ gb_wA := (List.forall_mem_cons.mpr ⟨w_107, List.forall_mem_cons.mpr ⟨w_108, List.forall_mem_cons.mpr ⟨w_109, List.forall_mem_cons.mpr ⟨w_110, fun _ h => absurd h List.not_mem_nil⟩⟩⟩⟩ : ∀ w ∈ ([Cond.laysFinal "GooseBorder$Dawn" "GooseBorder$Lines" "most" "I", Cond.laysFinal "GooseBorder$Dawn" "GooseBorder$Lines" "numbers" "I", Cond.laysFinal "GooseBorder$Dawn" "GooseBorder$Lines" "firstLine" "I", Cond.laysFinal "GooseBorder$Dawn" "GooseBorder$Sheet" "cells" "[I"] : List Cond), w ∈ gb_wA)
set_option maxHeartbeats 4000000 in
set_option maxRecDepth 100000 in
theorem k_X9_init_4 (l : Launch) (D : va_G) (cT : Nat → ClassId) (tt : Nat → Nat) (b1 b : Nat) (hb1 : b1 ≤ b) : Met l yX9_init (.code yX9_init cX9_init 2 none :: gb_wA) ({ frames := 1, cells := 1, slots := 16, locals := 14 }) (gb_Pc D cT tt b1 [.ref (b + 0), .int 16] (fun h => va_P D vwCl (gb_wl b [.inr (1, [.int 0, .int 0, .int 0, .null])]) h ∧ Array.size h = b + 1)) (gb_Qv (fun h => va_P D vwCl (gb_wl b [.inr (1, [.int 0, .int 0, .int 0, .ref (b + 1)]), .inl (cT 0, 16, .inl (fun _ => 0))]) h ∧ Array.size h = b + 2) (gb_ge b)) 1 16 (gb_ge b) := by
  refine Met.ofW (cc := cX9_init) (maxL := 2) (ret := none) (by decide) rfl ?_
  intro p e s m args below meth c s₁ B hml hv
  obtain ⟨rfl, hSt, hP, hz⟩ := hv
  have hx := B.exec
  have hb := B.bytes
  have hr := B.returns
  have hts := atoms_spec (ws := .code yX9_init cX9_init 2 none :: gb_wA) B.pre
  have hq : ∀ w ∈ gb_wA, w.before _ s = true := fun w h => hts w (List.mem_cons_of_mem _ h)
  have hown : s.vm.findClass RX9 = some m.cls := findClass_of_methodNamed B.named
  have hlocks := B.notSynchronized
  have hin : meth.name = "<init>" := (name_of_methodNamed B.named B.method).1
  have hK := hSt.1
  have hS : va_S (gb_ge b) s.heap s.heap [] := va_S.rf
  have hl := lv_entry ([.ref (b + 0), .int 16]) (n := 2) (Nat.le_of_ble_eq_true rfl)
  rw [lg_entry_eq]
  generalize (lg_sl ([.ref (b + 0), .int 16]) ++ List.replicate (2 - (lg_sl ([.ref (b + 0), .int 16])).length) Slot.unset).toArray = ls at hl ⊢
  have hl : lv_has ls 2 [(0, .ref (b + 0)), (1, .int 16)] := hl
  refine lv_aload_n hx hb dX9_init_0 rfl (lv_at hl 0 rfl) ?_
  refine W.objInit hx hb hown (hq _ w_45) (hq _ w_28) (hq _ w_29) rfl (by rw [hml]; exact hl.1) rfl dX9_init_1 (Nat.le_of_ble_eq_true rfl) (Nat.le_of_ble_eq_true rfl) ?_
  refine W.eq (g2 := F0 m 4 ls []) rfl ?_
  refine lv_aload_n hx hb dX9_init_4 rfl (lv_at hl 0 rfl) ?_
  refine lv_iconst (v := 1) hx hb dX9_init_5 (by decide) ?_
  refine lv_iload_n hx hb dX9_init_6 rfl (lv_at hl 1 rfl) ?_
  refine va_mmax hx hb (hml.trans hl.1.symm) hown (hq _ w_46) (hq _ w_47) (hq _ w_5) (hq _ w_48) (Nat.le_of_ble_eq_true rfl) (Nat.le_of_ble_eq_true rfl) (Nat.le_of_ble_eq_true rfl) (Nat.le_of_ble_eq_true rfl) dX9_init_7 ?_
  refine W.eq (g2 := F0 m 10 ls [.int 16, .ref (b + 0)]) (congrArg (fun v => F0 m 10 ls (Value.int v :: [.ref (b + 0)])) (by decide)) ?_
  refine gb_newa (atype := .int) (a0 := (16, .inl (fun _ => 0))) hx hb (hq _ w_59) (ty := .int) rfl hK hP hS 1 hz rfl 0 rfl (fun h => h) (fun _ => rfl) (by decide) (by decide) (Nat.le_of_ble_eq_true rfl) (Nat.le_of_ble_eq_true rfl) (Nat.le_of_ble_eq_true rfl) dX9_init_10 (fun H hP hz hS => ?_)
  have hP : va_P D vwCl (gb_wl b [.inr (1, [.int 0, .int 0, .int 0, .null]), .inl (cT 0, 16, .inl (fun _ => 0))]) H := hP
  refine W.widen (k := 1) (n := 16) (Nat.le_of_ble_eq_true rfl) (Nat.le_of_ble_eq_true rfl) ?_
  refine gb_putF (ci := 1) (v := (.ref (b + 1))) (ty := .array .int) (C := RX1) (T := TX1) (N := 4) hx hb hq i_X1 tyX1 tyX1_ok nmX1 hown hK hP (fun k _ => Nat.le_add_right b k) hS hz 0 rfl rfl 3 (by decide) (hq _ w_51) (fun _ h9 => h9) rfl hin rfl (by decide +kernel) rfl rfl (Nat.le_of_ble_eq_true rfl) dX9_init_12 (fun H locs hP hz hS => ?_)
  have hP : va_P D vwCl (gb_wl b [.inr (1, [.int 0, .int 0, .int 0, .ref (b + 1)]), .inl (cT 0, 16, .inl (fun _ => 0))]) H := hP
  exact W.vret hx hb hr (fun t ht hW => gb_rv ht ⟨hP, hz⟩ hS) hS.2.2 dX9_init_15
set_option maxHeartbeats 4000000 in
set_option maxRecDepth 100000 in
theorem k_X4_init_3 (l : Launch) (D : va_G) (cT : Nat → ClassId) (tt : Nat → Nat) (b1 b : Nat) (hb1 : b1 ≤ b) : Met l yX4_init (.code yX4_init cX4_init 4 none :: gb_wA) ({ frames := 2, cells := 1, slots := 16, locals := 35 }) (gb_Pc D cT tt b1 [.ref (b + 0), .int 5, .int 2, .int 17] (fun h => va_P D vwCl (gb_wl b [.inr (1, [.int 0, .int 0, .int 0, .null])]) h ∧ Array.size h = b + 1)) (gb_Qv (fun h => va_P D vwCl (gb_wl b [.inr (1, [.int 5, .int 2, .int 17, .ref (b + 1)]), .inl (cT 0, 16, .inl (fun _ => 0))]) h ∧ Array.size h = b + 2) (gb_ge b)) 1 16 (gb_ge b) := by
  refine Met.ofW (cc := cX4_init) (maxL := 4) (ret := none) (by decide) rfl ?_
  intro p e s m args below meth c s₁ B hml hv
  obtain ⟨rfl, hSt, hP, hz⟩ := hv
  have hx := B.exec
  have hb := B.bytes
  have hr := B.returns
  have hts := atoms_spec (ws := .code yX4_init cX4_init 4 none :: gb_wA) B.pre
  have hq : ∀ w ∈ gb_wA, w.before _ s = true := fun w h => hts w (List.mem_cons_of_mem _ h)
  have hown : s.vm.findClass RX4 = some m.cls := findClass_of_methodNamed B.named
  have hlocks := B.notSynchronized
  have hin : meth.name = "<init>" := (name_of_methodNamed B.named B.method).1
  have hK := hSt.1
  have hS : va_S (gb_ge b) s.heap s.heap [] := va_S.rf
  have hl := lv_entry ([.ref (b + 0), .int 5, .int 2, .int 17]) (n := 4) (Nat.le_of_ble_eq_true rfl)
  rw [lg_entry_eq]
  generalize (lg_sl ([.ref (b + 0), .int 5, .int 2, .int 17]) ++ List.replicate (4 - (lg_sl ([.ref (b + 0), .int 5, .int 2, .int 17])).length) Slot.unset).toArray = ls at hl ⊢
  have hl : lv_has ls 4 [(0, .ref (b + 0)), (1, .int 5), (2, .int 2), (3, .int 17)] := hl
  refine lv_aload_n hx hb dX4_init_0 rfl (lv_at hl 0 rfl) ?_
  refine lv_iconst (v := 1) hx hb dX4_init_1 (by decide) ?_
  refine lv_iload_n hx hb dX4_init_2 rfl (lv_at hl 1 rfl) ?_
  refine lv_iload_n hx hb dX4_init_3 rfl (lv_at hl 2 rfl) ?_
  refine lv_iconst (v := 1) hx hb dX4_init_4 (by decide) ?_
  refine lv_iadd hx hb dX4_init_5 ?_
  refine W.eq (g2 := F0 m 6 ls [.int 3, .int 5, .int 1, .ref (b + 0)]) (congrArg (fun v => F0 m 6 ls (Value.int v :: [.int 5, .int 1, .ref (b + 0)])) (show (2 : Int32) + 1 = 3 by decide)) ?_
  refine lv_imul hx hb dX4_init_6 ?_
  refine W.eq (g2 := F0 m 7 ls [.int 15, .int 1, .ref (b + 0)]) (congrArg (fun v => F0 m 7 ls (Value.int v :: [.int 1, .ref (b + 0)])) (show (5 : Int32) * 3 = 15 by decide)) ?_
  refine lv_iadd hx hb dX4_init_7 ?_
  refine W.eq (g2 := F0 m 8 ls [.int 16, .ref (b + 0)]) (congrArg (fun v => F0 m 8 ls (Value.int v :: [.ref (b + 0)])) (show (1 : Int32) + 15 = 16 by decide)) ?_
  have hPc := gb_drop hP 0 (suf := [.inr (1, [.int 0, .int 0, .int 0, .null])]) rfl rfl
  refine gb_callv (va_runI (As := [.int 16]) (rest := []) ⟨hx, hb, hml, hown, hq⟩ (k_X9_init_4 l D cT tt b1 (b + 0) (Nat.le_trans hb1 (Nat.le_add_right b 0))) (cwI 1 hq (gb_gI w_44) rfl rfl rfl (hq _ w_3) (hq _ w_71) (hq _ w_43) rfl (by decide +kernel) ⟨Nat.le_of_ble_eq_true rfl, Nat.le_of_ble_eq_true rfl⟩) (gb_preS hSt hS (fun q h => Nat.le_trans hb1 h) (show va_P D vwCl (gb_wl (b + 0) [.inr (1, [.int 0, .int 0, .int 0, .null])]) s.heap ∧ Array.size s.heap = b + 0 + 1 from ⟨hPc, hz⟩)) rfl rfl hl.1 rfl (lv_room (Nat.le_of_ble_eq_true rfl)) dX4_init_8 ⟨Nat.le_of_ble_eq_true rfl, Nat.le_of_ble_eq_true rfl⟩) hS (fun q h => Nat.le_trans (Nat.le_add_right b 0) h) (fun q h => Nat.le_trans (Nat.le_add_right b 0) h) (fun H locs hY hk hS => ?_)
  have hP := gb_glue hP 0 (pre := []) rfl rfl hk hY.1
  have hP : va_P D vwCl (gb_wl b [.inr (1, [.int 0, .int 0, .int 0, .ref (b + 1)]), .inl (cT 0, 16, .inl (fun _ => 0))]) H := hP
  have hz : Array.size H = b + 2 := hY.2
  refine W.widen (k := 1) (n := 16) (Nat.le_of_ble_eq_true rfl) (Nat.le_of_ble_eq_true rfl) ?_
  refine lv_aload_n hx hb dX4_init_11 rfl (lv_at hl 0 rfl) ?_
  refine lv_iload_n hx hb dX4_init_12 rfl (lv_at hl 1 rfl) ?_
  refine gb_putF (ci := 1) (v := (.int 5)) (ty := .int) (C := RX1) (T := TX1) (N := 4) hx hb hq i_X1 tyX1 tyX1_ok nmX1 hown hK hP (fun k _ => Nat.le_add_right b k) hS hz 0 rfl rfl 0 (by decide) (hq _ w_72) (fun _ h9 => h9) rfl hin rfl (by decide +kernel) rfl rfl (Nat.le_of_ble_eq_true rfl) dX4_init_13 (fun H locs hP hz hS => ?_)
  have hP : va_P D vwCl (gb_wl b [.inr (1, [.int 5, .int 0, .int 0, .ref (b + 1)]), .inl (cT 0, 16, .inl (fun _ => 0))]) H := hP
  refine lv_aload_n hx hb dX4_init_16 rfl (lv_at hl 0 rfl) ?_
  refine lv_iload_n hx hb dX4_init_17 rfl (lv_at hl 2 rfl) ?_
  refine gb_putF (ci := 1) (v := (.int 2)) (ty := .int) (C := RX1) (T := TX1) (N := 4) hx hb hq i_X1 tyX1 tyX1_ok nmX1 hown hK hP (fun k _ => Nat.le_add_right b k) hS hz 0 rfl rfl 1 (by decide) (hq _ w_73) (fun _ h9 => h9) rfl hin rfl (by decide +kernel) rfl rfl (Nat.le_of_ble_eq_true rfl) dX4_init_18 (fun H locs hP hz hS => ?_)
  have hP : va_P D vwCl (gb_wl b [.inr (1, [.int 5, .int 2, .int 0, .ref (b + 1)]), .inl (cT 0, 16, .inl (fun _ => 0))]) H := hP
  refine lv_aload_n hx hb dX4_init_21 rfl (lv_at hl 0 rfl) ?_
  refine lv_iload_n hx hb dX4_init_22 rfl (lv_at hl 3 rfl) ?_
  refine gb_putF (ci := 1) (v := (.int 17)) (ty := .int) (C := RX1) (T := TX1) (N := 4) hx hb hq i_X1 tyX1 tyX1_ok nmX1 hown hK hP (fun k _ => Nat.le_add_right b k) hS hz 0 rfl rfl 2 (by decide) (hq _ w_77) (fun _ h9 => h9) rfl hin rfl (by decide +kernel) rfl rfl (Nat.le_of_ble_eq_true rfl) dX4_init_23 (fun H locs hP hz hS => ?_)
  have hP : va_P D vwCl (gb_wl b [.inr (1, [.int 5, .int 2, .int 17, .ref (b + 1)]), .inl (cT 0, 16, .inl (fun _ => 0))]) H := hP
  exact W.vret hx hb hr (fun t ht hW => gb_rv ht ⟨hP, hz⟩ hS) hS.2.2 dX4_init_26
theorem w_106 : (Cond.methodLink "GooseBorder$Dawn" (7 : Nat) ({ cls := "GooseBorder$Lines", name := "<init>", desc := "(III)V" } : MethodName)) ∈ gb_wA := gb_t1 106 rfl rfl
theorem dX1_init_11 : decode cX1_init 11 = .ok (.return_, 1) := dc_177 (show ((cX1_init.data.toList.drop 11).take 1).map UInt8.toNat = [177] by decide +kernel)
set_option maxHeartbeats 4000000 in
set_option maxRecDepth 100000 in
theorem k_X1_init (l : Launch) (D : va_G) (cT : Nat → ClassId) (tt : Nat → Nat) (b1 b : Nat) (hb1 : b1 ≤ b) : Met l yX1_init (.code yX1_init cX1_init 1 none :: gb_wA) ({ frames := 3, cells := 1, slots := 16, locals := 58 }) (gb_Pc D cT tt b1 [.ref (b + 0)] (fun h => va_P D vwCl (gb_wl b [.inr (1, [.int 0, .int 0, .int 0, .null])]) h ∧ Array.size h = b + 1)) (gb_Qv (fun h => va_P D vwCl (gb_wl b [.inr (1, [.int 5, .int 2, .int 17, .ref (b + 1)]), .inl (cT 0, 16, .inl (fun _ => 0))]) h ∧ Array.size h = b + 2) (gb_ge b)) 1 16 (gb_ge b) := by
  refine Met.ofW (cc := cX1_init) (maxL := 1) (ret := none) (by decide) rfl ?_
  intro p e s m args below meth c s₁ B hml hv
  obtain ⟨rfl, hSt, hP, hz⟩ := hv
  have hx := B.exec
  have hb := B.bytes
  have hr := B.returns
  have hts := atoms_spec (ws := .code yX1_init cX1_init 1 none :: gb_wA) B.pre
  have hq : ∀ w ∈ gb_wA, w.before _ s = true := fun w h => hts w (List.mem_cons_of_mem _ h)
  have hown : s.vm.findClass RX1 = some m.cls := findClass_of_methodNamed B.named
  have hlocks := B.notSynchronized
  have hin : meth.name = "<init>" := (name_of_methodNamed B.named B.method).1
  have hK := hSt.1
  have hS : va_S (gb_ge b) s.heap s.heap [] := va_S.rf
  have hl := lv_entry ([.ref (b + 0)]) (n := 1) (Nat.le_of_ble_eq_true rfl)
  rw [lg_entry_eq]
  generalize (lg_sl ([.ref (b + 0)]) ++ List.replicate (1 - (lg_sl ([.ref (b + 0)])).length) Slot.unset).toArray = ls at hl ⊢
  have hl : lv_has ls 1 [(0, .ref (b + 0))] := hl
  refine lv_aload_n hx hb dX1_init_0 rfl (lv_at hl 0 rfl) ?_
  refine lv_iconst (v := 5) hx hb dX1_init_1 (by decide) ?_
  refine lv_iconst (v := 2) hx hb dX1_init_2 (by decide) ?_
  refine va_getsN hx hb (hSt.2.2.2.1.1.narrow (fun q h => Nat.le_trans hb1 h)) hS hown (va_Nw.use rfl (hSt.2.1 _ gb_n105)) (fun _ h9 => h9) dX1_init_3 ?_
  refine lv_iconst (v := 3) hx hb dX1_init_6 (by decide) ?_
  refine va_ti (v := (.int 17)) hx hb (hSt.2.2.2.1.2.narrow (fun q h => Nat.le_trans hb1 h)) hS (gb_in rfl) rfl dX1_init_7 ?_
  have hPc := gb_drop hP 0 (suf := [.inr (1, [.int 0, .int 0, .int 0, .null])]) rfl rfl
  refine gb_callv (va_runI (As := [.int 5, .int 2, .int 17]) (rest := []) ⟨hx, hb, hml, hown, hq⟩ (k_X4_init_3 l D cT tt b1 (b + 0) (Nat.le_trans hb1 (Nat.le_add_right b 0))) (cwI 3 hq (gb_gI w_70) rfl rfl rfl (hq _ w_6) (hq _ w_106) (hq _ w_69) rfl (by decide +kernel) ⟨Nat.le_of_ble_eq_true rfl, Nat.le_of_ble_eq_true rfl⟩) (gb_preS hSt hS (fun q h => Nat.le_trans hb1 h) (show va_P D vwCl (gb_wl (b + 0) [.inr (1, [.int 0, .int 0, .int 0, .null])]) s.heap ∧ Array.size s.heap = b + 0 + 1 from ⟨hPc, hz⟩)) rfl rfl hl.1 rfl (lv_room (Nat.le_of_ble_eq_true rfl)) dX1_init_8 ⟨Nat.le_of_ble_eq_true rfl, Nat.le_of_ble_eq_true rfl⟩) hS (fun q h => Nat.le_trans (Nat.le_add_right b 0) h) (fun q h => Nat.le_trans (Nat.le_add_right b 0) h) (fun H locs hY hk hS => ?_)
  have hP := gb_glue hP 0 (pre := []) rfl rfl hk hY.1
  have hP : va_P D vwCl (gb_wl b [.inr (1, [.int 5, .int 2, .int 17, .ref (b + 1)]), .inl (cT 0, 16, .inl (fun _ => 0))]) H := hP
  have hz : Array.size H = b + 2 := hY.2
  refine W.widen (k := 1) (n := 16) (Nat.le_of_ble_eq_true rfl) (Nat.le_of_ble_eq_true rfl) ?_
  exact W.vret hx hb hr (fun t ht hW => gb_rv ht ⟨hP, hz⟩ hS) hS.2.2 dX1_init_11
