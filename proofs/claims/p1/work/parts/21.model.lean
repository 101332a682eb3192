theorem dX12_border_0 : decode cX12_border 0 = .ok (.aload_n 0, 1) := by decide +kernel
theorem dX12_border_1 : decode cX12_border 1 = .ok (.iload_n 1, 1) := by decide +kernel
theorem dX12_border_2 : decode cX12_border 2 = .ok (.invokevirtual 205, 3) := by decide +kernel
theorem dX12_isBorder_0 : decode cX12_isBorder 0 = .ok (.aload_n 0, 1) := by decide +kernel
theorem dX12_isBorder_1 : decode cX12_isBorder 1 = .ok (.iconst 0, 1) := by decide +kernel
theorem dX12_isBorder_2 : decode cX12_isBorder 2 = .ok (.iload_n 1, 1) := by decide +kernel
theorem dX12_isBorder_3 : decode cX12_isBorder 3 = .ok (.invokevirtual 171, 3) := by decide +kernel
theorem dX12_isOf_0 : decode cX12_isOf 0 = .ok (.iload_n 2, 1) := by decide +kernel
theorem dX12_isOf_1 : decode cX12_isOf 1 = .ok (.iconst 0, 1) := by decide +kernel
theorem dX12_isOf_2 : decode cX12_isOf 2 = .ok (.aload_n 0, 1) := by decide +kernel
theorem dX12_isOf_3 : decode cX12_isOf 3 = .ok (.getfield 7, 3) := by decide +kernel
theorem dX12_isOf_6 : decode cX12_isOf 6 = .ok (.iload_n 1, 1) := by decide +kernel
theorem dX12_isOf_7 : decode cX12_isOf 7 = .ok (.iaload, 1) := by decide +kernel
theorem dX12_isOf_8 : decode cX12_isOf 8 = .ok (.iconst 1, 1) := by decide +kernel
theorem dX12_isOf_9 : decode cX12_isOf 9 = .ok (.isub, 1) := by decide +kernel
theorem dX12_isOf_10 : decode cX12_isOf 10 = .ok (.invokestatic 129, 3) := by decide +kernel
theorem dX12_isIn_0 : decode cX12_isIn 0 = .ok (.iload_n 0, 1) := by decide +kernel
theorem dX12_isIn_1 : decode cX12_isIn 1 = .ok (.iload_n 1, 1) := by decide +kernel
theorem dX12_isIn_2 : decode cX12_isIn 2 = .ok (.if_icmp .lt 12, 3) := by decide +kernel
theorem dX12_isIn_14 : decode cX12_isIn 14 = .ok (.iconst 0, 1) := by decide +kernel
theorem dX12_isIn_15 : decode cX12_isIn 15 = .ok (.ireturn, 1) := by decide +kernel
theorem dX12_isIn_5 : decode cX12_isIn 5 = .ok (.iload_n 0, 1) := by decide +kernel
theorem dX12_isIn_6 : decode cX12_isIn 6 = .ok (.iload_n 2, 1) := by decide +kernel
theorem dX12_isIn_7 : decode cX12_isIn 7 = .ok (.if_icmp .gt 7, 3) := by decide +kernel
set_option maxHeartbeats 4000000 in
set_option maxRecDepth 100000 in
theorem f_X12_isIn (l : Launch) (D : va_G) (cT : Nat → ClassId) (tt : Nat → Nat) (b1 b : Nat) (hb1 : b1 ≤ b) (p1 : Int32) : Met l yX12_isIn (.code yX12_isIn cX12_isIn 3 (some FieldType.boolean) :: gb_wA) ({ frames := 0, cells := 0, slots := 0, locals := 0 }) (gb_Pc D cT tt b1 [.int p1, .int 0, .int (-1)] (fun h => va_P D vwCl (gb_wl b (gb_M cT b)) h)) (gb_Qi (fun r h => r = 0 ∧ va_P D vwCl (gb_wl b (gb_M cT b)) h) (gb_fr b 22)) 0 0 (gb_fr b 22) := by
  refine Met.ofW (cc := cX12_isIn) (maxL := 3) (ret := (some FieldType.boolean)) (by decide) rfl ?_
  intro p e s m args below meth c s₁ B hml hv
  obtain ⟨rfl, hSt, hP⟩ := hv
  have hx := B.exec
  have hb := B.bytes
  have hr := B.returns
  have hts := atoms_spec (ws := .code yX12_isIn cX12_isIn 3 (some FieldType.boolean) :: gb_wA) B.pre
  have hq : ∀ w ∈ gb_wA, w.before _ s = true := fun w h => hts w (List.mem_cons_of_mem _ h)
  have hown : s.vm.findClass RX12 = some m.cls := findClass_of_methodNamed B.named
  have hlocks := B.notSynchronized
  have hK := hSt.1
  have hS : va_S (gb_fr b 22) s.heap s.heap [] := va_S.rf
  have hl := lv_entry ([.int p1, .int 0, .int (-1)]) (n := 3) (Nat.le_of_ble_eq_true rfl)
  rw [lg_entry_eq]
  generalize (lg_sl ([.int p1, .int 0, .int (-1)]) ++ List.replicate (3 - (lg_sl ([.int p1, .int 0, .int (-1)])).length) Slot.unset).toArray = ls at hl ⊢
  have hl : lv_has ls 3 [(0, .int p1), (1, .int 0), (2, .int (-1))] := hl
  refine lv_iload_n hx hb dX12_isIn_0 rfl (lv_at hl 0 rfl) ?_
  refine lv_iload_n hx hb dX12_isIn_1 rfl (lv_at hl 1 rfl) ?_
  refine lv_icmp_lt (tgt := 14) hx hb dX12_isIn_2 (by decide) (fun c_2 => ?_) (fun c_2 => ?_)
  · refine lv_iconst (v := 0) hx hb dX12_isIn_14 (by decide) ?_
    exact W.zret (v := 0) hx hb hr (by decide) (fun t ht hW => gb_ri ht ⟨rfl, hP⟩ hS) hS.2.2 dX12_isIn_15
  · refine lv_iload_n hx hb dX12_isIn_5 rfl (lv_at hl 0 rfl) ?_
    refine lv_iload_n hx hb dX12_isIn_6 rfl (lv_at hl 2 rfl) ?_
    refine lv_icmp_gt (tgt := 14) hx hb dX12_isIn_7 (by decide) (fun c_7 => ?_) (fun c_7 => absurd (Int32.le_trans (Int32.not_lt.mp c_2) (Int32.not_lt.mp c_7)) (by decide))
    refine lv_iconst (v := 0) hx hb dX12_isIn_14 (by decide) ?_
    exact W.zret (v := 0) hx hb hr (by decide) (fun t ht hW => gb_ri ht ⟨rfl, hP⟩ hS) hS.2.2 dX12_isIn_15
theorem w_1271 : (Cond.code ({ cls := "GooseBorderModel", name := "isIn", desc := "(III)Z" } : MethodName) prog_14_method_2_code (3 : Nat) (Option.some FieldType.boolean)) ∈ gb_wA := gb_t6 71 rfl rfl
theorem w_1269 : (Cond.methodLink "GooseBorderModel" (129 : Nat) ({ cls := "GooseBorderModel", name := "isIn", desc := "(III)Z" } : MethodName)) ∈ gb_wA := gb_t6 69 rfl rfl
theorem w_1270 : (Cond.static ({ cls := "GooseBorderModel", name := "isIn", desc := "(III)Z" } : MethodName)) ∈ gb_wA := gb_t6 70 rfl rfl
theorem w_14 : (Cond.initialized "GooseBorderModel") ∈ gb_wA := gb_t1 14 rfl rfl
theorem dX12_isOf_13 : decode cX12_isOf 13 = .ok (.ireturn, 1) := by decide +kernel
set_option maxHeartbeats 4000000 in
set_option maxRecDepth 100000 in
theorem f_X12_isOf (l : Launch) (D : va_G) (cT : Nat → ClassId) (tt : Nat → Nat) (b1 b : Nat) (hb1 : b1 ≤ b) (p2 : Int32) : Met l yX12_isOf (.code yX12_isOf cX12_isOf 3 (some FieldType.boolean) :: gb_wA) ({ frames := 1, cells := 0, slots := 0, locals := 22 }) (gb_Pc D cT tt b1 [.ref (b + 0), .int 0, .int p2] (fun h => va_P D vwCl (gb_wl b (gb_M cT b)) h)) (gb_Qi (fun r h => r = 0 ∧ va_P D vwCl (gb_wl b (gb_M cT b)) h) (gb_fr b 22)) 0 0 (gb_fr b 22) := by
  refine Met.ofW (cc := cX12_isOf) (maxL := 3) (ret := (some FieldType.boolean)) (by decide) rfl ?_
  intro p e s m args below meth c s₁ B hml hv
  obtain ⟨rfl, hSt, hP⟩ := hv
  have hx := B.exec
  have hb := B.bytes
  have hr := B.returns
  have hts := atoms_spec (ws := .code yX12_isOf cX12_isOf 3 (some FieldType.boolean) :: gb_wA) B.pre
  have hq : ∀ w ∈ gb_wA, w.before _ s = true := fun w h => hts w (List.mem_cons_of_mem _ h)
  have hown : s.vm.findClass RX12 = some m.cls := findClass_of_methodNamed B.named
  have hlocks := B.notSynchronized
  have hK := hSt.1
  have hS : va_S (gb_fr b 22) s.heap s.heap [] := va_S.rf
  have hl := lv_entry ([.ref (b + 0), .int 0, .int p2]) (n := 3) (Nat.le_of_ble_eq_true rfl)
  rw [lg_entry_eq]
  generalize (lg_sl ([.ref (b + 0), .int 0, .int p2]) ++ List.replicate (3 - (lg_sl ([.ref (b + 0), .int 0, .int p2])).length) Slot.unset).toArray = ls at hl ⊢
  have hl : lv_has ls 3 [(0, .ref (b + 0)), (1, .int 0), (2, .int p2)] := hl
  refine lv_iload_n hx hb dX12_isOf_0 rfl (lv_at hl 2 rfl) ?_
  refine lv_iconst (v := 0) hx hb dX12_isOf_1 (by decide) ?_
  refine lv_aload_n hx hb dX12_isOf_2 rfl (lv_at hl 0 rfl) ?_
  refine va_get (ci := 10) (v := (.ref (b + 1))) (C := RX12) (T := TX12) (N := 44) hx hb hq i_X12 hown hK hP 0 (gb_at b rfl) rfl 0 (by decide) (hq _ w_1124) (fun _ h9 => h9) rfl dX12_isOf_3 ?_
  refine lv_iload_n hx hb dX12_isOf_6 rfl (lv_at hl 1 rfl) ?_
  refine gb_iald (v := 0) hx hb hK hP 1 0 (gb_at b rfl) rfl (gb_in rfl) rfl dX12_isOf_7 ?_
  refine lv_iconst (v := 1) hx hb dX12_isOf_8 (by decide) ?_
  refine lv_isub hx hb dX12_isOf_9 ?_
  refine W.eq (g2 := F0 m 10 ls [.int (-1), .int 0, .int p2]) (congrArg (fun v => F0 m 10 ls (Value.int v :: [.int 0, .int p2])) (show (0 : Int32) - 1 = (-1) by decide)) ?_
  refine gb_calli (va_runS (As := [.int p2, .int 0, .int (-1)]) (rest := []) ⟨hx, hb, hml, hown, hq⟩ (f_X12_isIn l D cT tt b1 b hb1 p2) (va_cwS 3 hq (gb_gS w_1269 w_1270 w_14 w_1271) rfl rfl rfl (by decide +kernel) ⟨Nat.le_of_ble_eq_true rfl, Nat.le_of_ble_eq_true rfl⟩) (gb_preS hSt hS (fun q h => Nat.le_trans hb1 h.1) hP) rfl rfl hl.1 rfl (lv_room (Nat.le_of_ble_eq_true rfl)) dX12_isOf_10 ⟨Nat.le_of_ble_eq_true rfl, Nat.le_of_ble_eq_true rfl⟩) hS (fun _ h => h) (fun _ h => h) (fun r H locs hY hk hS => ?_)
  obtain ⟨hr9, hP⟩ := hY
  subst hr9
  exact W.zret (v := 0) hx hb hr (by decide) (fun t ht hW => gb_ri ht ⟨rfl, hP⟩ hS) hS.2.2 dX12_isOf_13
theorem w_1275 : (Cond.code ({ cls := "GooseBorderModel", name := "isOf", desc := "(II)Z" } : MethodName) prog_14_method_28_code (3 : Nat) (Option.some FieldType.boolean)) ∈ gb_wA := gb_t6 75 rfl rfl
theorem w_1272 : (Cond.methodLink "GooseBorderModel" (171 : Nat) ({ cls := "GooseBorderModel", name := "isOf", desc := "(II)Z" } : MethodName)) ∈ gb_wA := gb_t6 72 rfl rfl
theorem w_1274 : (Cond.instanceMethod ({ cls := "GooseBorderModel", name := "isOf", desc := "(II)Z" } : MethodName)) ∈ gb_wA := gb_t6 74 rfl rfl
theorem s_3_0 : Cond.selects "GooseBorderModel" (⟨"GooseBorderModel", "isOf", "(II)Z"⟩ : MethodName) (⟨"GooseBorderModel", "isOf", "(II)Z"⟩ : MethodName) ∈ gb_wA := gb_s3 0 rfl rfl
theorem dX12_isBorder_6 : decode cX12_isBorder 6 = .ok (.ifCond .ne 5, 3) := by decide +kernel
theorem dX12_isBorder_9 : decode cX12_isBorder 9 = .ok (.iconst 0, 1) := by decide +kernel
theorem dX12_isBorder_10 : decode cX12_isBorder 10 = .ok (.ireturn, 1) := by decide +kernel
set_option maxHeartbeats 4000000 in
set_option maxRecDepth 100000 in
theorem f_X12_isBorder (l : Launch) (D : va_G) (cT : Nat → ClassId) (tt : Nat → Nat) (b1 b : Nat) (hb1 : b1 ≤ b) (p1 : Int32) : Met l yX12_isBorder (.code yX12_isBorder cX12_isBorder 2 (some FieldType.boolean) :: gb_wA) ({ frames := 2, cells := 0, slots := 0, locals := 44 }) (gb_Pc D cT tt b1 [.ref (b + 0), .int p1] (fun h => va_P D vwCl (gb_wl b (gb_M cT b)) h)) (gb_Qi (fun r h => r = 0 ∧ va_P D vwCl (gb_wl b (gb_M cT b)) h) (gb_fr b 22)) 0 0 (gb_fr b 22) := by
  refine Met.ofW (cc := cX12_isBorder) (maxL := 2) (ret := (some FieldType.boolean)) (by decide) rfl ?_
  intro p e s m args below meth c s₁ B hml hv
  obtain ⟨rfl, hSt, hP⟩ := hv
  have hx := B.exec
  have hb := B.bytes
  have hr := B.returns
  have hts := atoms_spec (ws := .code yX12_isBorder cX12_isBorder 2 (some FieldType.boolean) :: gb_wA) B.pre
  have hq : ∀ w ∈ gb_wA, w.before _ s = true := fun w h => hts w (List.mem_cons_of_mem _ h)
  have hown : s.vm.findClass RX12 = some m.cls := findClass_of_methodNamed B.named
  have hlocks := B.notSynchronized
  have hK := hSt.1
  have hS : va_S (gb_fr b 22) s.heap s.heap [] := va_S.rf
  have hl := lv_entry ([.ref (b + 0), .int p1]) (n := 2) (Nat.le_of_ble_eq_true rfl)
  rw [lg_entry_eq]
  generalize (lg_sl ([.ref (b + 0), .int p1]) ++ List.replicate (2 - (lg_sl ([.ref (b + 0), .int p1])).length) Slot.unset).toArray = ls at hl ⊢
  have hl : lv_has ls 2 [(0, .ref (b + 0)), (1, .int p1)] := hl
  refine lv_aload_n hx hb dX12_isBorder_0 rfl (lv_at hl 0 rfl) ?_
  refine lv_iconst (v := 0) hx hb dX12_isBorder_1 (by decide) ?_
  refine lv_iload_n hx hb dX12_isBorder_2 rfl (lv_at hl 1 rfl) ?_
  refine gb_calli (va_runV (C := RX12) (As := [.int 0, .int p1]) (rest := []) ⟨hx, hb, hml, hown, hq⟩ (f_X12_isOf l D cT tt b1 b hb1 p1) (cwV 2 hq (gb_gV w_1272 w_1274 s_3_0 w_14 w_1275) rfl rfl rfl (by decide +kernel) ⟨Nat.le_of_ble_eq_true rfl, Nat.le_of_ble_eq_true rfl⟩) (gb_preV (r := (RX12, TX12, 44)) (ci := 10) (q0 := 0) hSt hP rfl (gb_at b rfl) hS (fun q h => Nat.le_trans hb1 h.1) hP) rfl rfl hl.1 rfl (lv_room (Nat.le_of_ble_eq_true rfl)) dX12_isBorder_3 ⟨Nat.le_of_ble_eq_true rfl, Nat.le_of_ble_eq_true rfl⟩) hS (fun _ h => h) (fun _ h => h) (fun r H locs hY hk hS => ?_)
  obtain ⟨hr9, hP⟩ := hY
  subst hr9
  refine lv_if_ne (tgt := 11) hx hb dX12_isBorder_6 (by decide) (fun hc => absurd hc (by decide)) (fun _ => ?_)
  refine lv_iconst (v := 0) hx hb dX12_isBorder_9 (by decide) ?_
  exact W.zret (v := 0) hx hb hr (by decide) (fun t ht hW => gb_ri ht ⟨rfl, hP⟩ hS) hS.2.2 dX12_isBorder_10
theorem w_1375 : (Cond.code ({ cls := "GooseBorderModel", name := "isBorder", desc := "(I)Z" } : MethodName) prog_14_method_31_code (2 : Nat) (Option.some FieldType.boolean)) ∈ gb_wA := gb_t6 175 rfl rfl
theorem w_1372 : (Cond.methodLink "GooseBorderModel" (205 : Nat) ({ cls := "GooseBorderModel", name := "isBorder", desc := "(I)Z" } : MethodName)) ∈ gb_wA := gb_t6 172 rfl rfl
theorem w_1374 : (Cond.instanceMethod ({ cls := "GooseBorderModel", name := "isBorder", desc := "(I)Z" } : MethodName)) ∈ gb_wA := gb_t6 174 rfl rfl
theorem s_4_1 : Cond.selects "GooseBorderModel" (⟨"GooseBorderModel", "isBorder", "(I)Z"⟩ : MethodName) (⟨"GooseBorderModel", "isBorder", "(I)Z"⟩ : MethodName) ∈ gb_wA := gb_s4 1 rfl rfl
theorem dX12_border_5 : decode cX12_border 5 = .ok (.ifCond .ne 6, 3) := by decide +kernel
theorem dX12_border_8 : decode cX12_border 8 = .ok (.bipush (-2), 2) := by decide +kernel
theorem dX12_border_10 : decode cX12_border 10 = .ok (.ireturn, 1) := by decide +kernel
set_option maxHeartbeats 4000000 in
set_option maxRecDepth 100000 in
theorem a_X12_border (l : Launch) (D : va_G) (cT : Nat → ClassId) (tt : Nat → Nat) (b1 b : Nat) (hb1 : b1 ≤ b) (p1 : Int32) (p2 : Int32) : Met l yX12_border (.code yX12_border cX12_border 4 (some FieldType.int) :: gb_wA) ({ frames := 3, cells := 0, slots := 0, locals := 65 }) (gb_Pc D cT tt b1 [.ref (b + 0), .int p1, .int p2] (fun h => va_P D vwCl (gb_wl b (gb_M cT b)) h)) (gb_Qi (fun r _ => r = (-2)) (gb_fr b 22)) 0 0 (gb_fr b 22) := by
  refine Met.ofW (cc := cX12_border) (maxL := 4) (ret := (some FieldType.int)) (by decide) rfl ?_
  intro p e s m args below meth c s₁ B hml hv
  obtain ⟨rfl, hSt, hP⟩ := hv
  have hx := B.exec
  have hb := B.bytes
  have hr := B.returns
  have hts := atoms_spec (ws := .code yX12_border cX12_border 4 (some FieldType.int) :: gb_wA) B.pre
  have hq : ∀ w ∈ gb_wA, w.before _ s = true := fun w h => hts w (List.mem_cons_of_mem _ h)
  have hown : s.vm.findClass RX12 = some m.cls := findClass_of_methodNamed B.named
  have hlocks := B.notSynchronized
  have hK := hSt.1
  have hS : va_S (gb_fr b 22) s.heap s.heap [] := va_S.rf
  have hl := lv_entry ([.ref (b + 0), .int p1, .int p2]) (n := 4) (Nat.le_of_ble_eq_true rfl)
  rw [lg_entry_eq]
  generalize (lg_sl ([.ref (b + 0), .int p1, .int p2]) ++ List.replicate (4 - (lg_sl ([.ref (b + 0), .int p1, .int p2])).length) Slot.unset).toArray = ls at hl ⊢
  have hl : lv_has ls 4 [(0, .ref (b + 0)), (1, .int p1), (2, .int p2)] := hl
  refine lv_aload_n hx hb dX12_border_0 rfl (lv_at hl 0 rfl) ?_
  refine lv_iload_n hx hb dX12_border_1 rfl (lv_at hl 1 rfl) ?_
  refine gb_calli (va_runV (C := RX12) (As := [.int p1]) (rest := []) ⟨hx, hb, hml, hown, hq⟩ (f_X12_isBorder l D cT tt b1 b hb1 p1) (cwV 1 hq (gb_gV w_1372 w_1374 s_4_1 w_14 w_1375) rfl rfl rfl (by decide +kernel) ⟨Nat.le_of_ble_eq_true rfl, Nat.le_of_ble_eq_true rfl⟩) (gb_preV (r := (RX12, TX12, 44)) (ci := 10) (q0 := 0) hSt hP rfl (gb_at b rfl) hS (fun q h => Nat.le_trans hb1 h.1) hP) rfl rfl hl.1 rfl (lv_room (Nat.le_of_ble_eq_true rfl)) dX12_border_2 ⟨Nat.le_of_ble_eq_true rfl, Nat.le_of_ble_eq_true rfl⟩) hS (fun _ h => h) (fun _ h => h) (fun r H locs hY hk hS => ?_)
  obtain ⟨hr9, hP⟩ := hY
  subst hr9
  refine lv_if_ne (tgt := 11) hx hb dX12_border_5 (by decide) (fun hc => absurd hc (by decide)) (fun _ => ?_)
  refine lv_bipush (v := (-2)) hx hb dX12_border_8 (by decide) ?_
  exact W.iret (v := (-2)) hx hb hr (fun t ht hW => gb_ri ht rfl hS) hS.2.2 dX12_border_10
theorem dX12_marks_0 : decode cX12_marks 0 = .ok (.aload_n 0, 1) := by decide +kernel
theorem dX12_marks_1 : decode cX12_marks 1 = .ok (.iload_n 1, 1) := by decide +kernel
theorem dX12_marks_2 : decode cX12_marks 2 = .ok (.invokevirtual 205, 3) := by decide +kernel
theorem dX12_marks_5 : decode cX12_marks 5 = .ok (.ifCond .eq 47, 3) := by decide +kernel
theorem dX12_marks_52 : decode cX12_marks 52 = .ok (.iconst (-1), 1) := by decide +kernel
theorem dX12_marks_53 : decode cX12_marks 53 = .ok (.ireturn, 1) := by decide +kernel
set_option maxHeartbeats 4000000 in
set_option maxRecDepth 100000 in
theorem a_X12_marks (l : Launch) (D : va_G) (cT : Nat → ClassId) (tt : Nat → Nat) (b1 b : Nat) (hb1 : b1 ≤ b) (p1 : Int32) (p2 : Int32) (p3 : Int32) (p4 : Int32) : Met l yX12_marks (.code yX12_marks cX12_marks 5 (some FieldType.int) :: gb_wA) ({ frames := 3, cells := 0, slots := 0, locals := 65 }) (gb_Pc D cT tt b1 [.ref (b + 0), .int p1, .int p2, .int p3, .int p4] (fun h => va_P D vwCl (gb_wl b (gb_M cT b)) h)) (gb_Qi (fun r _ => r = (-1)) (gb_fr b 22)) 0 0 (gb_fr b 22) := by
  refine Met.ofW (cc := cX12_marks) (maxL := 5) (ret := (some FieldType.int)) (by decide) rfl ?_
  intro p e s m args below meth c s₁ B hml hv
  obtain ⟨rfl, hSt, hP⟩ := hv
  have hx := B.exec
  have hb := B.bytes
  have hr := B.returns
  have hts := atoms_spec (ws := .code yX12_marks cX12_marks 5 (some FieldType.int) :: gb_wA) B.pre
  have hq : ∀ w ∈ gb_wA, w.before _ s = true := fun w h => hts w (List.mem_cons_of_mem _ h)
  have hown : s.vm.findClass RX12 = some m.cls := findClass_of_methodNamed B.named
  have hlocks := B.notSynchronized
  have hK := hSt.1
  have hS : va_S (gb_fr b 22) s.heap s.heap [] := va_S.rf
  have hl := lv_entry ([.ref (b + 0), .int p1, .int p2, .int p3, .int p4]) (n := 5) (Nat.le_of_ble_eq_true rfl)
  rw [lg_entry_eq]
  generalize (lg_sl ([.ref (b + 0), .int p1, .int p2, .int p3, .int p4]) ++ List.replicate (5 - (lg_sl ([.ref (b + 0), .int p1, .int p2, .int p3, .int p4])).length) Slot.unset).toArray = ls at hl ⊢
  have hl : lv_has ls 5 [(0, .ref (b + 0)), (1, .int p1), (2, .int p2), (3, .int p3), (4, .int p4)] := hl
  refine lv_aload_n hx hb dX12_marks_0 rfl (lv_at hl 0 rfl) ?_
  refine lv_iload_n hx hb dX12_marks_1 rfl (lv_at hl 1 rfl) ?_
  refine gb_calli (va_runV (C := RX12) (As := [.int p1]) (rest := []) ⟨hx, hb, hml, hown, hq⟩ (f_X12_isBorder l D cT tt b1 b hb1 p1) (cwV 1 hq (gb_gV w_1372 w_1374 s_4_1 w_14 w_1375) rfl rfl rfl (by decide +kernel) ⟨Nat.le_of_ble_eq_true rfl, Nat.le_of_ble_eq_true rfl⟩) (gb_preV (r := (RX12, TX12, 44)) (ci := 10) (q0 := 0) hSt hP rfl (gb_at b rfl) hS (fun q h => Nat.le_trans hb1 h.1) hP) rfl rfl hl.1 rfl (lv_room (Nat.le_of_ble_eq_true rfl)) dX12_marks_2 ⟨Nat.le_of_ble_eq_true rfl, Nat.le_of_ble_eq_true rfl⟩) hS (fun _ h => h) (fun _ h => h) (fun r H locs hY hk hS => ?_)
  obtain ⟨hr9, hP⟩ := hY
  subst hr9
  refine lv_if_eq (tgt := 52) hx hb dX12_marks_5 (by decide) (fun _ => ?_) (fun hc => absurd (by decide) hc)
  refine lv_iconst (v := (-1)) hx hb dX12_marks_52 (by decide) ?_
  exact W.iret (v := (-1)) hx hb hr (fun t ht hW => gb_ri ht rfl hS) hS.2.2 dX12_marks_53
theorem dX12_deed_0 : decode cX12_deed 0 = .ok (.aload_n 0, 1) := by decide +kernel
theorem dX12_deed_1 : decode cX12_deed 1 = .ok (.iconst 1, 1) := by decide +kernel
theorem dX12_deed_2 : decode cX12_deed 2 = .ok (.iload_n 1, 1) := by decide +kernel
theorem dX12_deed_3 : decode cX12_deed 3 = .ok (.invokevirtual 171, 3) := by decide +kernel
set_option maxHeartbeats 4000000 in
set_option maxRecDepth 100000 in
theorem f_X12_isOf_2 (l : Launch) (D : va_G) (cT : Nat → ClassId) (tt : Nat → Nat) (b1 b : Nat) (hb1 : b1 ≤ b) (p2 : Int32) : Met l yX12_isOf (.code yX12_isOf cX12_isOf 3 (some FieldType.boolean) :: gb_wA) ({ frames := 1, cells := 0, slots := 0, locals := 22 }) (gb_Pc D cT tt b1 [.ref (b + 0), .int 1, .int p2] (fun h => va_P D vwCl (gb_wl b (gb_M cT b)) h)) (gb_Qi (fun r h => r = 0 ∧ va_P D vwCl (gb_wl b (gb_M cT b)) h) (gb_fr b 22)) 0 0 (gb_fr b 22) := by
  refine Met.ofW (cc := cX12_isOf) (maxL := 3) (ret := (some FieldType.boolean)) (by decide) rfl ?_
  intro p e s m args below meth c s₁ B hml hv
  obtain ⟨rfl, hSt, hP⟩ := hv
  have hx := B.exec
  have hb := B.bytes
  have hr := B.returns
  have hts := atoms_spec (ws := .code yX12_isOf cX12_isOf 3 (some FieldType.boolean) :: gb_wA) B.pre
  have hq : ∀ w ∈ gb_wA, w.before _ s = true := fun w h => hts w (List.mem_cons_of_mem _ h)
  have hown : s.vm.findClass RX12 = some m.cls := findClass_of_methodNamed B.named
  have hlocks := B.notSynchronized
  have hK := hSt.1
  have hS : va_S (gb_fr b 22) s.heap s.heap [] := va_S.rf
  have hl := lv_entry ([.ref (b + 0), .int 1, .int p2]) (n := 3) (Nat.le_of_ble_eq_true rfl)
  rw [lg_entry_eq]
  generalize (lg_sl ([.ref (b + 0), .int 1, .int p2]) ++ List.replicate (3 - (lg_sl ([.ref (b + 0), .int 1, .int p2])).length) Slot.unset).toArray = ls at hl ⊢
  have hl : lv_has ls 3 [(0, .ref (b + 0)), (1, .int 1), (2, .int p2)] := hl
  refine lv_iload_n hx hb dX12_isOf_0 rfl (lv_at hl 2 rfl) ?_
  refine lv_iconst (v := 0) hx hb dX12_isOf_1 (by decide) ?_
  refine lv_aload_n hx hb dX12_isOf_2 rfl (lv_at hl 0 rfl) ?_
  refine va_get (ci := 10) (v := (.ref (b + 1))) (C := RX12) (T := TX12) (N := 44) hx hb hq i_X12 hown hK hP 0 (gb_at b rfl) rfl 0 (by decide) (hq _ w_1124) (fun _ h9 => h9) rfl dX12_isOf_3 ?_
  refine lv_iload_n hx hb dX12_isOf_6 rfl (lv_at hl 1 rfl) ?_
  refine gb_iald (v := 0) hx hb hK hP 1 0 (gb_at b rfl) rfl (gb_in rfl) rfl dX12_isOf_7 ?_
  refine lv_iconst (v := 1) hx hb dX12_isOf_8 (by decide) ?_
  refine lv_isub hx hb dX12_isOf_9 ?_
  refine W.eq (g2 := F0 m 10 ls [.int (-1), .int 0, .int p2]) (congrArg (fun v => F0 m 10 ls (Value.int v :: [.int 0, .int p2])) (show (0 : Int32) - 1 = (-1) by decide)) ?_
  refine gb_calli (va_runS (As := [.int p2, .int 0, .int (-1)]) (rest := []) ⟨hx, hb, hml, hown, hq⟩ (f_X12_isIn l D cT tt b1 b hb1 p2) (va_cwS 3 hq (gb_gS w_1269 w_1270 w_14 w_1271) rfl rfl rfl (by decide +kernel) ⟨Nat.le_of_ble_eq_true rfl, Nat.le_of_ble_eq_true rfl⟩) (gb_preS hSt hS (fun q h => Nat.le_trans hb1 h.1) hP) rfl rfl hl.1 rfl (lv_room (Nat.le_of_ble_eq_true rfl)) dX12_isOf_10 ⟨Nat.le_of_ble_eq_true rfl, Nat.le_of_ble_eq_true rfl⟩) hS (fun _ h => h) (fun _ h => h) (fun r H locs hY hk hS => ?_)
  obtain ⟨hr9, hP⟩ := hY
  subst hr9
  exact W.zret (v := 0) hx hb hr (by decide) (fun t ht hW => gb_ri ht ⟨rfl, hP⟩ hS) hS.2.2 dX12_isOf_13
theorem dX12_deed_6 : decode cX12_deed 6 = .ok (.ifCond .ne 6, 3) := by decide +kernel
theorem dX12_deed_9 : decode cX12_deed 9 = .ok (.bipush (-2), 2) := by decide +kernel
theorem dX12_deed_11 : decode cX12_deed 11 = .ok (.ireturn, 1) := by decide +kernel
set_option maxHeartbeats 4000000 in
set_option maxRecDepth 100000 in
theorem a_X12_deed (l : Launch) (D : va_G) (cT : Nat → ClassId) (tt : Nat → Nat) (b1 b : Nat) (hb1 : b1 ≤ b) (p1 : Int32) (p2 : Int32) (p3 : Int32) : Met l yX12_deed (.code yX12_deed cX12_deed 4 (some FieldType.int) :: gb_wA) ({ frames := 2, cells := 0, slots := 0, locals := 44 }) (gb_Pc D cT tt b1 [.ref (b + 0), .int p1, .int p2, .int p3] (fun h => va_P D vwCl (gb_wl b (gb_M cT b)) h)) (gb_Qi (fun r _ => r = (-2)) (gb_fr b 22)) 0 0 (gb_fr b 22) := by
  refine Met.ofW (cc := cX12_deed) (maxL := 4) (ret := (some FieldType.int)) (by decide) rfl ?_
  intro p e s m args below meth c s₁ B hml hv
  obtain ⟨rfl, hSt, hP⟩ := hv
  have hx := B.exec
  have hb := B.bytes
  have hr := B.returns
  have hts := atoms_spec (ws := .code yX12_deed cX12_deed 4 (some FieldType.int) :: gb_wA) B.pre
  have hq : ∀ w ∈ gb_wA, w.before _ s = true := fun w h => hts w (List.mem_cons_of_mem _ h)
  have hown : s.vm.findClass RX12 = some m.cls := findClass_of_methodNamed B.named
  have hlocks := B.notSynchronized
  have hK := hSt.1
  have hS : va_S (gb_fr b 22) s.heap s.heap [] := va_S.rf
  have hl := lv_entry ([.ref (b + 0), .int p1, .int p2, .int p3]) (n := 4) (Nat.le_of_ble_eq_true rfl)
  rw [lg_entry_eq]
  generalize (lg_sl ([.ref (b + 0), .int p1, .int p2, .int p3]) ++ List.replicate (4 - (lg_sl ([.ref (b + 0), .int p1, .int p2, .int p3])).length) Slot.unset).toArray = ls at hl ⊢
  have hl : lv_has ls 4 [(0, .ref (b + 0)), (1, .int p1), (2, .int p2), (3, .int p3)] := hl
  refine lv_aload_n hx hb dX12_deed_0 rfl (lv_at hl 0 rfl) ?_
  refine lv_iconst (v := 1) hx hb dX12_deed_1 (by decide) ?_
  refine lv_iload_n hx hb dX12_deed_2 rfl (lv_at hl 1 rfl) ?_
  refine gb_calli (va_runV (C := RX12) (As := [.int 1, .int p1]) (rest := []) ⟨hx, hb, hml, hown, hq⟩ (f_X12_isOf_2 l D cT tt b1 b hb1 p1) (cwV 2 hq (gb_gV w_1272 w_1274 s_3_0 w_14 w_1275) rfl rfl rfl (by decide +kernel) ⟨Nat.le_of_ble_eq_true rfl, Nat.le_of_ble_eq_true rfl⟩) (gb_preV (r := (RX12, TX12, 44)) (ci := 10) (q0 := 0) hSt hP rfl (gb_at b rfl) hS (fun q h => Nat.le_trans hb1 h.1) hP) rfl rfl hl.1 rfl (lv_room (Nat.le_of_ble_eq_true rfl)) dX12_deed_3 ⟨Nat.le_of_ble_eq_true rfl, Nat.le_of_ble_eq_true rfl⟩) hS (fun _ h => h) (fun _ h => h) (fun r H locs hY hk hS => ?_)
  obtain ⟨hr9, hP⟩ := hY
  subst hr9
  refine lv_if_ne (tgt := 12) hx hb dX12_deed_6 (by decide) (fun hc => absurd hc (by decide)) (fun _ => ?_)
  refine lv_bipush (v := (-2)) hx hb dX12_deed_9 (by decide) ?_
  exact W.iret (v := (-2)) hx hb hr (fun t ht hW => gb_ri ht rfl hS) hS.2.2 dX12_deed_11
theorem dX12_stop_0 : decode cX12_stop 0 = .ok (.aload_n 0, 1) := by decide +kernel
theorem dX12_stop_1 : decode cX12_stop 1 = .ok (.iload_n 1, 1) := by decide +kernel
theorem dX12_stop_2 : decode cX12_stop 2 = .ok (.iload_n 2, 1) := by decide +kernel
theorem dX12_stop_3 : decode cX12_stop 3 = .ok (.invokevirtual 264, 3) := by decide +kernel
theorem dX12_areTold_0 : decode cX12_areTold 0 = .ok (.aload_n 0, 1) := by decide +kernel
theorem dX12_areTold_1 : decode cX12_areTold 1 = .ok (.iload_n 1, 1) := by decide +kernel
theorem dX12_areTold_2 : decode cX12_areTold 2 = .ok (.invokevirtual 205, 3) := by decide +kernel
theorem dX12_areTold_5 : decode cX12_areTold 5 = .ok (.ifCond .eq 12, 3) := by decide +kernel
theorem dX12_areTold_17 : decode cX12_areTold 17 = .ok (.iconst 0, 1) := by decide +kernel
theorem dX12_areTold_18 : decode cX12_areTold 18 = .ok (.ireturn, 1) := by decide +kernel
set_option maxHeartbeats 4000000 in
set_option maxRecDepth 100000 in
theorem f_X12_areTold (l : Launch) (D : va_G) (cT : Nat → ClassId) (tt : Nat → Nat) (b1 b : Nat) (hb1 : b1 ≤ b) (p1 : Int32) (p2 : Int32) : Met l yX12_areTold (.code yX12_areTold cX12_areTold 3 (some FieldType.boolean) :: gb_wA) ({ frames := 3, cells := 0, slots := 0, locals := 65 }) (gb_Pc D cT tt b1 [.ref (b + 0), .int p1, .int p2] (fun h => va_P D vwCl (gb_wl b (gb_M cT b)) h)) (gb_Qi (fun r h => r = 0 ∧ va_P D vwCl (gb_wl b (gb_M cT b)) h) (gb_fr b 22)) 0 0 (gb_fr b 22) := by
  refine Met.ofW (cc := cX12_areTold) (maxL := 3) (ret := (some FieldType.boolean)) (by decide) rfl ?_
  intro p e s m args below meth c s₁ B hml hv
  obtain ⟨rfl, hSt, hP⟩ := hv
  have hx := B.exec
  have hb := B.bytes
  have hr := B.returns
  have hts := atoms_spec (ws := .code yX12_areTold cX12_areTold 3 (some FieldType.boolean) :: gb_wA) B.pre
  have hq : ∀ w ∈ gb_wA, w.before _ s = true := fun w h => hts w (List.mem_cons_of_mem _ h)
  have hown : s.vm.findClass RX12 = some m.cls := findClass_of_methodNamed B.named
  have hlocks := B.notSynchronized
  have hK := hSt.1
  have hS : va_S (gb_fr b 22) s.heap s.heap [] := va_S.rf
  have hl := lv_entry ([.ref (b + 0), .int p1, .int p2]) (n := 3) (Nat.le_of_ble_eq_true rfl)
  rw [lg_entry_eq]
  generalize (lg_sl ([.ref (b + 0), .int p1, .int p2]) ++ List.replicate (3 - (lg_sl ([.ref (b + 0), .int p1, .int p2])).length) Slot.unset).toArray = ls at hl ⊢
  have hl : lv_has ls 3 [(0, .ref (b + 0)), (1, .int p1), (2, .int p2)] := hl
  refine lv_aload_n hx hb dX12_areTold_0 rfl (lv_at hl 0 rfl) ?_
  refine lv_iload_n hx hb dX12_areTold_1 rfl (lv_at hl 1 rfl) ?_
  refine gb_calli (va_runV (C := RX12) (As := [.int p1]) (rest := []) ⟨hx, hb, hml, hown, hq⟩ (f_X12_isBorder l D cT tt b1 b hb1 p1) (cwV 1 hq (gb_gV w_1372 w_1374 s_4_1 w_14 w_1375) rfl rfl rfl (by decide +kernel) ⟨Nat.le_of_ble_eq_true rfl, Nat.le_of_ble_eq_true rfl⟩) (gb_preV (r := (RX12, TX12, 44)) (ci := 10) (q0 := 0) hSt hP rfl (gb_at b rfl) hS (fun q h => Nat.le_trans hb1 h.1) hP) rfl rfl hl.1 rfl (lv_room (Nat.le_of_ble_eq_true rfl)) dX12_areTold_2 ⟨Nat.le_of_ble_eq_true rfl, Nat.le_of_ble_eq_true rfl⟩) hS (fun _ h => h) (fun _ h => h) (fun r H locs hY hk hS => ?_)
  obtain ⟨hr9, hP⟩ := hY
  subst hr9
  refine lv_if_eq (tgt := 17) hx hb dX12_areTold_5 (by decide) (fun _ => ?_) (fun hc => absurd (by decide) hc)
  refine lv_iconst (v := 0) hx hb dX12_areTold_17 (by decide) ?_
  exact W.zret (v := 0) hx hb hr (by decide) (fun t ht hW => gb_ri ht ⟨rfl, hP⟩ hS) hS.2.2 dX12_areTold_18
theorem w_1431 : (Cond.code ({ cls := "GooseBorderModel", name := "areTold", desc := "(II)Z" } : MethodName) prog_14_method_53_code (3 : Nat) (Option.some FieldType.boolean)) ∈ gb_wA := gb_t6 231 rfl rfl
theorem w_1428 : (Cond.methodLink "GooseBorderModel" (264 : Nat) ({ cls := "GooseBorderModel", name := "areTold", desc := "(II)Z" } : MethodName)) ∈ gb_wA := gb_t6 228 rfl rfl
theorem w_1430 : (Cond.instanceMethod ({ cls := "GooseBorderModel", name := "areTold", desc := "(II)Z" } : MethodName)) ∈ gb_wA := gb_t6 230 rfl rfl
theorem s_4_12 : Cond.selects "GooseBorderModel" (⟨"GooseBorderModel", "areTold", "(II)Z"⟩ : MethodName) (⟨"GooseBorderModel", "areTold", "(II)Z"⟩ : MethodName) ∈ gb_wA := gb_s4 12 rfl rfl
theorem dX12_stop_6 : decode cX12_stop 6 = .ok (.ifCond .ne 5, 3) := by decide +kernel
theorem dX12_stop_9 : decode cX12_stop 9 = .ok (.iconst (-1), 1) := by decide +kernel
theorem dX12_stop_10 : decode cX12_stop 10 = .ok (.ireturn, 1) := by decide +kernel
set_option maxHeartbeats 4000000 in
set_option maxRecDepth 100000 in
theorem a_X12_stop (l : Launch) (D : va_G) (cT : Nat → ClassId) (tt : Nat → Nat) (b1 b : Nat) (hb1 : b1 ≤ b) (p1 : Int32) (p2 : Int32) : Met l yX12_stop (.code yX12_stop cX12_stop 3 (some FieldType.int) :: gb_wA) ({ frames := 4, cells := 0, slots := 0, locals := 87 }) (gb_Pc D cT tt b1 [.ref (b + 0), .int p1, .int p2] (fun h => va_P D vwCl (gb_wl b (gb_M cT b)) h)) (gb_Qi (fun r _ => r = (-1)) (gb_fr b 22)) 0 0 (gb_fr b 22) := by
  refine Met.ofW (cc := cX12_stop) (maxL := 3) (ret := (some FieldType.int)) (by decide) rfl ?_
  intro p e s m args below meth c s₁ B hml hv
  obtain ⟨rfl, hSt, hP⟩ := hv
  have hx := B.exec
  have hb := B.bytes
  have hr := B.returns
  have hts := atoms_spec (ws := .code yX12_stop cX12_stop 3 (some FieldType.int) :: gb_wA) B.pre
  have hq : ∀ w ∈ gb_wA, w.before _ s = true := fun w h => hts w (List.mem_cons_of_mem _ h)
  have hown : s.vm.findClass RX12 = some m.cls := findClass_of_methodNamed B.named
  have hlocks := B.notSynchronized
  have hK := hSt.1
  have hS : va_S (gb_fr b 22) s.heap s.heap [] := va_S.rf
  have hl := lv_entry ([.ref (b + 0), .int p1, .int p2]) (n := 3) (Nat.le_of_ble_eq_true rfl)
  rw [lg_entry_eq]
  generalize (lg_sl ([.ref (b + 0), .int p1, .int p2]) ++ List.replicate (3 - (lg_sl ([.ref (b + 0), .int p1, .int p2])).length) Slot.unset).toArray = ls at hl ⊢
  have hl : lv_has ls 3 [(0, .ref (b + 0)), (1, .int p1), (2, .int p2)] := hl
  refine lv_aload_n hx hb dX12_stop_0 rfl (lv_at hl 0 rfl) ?_
  refine lv_iload_n hx hb dX12_stop_1 rfl (lv_at hl 1 rfl) ?_
  refine lv_iload_n hx hb dX12_stop_2 rfl (lv_at hl 2 rfl) ?_
  refine gb_calli (va_runV (C := RX12) (As := [.int p1, .int p2]) (rest := []) ⟨hx, hb, hml, hown, hq⟩ (f_X12_areTold l D cT tt b1 b hb1 p1 p2) (cwV 2 hq (gb_gV w_1428 w_1430 s_4_12 w_14 w_1431) rfl rfl rfl (by decide +kernel) ⟨Nat.le_of_ble_eq_true rfl, Nat.le_of_ble_eq_true rfl⟩) (gb_preV (r := (RX12, TX12, 44)) (ci := 10) (q0 := 0) hSt hP rfl (gb_at b rfl) hS (fun q h => Nat.le_trans hb1 h.1) hP) rfl rfl hl.1 rfl (lv_room (Nat.le_of_ble_eq_true rfl)) dX12_stop_3 ⟨Nat.le_of_ble_eq_true rfl, Nat.le_of_ble_eq_true rfl⟩) hS (fun _ h => h) (fun _ h => h) (fun r H locs hY hk hS => ?_)
  obtain ⟨hr9, hP⟩ := hY
  subst hr9
  refine lv_if_ne (tgt := 11) hx hb dX12_stop_6 (by decide) (fun hc => absurd hc (by decide)) (fun _ => ?_)
  refine lv_iconst (v := (-1)) hx hb dX12_stop_9 (by decide) ?_
  exact W.iret (v := (-1)) hx hb hr (fun t ht hW => gb_ri ht rfl hS) hS.2.2 dX12_stop_10
theorem dX12_goose_0 : decode cX12_goose 0 = .ok (.aload_n 0, 1) := by decide +kernel
theorem dX12_goose_1 : decode cX12_goose 1 = .ok (.iload_n 1, 1) := by decide +kernel
theorem dX12_goose_2 : decode cX12_goose 2 = .ok (.iload_n 2, 1) := by decide +kernel
theorem dX12_goose_3 : decode cX12_goose 3 = .ok (.iload_n 3, 1) := by decide +kernel
theorem dX12_goose_4 : decode cX12_goose 4 = .ok (.invokevirtual 270, 3) := by decide +kernel
theorem dX12_isState_0 : decode cX12_isState 0 = .ok (.aload_n 0, 1) := by decide +kernel
theorem dX12_isState_1 : decode cX12_isState 1 = .ok (.iload_n 1, 1) := by decide +kernel
theorem dX12_isState_2 : decode cX12_isState 2 = .ok (.iload_n 2, 1) := by decide +kernel
theorem dX12_isState_3 : decode cX12_isState 3 = .ok (.invokevirtual 264, 3) := by decide +kernel
theorem dX12_isState_6 : decode cX12_isState 6 = .ok (.ifCond .eq 7, 3) := by decide +kernel
theorem dX12_isState_13 : decode cX12_isState 13 = .ok (.iconst 0, 1) := by decide +kernel
theorem dX12_isState_14 : decode cX12_isState 14 = .ok (.ireturn, 1) := by decide +kernel
set_option maxHeartbeats 4000000 in
set_option maxRecDepth 100000 in
theorem f_X12_isState (l : Launch) (D : va_G) (cT : Nat → ClassId) (tt : Nat → Nat) (b1 b : Nat) (hb1 : b1 ≤ b) (p1 : Int32) (p2 : Int32) (p3 : Int32) : Met l yX12_isState (.code yX12_isState cX12_isState 4 (some FieldType.boolean) :: gb_wA) ({ frames := 4, cells := 0, slots := 0, locals := 87 }) (gb_Pc D cT tt b1 [.ref (b + 0), .int p1, .int p2, .int p3] (fun h => va_P D vwCl (gb_wl b (gb_M cT b)) h)) (gb_Qi (fun r h => r = 0 ∧ va_P D vwCl (gb_wl b (gb_M cT b)) h) (gb_fr b 22)) 0 0 (gb_fr b 22) := by
  refine Met.ofW (cc := cX12_isState) (maxL := 4) (ret := (some FieldType.boolean)) (by decide) rfl ?_
  intro p e s m args below meth c s₁ B hml hv
  obtain ⟨rfl, hSt, hP⟩ := hv
  have hx := B.exec
  have hb := B.bytes
  have hr := B.returns
  have hts := atoms_spec (ws := .code yX12_isState cX12_isState 4 (some FieldType.boolean) :: gb_wA) B.pre
  have hq : ∀ w ∈ gb_wA, w.before _ s = true := fun w h => hts w (List.mem_cons_of_mem _ h)
  have hown : s.vm.findClass RX12 = some m.cls := findClass_of_methodNamed B.named
  have hlocks := B.notSynchronized
  have hK := hSt.1
  have hS : va_S (gb_fr b 22) s.heap s.heap [] := va_S.rf
  have hl := lv_entry ([.ref (b + 0), .int p1, .int p2, .int p3]) (n := 4) (Nat.le_of_ble_eq_true rfl)
  rw [lg_entry_eq]
  generalize (lg_sl ([.ref (b + 0), .int p1, .int p2, .int p3]) ++ List.replicate (4 - (lg_sl ([.ref (b + 0), .int p1, .int p2, .int p3])).length) Slot.unset).toArray = ls at hl ⊢
  have hl : lv_has ls 4 [(0, .ref (b + 0)), (1, .int p1), (2, .int p2), (3, .int p3)] := hl
  refine lv_aload_n hx hb dX12_isState_0 rfl (lv_at hl 0 rfl) ?_
  refine lv_iload_n hx hb dX12_isState_1 rfl (lv_at hl 1 rfl) ?_
  refine lv_iload_n hx hb dX12_isState_2 rfl (lv_at hl 2 rfl) ?_
  refine gb_calli (va_runV (C := RX12) (As := [.int p1, .int p2]) (rest := []) ⟨hx, hb, hml, hown, hq⟩ (f_X12_areTold l D cT tt b1 b hb1 p1 p2) (cwV 2 hq (gb_gV w_1428 w_1430 s_4_12 w_14 w_1431) rfl rfl rfl (by decide +kernel) ⟨Nat.le_of_ble_eq_true rfl, Nat.le_of_ble_eq_true rfl⟩) (gb_preV (r := (RX12, TX12, 44)) (ci := 10) (q0 := 0) hSt hP rfl (gb_at b rfl) hS (fun q h => Nat.le_trans hb1 h.1) hP) rfl rfl hl.1 rfl (lv_room (Nat.le_of_ble_eq_true rfl)) dX12_isState_3 ⟨Nat.le_of_ble_eq_true rfl, Nat.le_of_ble_eq_true rfl⟩) hS (fun _ h => h) (fun _ h => h) (fun r H locs hY hk hS => ?_)
  obtain ⟨hr9, hP⟩ := hY
  subst hr9
  refine lv_if_eq (tgt := 13) hx hb dX12_isState_6 (by decide) (fun _ => ?_) (fun hc => absurd (by decide) hc)
  refine lv_iconst (v := 0) hx hb dX12_isState_13 (by decide) ?_
  exact W.zret (v := 0) hx hb hr (by decide) (fun t ht hW => gb_ri ht ⟨rfl, hP⟩ hS) hS.2.2 dX12_isState_14
theorem w_1471 : (Cond.code ({ cls := "GooseBorderModel", name := "isState", desc := "(III)Z" } : MethodName) prog_14_method_56_code (4 : Nat) (Option.some FieldType.boolean)) ∈ gb_wA := gb_t7 31 rfl rfl
theorem w_1468 : (Cond.methodLink "GooseBorderModel" (270 : Nat) ({ cls := "GooseBorderModel", name := "isState", desc := "(III)Z" } : MethodName)) ∈ gb_wA := gb_t7 28 rfl rfl
theorem w_1470 : (Cond.instanceMethod ({ cls := "GooseBorderModel", name := "isState", desc := "(III)Z" } : MethodName)) ∈ gb_wA := gb_t7 30 rfl rfl
theorem s_5_5 : Cond.selects "GooseBorderModel" (⟨"GooseBorderModel", "isState", "(III)Z"⟩ : MethodName) (⟨"GooseBorderModel", "isState", "(III)Z"⟩ : MethodName) ∈ gb_wA := gb_s5 5 rfl rfl
theorem dX12_goose_7 : decode cX12_goose 7 = .ok (.ifCond .eq 12, 3) := by decide +kernel
theorem dX12_goose_19 : decode cX12_goose 19 = .ok (.bipush (-2), 2) := by decide +kernel
theorem dX12_goose_21 : decode cX12_goose 21 = .ok (.ireturn, 1) := by decide +kernel
set_option maxHeartbeats 4000000 in
set_option maxRecDepth 100000 in
theorem a_X12_goose (l : Launch) (D : va_G) (cT : Nat → ClassId) (tt : Nat → Nat) (b1 b : Nat) (hb1 : b1 ≤ b) (p1 : Int32) (p2 : Int32) (p3 : Int32) (p4 : Int32) (p5 : Int32) : Met l yX12_goose (.code yX12_goose cX12_goose 6 (some FieldType.int) :: gb_wA) ({ frames := 5, cells := 0, slots := 0, locals := 110 }) (gb_Pc D cT tt b1 [.ref (b + 0), .int p1, .int p2, .int p3, .int p4, .int p5] (fun h => va_P D vwCl (gb_wl b (gb_M cT b)) h)) (gb_Qi (fun r _ => r = (-2)) (gb_fr b 22)) 0 0 (gb_fr b 22) := by
  refine Met.ofW (cc := cX12_goose) (maxL := 6) (ret := (some FieldType.int)) (by decide) rfl ?_
  intro p e s m args below meth c s₁ B hml hv
  obtain ⟨rfl, hSt, hP⟩ := hv
  have hx := B.exec
  have hb := B.bytes
  have hr := B.returns
  have hts := atoms_spec (ws := .code yX12_goose cX12_goose 6 (some FieldType.int) :: gb_wA) B.pre
  have hq : ∀ w ∈ gb_wA, w.before _ s = true := fun w h => hts w (List.mem_cons_of_mem _ h)
  have hown : s.vm.findClass RX12 = some m.cls := findClass_of_methodNamed B.named
  have hlocks := B.notSynchronized
  have hK := hSt.1
  have hS : va_S (gb_fr b 22) s.heap s.heap [] := va_S.rf
  have hl := lv_entry ([.ref (b + 0), .int p1, .int p2, .int p3, .int p4, .int p5]) (n := 6) (Nat.le_of_ble_eq_true rfl)
  rw [lg_entry_eq]
  generalize (lg_sl ([.ref (b + 0), .int p1, .int p2, .int p3, .int p4, .int p5]) ++ List.replicate (6 - (lg_sl ([.ref (b + 0), .int p1, .int p2, .int p3, .int p4, .int p5])).length) Slot.unset).toArray = ls at hl ⊢
  have hl : lv_has ls 6 [(0, .ref (b + 0)), (1, .int p1), (2, .int p2), (3, .int p3), (4, .int p4), (5, .int p5)] := hl
  refine lv_aload_n hx hb dX12_goose_0 rfl (lv_at hl 0 rfl) ?_
  refine lv_iload_n hx hb dX12_goose_1 rfl (lv_at hl 1 rfl) ?_
  refine lv_iload_n hx hb dX12_goose_2 rfl (lv_at hl 2 rfl) ?_
  refine lv_iload_n hx hb dX12_goose_3 rfl (lv_at hl 3 rfl) ?_
  refine gb_calli (va_runV (C := RX12) (As := [.int p1, .int p2, .int p3]) (rest := []) ⟨hx, hb, hml, hown, hq⟩ (f_X12_isState l D cT tt b1 b hb1 p1 p2 p3) (cwV 3 hq (gb_gV w_1468 w_1470 s_5_5 w_14 w_1471) rfl rfl rfl (by decide +kernel) ⟨Nat.le_of_ble_eq_true rfl, Nat.le_of_ble_eq_true rfl⟩) (gb_preV (r := (RX12, TX12, 44)) (ci := 10) (q0 := 0) hSt hP rfl (gb_at b rfl) hS (fun q h => Nat.le_trans hb1 h.1) hP) rfl rfl hl.1 rfl (lv_room (Nat.le_of_ble_eq_true rfl)) dX12_goose_4 ⟨Nat.le_of_ble_eq_true rfl, Nat.le_of_ble_eq_true rfl⟩) hS (fun _ h => h) (fun _ h => h) (fun r H locs hY hk hS => ?_)
  obtain ⟨hr9, hP⟩ := hY
  subst hr9
  refine lv_if_eq (tgt := 19) hx hb dX12_goose_7 (by decide) (fun _ => ?_) (fun hc => absurd (by decide) hc)
  refine lv_bipush (v := (-2)) hx hb dX12_goose_19 (by decide) ?_
  exact W.iret (v := (-2)) hx hb hr (fun t ht hW => gb_ri ht rfl hS) hS.2.2 dX12_goose_21
theorem dX12_path_0 : decode cX12_path 0 = .ok (.aload_n 0, 1) := by decide +kernel
theorem dX12_path_1 : decode cX12_path 1 = .ok (.iload_n 1, 1) := by decide +kernel
theorem dX12_path_2 : decode cX12_path 2 = .ok (.iload_n 2, 1) := by decide +kernel
theorem dX12_path_3 : decode cX12_path 3 = .ok (.iload_n 3, 1) := by decide +kernel
theorem dX12_path_4 : decode cX12_path 4 = .ok (.invokevirtual 270, 3) := by decide +kernel
theorem dX12_path_7 : decode cX12_path 7 = .ok (.ifCond .eq 12, 3) := by decide +kernel
theorem dX12_path_19 : decode cX12_path 19 = .ok (.bipush (-2), 2) := by decide +kernel
theorem dX12_path_21 : decode cX12_path 21 = .ok (.ireturn, 1) := by decide +kernel
set_option maxHeartbeats 4000000 in
set_option maxRecDepth 100000 in
theorem a_X12_path (l : Launch) (D : va_G) (cT : Nat → ClassId) (tt : Nat → Nat) (b1 b : Nat) (hb1 : b1 ≤ b) (p1 : Int32) (p2 : Int32) (p3 : Int32) (p4 : Int32) (p5 : Int32) : Met l yX12_path (.code yX12_path cX12_path 6 (some FieldType.int) :: gb_wA) ({ frames := 5, cells := 0, slots := 0, locals := 110 }) (gb_Pc D cT tt b1 [.ref (b + 0), .int p1, .int p2, .int p3, .int p4, .int p5] (fun h => va_P D vwCl (gb_wl b (gb_M cT b)) h)) (gb_Qi (fun r _ => r = (-2)) (gb_fr b 22)) 0 0 (gb_fr b 22) := by
  refine Met.ofW (cc := cX12_path) (maxL := 6) (ret := (some FieldType.int)) (by decide) rfl ?_
  intro p e s m args below meth c s₁ B hml hv
  obtain ⟨rfl, hSt, hP⟩ := hv
  have hx := B.exec
  have hb := B.bytes
  have hr := B.returns
  have hts := atoms_spec (ws := .code yX12_path cX12_path 6 (some FieldType.int) :: gb_wA) B.pre
  have hq : ∀ w ∈ gb_wA, w.before _ s = true := fun w h => hts w (List.mem_cons_of_mem _ h)
  have hown : s.vm.findClass RX12 = some m.cls := findClass_of_methodNamed B.named
  have hlocks := B.notSynchronized
  have hK := hSt.1
  have hS : va_S (gb_fr b 22) s.heap s.heap [] := va_S.rf
  have hl := lv_entry ([.ref (b + 0), .int p1, .int p2, .int p3, .int p4, .int p5]) (n := 6) (Nat.le_of_ble_eq_true rfl)
  rw [lg_entry_eq]
  generalize (lg_sl ([.ref (b + 0), .int p1, .int p2, .int p3, .int p4, .int p5]) ++ List.replicate (6 - (lg_sl ([.ref (b + 0), .int p1, .int p2, .int p3, .int p4, .int p5])).length) Slot.unset).toArray = ls at hl ⊢
  have hl : lv_has ls 6 [(0, .ref (b + 0)), (1, .int p1), (2, .int p2), (3, .int p3), (4, .int p4), (5, .int p5)] := hl
  refine lv_aload_n hx hb dX12_path_0 rfl (lv_at hl 0 rfl) ?_
  refine lv_iload_n hx hb dX12_path_1 rfl (lv_at hl 1 rfl) ?_
  refine lv_iload_n hx hb dX12_path_2 rfl (lv_at hl 2 rfl) ?_
  refine lv_iload_n hx hb dX12_path_3 rfl (lv_at hl 3 rfl) ?_
  refine gb_calli (va_runV (C := RX12) (As := [.int p1, .int p2, .int p3]) (rest := []) ⟨hx, hb, hml, hown, hq⟩ (f_X12_isState l D cT tt b1 b hb1 p1 p2 p3) (cwV 3 hq (gb_gV w_1468 w_1470 s_5_5 w_14 w_1471) rfl rfl rfl (by decide +kernel) ⟨Nat.le_of_ble_eq_true rfl, Nat.le_of_ble_eq_true rfl⟩) (gb_preV (r := (RX12, TX12, 44)) (ci := 10) (q0 := 0) hSt hP rfl (gb_at b rfl) hS (fun q h => Nat.le_trans hb1 h.1) hP) rfl rfl hl.1 rfl (lv_room (Nat.le_of_ble_eq_true rfl)) dX12_path_4 ⟨Nat.le_of_ble_eq_true rfl, Nat.le_of_ble_eq_true rfl⟩) hS (fun _ h => h) (fun _ h => h) (fun r H locs hY hk hS => ?_)
  obtain ⟨hr9, hP⟩ := hY
  subst hr9
  refine lv_if_eq (tgt := 19) hx hb dX12_path_7 (by decide) (fun _ => ?_) (fun hc => absurd (by decide) hc)
  refine lv_bipush (v := (-2)) hx hb dX12_path_19 (by decide) ?_
  exact W.iret (v := (-2)) hx hb hr (fun t ht hW => gb_ri ht rfl hS) hS.2.2 dX12_path_21
theorem dX12_state_0 : decode cX12_state 0 = .ok (.aload_n 0, 1) := by decide +kernel
theorem dX12_state_1 : decode cX12_state 1 = .ok (.iload_n 1, 1) := by decide +kernel
theorem dX12_state_2 : decode cX12_state 2 = .ok (.iload_n 2, 1) := by decide +kernel
theorem dX12_state_3 : decode cX12_state 3 = .ok (.iload_n 3, 1) := by decide +kernel
theorem dX12_state_4 : decode cX12_state 4 = .ok (.invokevirtual 270, 3) := by decide +kernel
theorem dX12_state_7 : decode cX12_state 7 = .ok (.ifCond .ne 6, 3) := by decide +kernel
theorem dX12_state_10 : decode cX12_state 10 = .ok (.bipush (-2), 2) := by decide +kernel
theorem dX12_state_12 : decode cX12_state 12 = .ok (.ireturn, 1) := by decide +kernel
set_option maxHeartbeats 4000000 in
set_option maxRecDepth 100000 in
theorem a_X12_state (l : Launch) (D : va_G) (cT : Nat → ClassId) (tt : Nat → Nat) (b1 b : Nat) (hb1 : b1 ≤ b) (p1 : Int32) (p2 : Int32) (p3 : Int32) (p4 : Int32) : Met l yX12_state (.code yX12_state cX12_state 8 (some FieldType.int) :: gb_wA) ({ frames := 5, cells := 0, slots := 0, locals := 110 }) (gb_Pc D cT tt b1 [.ref (b + 0), .int p1, .int p2, .int p3, .int p4] (fun h => va_P D vwCl (gb_wl b (gb_M cT b)) h)) (gb_Qi (fun r _ => r = (-2)) (gb_fr b 22)) 0 0 (gb_fr b 22) := by
  refine Met.ofW (cc := cX12_state) (maxL := 8) (ret := (some FieldType.int)) (by decide) rfl ?_
  intro p e s m args below meth c s₁ B hml hv
  obtain ⟨rfl, hSt, hP⟩ := hv
  have hx := B.exec
  have hb := B.bytes
  have hr := B.returns
  have hts := atoms_spec (ws := .code yX12_state cX12_state 8 (some FieldType.int) :: gb_wA) B.pre
  have hq : ∀ w ∈ gb_wA, w.before _ s = true := fun w h => hts w (List.mem_cons_of_mem _ h)
  have hown : s.vm.findClass RX12 = some m.cls := findClass_of_methodNamed B.named
  have hlocks := B.notSynchronized
  have hK := hSt.1
  have hS : va_S (gb_fr b 22) s.heap s.heap [] := va_S.rf
  have hl := lv_entry ([.ref (b + 0), .int p1, .int p2, .int p3, .int p4]) (n := 8) (Nat.le_of_ble_eq_true rfl)
  rw [lg_entry_eq]
  generalize (lg_sl ([.ref (b + 0), .int p1, .int p2, .int p3, .int p4]) ++ List.replicate (8 - (lg_sl ([.ref (b + 0), .int p1, .int p2, .int p3, .int p4])).length) Slot.unset).toArray = ls at hl ⊢
  have hl : lv_has ls 8 [(0, .ref (b + 0)), (1, .int p1), (2, .int p2), (3, .int p3), (4, .int p4)] := hl
  refine lv_aload_n hx hb dX12_state_0 rfl (lv_at hl 0 rfl) ?_
  refine lv_iload_n hx hb dX12_state_1 rfl (lv_at hl 1 rfl) ?_
  refine lv_iload_n hx hb dX12_state_2 rfl (lv_at hl 2 rfl) ?_
  refine lv_iload_n hx hb dX12_state_3 rfl (lv_at hl 3 rfl) ?_
  refine gb_calli (va_runV (C := RX12) (As := [.int p1, .int p2, .int p3]) (rest := []) ⟨hx, hb, hml, hown, hq⟩ (f_X12_isState l D cT tt b1 b hb1 p1 p2 p3) (cwV 3 hq (gb_gV w_1468 w_1470 s_5_5 w_14 w_1471) rfl rfl rfl (by decide +kernel) ⟨Nat.le_of_ble_eq_true rfl, Nat.le_of_ble_eq_true rfl⟩) (gb_preV (r := (RX12, TX12, 44)) (ci := 10) (q0 := 0) hSt hP rfl (gb_at b rfl) hS (fun q h => Nat.le_trans hb1 h.1) hP) rfl rfl hl.1 rfl (lv_room (Nat.le_of_ble_eq_true rfl)) dX12_state_4 ⟨Nat.le_of_ble_eq_true rfl, Nat.le_of_ble_eq_true rfl⟩) hS (fun _ h => h) (fun _ h => h) (fun r H locs hY hk hS => ?_)
  obtain ⟨hr9, hP⟩ := hY
  subst hr9
  refine lv_if_ne (tgt := 13) hx hb dX12_state_7 (by decide) (fun hc => absurd hc (by decide)) (fun _ => ?_)
  refine lv_bipush (v := (-2)) hx hb dX12_state_10 (by decide) ?_
  exact W.iret (v := (-2)) hx hb hr (fun t ht hW => gb_ri ht rfl hS) hS.2.2 dX12_state_12
theorem dX12_term_0 : decode cX12_term 0 = .ok (.aload_n 0, 1) := by decide +kernel
theorem dX12_term_1 : decode cX12_term 1 = .ok (.iconst 2, 1) := by decide +kernel
theorem dX12_term_2 : decode cX12_term 2 = .ok (.iload_n 1, 1) := by decide +kernel
theorem dX12_term_3 : decode cX12_term 3 = .ok (.invokevirtual 171, 3) := by decide +kernel
set_option maxHeartbeats 4000000 in
set_option maxRecDepth 100000 in
theorem f_X12_isOf_3 (l : Launch) (D : va_G) (cT : Nat → ClassId) (tt : Nat → Nat) (b1 b : Nat) (hb1 : b1 ≤ b) (p2 : Int32) : Met l yX12_isOf (.code yX12_isOf cX12_isOf 3 (some FieldType.boolean) :: gb_wA) ({ frames := 1, cells := 0, slots := 0, locals := 22 }) (gb_Pc D cT tt b1 [.ref (b + 0), .int 2, .int p2] (fun h => va_P D vwCl (gb_wl b (gb_M cT b)) h)) (gb_Qi (fun r h => r = 0 ∧ va_P D vwCl (gb_wl b (gb_M cT b)) h) (gb_fr b 22)) 0 0 (gb_fr b 22) := by
  refine Met.ofW (cc := cX12_isOf) (maxL := 3) (ret := (some FieldType.boolean)) (by decide) rfl ?_
  intro p e s m args below meth c s₁ B hml hv
  obtain ⟨rfl, hSt, hP⟩ := hv
  have hx := B.exec
  have hb := B.bytes
  have hr := B.returns
  have hts := atoms_spec (ws := .code yX12_isOf cX12_isOf 3 (some FieldType.boolean) :: gb_wA) B.pre
  have hq : ∀ w ∈ gb_wA, w.before _ s = true := fun w h => hts w (List.mem_cons_of_mem _ h)
  have hown : s.vm.findClass RX12 = some m.cls := findClass_of_methodNamed B.named
  have hlocks := B.notSynchronized
  have hK := hSt.1
  have hS : va_S (gb_fr b 22) s.heap s.heap [] := va_S.rf
  have hl := lv_entry ([.ref (b + 0), .int 2, .int p2]) (n := 3) (Nat.le_of_ble_eq_true rfl)
  rw [lg_entry_eq]
  generalize (lg_sl ([.ref (b + 0), .int 2, .int p2]) ++ List.replicate (3 - (lg_sl ([.ref (b + 0), .int 2, .int p2])).length) Slot.unset).toArray = ls at hl ⊢
  have hl : lv_has ls 3 [(0, .ref (b + 0)), (1, .int 2), (2, .int p2)] := hl
  refine lv_iload_n hx hb dX12_isOf_0 rfl (lv_at hl 2 rfl) ?_
  refine lv_iconst (v := 0) hx hb dX12_isOf_1 (by decide) ?_
  refine lv_aload_n hx hb dX12_isOf_2 rfl (lv_at hl 0 rfl) ?_
  refine va_get (ci := 10) (v := (.ref (b + 1))) (C := RX12) (T := TX12) (N := 44) hx hb hq i_X12 hown hK hP 0 (gb_at b rfl) rfl 0 (by decide) (hq _ w_1124) (fun _ h9 => h9) rfl dX12_isOf_3 ?_
  refine lv_iload_n hx hb dX12_isOf_6 rfl (lv_at hl 1 rfl) ?_
  refine gb_iald (v := 0) hx hb hK hP 1 0 (gb_at b rfl) rfl (gb_in rfl) rfl dX12_isOf_7 ?_
  refine lv_iconst (v := 1) hx hb dX12_isOf_8 (by decide) ?_
  refine lv_isub hx hb dX12_isOf_9 ?_
  refine W.eq (g2 := F0 m 10 ls [.int (-1), .int 0, .int p2]) (congrArg (fun v => F0 m 10 ls (Value.int v :: [.int 0, .int p2])) (show (0 : Int32) - 1 = (-1) by decide)) ?_
  refine gb_calli (va_runS (As := [.int p2, .int 0, .int (-1)]) (rest := []) ⟨hx, hb, hml, hown, hq⟩ (f_X12_isIn l D cT tt b1 b hb1 p2) (va_cwS 3 hq (gb_gS w_1269 w_1270 w_14 w_1271) rfl rfl rfl (by decide +kernel) ⟨Nat.le_of_ble_eq_true rfl, Nat.le_of_ble_eq_true rfl⟩) (gb_preS hSt hS (fun q h => Nat.le_trans hb1 h.1) hP) rfl rfl hl.1 rfl (lv_room (Nat.le_of_ble_eq_true rfl)) dX12_isOf_10 ⟨Nat.le_of_ble_eq_true rfl, Nat.le_of_ble_eq_true rfl⟩) hS (fun _ h => h) (fun _ h => h) (fun r H locs hY hk hS => ?_)
  obtain ⟨hr9, hP⟩ := hY
  subst hr9
  exact W.zret (v := 0) hx hb hr (by decide) (fun t ht hW => gb_ri ht ⟨rfl, hP⟩ hS) hS.2.2 dX12_isOf_13
theorem dX12_term_6 : decode cX12_term 6 = .ok (.ifCond .ne 6, 3) := by decide +kernel
theorem dX12_term_9 : decode cX12_term 9 = .ok (.bipush (-2), 2) := by decide +kernel
theorem dX12_term_11 : decode cX12_term 11 = .ok (.ireturn, 1) := by decide +kernel
set_option maxHeartbeats 4000000 in
set_option maxRecDepth 100000 in
theorem a_X12_term (l : Launch) (D : va_G) (cT : Nat → ClassId) (tt : Nat → Nat) (b1 b : Nat) (hb1 : b1 ≤ b) (p1 : Int32) (p2 : Int32) (p3 : Int32) : Met l yX12_term (.code yX12_term cX12_term 4 (some FieldType.int) :: gb_wA) ({ frames := 2, cells := 0, slots := 0, locals := 44 }) (gb_Pc D cT tt b1 [.ref (b + 0), .int p1, .int p2, .int p3] (fun h => va_P D vwCl (gb_wl b (gb_M cT b)) h)) (gb_Qi (fun r _ => r = (-2)) (gb_fr b 22)) 0 0 (gb_fr b 22) := by
  refine Met.ofW (cc := cX12_term) (maxL := 4) (ret := (some FieldType.int)) (by decide) rfl ?_
  intro p e s m args below meth c s₁ B hml hv
  obtain ⟨rfl, hSt, hP⟩ := hv
  have hx := B.exec
  have hb := B.bytes
  have hr := B.returns
  have hts := atoms_spec (ws := .code yX12_term cX12_term 4 (some FieldType.int) :: gb_wA) B.pre
  have hq : ∀ w ∈ gb_wA, w.before _ s = true := fun w h => hts w (List.mem_cons_of_mem _ h)
  have hown : s.vm.findClass RX12 = some m.cls := findClass_of_methodNamed B.named
  have hlocks := B.notSynchronized
  have hK := hSt.1
  have hS : va_S (gb_fr b 22) s.heap s.heap [] := va_S.rf
  have hl := lv_entry ([.ref (b + 0), .int p1, .int p2, .int p3]) (n := 4) (Nat.le_of_ble_eq_true rfl)
  rw [lg_entry_eq]
  generalize (lg_sl ([.ref (b + 0), .int p1, .int p2, .int p3]) ++ List.replicate (4 - (lg_sl ([.ref (b + 0), .int p1, .int p2, .int p3])).length) Slot.unset).toArray = ls at hl ⊢
  have hl : lv_has ls 4 [(0, .ref (b + 0)), (1, .int p1), (2, .int p2), (3, .int p3)] := hl
  refine lv_aload_n hx hb dX12_term_0 rfl (lv_at hl 0 rfl) ?_
  refine lv_iconst (v := 2) hx hb dX12_term_1 (by decide) ?_
  refine lv_iload_n hx hb dX12_term_2 rfl (lv_at hl 1 rfl) ?_
  refine gb_calli (va_runV (C := RX12) (As := [.int 2, .int p1]) (rest := []) ⟨hx, hb, hml, hown, hq⟩ (f_X12_isOf_3 l D cT tt b1 b hb1 p1) (cwV 2 hq (gb_gV w_1272 w_1274 s_3_0 w_14 w_1275) rfl rfl rfl (by decide +kernel) ⟨Nat.le_of_ble_eq_true rfl, Nat.le_of_ble_eq_true rfl⟩) (gb_preV (r := (RX12, TX12, 44)) (ci := 10) (q0 := 0) hSt hP rfl (gb_at b rfl) hS (fun q h => Nat.le_trans hb1 h.1) hP) rfl rfl hl.1 rfl (lv_room (Nat.le_of_ble_eq_true rfl)) dX12_term_3 ⟨Nat.le_of_ble_eq_true rfl, Nat.le_of_ble_eq_true rfl⟩) hS (fun _ h => h) (fun _ h => h) (fun r H locs hY hk hS => ?_)
  obtain ⟨hr9, hP⟩ := hY
  subst hr9
  refine lv_if_ne (tgt := 12) hx hb dX12_term_6 (by decide) (fun hc => absurd hc (by decide)) (fun _ => ?_)
  refine lv_bipush (v := (-2)) hx hb dX12_term_9 (by decide) ?_
  exact W.iret (v := (-2)) hx hb hr (fun t ht hW => gb_ri ht rfl hS) hS.2.2 dX12_term_11
theorem dX12_pays_0 : decode cX12_pays 0 = .ok (.aload_n 0, 1) := by decide +kernel
theorem dX12_pays_1 : decode cX12_pays 1 = .ok (.iconst 2, 1) := by decide +kernel
theorem dX12_pays_2 : decode cX12_pays 2 = .ok (.iload_n 1, 1) := by decide +kernel
theorem dX12_pays_3 : decode cX12_pays 3 = .ok (.invokevirtual 171, 3) := by decide +kernel
theorem dX12_pays_6 : decode cX12_pays 6 = .ok (.ifCond .eq 14, 3) := by decide +kernel
theorem dX12_pays_20 : decode cX12_pays 20 = .ok (.iconst (-1), 1) := by decide +kernel
theorem dX12_pays_21 : decode cX12_pays 21 = .ok (.ireturn, 1) := by decide +kernel
set_option maxHeartbeats 4000000 in
set_option maxRecDepth 100000 in
theorem a_X12_pays (l : Launch) (D : va_G) (cT : Nat → ClassId) (tt : Nat → Nat) (b1 b : Nat) (hb1 : b1 ≤ b) (p1 : Int32) (p2 : Int32) : Met l yX12_pays (.code yX12_pays cX12_pays 3 (some FieldType.int) :: gb_wA) ({ frames := 2, cells := 0, slots := 0, locals := 44 }) (gb_Pc D cT tt b1 [.ref (b + 0), .int p1, .int p2] (fun h => va_P D vwCl (gb_wl b (gb_M cT b)) h)) (gb_Qi (fun r _ => r = (-1)) (gb_fr b 22)) 0 0 (gb_fr b 22) := by
  refine Met.ofW (cc := cX12_pays) (maxL := 3) (ret := (some FieldType.int)) (by decide) rfl ?_
  intro p e s m args below meth c s₁ B hml hv
  obtain ⟨rfl, hSt, hP⟩ := hv
  have hx := B.exec
  have hb := B.bytes
  have hr := B.returns
  have hts := atoms_spec (ws := .code yX12_pays cX12_pays 3 (some FieldType.int) :: gb_wA) B.pre
  have hq : ∀ w ∈ gb_wA, w.before _ s = true := fun w h => hts w (List.mem_cons_of_mem _ h)
  have hown : s.vm.findClass RX12 = some m.cls := findClass_of_methodNamed B.named
  have hlocks := B.notSynchronized
  have hK := hSt.1
  have hS : va_S (gb_fr b 22) s.heap s.heap [] := va_S.rf
  have hl := lv_entry ([.ref (b + 0), .int p1, .int p2]) (n := 3) (Nat.le_of_ble_eq_true rfl)
  rw [lg_entry_eq]
  generalize (lg_sl ([.ref (b + 0), .int p1, .int p2]) ++ List.replicate (3 - (lg_sl ([.ref (b + 0), .int p1, .int p2])).length) Slot.unset).toArray = ls at hl ⊢
  have hl : lv_has ls 3 [(0, .ref (b + 0)), (1, .int p1), (2, .int p2)] := hl
  refine lv_aload_n hx hb dX12_pays_0 rfl (lv_at hl 0 rfl) ?_
  refine lv_iconst (v := 2) hx hb dX12_pays_1 (by decide) ?_
  refine lv_iload_n hx hb dX12_pays_2 rfl (lv_at hl 1 rfl) ?_
  refine gb_calli (va_runV (C := RX12) (As := [.int 2, .int p1]) (rest := []) ⟨hx, hb, hml, hown, hq⟩ (f_X12_isOf_3 l D cT tt b1 b hb1 p1) (cwV 2 hq (gb_gV w_1272 w_1274 s_3_0 w_14 w_1275) rfl rfl rfl (by decide +kernel) ⟨Nat.le_of_ble_eq_true rfl, Nat.le_of_ble_eq_true rfl⟩) (gb_preV (r := (RX12, TX12, 44)) (ci := 10) (q0 := 0) hSt hP rfl (gb_at b rfl) hS (fun q h => Nat.le_trans hb1 h.1) hP) rfl rfl hl.1 rfl (lv_room (Nat.le_of_ble_eq_true rfl)) dX12_pays_3 ⟨Nat.le_of_ble_eq_true rfl, Nat.le_of_ble_eq_true rfl⟩) hS (fun _ h => h) (fun _ h => h) (fun r H locs hY hk hS => ?_)
  obtain ⟨hr9, hP⟩ := hY
  subst hr9
  refine lv_if_eq (tgt := 20) hx hb dX12_pays_6 (by decide) (fun _ => ?_) (fun hc => absurd (by decide) hc)
  refine lv_iconst (v := (-1)) hx hb dX12_pays_20 (by decide) ?_
  exact W.iret (v := (-1)) hx hb hr (fun t ht hW => gb_ri ht rfl hS) hS.2.2 dX12_pays_21
theorem dX12_even_0 : decode cX12_even 0 = .ok (.aload_n 0, 1) := by decide +kernel
theorem dX12_even_1 : decode cX12_even 1 = .ok (.iload_n 1, 1) := by decide +kernel
theorem dX12_even_2 : decode cX12_even 2 = .ok (.invokevirtual 319, 3) := by decide +kernel
theorem dX12_canMarch_0 : decode cX12_canMarch 0 = .ok (.aload_n 0, 1) := by decide +kernel
theorem dX12_canMarch_1 : decode cX12_canMarch 1 = .ok (.iload_n 1, 1) := by decide +kernel
theorem dX12_canMarch_2 : decode cX12_canMarch 2 = .ok (.invokevirtual 205, 3) := by decide +kernel
theorem dX12_canMarch_5 : decode cX12_canMarch 5 = .ok (.ifCond .eq 23, 3) := by decide +kernel
theorem dX12_canMarch_28 : decode cX12_canMarch 28 = .ok (.iconst 0, 1) := by decide +kernel
theorem dX12_canMarch_29 : decode cX12_canMarch 29 = .ok (.ireturn, 1) := by decide +kernel
set_option maxHeartbeats 4000000 in
set_option maxRecDepth 100000 in
theorem f_X12_canMarch (l : Launch) (D : va_G) (cT : Nat → ClassId) (tt : Nat → Nat) (b1 b : Nat) (hb1 : b1 ≤ b) (p1 : Int32) : Met l yX12_canMarch (.code yX12_canMarch cX12_canMarch 2 (some FieldType.boolean) :: gb_wA) ({ frames := 3, cells := 0, slots := 0, locals := 65 }) (gb_Pc D cT tt b1 [.ref (b + 0), .int p1] (fun h => va_P D vwCl (gb_wl b (gb_M cT b)) h)) (gb_Qi (fun r h => r = 0 ∧ va_P D vwCl (gb_wl b (gb_M cT b)) h) (gb_fr b 22)) 0 0 (gb_fr b 22) := by
  refine Met.ofW (cc := cX12_canMarch) (maxL := 2) (ret := (some FieldType.boolean)) (by decide) rfl ?_
  intro p e s m args below meth c s₁ B hml hv
  obtain ⟨rfl, hSt, hP⟩ := hv
  have hx := B.exec
  have hb := B.bytes
  have hr := B.returns
  have hts := atoms_spec (ws := .code yX12_canMarch cX12_canMarch 2 (some FieldType.boolean) :: gb_wA) B.pre
  have hq : ∀ w ∈ gb_wA, w.before _ s = true := fun w h => hts w (List.mem_cons_of_mem _ h)
  have hown : s.vm.findClass RX12 = some m.cls := findClass_of_methodNamed B.named
  have hlocks := B.notSynchronized
  have hK := hSt.1
  have hS : va_S (gb_fr b 22) s.heap s.heap [] := va_S.rf
  have hl := lv_entry ([.ref (b + 0), .int p1]) (n := 2) (Nat.le_of_ble_eq_true rfl)
  rw [lg_entry_eq]
  generalize (lg_sl ([.ref (b + 0), .int p1]) ++ List.replicate (2 - (lg_sl ([.ref (b + 0), .int p1])).length) Slot.unset).toArray = ls at hl ⊢
  have hl : lv_has ls 2 [(0, .ref (b + 0)), (1, .int p1)] := hl
  refine lv_aload_n hx hb dX12_canMarch_0 rfl (lv_at hl 0 rfl) ?_
  refine lv_iload_n hx hb dX12_canMarch_1 rfl (lv_at hl 1 rfl) ?_
  refine gb_calli (va_runV (C := RX12) (As := [.int p1]) (rest := []) ⟨hx, hb, hml, hown, hq⟩ (f_X12_isBorder l D cT tt b1 b hb1 p1) (cwV 1 hq (gb_gV w_1372 w_1374 s_4_1 w_14 w_1375) rfl rfl rfl (by decide +kernel) ⟨Nat.le_of_ble_eq_true rfl, Nat.le_of_ble_eq_true rfl⟩) (gb_preV (r := (RX12, TX12, 44)) (ci := 10) (q0 := 0) hSt hP rfl (gb_at b rfl) hS (fun q h => Nat.le_trans hb1 h.1) hP) rfl rfl hl.1 rfl (lv_room (Nat.le_of_ble_eq_true rfl)) dX12_canMarch_2 ⟨Nat.le_of_ble_eq_true rfl, Nat.le_of_ble_eq_true rfl⟩) hS (fun _ h => h) (fun _ h => h) (fun r H locs hY hk hS => ?_)
  obtain ⟨hr9, hP⟩ := hY
  subst hr9
  refine lv_if_eq (tgt := 28) hx hb dX12_canMarch_5 (by decide) (fun _ => ?_) (fun hc => absurd (by decide) hc)
  refine lv_iconst (v := 0) hx hb dX12_canMarch_28 (by decide) ?_
  exact W.zret (v := 0) hx hb hr (by decide) (fun t ht hW => gb_ri ht ⟨rfl, hP⟩ hS) hS.2.2 dX12_canMarch_29
theorem w_1523 : (Cond.code ({ cls := "GooseBorderModel", name := "canMarch", desc := "(I)Z" } : MethodName) prog_14_method_75_code (2 : Nat) (Option.some FieldType.boolean)) ∈ gb_wA := gb_t7 83 rfl rfl
theorem w_1520 : (Cond.methodLink "GooseBorderModel" (319 : Nat) ({ cls := "GooseBorderModel", name := "canMarch", desc := "(I)Z" } : MethodName)) ∈ gb_wA := gb_t7 80 rfl rfl
theorem w_1522 : (Cond.instanceMethod ({ cls := "GooseBorderModel", name := "canMarch", desc := "(I)Z" } : MethodName)) ∈ gb_wA := gb_t7 82 rfl rfl
theorem s_5_13 : Cond.selects "GooseBorderModel" (⟨"GooseBorderModel", "canMarch", "(I)Z"⟩ : MethodName) (⟨"GooseBorderModel", "canMarch", "(I)Z"⟩ : MethodName) ∈ gb_wA := gb_s5 13 rfl rfl
theorem dX12_even_5 : decode cX12_even 5 = .ok (.ifCond .eq 29, 3) := by decide +kernel
theorem dX12_even_34 : decode cX12_even 34 = .ok (.iconst (-1), 1) := by decide +kernel
theorem dX12_even_35 : decode cX12_even 35 = .ok (.ireturn, 1) := by decide +kernel
set_option maxHeartbeats 4000000 in
set_option maxRecDepth 100000 in
theorem a_X12_even (l : Launch) (D : va_G) (cT : Nat → ClassId) (tt : Nat → Nat) (b1 b : Nat) (hb1 : b1 ≤ b) (p1 : Int32) (p2 : Int32) : Met l yX12_even (.code yX12_even cX12_even 4 (some FieldType.int) :: gb_wA) ({ frames := 4, cells := 0, slots := 0, locals := 86 }) (gb_Pc D cT tt b1 [.ref (b + 0), .int p1, .int p2] (fun h => va_P D vwCl (gb_wl b (gb_M cT b)) h)) (gb_Qi (fun r _ => r = (-1)) (gb_fr b 22)) 0 0 (gb_fr b 22) := by
  refine Met.ofW (cc := cX12_even) (maxL := 4) (ret := (some FieldType.int)) (by decide) rfl ?_
  intro p e s m args below meth c s₁ B hml hv
  obtain ⟨rfl, hSt, hP⟩ := hv
  have hx := B.exec
  have hb := B.bytes
  have hr := B.returns
  have hts := atoms_spec (ws := .code yX12_even cX12_even 4 (some FieldType.int) :: gb_wA) B.pre
  have hq : ∀ w ∈ gb_wA, w.before _ s = true := fun w h => hts w (List.mem_cons_of_mem _ h)
  have hown : s.vm.findClass RX12 = some m.cls := findClass_of_methodNamed B.named
  have hlocks := B.notSynchronized
  have hK := hSt.1
  have hS : va_S (gb_fr b 22) s.heap s.heap [] := va_S.rf
  have hl := lv_entry ([.ref (b + 0), .int p1, .int p2]) (n := 4) (Nat.le_of_ble_eq_true rfl)
  rw [lg_entry_eq]
  generalize (lg_sl ([.ref (b + 0), .int p1, .int p2]) ++ List.replicate (4 - (lg_sl ([.ref (b + 0), .int p1, .int p2])).length) Slot.unset).toArray = ls at hl ⊢
  have hl : lv_has ls 4 [(0, .ref (b + 0)), (1, .int p1), (2, .int p2)] := hl
  refine lv_aload_n hx hb dX12_even_0 rfl (lv_at hl 0 rfl) ?_
  refine lv_iload_n hx hb dX12_even_1 rfl (lv_at hl 1 rfl) ?_
  refine gb_calli (va_runV (C := RX12) (As := [.int p1]) (rest := []) ⟨hx, hb, hml, hown, hq⟩ (f_X12_canMarch l D cT tt b1 b hb1 p1) (cwV 1 hq (gb_gV w_1520 w_1522 s_5_13 w_14 w_1523) rfl rfl rfl (by decide +kernel) ⟨Nat.le_of_ble_eq_true rfl, Nat.le_of_ble_eq_true rfl⟩) (gb_preV (r := (RX12, TX12, 44)) (ci := 10) (q0 := 0) hSt hP rfl (gb_at b rfl) hS (fun q h => Nat.le_trans hb1 h.1) hP) rfl rfl hl.1 rfl (lv_room (Nat.le_of_ble_eq_true rfl)) dX12_even_2 ⟨Nat.le_of_ble_eq_true rfl, Nat.le_of_ble_eq_true rfl⟩) hS (fun _ h => h) (fun _ h => h) (fun r H locs hY hk hS => ?_)
  obtain ⟨hr9, hP⟩ := hY
  subst hr9
  refine lv_if_eq (tgt := 34) hx hb dX12_even_5 (by decide) (fun _ => ?_) (fun hc => absurd (by decide) hc)
  refine lv_iconst (v := (-1)) hx hb dX12_even_34 (by decide) ?_
  exact W.iret (v := (-1)) hx hb hr (fun t ht hW => gb_ri ht rfl hS) hS.2.2 dX12_even_35
theorem dX12_richest_0 : decode cX12_richest 0 = .ok (.aload_n 0, 1) := by decide +kernel
theorem dX12_richest_1 : decode cX12_richest 1 = .ok (.iload_n 1, 1) := by decide +kernel
theorem dX12_richest_2 : decode cX12_richest 2 = .ok (.invokevirtual 319, 3) := by decide +kernel
theorem dX12_richest_5 : decode cX12_richest 5 = .ok (.ifCond .eq 27, 3) := by decide +kernel
theorem dX12_richest_32 : decode cX12_richest 32 = .ok (.iconst (-1), 1) := by decide +kernel
theorem dX12_richest_33 : decode cX12_richest 33 = .ok (.ireturn, 1) := by decide +kernel
set_option maxHeartbeats 4000000 in
set_option maxRecDepth 100000 in
theorem a_X12_richest (l : Launch) (D : va_G) (cT : Nat → ClassId) (tt : Nat → Nat) (b1 b : Nat) (hb1 : b1 ≤ b) (p1 : Int32) (p2 : Int32) (p3 : Int32) : Met l yX12_richest (.code yX12_richest cX12_richest 5 (some FieldType.int) :: gb_wA) ({ frames := 4, cells := 0, slots := 0, locals := 86 }) (gb_Pc D cT tt b1 [.ref (b + 0), .int p1, .int p2, .int p3] (fun h => va_P D vwCl (gb_wl b (gb_M cT b)) h)) (gb_Qi (fun r _ => r = (-1)) (gb_fr b 22)) 0 0 (gb_fr b 22) := by
  refine Met.ofW (cc := cX12_richest) (maxL := 5) (ret := (some FieldType.int)) (by decide) rfl ?_
  intro p e s m args below meth c s₁ B hml hv
  obtain ⟨rfl, hSt, hP⟩ := hv
  have hx := B.exec
  have hb := B.bytes
  have hr := B.returns
  have hts := atoms_spec (ws := .code yX12_richest cX12_richest 5 (some FieldType.int) :: gb_wA) B.pre
  have hq : ∀ w ∈ gb_wA, w.before _ s = true := fun w h => hts w (List.mem_cons_of_mem _ h)
  have hown : s.vm.findClass RX12 = some m.cls := findClass_of_methodNamed B.named
  have hlocks := B.notSynchronized
  have hK := hSt.1
  have hS : va_S (gb_fr b 22) s.heap s.heap [] := va_S.rf
  have hl := lv_entry ([.ref (b + 0), .int p1, .int p2, .int p3]) (n := 5) (Nat.le_of_ble_eq_true rfl)
  rw [lg_entry_eq]
  generalize (lg_sl ([.ref (b + 0), .int p1, .int p2, .int p3]) ++ List.replicate (5 - (lg_sl ([.ref (b + 0), .int p1, .int p2, .int p3])).length) Slot.unset).toArray = ls at hl ⊢
  have hl : lv_has ls 5 [(0, .ref (b + 0)), (1, .int p1), (2, .int p2), (3, .int p3)] := hl
  refine lv_aload_n hx hb dX12_richest_0 rfl (lv_at hl 0 rfl) ?_
  refine lv_iload_n hx hb dX12_richest_1 rfl (lv_at hl 1 rfl) ?_
  refine gb_calli (va_runV (C := RX12) (As := [.int p1]) (rest := []) ⟨hx, hb, hml, hown, hq⟩ (f_X12_canMarch l D cT tt b1 b hb1 p1) (cwV 1 hq (gb_gV w_1520 w_1522 s_5_13 w_14 w_1523) rfl rfl rfl (by decide +kernel) ⟨Nat.le_of_ble_eq_true rfl, Nat.le_of_ble_eq_true rfl⟩) (gb_preV (r := (RX12, TX12, 44)) (ci := 10) (q0 := 0) hSt hP rfl (gb_at b rfl) hS (fun q h => Nat.le_trans hb1 h.1) hP) rfl rfl hl.1 rfl (lv_room (Nat.le_of_ble_eq_true rfl)) dX12_richest_2 ⟨Nat.le_of_ble_eq_true rfl, Nat.le_of_ble_eq_true rfl⟩) hS (fun _ h => h) (fun _ h => h) (fun r H locs hY hk hS => ?_)
  obtain ⟨hr9, hP⟩ := hY
  subst hr9
  refine lv_if_eq (tgt := 32) hx hb dX12_richest_5 (by decide) (fun _ => ?_) (fun hc => absurd (by decide) hc)
  refine lv_iconst (v := (-1)) hx hb dX12_richest_32 (by decide) ?_
  exact W.iret (v := (-1)) hx hb hr (fun t ht hW => gb_ri ht rfl hS) hS.2.2 dX12_richest_33
theorem dX12_tar_0 : decode cX12_tar 0 = .ok (.aload_n 0, 1) := by decide +kernel
theorem dX12_tar_1 : decode cX12_tar 1 = .ok (.iload_n 1, 1) := by decide +kernel
theorem dX12_tar_2 : decode cX12_tar 2 = .ok (.invokevirtual 205, 3) := by decide +kernel
theorem dX12_tar_5 : decode cX12_tar 5 = .ok (.ifCond .eq 22, 3) := by decide +kernel
theorem dX12_tar_27 : decode cX12_tar 27 = .ok (.iconst (-1), 1) := by decide +kernel
theorem dX12_tar_28 : decode cX12_tar 28 = .ok (.ireturn, 1) := by decide +kernel
set_option maxHeartbeats 4000000 in
set_option maxRecDepth 100000 in
theorem a_X12_tar (l : Launch) (D : va_G) (cT : Nat → ClassId) (tt : Nat → Nat) (b1 b : Nat) (hb1 : b1 ≤ b) (p1 : Int32) (p2 : Int32) (p3 : Int32) : Met l yX12_tar (.code yX12_tar cX12_tar 11 (some FieldType.int) :: gb_wA) ({ frames := 3, cells := 0, slots := 0, locals := 65 }) (gb_Pc D cT tt b1 [.ref (b + 0), .int p1, .int p2, .int p3] (fun h => va_P D vwCl (gb_wl b (gb_M cT b)) h)) (gb_Qi (fun r _ => r = (-1)) (gb_fr b 22)) 0 0 (gb_fr b 22) := by
  refine Met.ofW (cc := cX12_tar) (maxL := 11) (ret := (some FieldType.int)) (by decide) rfl ?_
  intro p e s m args below meth c s₁ B hml hv
  obtain ⟨rfl, hSt, hP⟩ := hv
  have hx := B.exec
  have hb := B.bytes
  have hr := B.returns
  have hts := atoms_spec (ws := .code yX12_tar cX12_tar 11 (some FieldType.int) :: gb_wA) B.pre
  have hq : ∀ w ∈ gb_wA, w.before _ s = true := fun w h => hts w (List.mem_cons_of_mem _ h)
  have hown : s.vm.findClass RX12 = some m.cls := findClass_of_methodNamed B.named
  have hlocks := B.notSynchronized
  have hK := hSt.1
  have hS : va_S (gb_fr b 22) s.heap s.heap [] := va_S.rf
  have hl := lv_entry ([.ref (b + 0), .int p1, .int p2, .int p3]) (n := 11) (Nat.le_of_ble_eq_true rfl)
  rw [lg_entry_eq]
  generalize (lg_sl ([.ref (b + 0), .int p1, .int p2, .int p3]) ++ List.replicate (11 - (lg_sl ([.ref (b + 0), .int p1, .int p2, .int p3])).length) Slot.unset).toArray = ls at hl ⊢
  have hl : lv_has ls 11 [(0, .ref (b + 0)), (1, .int p1), (2, .int p2), (3, .int p3)] := hl
  refine lv_aload_n hx hb dX12_tar_0 rfl (lv_at hl 0 rfl) ?_
  refine lv_iload_n hx hb dX12_tar_1 rfl (lv_at hl 1 rfl) ?_
  refine gb_calli (va_runV (C := RX12) (As := [.int p1]) (rest := []) ⟨hx, hb, hml, hown, hq⟩ (f_X12_isBorder l D cT tt b1 b hb1 p1) (cwV 1 hq (gb_gV w_1372 w_1374 s_4_1 w_14 w_1375) rfl rfl rfl (by decide +kernel) ⟨Nat.le_of_ble_eq_true rfl, Nat.le_of_ble_eq_true rfl⟩) (gb_preV (r := (RX12, TX12, 44)) (ci := 10) (q0 := 0) hSt hP rfl (gb_at b rfl) hS (fun q h => Nat.le_trans hb1 h.1) hP) rfl rfl hl.1 rfl (lv_room (Nat.le_of_ble_eq_true rfl)) dX12_tar_2 ⟨Nat.le_of_ble_eq_true rfl, Nat.le_of_ble_eq_true rfl⟩) hS (fun _ h => h) (fun _ h => h) (fun r H locs hY hk hS => ?_)
  obtain ⟨hr9, hP⟩ := hY
  subst hr9
  refine lv_if_eq (tgt := 27) hx hb dX12_tar_5 (by decide) (fun _ => ?_) (fun hc => absurd (by decide) hc)
  refine lv_iconst (v := (-1)) hx hb dX12_tar_27 (by decide) ?_
  exact W.iret (v := (-1)) hx hb hr (fun t ht hW => gb_ri ht rfl hS) hS.2.2 dX12_tar_28
theorem dX12_lame_0 : decode cX12_lame 0 = .ok (.aload_n 0, 1) := by decide +kernel
theorem dX12_lame_1 : decode cX12_lame 1 = .ok (.iload_n 1, 1) := by decide +kernel
theorem dX12_lame_2 : decode cX12_lame 2 = .ok (.invokevirtual 205, 3) := by decide +kernel
theorem dX12_lame_5 : decode cX12_lame 5 = .ok (.ifCond .ne 5, 3) := by decide +kernel
theorem dX12_lame_8 : decode cX12_lame 8 = .ok (.iconst (-1), 1) := by decide +kernel
theorem dX12_lame_9 : decode cX12_lame 9 = .ok (.ireturn, 1) := by decide +kernel
set_option maxHeartbeats 4000000 in
set_option maxRecDepth 100000 in
theorem a_X12_lame (l : Launch) (D : va_G) (cT : Nat → ClassId) (tt : Nat → Nat) (b1 b : Nat) (hb1 : b1 ≤ b) (p1 : Int32) (p2 : Int32) (p3 : Int32) : Met l yX12_lame (.code yX12_lame cX12_lame 4 (some FieldType.int) :: gb_wA) ({ frames := 3, cells := 0, slots := 0, locals := 65 }) (gb_Pc D cT tt b1 [.ref (b + 0), .int p1, .int p2, .int p3] (fun h => va_P D vwCl (gb_wl b (gb_M cT b)) h)) (gb_Qi (fun r _ => r = (-1)) (gb_fr b 22)) 0 0 (gb_fr b 22) := by
  refine Met.ofW (cc := cX12_lame) (maxL := 4) (ret := (some FieldType.int)) (by decide) rfl ?_
  intro p e s m args below meth c s₁ B hml hv
  obtain ⟨rfl, hSt, hP⟩ := hv
  have hx := B.exec
  have hb := B.bytes
  have hr := B.returns
  have hts := atoms_spec (ws := .code yX12_lame cX12_lame 4 (some FieldType.int) :: gb_wA) B.pre
  have hq : ∀ w ∈ gb_wA, w.before _ s = true := fun w h => hts w (List.mem_cons_of_mem _ h)
  have hown : s.vm.findClass RX12 = some m.cls := findClass_of_methodNamed B.named
  have hlocks := B.notSynchronized
  have hK := hSt.1
  have hS : va_S (gb_fr b 22) s.heap s.heap [] := va_S.rf
  have hl := lv_entry ([.ref (b + 0), .int p1, .int p2, .int p3]) (n := 4) (Nat.le_of_ble_eq_true rfl)
  rw [lg_entry_eq]
  generalize (lg_sl ([.ref (b + 0), .int p1, .int p2, .int p3]) ++ List.replicate (4 - (lg_sl ([.ref (b + 0), .int p1, .int p2, .int p3])).length) Slot.unset).toArray = ls at hl ⊢
  have hl : lv_has ls 4 [(0, .ref (b + 0)), (1, .int p1), (2, .int p2), (3, .int p3)] := hl
  refine lv_aload_n hx hb dX12_lame_0 rfl (lv_at hl 0 rfl) ?_
  refine lv_iload_n hx hb dX12_lame_1 rfl (lv_at hl 1 rfl) ?_
  refine gb_calli (va_runV (C := RX12) (As := [.int p1]) (rest := []) ⟨hx, hb, hml, hown, hq⟩ (f_X12_isBorder l D cT tt b1 b hb1 p1) (cwV 1 hq (gb_gV w_1372 w_1374 s_4_1 w_14 w_1375) rfl rfl rfl (by decide +kernel) ⟨Nat.le_of_ble_eq_true rfl, Nat.le_of_ble_eq_true rfl⟩) (gb_preV (r := (RX12, TX12, 44)) (ci := 10) (q0 := 0) hSt hP rfl (gb_at b rfl) hS (fun q h => Nat.le_trans hb1 h.1) hP) rfl rfl hl.1 rfl (lv_room (Nat.le_of_ble_eq_true rfl)) dX12_lame_2 ⟨Nat.le_of_ble_eq_true rfl, Nat.le_of_ble_eq_true rfl⟩) hS (fun _ h => h) (fun _ h => h) (fun r H locs hY hk hS => ?_)
  obtain ⟨hr9, hP⟩ := hY
  subst hr9
  refine lv_if_ne (tgt := 10) hx hb dX12_lame_5 (by decide) (fun hc => absurd hc (by decide)) (fun _ => ?_)
  refine lv_iconst (v := (-1)) hx hb dX12_lame_8 (by decide) ?_
  exact W.iret (v := (-1)) hx hb hr (fun t ht hW => gb_ri ht rfl hS) hS.2.2 dX12_lame_9
theorem dX12_rest_0 : decode cX12_rest 0 = .ok (.aload_n 0, 1) := by decide +kernel
theorem dX12_rest_1 : decode cX12_rest 1 = .ok (.iload_n 1, 1) := by decide +kernel
theorem dX12_rest_2 : decode cX12_rest 2 = .ok (.iload_n 2, 1) := by decide +kernel
theorem dX12_rest_3 : decode cX12_rest 3 = .ok (.invokevirtual 264, 3) := by decide +kernel
theorem dX12_rest_6 : decode cX12_rest 6 = .ok (.ifCond .eq 8, 3) := by decide +kernel
theorem dX12_rest_14 : decode cX12_rest 14 = .ok (.bipush (-2), 2) := by decide +kernel
theorem dX12_rest_16 : decode cX12_rest 16 = .ok (.ireturn, 1) := by decide +kernel
set_option maxHeartbeats 4000000 in
set_option maxRecDepth 100000 in
theorem a_X12_rest (l : Launch) (D : va_G) (cT : Nat → ClassId) (tt : Nat → Nat) (b1 b : Nat) (hb1 : b1 ≤ b) (p1 : Int32) (p2 : Int32) (p3 : Int32) : Met l yX12_rest (.code yX12_rest cX12_rest 6 (some FieldType.int) :: gb_wA) ({ frames := 4, cells := 0, slots := 0, locals := 87 }) (gb_Pc D cT tt b1 [.ref (b + 0), .int p1, .int p2, .int p3] (fun h => va_P D vwCl (gb_wl b (gb_M cT b)) h)) (gb_Qi (fun r _ => r = (-2)) (gb_fr b 22)) 0 0 (gb_fr b 22) := by
  refine Met.ofW (cc := cX12_rest) (maxL := 6) (ret := (some FieldType.int)) (by decide) rfl ?_
  intro p e s m args below meth c s₁ B hml hv
  obtain ⟨rfl, hSt, hP⟩ := hv
  have hx := B.exec
  have hb := B.bytes
  have hr := B.returns
  have hts := atoms_spec (ws := .code yX12_rest cX12_rest 6 (some FieldType.int) :: gb_wA) B.pre
  have hq : ∀ w ∈ gb_wA, w.before _ s = true := fun w h => hts w (List.mem_cons_of_mem _ h)
  have hown : s.vm.findClass RX12 = some m.cls := findClass_of_methodNamed B.named
  have hlocks := B.notSynchronized
  have hK := hSt.1
  have hS : va_S (gb_fr b 22) s.heap s.heap [] := va_S.rf
  have hl := lv_entry ([.ref (b + 0), .int p1, .int p2, .int p3]) (n := 6) (Nat.le_of_ble_eq_true rfl)
  rw [lg_entry_eq]
  generalize (lg_sl ([.ref (b + 0), .int p1, .int p2, .int p3]) ++ List.replicate (6 - (lg_sl ([.ref (b + 0), .int p1, .int p2, .int p3])).length) Slot.unset).toArray = ls at hl ⊢
  have hl : lv_has ls 6 [(0, .ref (b + 0)), (1, .int p1), (2, .int p2), (3, .int p3)] := hl
  refine lv_aload_n hx hb dX12_rest_0 rfl (lv_at hl 0 rfl) ?_
  refine lv_iload_n hx hb dX12_rest_1 rfl (lv_at hl 1 rfl) ?_
  refine lv_iload_n hx hb dX12_rest_2 rfl (lv_at hl 2 rfl) ?_
  refine gb_calli (va_runV (C := RX12) (As := [.int p1, .int p2]) (rest := []) ⟨hx, hb, hml, hown, hq⟩ (f_X12_areTold l D cT tt b1 b hb1 p1 p2) (cwV 2 hq (gb_gV w_1428 w_1430 s_4_12 w_14 w_1431) rfl rfl rfl (by decide +kernel) ⟨Nat.le_of_ble_eq_true rfl, Nat.le_of_ble_eq_true rfl⟩) (gb_preV (r := (RX12, TX12, 44)) (ci := 10) (q0 := 0) hSt hP rfl (gb_at b rfl) hS (fun q h => Nat.le_trans hb1 h.1) hP) rfl rfl hl.1 rfl (lv_room (Nat.le_of_ble_eq_true rfl)) dX12_rest_3 ⟨Nat.le_of_ble_eq_true rfl, Nat.le_of_ble_eq_true rfl⟩) hS (fun _ h => h) (fun _ h => h) (fun r H locs hY hk hS => ?_)
  obtain ⟨hr9, hP⟩ := hY
  subst hr9
  refine lv_if_eq (tgt := 14) hx hb dX12_rest_6 (by decide) (fun _ => ?_) (fun hc => absurd (by decide) hc)
  refine lv_bipush (v := (-2)) hx hb dX12_rest_14 (by decide) ?_
  exact W.iret (v := (-2)) hx hb hr (fun t ht hW => gb_ri ht rfl hS) hS.2.2 dX12_rest_16
theorem dX12_take_0 : decode cX12_take 0 = .ok (.aload_n 0, 1) := by decide +kernel
theorem dX12_take_1 : decode cX12_take 1 = .ok (.iload_n 1, 1) := by decide +kernel
theorem dX12_take_2 : decode cX12_take 2 = .ok (.iload_n 2, 1) := by decide +kernel
theorem dX12_take_3 : decode cX12_take 3 = .ok (.invokevirtual 264, 3) := by decide +kernel
theorem dX12_take_6 : decode cX12_take 6 = .ok (.ifCond .eq 28, 3) := by decide +kernel
theorem dX12_take_34 : decode cX12_take 34 = .ok (.iconst (-1), 1) := by decide +kernel
theorem dX12_take_35 : decode cX12_take 35 = .ok (.ireturn, 1) := by decide +kernel
set_option maxHeartbeats 4000000 in
set_option maxRecDepth 100000 in
theorem a_X12_take (l : Launch) (D : va_G) (cT : Nat → ClassId) (tt : Nat → Nat) (b1 b : Nat) (hb1 : b1 ≤ b) (p1 : Int32) (p2 : Int32) (p3 : Int32) (p4 : Int32) : Met l yX12_take (.code yX12_take cX12_take 5 (some FieldType.int) :: gb_wA) ({ frames := 4, cells := 0, slots := 0, locals := 87 }) (gb_Pc D cT tt b1 [.ref (b + 0), .int p1, .int p2, .int p3, .int p4] (fun h => va_P D vwCl (gb_wl b (gb_M cT b)) h)) (gb_Qi (fun r _ => r = (-1)) (gb_fr b 22)) 0 0 (gb_fr b 22) := by
  refine Met.ofW (cc := cX12_take) (maxL := 5) (ret := (some FieldType.int)) (by decide) rfl ?_
  intro p e s m args below meth c s₁ B hml hv
  obtain ⟨rfl, hSt, hP⟩ := hv
  have hx := B.exec
  have hb := B.bytes
  have hr := B.returns
  have hts := atoms_spec (ws := .code yX12_take cX12_take 5 (some FieldType.int) :: gb_wA) B.pre
  have hq : ∀ w ∈ gb_wA, w.before _ s = true := fun w h => hts w (List.mem_cons_of_mem _ h)
  have hown : s.vm.findClass RX12 = some m.cls := findClass_of_methodNamed B.named
  have hlocks := B.notSynchronized
  have hK := hSt.1
  have hS : va_S (gb_fr b 22) s.heap s.heap [] := va_S.rf
  have hl := lv_entry ([.ref (b + 0), .int p1, .int p2, .int p3, .int p4]) (n := 5) (Nat.le_of_ble_eq_true rfl)
  rw [lg_entry_eq]
  generalize (lg_sl ([.ref (b + 0), .int p1, .int p2, .int p3, .int p4]) ++ List.replicate (5 - (lg_sl ([.ref (b + 0), .int p1, .int p2, .int p3, .int p4])).length) Slot.unset).toArray = ls at hl ⊢
  have hl : lv_has ls 5 [(0, .ref (b + 0)), (1, .int p1), (2, .int p2), (3, .int p3), (4, .int p4)] := hl
  refine lv_aload_n hx hb dX12_take_0 rfl (lv_at hl 0 rfl) ?_
  refine lv_iload_n hx hb dX12_take_1 rfl (lv_at hl 1 rfl) ?_
  refine lv_iload_n hx hb dX12_take_2 rfl (lv_at hl 2 rfl) ?_
  refine gb_calli (va_runV (C := RX12) (As := [.int p1, .int p2]) (rest := []) ⟨hx, hb, hml, hown, hq⟩ (f_X12_areTold l D cT tt b1 b hb1 p1 p2) (cwV 2 hq (gb_gV w_1428 w_1430 s_4_12 w_14 w_1431) rfl rfl rfl (by decide +kernel) ⟨Nat.le_of_ble_eq_true rfl, Nat.le_of_ble_eq_true rfl⟩) (gb_preV (r := (RX12, TX12, 44)) (ci := 10) (q0 := 0) hSt hP rfl (gb_at b rfl) hS (fun q h => Nat.le_trans hb1 h.1) hP) rfl rfl hl.1 rfl (lv_room (Nat.le_of_ble_eq_true rfl)) dX12_take_3 ⟨Nat.le_of_ble_eq_true rfl, Nat.le_of_ble_eq_true rfl⟩) hS (fun _ h => h) (fun _ h => h) (fun r H locs hY hk hS => ?_)
  obtain ⟨hr9, hP⟩ := hY
  subst hr9
  refine lv_if_eq (tgt := 34) hx hb dX12_take_6 (by decide) (fun _ => ?_) (fun hc => absurd (by decide) hc)
  refine lv_iconst (v := (-1)) hx hb dX12_take_34 (by decide) ?_
  exact W.iret (v := (-1)) hx hb hr (fun t ht hW => gb_ri ht rfl hS) hS.2.2 dX12_take_35
theorem dX12_honest_0 : decode cX12_honest 0 = .ok (.aload_n 0, 1) := by decide +kernel
theorem dX12_honest_1 : decode cX12_honest 1 = .ok (.iload_n 1, 1) := by decide +kernel
theorem dX12_honest_2 : decode cX12_honest 2 = .ok (.iload_n 2, 1) := by decide +kernel
theorem dX12_honest_3 : decode cX12_honest 3 = .ok (.invokevirtual 264, 3) := by decide +kernel
theorem dX12_honest_6 : decode cX12_honest 6 = .ok (.ifCond .eq 11, 3) := by decide +kernel
theorem dX12_honest_17 : decode cX12_honest 17 = .ok (.iconst (-1), 1) := by decide +kernel
theorem dX12_honest_18 : decode cX12_honest 18 = .ok (.ireturn, 1) := by decide +kernel
set_option maxHeartbeats 4000000 in
set_option maxRecDepth 100000 in
theorem a_X12_honest (l : Launch) (D : va_G) (cT : Nat → ClassId) (tt : Nat → Nat) (b1 b : Nat) (hb1 : b1 ≤ b) (p1 : Int32) (p2 : Int32) (p3 : Int32) : Met l yX12_honest (.code yX12_honest cX12_honest 4 (some FieldType.int) :: gb_wA) ({ frames := 4, cells := 0, slots := 0, locals := 87 }) (gb_Pc D cT tt b1 [.ref (b + 0), .int p1, .int p2, .int p3] (fun h => va_P D vwCl (gb_wl b (gb_M cT b)) h)) (gb_Qi (fun r _ => r = (-1)) (gb_fr b 22)) 0 0 (gb_fr b 22) := by
  refine Met.ofW (cc := cX12_honest) (maxL := 4) (ret := (some FieldType.int)) (by decide) rfl ?_
  intro p e s m args below meth c s₁ B hml hv
  obtain ⟨rfl, hSt, hP⟩ := hv
  have hx := B.exec
  have hb := B.bytes
  have hr := B.returns
  have hts := atoms_spec (ws := .code yX12_honest cX12_honest 4 (some FieldType.int) :: gb_wA) B.pre
  have hq : ∀ w ∈ gb_wA, w.before _ s = true := fun w h => hts w (List.mem_cons_of_mem _ h)
  have hown : s.vm.findClass RX12 = some m.cls := findClass_of_methodNamed B.named
  have hlocks := B.notSynchronized
  have hK := hSt.1
  have hS : va_S (gb_fr b 22) s.heap s.heap [] := va_S.rf
  have hl := lv_entry ([.ref (b + 0), .int p1, .int p2, .int p3]) (n := 4) (Nat.le_of_ble_eq_true rfl)
  rw [lg_entry_eq]
  generalize (lg_sl ([.ref (b + 0), .int p1, .int p2, .int p3]) ++ List.replicate (4 - (lg_sl ([.ref (b + 0), .int p1, .int p2, .int p3])).length) Slot.unset).toArray = ls at hl ⊢
  have hl : lv_has ls 4 [(0, .ref (b + 0)), (1, .int p1), (2, .int p2), (3, .int p3)] := hl
  refine lv_aload_n hx hb dX12_honest_0 rfl (lv_at hl 0 rfl) ?_
  refine lv_iload_n hx hb dX12_honest_1 rfl (lv_at hl 1 rfl) ?_
  refine lv_iload_n hx hb dX12_honest_2 rfl (lv_at hl 2 rfl) ?_
  refine gb_calli (va_runV (C := RX12) (As := [.int p1, .int p2]) (rest := []) ⟨hx, hb, hml, hown, hq⟩ (f_X12_areTold l D cT tt b1 b hb1 p1 p2) (cwV 2 hq (gb_gV w_1428 w_1430 s_4_12 w_14 w_1431) rfl rfl rfl (by decide +kernel) ⟨Nat.le_of_ble_eq_true rfl, Nat.le_of_ble_eq_true rfl⟩) (gb_preV (r := (RX12, TX12, 44)) (ci := 10) (q0 := 0) hSt hP rfl (gb_at b rfl) hS (fun q h => Nat.le_trans hb1 h.1) hP) rfl rfl hl.1 rfl (lv_room (Nat.le_of_ble_eq_true rfl)) dX12_honest_3 ⟨Nat.le_of_ble_eq_true rfl, Nat.le_of_ble_eq_true rfl⟩) hS (fun _ h => h) (fun _ h => h) (fun r H locs hY hk hS => ?_)
  obtain ⟨hr9, hP⟩ := hY
  subst hr9
  refine lv_if_eq (tgt := 17) hx hb dX12_honest_6 (by decide) (fun _ => ?_) (fun hc => absurd (by decide) hc)
  refine lv_iconst (v := (-1)) hx hb dX12_honest_17 (by decide) ?_
  exact W.iret (v := (-1)) hx hb hr (fun t ht hW => gb_ri ht rfl hS) hS.2.2 dX12_honest_18
theorem dX12_seen_0 : decode cX12_seen 0 = .ok (.aload_n 0, 1) := by decide +kernel
theorem dX12_seen_1 : decode cX12_seen 1 = .ok (.iconst 3, 1) := by decide +kernel
theorem dX12_seen_2 : decode cX12_seen 2 = .ok (.iload_n 1, 1) := by decide +kernel
theorem dX12_seen_3 : decode cX12_seen 3 = .ok (.invokevirtual 171, 3) := by decide +kernel
set_option maxHeartbeats 4000000 in
set_option maxRecDepth 100000 in
theorem f_X12_isOf_4 (l : Launch) (D : va_G) (cT : Nat → ClassId) (tt : Nat → Nat) (b1 b : Nat) (hb1 : b1 ≤ b) (p2 : Int32) : Met l yX12_isOf (.code yX12_isOf cX12_isOf 3 (some FieldType.boolean) :: gb_wA) ({ frames := 1, cells := 0, slots := 0, locals := 22 }) (gb_Pc D cT tt b1 [.ref (b + 0), .int 3, .int p2] (fun h => va_P D vwCl (gb_wl b (gb_M cT b)) h)) (gb_Qi (fun r h => r = 0 ∧ va_P D vwCl (gb_wl b (gb_M cT b)) h) (gb_fr b 22)) 0 0 (gb_fr b 22) := by
  refine Met.ofW (cc := cX12_isOf) (maxL := 3) (ret := (some FieldType.boolean)) (by decide) rfl ?_
  intro p e s m args below meth c s₁ B hml hv
  obtain ⟨rfl, hSt, hP⟩ := hv
  have hx := B.exec
  have hb := B.bytes
  have hr := B.returns
  have hts := atoms_spec (ws := .code yX12_isOf cX12_isOf 3 (some FieldType.boolean) :: gb_wA) B.pre
  have hq : ∀ w ∈ gb_wA, w.before _ s = true := fun w h => hts w (List.mem_cons_of_mem _ h)
  have hown : s.vm.findClass RX12 = some m.cls := findClass_of_methodNamed B.named
  have hlocks := B.notSynchronized
  have hK := hSt.1
  have hS : va_S (gb_fr b 22) s.heap s.heap [] := va_S.rf
  have hl := lv_entry ([.ref (b + 0), .int 3, .int p2]) (n := 3) (Nat.le_of_ble_eq_true rfl)
  rw [lg_entry_eq]
  generalize (lg_sl ([.ref (b + 0), .int 3, .int p2]) ++ List.replicate (3 - (lg_sl ([.ref (b + 0), .int 3, .int p2])).length) Slot.unset).toArray = ls at hl ⊢
  have hl : lv_has ls 3 [(0, .ref (b + 0)), (1, .int 3), (2, .int p2)] := hl
  refine lv_iload_n hx hb dX12_isOf_0 rfl (lv_at hl 2 rfl) ?_
  refine lv_iconst (v := 0) hx hb dX12_isOf_1 (by decide) ?_
  refine lv_aload_n hx hb dX12_isOf_2 rfl (lv_at hl 0 rfl) ?_
  refine va_get (ci := 10) (v := (.ref (b + 1))) (C := RX12) (T := TX12) (N := 44) hx hb hq i_X12 hown hK hP 0 (gb_at b rfl) rfl 0 (by decide) (hq _ w_1124) (fun _ h9 => h9) rfl dX12_isOf_3 ?_
  refine lv_iload_n hx hb dX12_isOf_6 rfl (lv_at hl 1 rfl) ?_
  refine gb_iald (v := 0) hx hb hK hP 1 0 (gb_at b rfl) rfl (gb_in rfl) rfl dX12_isOf_7 ?_
  refine lv_iconst (v := 1) hx hb dX12_isOf_8 (by decide) ?_
  refine lv_isub hx hb dX12_isOf_9 ?_
  refine W.eq (g2 := F0 m 10 ls [.int (-1), .int 0, .int p2]) (congrArg (fun v => F0 m 10 ls (Value.int v :: [.int 0, .int p2])) (show (0 : Int32) - 1 = (-1) by decide)) ?_
  refine gb_calli (va_runS (As := [.int p2, .int 0, .int (-1)]) (rest := []) ⟨hx, hb, hml, hown, hq⟩ (f_X12_isIn l D cT tt b1 b hb1 p2) (va_cwS 3 hq (gb_gS w_1269 w_1270 w_14 w_1271) rfl rfl rfl (by decide +kernel) ⟨Nat.le_of_ble_eq_true rfl, Nat.le_of_ble_eq_true rfl⟩) (gb_preS hSt hS (fun q h => Nat.le_trans hb1 h.1) hP) rfl rfl hl.1 rfl (lv_room (Nat.le_of_ble_eq_true rfl)) dX12_isOf_10 ⟨Nat.le_of_ble_eq_true rfl, Nat.le_of_ble_eq_true rfl⟩) hS (fun _ h => h) (fun _ h => h) (fun r H locs hY hk hS => ?_)
  obtain ⟨hr9, hP⟩ := hY
  subst hr9
  exact W.zret (v := 0) hx hb hr (by decide) (fun t ht hW => gb_ri ht ⟨rfl, hP⟩ hS) hS.2.2 dX12_isOf_13
theorem dX12_seen_6 : decode cX12_seen 6 = .ok (.ifCond .ne 6, 3) := by decide +kernel
theorem dX12_seen_9 : decode cX12_seen 9 = .ok (.bipush (-2), 2) := by decide +kernel
theorem dX12_seen_11 : decode cX12_seen 11 = .ok (.ireturn, 1) := by decide +kernel
set_option maxHeartbeats 4000000 in
set_option maxRecDepth 100000 in
theorem a_X12_seen (l : Launch) (D : va_G) (cT : Nat → ClassId) (tt : Nat → Nat) (b1 b : Nat) (hb1 : b1 ≤ b) (p1 : Int32) (p2 : Int32) (p3 : Int32) : Met l yX12_seen (.code yX12_seen cX12_seen 4 (some FieldType.int) :: gb_wA) ({ frames := 2, cells := 0, slots := 0, locals := 44 }) (gb_Pc D cT tt b1 [.ref (b + 0), .int p1, .int p2, .int p3] (fun h => va_P D vwCl (gb_wl b (gb_M cT b)) h)) (gb_Qi (fun r _ => r = (-2)) (gb_fr b 22)) 0 0 (gb_fr b 22) := by
  refine Met.ofW (cc := cX12_seen) (maxL := 4) (ret := (some FieldType.int)) (by decide) rfl ?_
  intro p e s m args below meth c s₁ B hml hv
  obtain ⟨rfl, hSt, hP⟩ := hv
  have hx := B.exec
  have hb := B.bytes
  have hr := B.returns
  have hts := atoms_spec (ws := .code yX12_seen cX12_seen 4 (some FieldType.int) :: gb_wA) B.pre
  have hq : ∀ w ∈ gb_wA, w.before _ s = true := fun w h => hts w (List.mem_cons_of_mem _ h)
  have hown : s.vm.findClass RX12 = some m.cls := findClass_of_methodNamed B.named
  have hlocks := B.notSynchronized
  have hK := hSt.1
  have hS : va_S (gb_fr b 22) s.heap s.heap [] := va_S.rf
  have hl := lv_entry ([.ref (b + 0), .int p1, .int p2, .int p3]) (n := 4) (Nat.le_of_ble_eq_true rfl)
  rw [lg_entry_eq]
  generalize (lg_sl ([.ref (b + 0), .int p1, .int p2, .int p3]) ++ List.replicate (4 - (lg_sl ([.ref (b + 0), .int p1, .int p2, .int p3])).length) Slot.unset).toArray = ls at hl ⊢
  have hl : lv_has ls 4 [(0, .ref (b + 0)), (1, .int p1), (2, .int p2), (3, .int p3)] := hl
  refine lv_aload_n hx hb dX12_seen_0 rfl (lv_at hl 0 rfl) ?_
  refine lv_iconst (v := 3) hx hb dX12_seen_1 (by decide) ?_
  refine lv_iload_n hx hb dX12_seen_2 rfl (lv_at hl 1 rfl) ?_
  refine gb_calli (va_runV (C := RX12) (As := [.int 3, .int p1]) (rest := []) ⟨hx, hb, hml, hown, hq⟩ (f_X12_isOf_4 l D cT tt b1 b hb1 p1) (cwV 2 hq (gb_gV w_1272 w_1274 s_3_0 w_14 w_1275) rfl rfl rfl (by decide +kernel) ⟨Nat.le_of_ble_eq_true rfl, Nat.le_of_ble_eq_true rfl⟩) (gb_preV (r := (RX12, TX12, 44)) (ci := 10) (q0 := 0) hSt hP rfl (gb_at b rfl) hS (fun q h => Nat.le_trans hb1 h.1) hP) rfl rfl hl.1 rfl (lv_room (Nat.le_of_ble_eq_true rfl)) dX12_seen_3 ⟨Nat.le_of_ble_eq_true rfl, Nat.le_of_ble_eq_true rfl⟩) hS (fun _ h => h) (fun _ h => h) (fun r H locs hY hk hS => ?_)
  obtain ⟨hr9, hP⟩ := hY
  subst hr9
  refine lv_if_ne (tgt := 12) hx hb dX12_seen_6 (by decide) (fun hc => absurd hc (by decide)) (fun _ => ?_)
  refine lv_bipush (v := (-2)) hx hb dX12_seen_9 (by decide) ?_
  exact W.iret (v := (-2)) hx hb hr (fun t ht hW => gb_ri ht rfl hS) hS.2.2 dX12_seen_11
theorem dX12_fits_0 : decode cX12_fits 0 = .ok (.aload_n 0, 1) := by decide +kernel
theorem dX12_fits_1 : decode cX12_fits 1 = .ok (.iload_n 1, 1) := by decide +kernel
theorem dX12_fits_2 : decode cX12_fits 2 = .ok (.iload_n 2, 1) := by decide +kernel
theorem dX12_fits_3 : decode cX12_fits 3 = .ok (.invokevirtual 373, 3) := by decide +kernel
theorem dX12_areSeen_0 : decode cX12_areSeen 0 = .ok (.aload_n 0, 1) := by decide +kernel
theorem dX12_areSeen_1 : decode cX12_areSeen 1 = .ok (.iload_n 1, 1) := by decide +kernel
theorem dX12_areSeen_2 : decode cX12_areSeen 2 = .ok (.invokevirtual 205, 3) := by decide +kernel
theorem dX12_areSeen_5 : decode cX12_areSeen 5 = .ok (.ifCond .eq 12, 3) := by decide +kernel
theorem dX12_areSeen_17 : decode cX12_areSeen 17 = .ok (.iconst 0, 1) := by decide +kernel
theorem dX12_areSeen_18 : decode cX12_areSeen 18 = .ok (.ireturn, 1) := by decide +kernel
set_option maxHeartbeats 4000000 in
set_option maxRecDepth 100000 in
theorem f_X12_areSeen (l : Launch) (D : va_G) (cT : Nat → ClassId) (tt : Nat → Nat) (b1 b : Nat) (hb1 : b1 ≤ b) (p1 : Int32) (p2 : Int32) : Met l yX12_areSeen (.code yX12_areSeen cX12_areSeen 3 (some FieldType.boolean) :: gb_wA) ({ frames := 3, cells := 0, slots := 0, locals := 65 }) (gb_Pc D cT tt b1 [.ref (b + 0), .int p1, .int p2] (fun h => va_P D vwCl (gb_wl b (gb_M cT b)) h)) (gb_Qi (fun r h => r = 0 ∧ va_P D vwCl (gb_wl b (gb_M cT b)) h) (gb_fr b 22)) 0 0 (gb_fr b 22) := by
  refine Met.ofW (cc := cX12_areSeen) (maxL := 3) (ret := (some FieldType.boolean)) (by decide) rfl ?_
  intro p e s m args below meth c s₁ B hml hv
  obtain ⟨rfl, hSt, hP⟩ := hv
  have hx := B.exec
  have hb := B.bytes
  have hr := B.returns
  have hts := atoms_spec (ws := .code yX12_areSeen cX12_areSeen 3 (some FieldType.boolean) :: gb_wA) B.pre
  have hq : ∀ w ∈ gb_wA, w.before _ s = true := fun w h => hts w (List.mem_cons_of_mem _ h)
  have hown : s.vm.findClass RX12 = some m.cls := findClass_of_methodNamed B.named
  have hlocks := B.notSynchronized
  have hK := hSt.1
  have hS : va_S (gb_fr b 22) s.heap s.heap [] := va_S.rf
  have hl := lv_entry ([.ref (b + 0), .int p1, .int p2]) (n := 3) (Nat.le_of_ble_eq_true rfl)
  rw [lg_entry_eq]
  generalize (lg_sl ([.ref (b + 0), .int p1, .int p2]) ++ List.replicate (3 - (lg_sl ([.ref (b + 0), .int p1, .int p2])).length) Slot.unset).toArray = ls at hl ⊢
  have hl : lv_has ls 3 [(0, .ref (b + 0)), (1, .int p1), (2, .int p2)] := hl
  refine lv_aload_n hx hb dX12_areSeen_0 rfl (lv_at hl 0 rfl) ?_
  refine lv_iload_n hx hb dX12_areSeen_1 rfl (lv_at hl 1 rfl) ?_
  refine gb_calli (va_runV (C := RX12) (As := [.int p1]) (rest := []) ⟨hx, hb, hml, hown, hq⟩ (f_X12_isBorder l D cT tt b1 b hb1 p1) (cwV 1 hq (gb_gV w_1372 w_1374 s_4_1 w_14 w_1375) rfl rfl rfl (by decide +kernel) ⟨Nat.le_of_ble_eq_true rfl, Nat.le_of_ble_eq_true rfl⟩) (gb_preV (r := (RX12, TX12, 44)) (ci := 10) (q0 := 0) hSt hP rfl (gb_at b rfl) hS (fun q h => Nat.le_trans hb1 h.1) hP) rfl rfl hl.1 rfl (lv_room (Nat.le_of_ble_eq_true rfl)) dX12_areSeen_2 ⟨Nat.le_of_ble_eq_true rfl, Nat.le_of_ble_eq_true rfl⟩) hS (fun _ h => h) (fun _ h => h) (fun r H locs hY hk hS => ?_)
  obtain ⟨hr9, hP⟩ := hY
  subst hr9
  refine lv_if_eq (tgt := 17) hx hb dX12_areSeen_5 (by decide) (fun _ => ?_) (fun hc => absurd (by decide) hc)
  refine lv_iconst (v := 0) hx hb dX12_areSeen_17 (by decide) ?_
  exact W.zret (v := 0) hx hb hr (by decide) (fun t ht hW => gb_ri ht ⟨rfl, hP⟩ hS) hS.2.2 dX12_areSeen_18
theorem w_1611 : (Cond.code ({ cls := "GooseBorderModel", name := "areSeen", desc := "(II)Z" } : MethodName) prog_14_method_95_code (3 : Nat) (Option.some FieldType.boolean)) ∈ gb_wA := gb_t7 171 rfl rfl
theorem w_1608 : (Cond.methodLink "GooseBorderModel" (373 : Nat) ({ cls := "GooseBorderModel", name := "areSeen", desc := "(II)Z" } : MethodName)) ∈ gb_wA := gb_t7 168 rfl rfl
theorem w_1610 : (Cond.instanceMethod ({ cls := "GooseBorderModel", name := "areSeen", desc := "(II)Z" } : MethodName)) ∈ gb_wA := gb_t7 170 rfl rfl
theorem s_6_11 : Cond.selects "GooseBorderModel" (⟨"GooseBorderModel", "areSeen", "(II)Z"⟩ : MethodName) (⟨"GooseBorderModel", "areSeen", "(II)Z"⟩ : MethodName) ∈ gb_wA := gb_s6 11 rfl rfl
theorem dX12_fits_6 : decode cX12_fits 6 = .ok (.ifCond .ne 7, 3) := by decide +kernel
theorem dX12_fits_9 : decode cX12_fits 9 = .ok (.ldc2_w 376, 3) := by decide +kernel
theorem w_1612 : (Cond.constantLong "GooseBorderModel" (376 : Nat) (-1 : Int64)) ∈ gb_wA := gb_t7 172 rfl rfl
theorem dX12_fits_12 : decode cX12_fits 12 = .ok (.lreturn, 1) := by decide +kernel
set_option maxHeartbeats 4000000 in
set_option maxRecDepth 100000 in
theorem a_X12_fits (l : Launch) (D : va_G) (cT : Nat → ClassId) (tt : Nat → Nat) (b1 b : Nat) (hb1 : b1 ≤ b) (p1 : Int32) (p2 : Int32) : Met l yX12_fits (.code yX12_fits cX12_fits 3 (some FieldType.long) :: gb_wA) ({ frames := 4, cells := 0, slots := 0, locals := 87 }) (gb_Pc D cT tt b1 [.ref (b + 0), .int p1, .int p2] (fun h => va_P D vwCl (gb_wl b (gb_M cT b)) h)) (gb_Ql (fun r _ => r = (-1)) (gb_fr b 22)) 0 0 (gb_fr b 22) := by
  refine Met.ofW (cc := cX12_fits) (maxL := 3) (ret := (some FieldType.long)) (by decide) rfl ?_
  intro p e s m args below meth c s₁ B hml hv
  obtain ⟨rfl, hSt, hP⟩ := hv
  have hx := B.exec
  have hb := B.bytes
  have hr := B.returns
  have hts := atoms_spec (ws := .code yX12_fits cX12_fits 3 (some FieldType.long) :: gb_wA) B.pre
  have hq : ∀ w ∈ gb_wA, w.before _ s = true := fun w h => hts w (List.mem_cons_of_mem _ h)
  have hown : s.vm.findClass RX12 = some m.cls := findClass_of_methodNamed B.named
  have hlocks := B.notSynchronized
  have hK := hSt.1
  have hS : va_S (gb_fr b 22) s.heap s.heap [] := va_S.rf
  have hl := lv_entry ([.ref (b + 0), .int p1, .int p2]) (n := 3) (Nat.le_of_ble_eq_true rfl)
  rw [lg_entry_eq]
  generalize (lg_sl ([.ref (b + 0), .int p1, .int p2]) ++ List.replicate (3 - (lg_sl ([.ref (b + 0), .int p1, .int p2])).length) Slot.unset).toArray = ls at hl ⊢
  have hl : lv_has ls 3 [(0, .ref (b + 0)), (1, .int p1), (2, .int p2)] := hl
  refine lv_aload_n hx hb dX12_fits_0 rfl (lv_at hl 0 rfl) ?_
  refine lv_iload_n hx hb dX12_fits_1 rfl (lv_at hl 1 rfl) ?_
  refine lv_iload_n hx hb dX12_fits_2 rfl (lv_at hl 2 rfl) ?_
  refine gb_calli (va_runV (C := RX12) (As := [.int p1, .int p2]) (rest := []) ⟨hx, hb, hml, hown, hq⟩ (f_X12_areSeen l D cT tt b1 b hb1 p1 p2) (cwV 2 hq (gb_gV w_1608 w_1610 s_6_11 w_14 w_1611) rfl rfl rfl (by decide +kernel) ⟨Nat.le_of_ble_eq_true rfl, Nat.le_of_ble_eq_true rfl⟩) (gb_preV (r := (RX12, TX12, 44)) (ci := 10) (q0 := 0) hSt hP rfl (gb_at b rfl) hS (fun q h => Nat.le_trans hb1 h.1) hP) rfl rfl hl.1 rfl (lv_room (Nat.le_of_ble_eq_true rfl)) dX12_fits_3 ⟨Nat.le_of_ble_eq_true rfl, Nat.le_of_ble_eq_true rfl⟩) hS (fun _ h => h) (fun _ h => h) (fun r H locs hY hk hS => ?_)
  obtain ⟨hr9, hP⟩ := hY
  subst hr9
  refine lv_if_ne (tgt := 13) hx hb dX12_fits_6 (by decide) (fun hc => absurd hc (by decide)) (fun _ => ?_)
  refine lv_ldc2 (v := (-1)) hx hb hown (hq _ w_1612) dX12_fits_9 ?_
  exact W.lret (v := (-1)) hx hb hr (fun t ht hW => gb_rl ht rfl hS) hS.2.2 dX12_fits_12
theorem dX12_told_0 : decode cX12_told 0 = .ok (.aload_n 0, 1) := by decide +kernel
theorem dX12_told_1 : decode cX12_told 1 = .ok (.iload_n 1, 1) := by decide +kernel
theorem dX12_told_2 : decode cX12_told 2 = .ok (.iload_n 2, 1) := by decide +kernel
theorem dX12_told_3 : decode cX12_told 3 = .ok (.invokevirtual 373, 3) := by decide +kernel
theorem dX12_told_6 : decode cX12_told 6 = .ok (.ifCond .ne 6, 3) := by decide +kernel
theorem dX12_told_9 : decode cX12_told 9 = .ok (.bipush (-2), 2) := by decide +kernel
theorem dX12_told_11 : decode cX12_told 11 = .ok (.ireturn, 1) := by decide +kernel
set_option maxHeartbeats 4000000 in
set_option maxRecDepth 100000 in
theorem a_X12_told (l : Launch) (D : va_G) (cT : Nat → ClassId) (tt : Nat → Nat) (b1 b : Nat) (hb1 : b1 ≤ b) (p1 : Int32) (p2 : Int32) (p3 : Int32) : Met l yX12_told (.code yX12_told cX12_told 4 (some FieldType.int) :: gb_wA) ({ frames := 4, cells := 0, slots := 0, locals := 87 }) (gb_Pc D cT tt b1 [.ref (b + 0), .int p1, .int p2, .int p3] (fun h => va_P D vwCl (gb_wl b (gb_M cT b)) h)) (gb_Qi (fun r _ => r = (-2)) (gb_fr b 22)) 0 0 (gb_fr b 22) := by
  refine Met.ofW (cc := cX12_told) (maxL := 4) (ret := (some FieldType.int)) (by decide) rfl ?_
  intro p e s m args below meth c s₁ B hml hv
  obtain ⟨rfl, hSt, hP⟩ := hv
  have hx := B.exec
  have hb := B.bytes
  have hr := B.returns
  have hts := atoms_spec (ws := .code yX12_told cX12_told 4 (some FieldType.int) :: gb_wA) B.pre
  have hq : ∀ w ∈ gb_wA, w.before _ s = true := fun w h => hts w (List.mem_cons_of_mem _ h)
  have hown : s.vm.findClass RX12 = some m.cls := findClass_of_methodNamed B.named
  have hlocks := B.notSynchronized
  have hK := hSt.1
  have hS : va_S (gb_fr b 22) s.heap s.heap [] := va_S.rf
  have hl := lv_entry ([.ref (b + 0), .int p1, .int p2, .int p3]) (n := 4) (Nat.le_of_ble_eq_true rfl)
  rw [lg_entry_eq]
  generalize (lg_sl ([.ref (b + 0), .int p1, .int p2, .int p3]) ++ List.replicate (4 - (lg_sl ([.ref (b + 0), .int p1, .int p2, .int p3])).length) Slot.unset).toArray = ls at hl ⊢
  have hl : lv_has ls 4 [(0, .ref (b + 0)), (1, .int p1), (2, .int p2), (3, .int p3)] := hl
  refine lv_aload_n hx hb dX12_told_0 rfl (lv_at hl 0 rfl) ?_
  refine lv_iload_n hx hb dX12_told_1 rfl (lv_at hl 1 rfl) ?_
  refine lv_iload_n hx hb dX12_told_2 rfl (lv_at hl 2 rfl) ?_
  refine gb_calli (va_runV (C := RX12) (As := [.int p1, .int p2]) (rest := []) ⟨hx, hb, hml, hown, hq⟩ (f_X12_areSeen l D cT tt b1 b hb1 p1 p2) (cwV 2 hq (gb_gV w_1608 w_1610 s_6_11 w_14 w_1611) rfl rfl rfl (by decide +kernel) ⟨Nat.le_of_ble_eq_true rfl, Nat.le_of_ble_eq_true rfl⟩) (gb_preV (r := (RX12, TX12, 44)) (ci := 10) (q0 := 0) hSt hP rfl (gb_at b rfl) hS (fun q h => Nat.le_trans hb1 h.1) hP) rfl rfl hl.1 rfl (lv_room (Nat.le_of_ble_eq_true rfl)) dX12_told_3 ⟨Nat.le_of_ble_eq_true rfl, Nat.le_of_ble_eq_true rfl⟩) hS (fun _ h => h) (fun _ h => h) (fun r H locs hY hk hS => ?_)
  obtain ⟨hr9, hP⟩ := hY
  subst hr9
  refine lv_if_ne (tgt := 12) hx hb dX12_told_6 (by decide) (fun hc => absurd hc (by decide)) (fun _ => ?_)
  refine lv_bipush (v := (-2)) hx hb dX12_told_9 (by decide) ?_
  exact W.iret (v := (-2)) hx hb hr (fun t ht hW => gb_ri ht rfl hS) hS.2.2 dX12_told_11
theorem dX12_lacks_0 : decode cX12_lacks 0 = .ok (.aload_n 0, 1) := by decide +kernel
theorem dX12_lacks_1 : decode cX12_lacks 1 = .ok (.iload_n 1, 1) := by decide +kernel
theorem dX12_lacks_2 : decode cX12_lacks 2 = .ok (.iload_n 2, 1) := by decide +kernel
theorem dX12_lacks_3 : decode cX12_lacks 3 = .ok (.invokevirtual 264, 3) := by decide +kernel
theorem dX12_lacks_6 : decode cX12_lacks 6 = .ok (.ifCond .eq 12, 3) := by decide +kernel
theorem dX12_lacks_18 : decode cX12_lacks 18 = .ok (.iconst (-1), 1) := by decide +kernel
theorem dX12_lacks_19 : decode cX12_lacks 19 = .ok (.ireturn, 1) := by decide +kernel
set_option maxHeartbeats 4000000 in
set_option maxRecDepth 100000 in
theorem a_X12_lacks (l : Launch) (D : va_G) (cT : Nat → ClassId) (tt : Nat → Nat) (b1 b : Nat) (hb1 : b1 ≤ b) (p1 : Int32) (p2 : Int32) (p3 : Int32) : Met l yX12_lacks (.code yX12_lacks cX12_lacks 6 (some FieldType.int) :: gb_wA) ({ frames := 4, cells := 0, slots := 0, locals := 87 }) (gb_Pc D cT tt b1 [.ref (b + 0), .int p1, .int p2, .int p3] (fun h => va_P D vwCl (gb_wl b (gb_M cT b)) h)) (gb_Qi (fun r _ => r = (-1)) (gb_fr b 22)) 0 0 (gb_fr b 22) := by
  refine Met.ofW (cc := cX12_lacks) (maxL := 6) (ret := (some FieldType.int)) (by decide) rfl ?_
  intro p e s m args below meth c s₁ B hml hv
  obtain ⟨rfl, hSt, hP⟩ := hv
  have hx := B.exec
  have hb := B.bytes
  have hr := B.returns
  have hts := atoms_spec (ws := .code yX12_lacks cX12_lacks 6 (some FieldType.int) :: gb_wA) B.pre
  have hq : ∀ w ∈ gb_wA, w.before _ s = true := fun w h => hts w (List.mem_cons_of_mem _ h)
  have hown : s.vm.findClass RX12 = some m.cls := findClass_of_methodNamed B.named
  have hlocks := B.notSynchronized
  have hK := hSt.1
  have hS : va_S (gb_fr b 22) s.heap s.heap [] := va_S.rf
  have hl := lv_entry ([.ref (b + 0), .int p1, .int p2, .int p3]) (n := 6) (Nat.le_of_ble_eq_true rfl)
  rw [lg_entry_eq]
  generalize (lg_sl ([.ref (b + 0), .int p1, .int p2, .int p3]) ++ List.replicate (6 - (lg_sl ([.ref (b + 0), .int p1, .int p2, .int p3])).length) Slot.unset).toArray = ls at hl ⊢
  have hl : lv_has ls 6 [(0, .ref (b + 0)), (1, .int p1), (2, .int p2), (3, .int p3)] := hl
  refine lv_aload_n hx hb dX12_lacks_0 rfl (lv_at hl 0 rfl) ?_
  refine lv_iload_n hx hb dX12_lacks_1 rfl (lv_at hl 1 rfl) ?_
  refine lv_iload_n hx hb dX12_lacks_2 rfl (lv_at hl 2 rfl) ?_
  refine gb_calli (va_runV (C := RX12) (As := [.int p1, .int p2]) (rest := []) ⟨hx, hb, hml, hown, hq⟩ (f_X12_areTold l D cT tt b1 b hb1 p1 p2) (cwV 2 hq (gb_gV w_1428 w_1430 s_4_12 w_14 w_1431) rfl rfl rfl (by decide +kernel) ⟨Nat.le_of_ble_eq_true rfl, Nat.le_of_ble_eq_true rfl⟩) (gb_preV (r := (RX12, TX12, 44)) (ci := 10) (q0 := 0) hSt hP rfl (gb_at b rfl) hS (fun q h => Nat.le_trans hb1 h.1) hP) rfl rfl hl.1 rfl (lv_room (Nat.le_of_ble_eq_true rfl)) dX12_lacks_3 ⟨Nat.le_of_ble_eq_true rfl, Nat.le_of_ble_eq_true rfl⟩) hS (fun _ h => h) (fun _ h => h) (fun r H locs hY hk hS => ?_)
  obtain ⟨hr9, hP⟩ := hY
  subst hr9
  refine lv_if_eq (tgt := 18) hx hb dX12_lacks_6 (by decide) (fun _ => ?_) (fun hc => absurd (by decide) hc)
  refine lv_iconst (v := (-1)) hx hb dX12_lacks_18 (by decide) ?_
  exact W.iret (v := (-1)) hx hb hr (fun t ht hW => gb_ri ht rfl hS) hS.2.2 dX12_lacks_19
theorem dX12_who_0 : decode cX12_who 0 = .ok (.aload_n 0, 1) := by decide +kernel
theorem dX12_who_1 : decode cX12_who 1 = .ok (.iload_n 1, 1) := by decide +kernel
theorem dX12_who_2 : decode cX12_who 2 = .ok (.iload_n 2, 1) := by decide +kernel
theorem dX12_who_3 : decode cX12_who 3 = .ok (.invokevirtual 264, 3) := by decide +kernel
theorem dX12_who_6 : decode cX12_who 6 = .ok (.ifCond .eq 11, 3) := by decide +kernel
theorem dX12_who_17 : decode cX12_who 17 = .ok (.iconst (-1), 1) := by decide +kernel
theorem dX12_who_18 : decode cX12_who 18 = .ok (.ireturn, 1) := by decide +kernel
set_option maxHeartbeats 4000000 in
set_option maxRecDepth 100000 in
theorem a_X12_who (l : Launch) (D : va_G) (cT : Nat → ClassId) (tt : Nat → Nat) (b1 b : Nat) (hb1 : b1 ≤ b) (p1 : Int32) (p2 : Int32) (p3 : Int32) (p4 : Int32) : Met l yX12_who (.code yX12_who cX12_who 7 (some FieldType.int) :: gb_wA) ({ frames := 4, cells := 0, slots := 0, locals := 87 }) (gb_Pc D cT tt b1 [.ref (b + 0), .int p1, .int p2, .int p3, .int p4] (fun h => va_P D vwCl (gb_wl b (gb_M cT b)) h)) (gb_Qi (fun r _ => r = (-1)) (gb_fr b 22)) 0 0 (gb_fr b 22) := by
  refine Met.ofW (cc := cX12_who) (maxL := 7) (ret := (some FieldType.int)) (by decide) rfl ?_
  intro p e s m args below meth c s₁ B hml hv
  obtain ⟨rfl, hSt, hP⟩ := hv
  have hx := B.exec
  have hb := B.bytes
  have hr := B.returns
  have hts := atoms_spec (ws := .code yX12_who cX12_who 7 (some FieldType.int) :: gb_wA) B.pre
  have hq : ∀ w ∈ gb_wA, w.before _ s = true := fun w h => hts w (List.mem_cons_of_mem _ h)
  have hown : s.vm.findClass RX12 = some m.cls := findClass_of_methodNamed B.named
  have hlocks := B.notSynchronized
  have hK := hSt.1
  have hS : va_S (gb_fr b 22) s.heap s.heap [] := va_S.rf
  have hl := lv_entry ([.ref (b + 0), .int p1, .int p2, .int p3, .int p4]) (n := 7) (Nat.le_of_ble_eq_true rfl)
  rw [lg_entry_eq]
  generalize (lg_sl ([.ref (b + 0), .int p1, .int p2, .int p3, .int p4]) ++ List.replicate (7 - (lg_sl ([.ref (b + 0), .int p1, .int p2, .int p3, .int p4])).length) Slot.unset).toArray = ls at hl ⊢
  have hl : lv_has ls 7 [(0, .ref (b + 0)), (1, .int p1), (2, .int p2), (3, .int p3), (4, .int p4)] := hl
  refine lv_aload_n hx hb dX12_who_0 rfl (lv_at hl 0 rfl) ?_
  refine lv_iload_n hx hb dX12_who_1 rfl (lv_at hl 1 rfl) ?_
  refine lv_iload_n hx hb dX12_who_2 rfl (lv_at hl 2 rfl) ?_
  refine gb_calli (va_runV (C := RX12) (As := [.int p1, .int p2]) (rest := []) ⟨hx, hb, hml, hown, hq⟩ (f_X12_areTold l D cT tt b1 b hb1 p1 p2) (cwV 2 hq (gb_gV w_1428 w_1430 s_4_12 w_14 w_1431) rfl rfl rfl (by decide +kernel) ⟨Nat.le_of_ble_eq_true rfl, Nat.le_of_ble_eq_true rfl⟩) (gb_preV (r := (RX12, TX12, 44)) (ci := 10) (q0 := 0) hSt hP rfl (gb_at b rfl) hS (fun q h => Nat.le_trans hb1 h.1) hP) rfl rfl hl.1 rfl (lv_room (Nat.le_of_ble_eq_true rfl)) dX12_who_3 ⟨Nat.le_of_ble_eq_true rfl, Nat.le_of_ble_eq_true rfl⟩) hS (fun _ h => h) (fun _ h => h) (fun r H locs hY hk hS => ?_)
  obtain ⟨hr9, hP⟩ := hY
  subst hr9
  refine lv_if_eq (tgt := 17) hx hb dX12_who_6 (by decide) (fun _ => ?_) (fun hc => absurd (by decide) hc)
  refine lv_iconst (v := (-1)) hx hb dX12_who_17 (by decide) ?_
  exact W.iret (v := (-1)) hx hb hr (fun t ht hW => gb_ri ht rfl hS) hS.2.2 dX12_who_18
theorem dX12_drawn_0 : decode cX12_drawn 0 = .ok (.aload_n 0, 1) := by decide +kernel
theorem dX12_drawn_1 : decode cX12_drawn 1 = .ok (.iload_n 1, 1) := by decide +kernel
theorem dX12_drawn_2 : decode cX12_drawn 2 = .ok (.invokevirtual 205, 3) := by decide +kernel
theorem dX12_drawn_5 : decode cX12_drawn 5 = .ok (.ifCond .eq 54, 3) := by decide +kernel
theorem dX12_drawn_59 : decode cX12_drawn 59 = .ok (.iconst (-1), 1) := by decide +kernel
theorem dX12_drawn_60 : decode cX12_drawn 60 = .ok (.ireturn, 1) := by decide +kernel
set_option maxHeartbeats 4000000 in
set_option maxRecDepth 100000 in
theorem a_X12_drawn (l : Launch) (D : va_G) (cT : Nat → ClassId) (tt : Nat → Nat) (b1 b : Nat) (hb1 : b1 ≤ b) (p1 : Int32) (p2 : Int32) (p3 : Int32) (p4 : Int32) : Met l yX12_drawn (.code yX12_drawn cX12_drawn 7 (some FieldType.int) :: gb_wA) ({ frames := 3, cells := 0, slots := 0, locals := 65 }) (gb_Pc D cT tt b1 [.ref (b + 0), .int p1, .int p2, .int p3, .int p4] (fun h => va_P D vwCl (gb_wl b (gb_M cT b)) h)) (gb_Qi (fun r _ => r = (-1)) (gb_fr b 22)) 0 0 (gb_fr b 22) := by
  refine Met.ofW (cc := cX12_drawn) (maxL := 7) (ret := (some FieldType.int)) (by decide) rfl ?_
  intro p e s m args below meth c s₁ B hml hv
  obtain ⟨rfl, hSt, hP⟩ := hv
  have hx := B.exec
  have hb := B.bytes
  have hr := B.returns
  have hts := atoms_spec (ws := .code yX12_drawn cX12_drawn 7 (some FieldType.int) :: gb_wA) B.pre
  have hq : ∀ w ∈ gb_wA, w.before _ s = true := fun w h => hts w (List.mem_cons_of_mem _ h)
  have hown : s.vm.findClass RX12 = some m.cls := findClass_of_methodNamed B.named
  have hlocks := B.notSynchronized
  have hK := hSt.1
  have hS : va_S (gb_fr b 22) s.heap s.heap [] := va_S.rf
  have hl := lv_entry ([.ref (b + 0), .int p1, .int p2, .int p3, .int p4]) (n := 7) (Nat.le_of_ble_eq_true rfl)
  rw [lg_entry_eq]
  generalize (lg_sl ([.ref (b + 0), .int p1, .int p2, .int p3, .int p4]) ++ List.replicate (7 - (lg_sl ([.ref (b + 0), .int p1, .int p2, .int p3, .int p4])).length) Slot.unset).toArray = ls at hl ⊢
  have hl : lv_has ls 7 [(0, .ref (b + 0)), (1, .int p1), (2, .int p2), (3, .int p3), (4, .int p4)] := hl
  refine lv_aload_n hx hb dX12_drawn_0 rfl (lv_at hl 0 rfl) ?_
  refine lv_iload_n hx hb dX12_drawn_1 rfl (lv_at hl 1 rfl) ?_
  refine gb_calli (va_runV (C := RX12) (As := [.int p1]) (rest := []) ⟨hx, hb, hml, hown, hq⟩ (f_X12_isBorder l D cT tt b1 b hb1 p1) (cwV 1 hq (gb_gV w_1372 w_1374 s_4_1 w_14 w_1375) rfl rfl rfl (by decide +kernel) ⟨Nat.le_of_ble_eq_true rfl, Nat.le_of_ble_eq_true rfl⟩) (gb_preV (r := (RX12, TX12, 44)) (ci := 10) (q0 := 0) hSt hP rfl (gb_at b rfl) hS (fun q h => Nat.le_trans hb1 h.1) hP) rfl rfl hl.1 rfl (lv_room (Nat.le_of_ble_eq_true rfl)) dX12_drawn_2 ⟨Nat.le_of_ble_eq_true rfl, Nat.le_of_ble_eq_true rfl⟩) hS (fun _ h => h) (fun _ h => h) (fun r H locs hY hk hS => ?_)
  obtain ⟨hr9, hP⟩ := hY
  subst hr9
  refine lv_if_eq (tgt := 59) hx hb dX12_drawn_5 (by decide) (fun _ => ?_) (fun hc => absurd (by decide) hc)
  refine lv_iconst (v := (-1)) hx hb dX12_drawn_59 (by decide) ?_
  exact W.iret (v := (-1)) hx hb hr (fun t ht hW => gb_ri ht rfl hS) hS.2.2 dX12_drawn_60
theorem dX12_alike_0 : decode cX12_alike 0 = .ok (.aload_n 0, 1) := by decide +kernel
theorem dX12_alike_1 : decode cX12_alike 1 = .ok (.iload_n 1, 1) := by decide +kernel
theorem dX12_alike_2 : decode cX12_alike 2 = .ok (.invokevirtual 205, 3) := by decide +kernel
theorem dX12_alike_5 : decode cX12_alike 5 = .ok (.ifCond .eq 24, 3) := by decide +kernel
theorem dX12_alike_29 : decode cX12_alike 29 = .ok (.iconst (-1), 1) := by decide +kernel
theorem dX12_alike_30 : decode cX12_alike 30 = .ok (.ireturn, 1) := by decide +kernel
set_option maxHeartbeats 4000000 in
set_option maxRecDepth 100000 in
theorem a_X12_alike (l : Launch) (D : va_G) (cT : Nat → ClassId) (tt : Nat → Nat) (b1 b : Nat) (hb1 : b1 ≤ b) (p1 : Int32) (p2 : Int32) (p3 : Int32) : Met l yX12_alike (.code yX12_alike cX12_alike 6 (some FieldType.int) :: gb_wA) ({ frames := 3, cells := 0, slots := 0, locals := 65 }) (gb_Pc D cT tt b1 [.ref (b + 0), .int p1, .int p2, .int p3] (fun h => va_P D vwCl (gb_wl b (gb_M cT b)) h)) (gb_Qi (fun r _ => r = (-1)) (gb_fr b 22)) 0 0 (gb_fr b 22) := by
  refine Met.ofW (cc := cX12_alike) (maxL := 6) (ret := (some FieldType.int)) (by decide) rfl ?_
  intro p e s m args below meth c s₁ B hml hv
  obtain ⟨rfl, hSt, hP⟩ := hv
  have hx := B.exec
  have hb := B.bytes
  have hr := B.returns
  have hts := atoms_spec (ws := .code yX12_alike cX12_alike 6 (some FieldType.int) :: gb_wA) B.pre
  have hq : ∀ w ∈ gb_wA, w.before _ s = true := fun w h => hts w (List.mem_cons_of_mem _ h)
  have hown : s.vm.findClass RX12 = some m.cls := findClass_of_methodNamed B.named
  have hlocks := B.notSynchronized
  have hK := hSt.1
  have hS : va_S (gb_fr b 22) s.heap s.heap [] := va_S.rf
  have hl := lv_entry ([.ref (b + 0), .int p1, .int p2, .int p3]) (n := 6) (Nat.le_of_ble_eq_true rfl)
  rw [lg_entry_eq]
  generalize (lg_sl ([.ref (b + 0), .int p1, .int p2, .int p3]) ++ List.replicate (6 - (lg_sl ([.ref (b + 0), .int p1, .int p2, .int p3])).length) Slot.unset).toArray = ls at hl ⊢
  have hl : lv_has ls 6 [(0, .ref (b + 0)), (1, .int p1), (2, .int p2), (3, .int p3)] := hl
  refine lv_aload_n hx hb dX12_alike_0 rfl (lv_at hl 0 rfl) ?_
  refine lv_iload_n hx hb dX12_alike_1 rfl (lv_at hl 1 rfl) ?_
  refine gb_calli (va_runV (C := RX12) (As := [.int p1]) (rest := []) ⟨hx, hb, hml, hown, hq⟩ (f_X12_isBorder l D cT tt b1 b hb1 p1) (cwV 1 hq (gb_gV w_1372 w_1374 s_4_1 w_14 w_1375) rfl rfl rfl (by decide +kernel) ⟨Nat.le_of_ble_eq_true rfl, Nat.le_of_ble_eq_true rfl⟩) (gb_preV (r := (RX12, TX12, 44)) (ci := 10) (q0 := 0) hSt hP rfl (gb_at b rfl) hS (fun q h => Nat.le_trans hb1 h.1) hP) rfl rfl hl.1 rfl (lv_room (Nat.le_of_ble_eq_true rfl)) dX12_alike_2 ⟨Nat.le_of_ble_eq_true rfl, Nat.le_of_ble_eq_true rfl⟩) hS (fun _ h => h) (fun _ h => h) (fun r H locs hY hk hS => ?_)
  obtain ⟨hr9, hP⟩ := hY
  subst hr9
  refine lv_if_eq (tgt := 29) hx hb dX12_alike_5 (by decide) (fun _ => ?_) (fun hc => absurd (by decide) hc)
  refine lv_iconst (v := (-1)) hx hb dX12_alike_29 (by decide) ?_
  exact W.iret (v := (-1)) hx hb hr (fun t ht hW => gb_ri ht rfl hS) hS.2.2 dX12_alike_30
theorem dX12_span_0 : decode cX12_span 0 = .ok (.aload_n 0, 1) := by decide +kernel
theorem dX12_span_1 : decode cX12_span 1 = .ok (.iload_n 1, 1) := by decide +kernel
theorem dX12_span_2 : decode cX12_span 2 = .ok (.invokevirtual 205, 3) := by decide +kernel
theorem dX12_span_5 : decode cX12_span 5 = .ok (.ifCond .eq 23, 3) := by decide +kernel
theorem dX12_span_28 : decode cX12_span 28 = .ok (.iconst (-1), 1) := by decide +kernel
theorem dX12_span_29 : decode cX12_span 29 = .ok (.ireturn, 1) := by decide +kernel
set_option maxHeartbeats 4000000 in
set_option maxRecDepth 100000 in
theorem a_X12_span (l : Launch) (D : va_G) (cT : Nat → ClassId) (tt : Nat → Nat) (b1 b : Nat) (hb1 : b1 ≤ b) (p1 : Int32) (p2 : Int32) (p3 : Int32) (p4 : Int32) : Met l yX12_span (.code yX12_span cX12_span 10 (some FieldType.int) :: gb_wA) ({ frames := 3, cells := 0, slots := 0, locals := 65 }) (gb_Pc D cT tt b1 [.ref (b + 0), .int p1, .int p2, .int p3, .int p4] (fun h => va_P D vwCl (gb_wl b (gb_M cT b)) h)) (gb_Qi (fun r _ => r = (-1)) (gb_fr b 22)) 0 0 (gb_fr b 22) := by
  refine Met.ofW (cc := cX12_span) (maxL := 10) (ret := (some FieldType.int)) (by decide) rfl ?_
  intro p e s m args below meth c s₁ B hml hv
  obtain ⟨rfl, hSt, hP⟩ := hv
  have hx := B.exec
  have hb := B.bytes
  have hr := B.returns
  have hts := atoms_spec (ws := .code yX12_span cX12_span 10 (some FieldType.int) :: gb_wA) B.pre
  have hq : ∀ w ∈ gb_wA, w.before _ s = true := fun w h => hts w (List.mem_cons_of_mem _ h)
  have hown : s.vm.findClass RX12 = some m.cls := findClass_of_methodNamed B.named
  have hlocks := B.notSynchronized
  have hK := hSt.1
  have hS : va_S (gb_fr b 22) s.heap s.heap [] := va_S.rf
  have hl := lv_entry ([.ref (b + 0), .int p1, .int p2, .int p3, .int p4]) (n := 10) (Nat.le_of_ble_eq_true rfl)
  rw [lg_entry_eq]
  generalize (lg_sl ([.ref (b + 0), .int p1, .int p2, .int p3, .int p4]) ++ List.replicate (10 - (lg_sl ([.ref (b + 0), .int p1, .int p2, .int p3, .int p4])).length) Slot.unset).toArray = ls at hl ⊢
  have hl : lv_has ls 10 [(0, .ref (b + 0)), (1, .int p1), (2, .int p2), (3, .int p3), (4, .int p4)] := hl
  refine lv_aload_n hx hb dX12_span_0 rfl (lv_at hl 0 rfl) ?_
  refine lv_iload_n hx hb dX12_span_1 rfl (lv_at hl 1 rfl) ?_
  refine gb_calli (va_runV (C := RX12) (As := [.int p1]) (rest := []) ⟨hx, hb, hml, hown, hq⟩ (f_X12_isBorder l D cT tt b1 b hb1 p1) (cwV 1 hq (gb_gV w_1372 w_1374 s_4_1 w_14 w_1375) rfl rfl rfl (by decide +kernel) ⟨Nat.le_of_ble_eq_true rfl, Nat.le_of_ble_eq_true rfl⟩) (gb_preV (r := (RX12, TX12, 44)) (ci := 10) (q0 := 0) hSt hP rfl (gb_at b rfl) hS (fun q h => Nat.le_trans hb1 h.1) hP) rfl rfl hl.1 rfl (lv_room (Nat.le_of_ble_eq_true rfl)) dX12_span_2 ⟨Nat.le_of_ble_eq_true rfl, Nat.le_of_ble_eq_true rfl⟩) hS (fun _ h => h) (fun _ h => h) (fun r H locs hY hk hS => ?_)
  obtain ⟨hr9, hP⟩ := hY
  subst hr9
  refine lv_if_eq (tgt := 28) hx hb dX12_span_5 (by decide) (fun _ => ?_) (fun hc => absurd (by decide) hc)
  refine lv_iconst (v := (-1)) hx hb dX12_span_28 (by decide) ?_
  exact W.iret (v := (-1)) hx hb hr (fun t ht hW => gb_ri ht rfl hS) hS.2.2 dX12_span_29
theorem dX12_split_0 : decode cX12_split 0 = .ok (.aload_n 0, 1) := by decide +kernel
theorem dX12_split_1 : decode cX12_split 1 = .ok (.iload_n 1, 1) := by decide +kernel
theorem dX12_split_2 : decode cX12_split 2 = .ok (.invokevirtual 205, 3) := by decide +kernel
theorem dX12_split_5 : decode cX12_split 5 = .ok (.ifCond .eq 24, 3) := by decide +kernel
theorem dX12_split_29 : decode cX12_split 29 = .ok (.iconst (-1), 1) := by decide +kernel
theorem dX12_split_30 : decode cX12_split 30 = .ok (.ireturn, 1) := by decide +kernel
set_option maxHeartbeats 4000000 in
set_option maxRecDepth 100000 in
theorem a_X12_split (l : Launch) (D : va_G) (cT : Nat → ClassId) (tt : Nat → Nat) (b1 b : Nat) (hb1 : b1 ≤ b) (p1 : Int32) (p2 : Int32) (p3 : Int32) (p4 : Int32) : Met l yX12_split (.code yX12_split cX12_split 10 (some FieldType.int) :: gb_wA) ({ frames := 3, cells := 0, slots := 0, locals := 65 }) (gb_Pc D cT tt b1 [.ref (b + 0), .int p1, .int p2, .int p3, .int p4] (fun h => va_P D vwCl (gb_wl b (gb_M cT b)) h)) (gb_Qi (fun r _ => r = (-1)) (gb_fr b 22)) 0 0 (gb_fr b 22) := by
  refine Met.ofW (cc := cX12_split) (maxL := 10) (ret := (some FieldType.int)) (by decide) rfl ?_
  intro p e s m args below meth c s₁ B hml hv
  obtain ⟨rfl, hSt, hP⟩ := hv
  have hx := B.exec
  have hb := B.bytes
  have hr := B.returns
  have hts := atoms_spec (ws := .code yX12_split cX12_split 10 (some FieldType.int) :: gb_wA) B.pre
  have hq : ∀ w ∈ gb_wA, w.before _ s = true := fun w h => hts w (List.mem_cons_of_mem _ h)
  have hown : s.vm.findClass RX12 = some m.cls := findClass_of_methodNamed B.named
  have hlocks := B.notSynchronized
  have hK := hSt.1
  have hS : va_S (gb_fr b 22) s.heap s.heap [] := va_S.rf
  have hl := lv_entry ([.ref (b + 0), .int p1, .int p2, .int p3, .int p4]) (n := 10) (Nat.le_of_ble_eq_true rfl)
  rw [lg_entry_eq]
  generalize (lg_sl ([.ref (b + 0), .int p1, .int p2, .int p3, .int p4]) ++ List.replicate (10 - (lg_sl ([.ref (b + 0), .int p1, .int p2, .int p3, .int p4])).length) Slot.unset).toArray = ls at hl ⊢
  have hl : lv_has ls 10 [(0, .ref (b + 0)), (1, .int p1), (2, .int p2), (3, .int p3), (4, .int p4)] := hl
  refine lv_aload_n hx hb dX12_split_0 rfl (lv_at hl 0 rfl) ?_
  refine lv_iload_n hx hb dX12_split_1 rfl (lv_at hl 1 rfl) ?_
  refine gb_calli (va_runV (C := RX12) (As := [.int p1]) (rest := []) ⟨hx, hb, hml, hown, hq⟩ (f_X12_isBorder l D cT tt b1 b hb1 p1) (cwV 1 hq (gb_gV w_1372 w_1374 s_4_1 w_14 w_1375) rfl rfl rfl (by decide +kernel) ⟨Nat.le_of_ble_eq_true rfl, Nat.le_of_ble_eq_true rfl⟩) (gb_preV (r := (RX12, TX12, 44)) (ci := 10) (q0 := 0) hSt hP rfl (gb_at b rfl) hS (fun q h => Nat.le_trans hb1 h.1) hP) rfl rfl hl.1 rfl (lv_room (Nat.le_of_ble_eq_true rfl)) dX12_split_2 ⟨Nat.le_of_ble_eq_true rfl, Nat.le_of_ble_eq_true rfl⟩) hS (fun _ h => h) (fun _ h => h) (fun r H locs hY hk hS => ?_)
  obtain ⟨hr9, hP⟩ := hY
  subst hr9
  refine lv_if_eq (tgt := 29) hx hb dX12_split_5 (by decide) (fun _ => ?_) (fun hc => absurd (by decide) hc)
  refine lv_iconst (v := (-1)) hx hb dX12_split_29 (by decide) ?_
  exact W.iret (v := (-1)) hx hb hr (fun t ht hW => gb_ri ht rfl hS) hS.2.2 dX12_split_30
theorem dX12_two_0 : decode cX12_two 0 = .ok (.aload_n 0, 1) := by decide +kernel
theorem dX12_two_1 : decode cX12_two 1 = .ok (.iload_n 1, 1) := by decide +kernel
theorem dX12_two_2 : decode cX12_two 2 = .ok (.invokevirtual 205, 3) := by decide +kernel
theorem dX12_two_5 : decode cX12_two 5 = .ok (.ifCond .eq 37, 3) := by decide +kernel
theorem dX12_two_42 : decode cX12_two 42 = .ok (.iconst (-1), 1) := by decide +kernel
theorem dX12_two_43 : decode cX12_two 43 = .ok (.ireturn, 1) := by decide +kernel
set_option maxHeartbeats 4000000 in
set_option maxRecDepth 100000 in
theorem a_X12_two (l : Launch) (D : va_G) (cT : Nat → ClassId) (tt : Nat → Nat) (b1 b : Nat) (hb1 : b1 ≤ b) (p1 : Int32) (p2 : Int32) (p3 : Int32) (p4 : Int32) : Met l yX12_two (.code yX12_two cX12_two 15 (some FieldType.int) :: gb_wA) ({ frames := 3, cells := 0, slots := 0, locals := 65 }) (gb_Pc D cT tt b1 [.ref (b + 0), .int p1, .int p2, .int p3, .int p4] (fun h => va_P D vwCl (gb_wl b (gb_M cT b)) h)) (gb_Qi (fun r _ => r = (-1)) (gb_fr b 22)) 0 0 (gb_fr b 22) := by
  refine Met.ofW (cc := cX12_two) (maxL := 15) (ret := (some FieldType.int)) (by decide) rfl ?_
  intro p e s m args below meth c s₁ B hml hv
  obtain ⟨rfl, hSt, hP⟩ := hv
  have hx := B.exec
  have hb := B.bytes
  have hr := B.returns
  have hts := atoms_spec (ws := .code yX12_two cX12_two 15 (some FieldType.int) :: gb_wA) B.pre
  have hq : ∀ w ∈ gb_wA, w.before _ s = true := fun w h => hts w (List.mem_cons_of_mem _ h)
  have hown : s.vm.findClass RX12 = some m.cls := findClass_of_methodNamed B.named
  have hlocks := B.notSynchronized
  have hK := hSt.1
  have hS : va_S (gb_fr b 22) s.heap s.heap [] := va_S.rf
  have hl := lv_entry ([.ref (b + 0), .int p1, .int p2, .int p3, .int p4]) (n := 15) (Nat.le_of_ble_eq_true rfl)
  rw [lg_entry_eq]
  generalize (lg_sl ([.ref (b + 0), .int p1, .int p2, .int p3, .int p4]) ++ List.replicate (15 - (lg_sl ([.ref (b + 0), .int p1, .int p2, .int p3, .int p4])).length) Slot.unset).toArray = ls at hl ⊢
  have hl : lv_has ls 15 [(0, .ref (b + 0)), (1, .int p1), (2, .int p2), (3, .int p3), (4, .int p4)] := hl
  refine lv_aload_n hx hb dX12_two_0 rfl (lv_at hl 0 rfl) ?_
  refine lv_iload_n hx hb dX12_two_1 rfl (lv_at hl 1 rfl) ?_
  refine gb_calli (va_runV (C := RX12) (As := [.int p1]) (rest := []) ⟨hx, hb, hml, hown, hq⟩ (f_X12_isBorder l D cT tt b1 b hb1 p1) (cwV 1 hq (gb_gV w_1372 w_1374 s_4_1 w_14 w_1375) rfl rfl rfl (by decide +kernel) ⟨Nat.le_of_ble_eq_true rfl, Nat.le_of_ble_eq_true rfl⟩) (gb_preV (r := (RX12, TX12, 44)) (ci := 10) (q0 := 0) hSt hP rfl (gb_at b rfl) hS (fun q h => Nat.le_trans hb1 h.1) hP) rfl rfl hl.1 rfl (lv_room (Nat.le_of_ble_eq_true rfl)) dX12_two_2 ⟨Nat.le_of_ble_eq_true rfl, Nat.le_of_ble_eq_true rfl⟩) hS (fun _ h => h) (fun _ h => h) (fun r H locs hY hk hS => ?_)
  obtain ⟨hr9, hP⟩ := hY
  subst hr9
  refine lv_if_eq (tgt := 42) hx hb dX12_two_5 (by decide) (fun _ => ?_) (fun hc => absurd (by decide) hc)
  refine lv_iconst (v := (-1)) hx hb dX12_two_42 (by decide) ?_
  exact W.iret (v := (-1)) hx hb hr (fun t ht hW => gb_ri ht rfl hS) hS.2.2 dX12_two_43
theorem dX12_backs_0 : decode cX12_backs 0 = .ok (.aload_n 0, 1) := by decide +kernel
theorem dX12_backs_1 : decode cX12_backs 1 = .ok (.iload_n 1, 1) := by decide +kernel
theorem dX12_backs_2 : decode cX12_backs 2 = .ok (.invokevirtual 205, 3) := by decide +kernel
theorem dX12_backs_5 : decode cX12_backs 5 = .ok (.ifCond .eq 22, 3) := by decide +kernel
theorem dX12_backs_27 : decode cX12_backs 27 = .ok (.iconst (-1), 1) := by decide +kernel
theorem dX12_backs_28 : decode cX12_backs 28 = .ok (.ireturn, 1) := by decide +kernel
set_option maxHeartbeats 4000000 in
set_option maxRecDepth 100000 in
theorem a_X12_backs (l : Launch) (D : va_G) (cT : Nat → ClassId) (tt : Nat → Nat) (b1 b : Nat) (hb1 : b1 ≤ b) (p1 : Int32) (p2 : Int32) (p3 : Int32) (p4 : Int32) : Met l yX12_backs (.code yX12_backs cX12_backs 9 (some FieldType.int) :: gb_wA) ({ frames := 3, cells := 0, slots := 0, locals := 65 }) (gb_Pc D cT tt b1 [.ref (b + 0), .int p1, .int p2, .int p3, .int p4] (fun h => va_P D vwCl (gb_wl b (gb_M cT b)) h)) (gb_Qi (fun r _ => r = (-1)) (gb_fr b 22)) 0 0 (gb_fr b 22) := by
  refine Met.ofW (cc := cX12_backs) (maxL := 9) (ret := (some FieldType.int)) (by decide) rfl ?_
  intro p e s m args below meth c s₁ B hml hv
  obtain ⟨rfl, hSt, hP⟩ := hv
  have hx := B.exec
  have hb := B.bytes
  have hr := B.returns
  have hts := atoms_spec (ws := .code yX12_backs cX12_backs 9 (some FieldType.int) :: gb_wA) B.pre
  have hq : ∀ w ∈ gb_wA, w.before _ s = true := fun w h => hts w (List.mem_cons_of_mem _ h)
  have hown : s.vm.findClass RX12 = some m.cls := findClass_of_methodNamed B.named
  have hlocks := B.notSynchronized
  have hK := hSt.1
  have hS : va_S (gb_fr b 22) s.heap s.heap [] := va_S.rf
  have hl := lv_entry ([.ref (b + 0), .int p1, .int p2, .int p3, .int p4]) (n := 9) (Nat.le_of_ble_eq_true rfl)
  rw [lg_entry_eq]
  generalize (lg_sl ([.ref (b + 0), .int p1, .int p2, .int p3, .int p4]) ++ List.replicate (9 - (lg_sl ([.ref (b + 0), .int p1, .int p2, .int p3, .int p4])).length) Slot.unset).toArray = ls at hl ⊢
  have hl : lv_has ls 9 [(0, .ref (b + 0)), (1, .int p1), (2, .int p2), (3, .int p3), (4, .int p4)] := hl
  refine lv_aload_n hx hb dX12_backs_0 rfl (lv_at hl 0 rfl) ?_
  refine lv_iload_n hx hb dX12_backs_1 rfl (lv_at hl 1 rfl) ?_
  refine gb_calli (va_runV (C := RX12) (As := [.int p1]) (rest := []) ⟨hx, hb, hml, hown, hq⟩ (f_X12_isBorder l D cT tt b1 b hb1 p1) (cwV 1 hq (gb_gV w_1372 w_1374 s_4_1 w_14 w_1375) rfl rfl rfl (by decide +kernel) ⟨Nat.le_of_ble_eq_true rfl, Nat.le_of_ble_eq_true rfl⟩) (gb_preV (r := (RX12, TX12, 44)) (ci := 10) (q0 := 0) hSt hP rfl (gb_at b rfl) hS (fun q h => Nat.le_trans hb1 h.1) hP) rfl rfl hl.1 rfl (lv_room (Nat.le_of_ble_eq_true rfl)) dX12_backs_2 ⟨Nat.le_of_ble_eq_true rfl, Nat.le_of_ble_eq_true rfl⟩) hS (fun _ h => h) (fun _ h => h) (fun r H locs hY hk hS => ?_)
  obtain ⟨hr9, hP⟩ := hY
  subst hr9
  refine lv_if_eq (tgt := 27) hx hb dX12_backs_5 (by decide) (fun _ => ?_) (fun hc => absurd (by decide) hc)
  refine lv_iconst (v := (-1)) hx hb dX12_backs_27 (by decide) ?_
  exact W.iret (v := (-1)) hx hb hr (fun t ht hW => gb_ri ht rfl hS) hS.2.2 dX12_backs_28
theorem dX12_close_0 : decode cX12_close 0 = .ok (.aload_n 0, 1) := by decide +kernel
theorem dX12_close_1 : decode cX12_close 1 = .ok (.iload_n 1, 1) := by decide +kernel
theorem dX12_close_2 : decode cX12_close 2 = .ok (.invokevirtual 319, 3) := by decide +kernel
theorem dX12_close_5 : decode cX12_close 5 = .ok (.ifCond .eq 11, 3) := by decide +kernel
theorem dX12_close_16 : decode cX12_close 16 = .ok (.iconst (-1), 1) := by decide +kernel
theorem dX12_close_17 : decode cX12_close 17 = .ok (.ireturn, 1) := by decide +kernel
set_option maxHeartbeats 4000000 in
set_option maxRecDepth 100000 in
theorem a_X12_close (l : Launch) (D : va_G) (cT : Nat → ClassId) (tt : Nat → Nat) (b1 b : Nat) (hb1 : b1 ≤ b) (p1 : Int32) (p2 : Int32) : Met l yX12_close (.code yX12_close cX12_close 7 (some FieldType.int) :: gb_wA) ({ frames := 4, cells := 0, slots := 0, locals := 86 }) (gb_Pc D cT tt b1 [.ref (b + 0), .int p1, .int p2] (fun h => va_P D vwCl (gb_wl b (gb_M cT b)) h)) (gb_Qi (fun r _ => r = (-1)) (gb_fr b 22)) 0 0 (gb_fr b 22) := by
  refine Met.ofW (cc := cX12_close) (maxL := 7) (ret := (some FieldType.int)) (by decide) rfl ?_
  intro p e s m args below meth c s₁ B hml hv
  obtain ⟨rfl, hSt, hP⟩ := hv
  have hx := B.exec
  have hb := B.bytes
  have hr := B.returns
  have hts := atoms_spec (ws := .code yX12_close cX12_close 7 (some FieldType.int) :: gb_wA) B.pre
  have hq : ∀ w ∈ gb_wA, w.before _ s = true := fun w h => hts w (List.mem_cons_of_mem _ h)
  have hown : s.vm.findClass RX12 = some m.cls := findClass_of_methodNamed B.named
  have hlocks := B.notSynchronized
  have hK := hSt.1
  have hS : va_S (gb_fr b 22) s.heap s.heap [] := va_S.rf
  have hl := lv_entry ([.ref (b + 0), .int p1, .int p2]) (n := 7) (Nat.le_of_ble_eq_true rfl)
  rw [lg_entry_eq]
  generalize (lg_sl ([.ref (b + 0), .int p1, .int p2]) ++ List.replicate (7 - (lg_sl ([.ref (b + 0), .int p1, .int p2])).length) Slot.unset).toArray = ls at hl ⊢
  have hl : lv_has ls 7 [(0, .ref (b + 0)), (1, .int p1), (2, .int p2)] := hl
  refine lv_aload_n hx hb dX12_close_0 rfl (lv_at hl 0 rfl) ?_
  refine lv_iload_n hx hb dX12_close_1 rfl (lv_at hl 1 rfl) ?_
  refine gb_calli (va_runV (C := RX12) (As := [.int p1]) (rest := []) ⟨hx, hb, hml, hown, hq⟩ (f_X12_canMarch l D cT tt b1 b hb1 p1) (cwV 1 hq (gb_gV w_1520 w_1522 s_5_13 w_14 w_1523) rfl rfl rfl (by decide +kernel) ⟨Nat.le_of_ble_eq_true rfl, Nat.le_of_ble_eq_true rfl⟩) (gb_preV (r := (RX12, TX12, 44)) (ci := 10) (q0 := 0) hSt hP rfl (gb_at b rfl) hS (fun q h => Nat.le_trans hb1 h.1) hP) rfl rfl hl.1 rfl (lv_room (Nat.le_of_ble_eq_true rfl)) dX12_close_2 ⟨Nat.le_of_ble_eq_true rfl, Nat.le_of_ble_eq_true rfl⟩) hS (fun _ h => h) (fun _ h => h) (fun r H locs hY hk hS => ?_)
  obtain ⟨hr9, hP⟩ := hY
  subst hr9
  refine lv_if_eq (tgt := 16) hx hb dX12_close_5 (by decide) (fun _ => ?_) (fun hc => absurd (by decide) hc)
  refine lv_iconst (v := (-1)) hx hb dX12_close_16 (by decide) ?_
  exact W.iret (v := (-1)) hx hb hr (fun t ht hW => gb_ri ht rfl hS) hS.2.2 dX12_close_17
theorem dX12_near_0 : decode cX12_near 0 = .ok (.aload_n 0, 1) := by decide +kernel
theorem dX12_near_1 : decode cX12_near 1 = .ok (.iload_n 1, 1) := by decide +kernel
theorem dX12_near_2 : decode cX12_near 2 = .ok (.iload_n 2, 1) := by decide +kernel
theorem dX12_near_3 : decode cX12_near 3 = .ok (.invokevirtual 373, 3) := by decide +kernel
theorem dX12_near_6 : decode cX12_near 6 = .ok (.ifCond .eq 35, 3) := by decide +kernel
theorem dX12_near_41 : decode cX12_near 41 = .ok (.iconst (-1), 1) := by decide +kernel
theorem dX12_near_42 : decode cX12_near 42 = .ok (.ireturn, 1) := by decide +kernel
set_option maxHeartbeats 4000000 in
set_option maxRecDepth 100000 in
theorem a_X12_near (l : Launch) (D : va_G) (cT : Nat → ClassId) (tt : Nat → Nat) (b1 b : Nat) (hb1 : b1 ≤ b) (p1 : Int32) (p2 : Int32) (p3 : Int32) : Met l yX12_near (.code yX12_near cX12_near 9 (some FieldType.int) :: gb_wA) ({ frames := 4, cells := 0, slots := 0, locals := 87 }) (gb_Pc D cT tt b1 [.ref (b + 0), .int p1, .int p2, .int p3] (fun h => va_P D vwCl (gb_wl b (gb_M cT b)) h)) (gb_Qi (fun r _ => r = (-1)) (gb_fr b 22)) 0 0 (gb_fr b 22) := by
  refine Met.ofW (cc := cX12_near) (maxL := 9) (ret := (some FieldType.int)) (by decide) rfl ?_
  intro p e s m args below meth c s₁ B hml hv
  obtain ⟨rfl, hSt, hP⟩ := hv
  have hx := B.exec
  have hb := B.bytes
  have hr := B.returns
  have hts := atoms_spec (ws := .code yX12_near cX12_near 9 (some FieldType.int) :: gb_wA) B.pre
  have hq : ∀ w ∈ gb_wA, w.before _ s = true := fun w h => hts w (List.mem_cons_of_mem _ h)
  have hown : s.vm.findClass RX12 = some m.cls := findClass_of_methodNamed B.named
  have hlocks := B.notSynchronized
  have hK := hSt.1
  have hS : va_S (gb_fr b 22) s.heap s.heap [] := va_S.rf
  have hl := lv_entry ([.ref (b + 0), .int p1, .int p2, .int p3]) (n := 9) (Nat.le_of_ble_eq_true rfl)
  rw [lg_entry_eq]
  generalize (lg_sl ([.ref (b + 0), .int p1, .int p2, .int p3]) ++ List.replicate (9 - (lg_sl ([.ref (b + 0), .int p1, .int p2, .int p3])).length) Slot.unset).toArray = ls at hl ⊢
  have hl : lv_has ls 9 [(0, .ref (b + 0)), (1, .int p1), (2, .int p2), (3, .int p3)] := hl
  refine lv_aload_n hx hb dX12_near_0 rfl (lv_at hl 0 rfl) ?_
  refine lv_iload_n hx hb dX12_near_1 rfl (lv_at hl 1 rfl) ?_
  refine lv_iload_n hx hb dX12_near_2 rfl (lv_at hl 2 rfl) ?_
  refine gb_calli (va_runV (C := RX12) (As := [.int p1, .int p2]) (rest := []) ⟨hx, hb, hml, hown, hq⟩ (f_X12_areSeen l D cT tt b1 b hb1 p1 p2) (cwV 2 hq (gb_gV w_1608 w_1610 s_6_11 w_14 w_1611) rfl rfl rfl (by decide +kernel) ⟨Nat.le_of_ble_eq_true rfl, Nat.le_of_ble_eq_true rfl⟩) (gb_preV (r := (RX12, TX12, 44)) (ci := 10) (q0 := 0) hSt hP rfl (gb_at b rfl) hS (fun q h => Nat.le_trans hb1 h.1) hP) rfl rfl hl.1 rfl (lv_room (Nat.le_of_ble_eq_true rfl)) dX12_near_3 ⟨Nat.le_of_ble_eq_true rfl, Nat.le_of_ble_eq_true rfl⟩) hS (fun _ h => h) (fun _ h => h) (fun r H locs hY hk hS => ?_)
  obtain ⟨hr9, hP⟩ := hY
  subst hr9
  refine lv_if_eq (tgt := 41) hx hb dX12_near_6 (by decide) (fun _ => ?_) (fun hc => absurd (by decide) hc)
  refine lv_iconst (v := (-1)) hx hb dX12_near_41 (by decide) ?_
  exact W.iret (v := (-1)) hx hb hr (fun t ht hW => gb_ri ht rfl hS) hS.2.2 dX12_near_42
theorem dX12_shift_0 : decode cX12_shift 0 = .ok (.aload_n 0, 1) := by decide +kernel
theorem dX12_shift_1 : decode cX12_shift 1 = .ok (.iload_n 1, 1) := by decide +kernel
theorem dX12_shift_2 : decode cX12_shift 2 = .ok (.iload_n 2, 1) := by decide +kernel
theorem dX12_shift_3 : decode cX12_shift 3 = .ok (.invokevirtual 264, 3) := by decide +kernel
theorem dX12_shift_6 : decode cX12_shift 6 = .ok (.ifCond .ne 5, 3) := by decide +kernel
theorem dX12_shift_9 : decode cX12_shift 9 = .ok (.iconst (-1), 1) := by decide +kernel
theorem dX12_shift_10 : decode cX12_shift 10 = .ok (.ireturn, 1) := by decide +kernel
set_option maxHeartbeats 4000000 in
set_option maxRecDepth 100000 in
theorem a_X12_shift (l : Launch) (D : va_G) (cT : Nat → ClassId) (tt : Nat → Nat) (b1 b : Nat) (hb1 : b1 ≤ b) (p1 : Int32) (p2 : Int32) (p3 : Int32) : Met l yX12_shift (.code yX12_shift cX12_shift 9 (some FieldType.int) :: gb_wA) ({ frames := 4, cells := 0, slots := 0, locals := 87 }) (gb_Pc D cT tt b1 [.ref (b + 0), .int p1, .int p2, .int p3] (fun h => va_P D vwCl (gb_wl b (gb_M cT b)) h)) (gb_Qi (fun r _ => r = (-1)) (gb_fr b 22)) 0 0 (gb_fr b 22) := by
  refine Met.ofW (cc := cX12_shift) (maxL := 9) (ret := (some FieldType.int)) (by decide) rfl ?_
  intro p e s m args below meth c s₁ B hml hv
  obtain ⟨rfl, hSt, hP⟩ := hv
  have hx := B.exec
  have hb := B.bytes
  have hr := B.returns
  have hts := atoms_spec (ws := .code yX12_shift cX12_shift 9 (some FieldType.int) :: gb_wA) B.pre
  have hq : ∀ w ∈ gb_wA, w.before _ s = true := fun w h => hts w (List.mem_cons_of_mem _ h)
  have hown : s.vm.findClass RX12 = some m.cls := findClass_of_methodNamed B.named
  have hlocks := B.notSynchronized
  have hK := hSt.1
  have hS : va_S (gb_fr b 22) s.heap s.heap [] := va_S.rf
  have hl := lv_entry ([.ref (b + 0), .int p1, .int p2, .int p3]) (n := 9) (Nat.le_of_ble_eq_true rfl)
  rw [lg_entry_eq]
  generalize (lg_sl ([.ref (b + 0), .int p1, .int p2, .int p3]) ++ List.replicate (9 - (lg_sl ([.ref (b + 0), .int p1, .int p2, .int p3])).length) Slot.unset).toArray = ls at hl ⊢
  have hl : lv_has ls 9 [(0, .ref (b + 0)), (1, .int p1), (2, .int p2), (3, .int p3)] := hl
  refine lv_aload_n hx hb dX12_shift_0 rfl (lv_at hl 0 rfl) ?_
  refine lv_iload_n hx hb dX12_shift_1 rfl (lv_at hl 1 rfl) ?_
  refine lv_iload_n hx hb dX12_shift_2 rfl (lv_at hl 2 rfl) ?_
  refine gb_calli (va_runV (C := RX12) (As := [.int p1, .int p2]) (rest := []) ⟨hx, hb, hml, hown, hq⟩ (f_X12_areTold l D cT tt b1 b hb1 p1 p2) (cwV 2 hq (gb_gV w_1428 w_1430 s_4_12 w_14 w_1431) rfl rfl rfl (by decide +kernel) ⟨Nat.le_of_ble_eq_true rfl, Nat.le_of_ble_eq_true rfl⟩) (gb_preV (r := (RX12, TX12, 44)) (ci := 10) (q0 := 0) hSt hP rfl (gb_at b rfl) hS (fun q h => Nat.le_trans hb1 h.1) hP) rfl rfl hl.1 rfl (lv_room (Nat.le_of_ble_eq_true rfl)) dX12_shift_3 ⟨Nat.le_of_ble_eq_true rfl, Nat.le_of_ble_eq_true rfl⟩) hS (fun _ h => h) (fun _ h => h) (fun r H locs hY hk hS => ?_)
  obtain ⟨hr9, hP⟩ := hY
  subst hr9
  refine lv_if_ne (tgt := 11) hx hb dX12_shift_6 (by decide) (fun hc => absurd hc (by decide)) (fun _ => ?_)
  refine lv_iconst (v := (-1)) hx hb dX12_shift_9 (by decide) ?_
  exact W.iret (v := (-1)) hx hb hr (fun t ht hW => gb_ri ht rfl hS) hS.2.2 dX12_shift_10
theorem dX12_thrift_0 : decode cX12_thrift 0 = .ok (.aload_n 0, 1) := by decide +kernel
theorem dX12_thrift_1 : decode cX12_thrift 1 = .ok (.iload_n 1, 1) := by decide +kernel
theorem dX12_thrift_2 : decode cX12_thrift 2 = .ok (.invokevirtual 205, 3) := by decide +kernel
theorem dX12_thrift_5 : decode cX12_thrift 5 = .ok (.ifCond .ne 5, 3) := by decide +kernel
theorem dX12_thrift_8 : decode cX12_thrift 8 = .ok (.iconst (-1), 1) := by decide +kernel
theorem dX12_thrift_9 : decode cX12_thrift 9 = .ok (.ireturn, 1) := by decide +kernel
set_option maxHeartbeats 4000000 in
set_option maxRecDepth 100000 in
theorem a_X12_thrift (l : Launch) (D : va_G) (cT : Nat → ClassId) (tt : Nat → Nat) (b1 b : Nat) (hb1 : b1 ≤ b) (p1 : Int32) : Met l yX12_thrift (.code yX12_thrift cX12_thrift 3 (some FieldType.int) :: gb_wA) ({ frames := 3, cells := 0, slots := 0, locals := 65 }) (gb_Pc D cT tt b1 [.ref (b + 0), .int p1] (fun h => va_P D vwCl (gb_wl b (gb_M cT b)) h)) (gb_Qi (fun r _ => r = (-1)) (gb_fr b 22)) 0 0 (gb_fr b 22) := by
  refine Met.ofW (cc := cX12_thrift) (maxL := 3) (ret := (some FieldType.int)) (by decide) rfl ?_
  intro p e s m args below meth c s₁ B hml hv
  obtain ⟨rfl, hSt, hP⟩ := hv
  have hx := B.exec
  have hb := B.bytes
  have hr := B.returns
  have hts := atoms_spec (ws := .code yX12_thrift cX12_thrift 3 (some FieldType.int) :: gb_wA) B.pre
  have hq : ∀ w ∈ gb_wA, w.before _ s = true := fun w h => hts w (List.mem_cons_of_mem _ h)
  have hown : s.vm.findClass RX12 = some m.cls := findClass_of_methodNamed B.named
  have hlocks := B.notSynchronized
  have hK := hSt.1
  have hS : va_S (gb_fr b 22) s.heap s.heap [] := va_S.rf
  have hl := lv_entry ([.ref (b + 0), .int p1]) (n := 3) (Nat.le_of_ble_eq_true rfl)
  rw [lg_entry_eq]
  generalize (lg_sl ([.ref (b + 0), .int p1]) ++ List.replicate (3 - (lg_sl ([.ref (b + 0), .int p1])).length) Slot.unset).toArray = ls at hl ⊢
  have hl : lv_has ls 3 [(0, .ref (b + 0)), (1, .int p1)] := hl
  refine lv_aload_n hx hb dX12_thrift_0 rfl (lv_at hl 0 rfl) ?_
  refine lv_iload_n hx hb dX12_thrift_1 rfl (lv_at hl 1 rfl) ?_
  refine gb_calli (va_runV (C := RX12) (As := [.int p1]) (rest := []) ⟨hx, hb, hml, hown, hq⟩ (f_X12_isBorder l D cT tt b1 b hb1 p1) (cwV 1 hq (gb_gV w_1372 w_1374 s_4_1 w_14 w_1375) rfl rfl rfl (by decide +kernel) ⟨Nat.le_of_ble_eq_true rfl, Nat.le_of_ble_eq_true rfl⟩) (gb_preV (r := (RX12, TX12, 44)) (ci := 10) (q0 := 0) hSt hP rfl (gb_at b rfl) hS (fun q h => Nat.le_trans hb1 h.1) hP) rfl rfl hl.1 rfl (lv_room (Nat.le_of_ble_eq_true rfl)) dX12_thrift_2 ⟨Nat.le_of_ble_eq_true rfl, Nat.le_of_ble_eq_true rfl⟩) hS (fun _ h => h) (fun _ h => h) (fun r H locs hY hk hS => ?_)
  obtain ⟨hr9, hP⟩ := hY
  subst hr9
  refine lv_if_ne (tgt := 10) hx hb dX12_thrift_5 (by decide) (fun hc => absurd hc (by decide)) (fun _ => ?_)
  refine lv_iconst (v := (-1)) hx hb dX12_thrift_8 (by decide) ?_
  exact W.iret (v := (-1)) hx hb hr (fun t ht hW => gb_ri ht rfl hS) hS.2.2 dX12_thrift_9
