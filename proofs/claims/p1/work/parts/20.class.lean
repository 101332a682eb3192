theorem dX11_border_0 : decode cX11_border 0 = .ok (.aload_n 0, 1) := by decide +kernel
theorem dX11_border_1 : decode cX11_border 1 = .ok (.iload_n 1, 1) := by decide +kernel
theorem dX11_border_2 : decode cX11_border 2 = .ok (.invokevirtual 113, 3) := by decide +kernel
theorem dX11_borderAt_0 : decode cX11_borderAt 0 = .ok (.iload_n 1, 1) := by decide +kernel
theorem dX11_borderAt_1 : decode cX11_borderAt 1 = .ok (.ifCond .lt 28, 3) := by decide +kernel
theorem dX11_borderAt_29 : decode cX11_borderAt 29 = .ok (.aconst_null, 1) := by decide +kernel
theorem dX11_borderAt_30 : decode cX11_borderAt 30 = .ok (.areturn, 1) := by decide +kernel
theorem dX11_borderAt_4 : decode cX11_borderAt 4 = .ok (.iload_n 1, 1) := by decide +kernel
theorem dX11_borderAt_5 : decode cX11_borderAt 5 = .ok (.aload_n 0, 1) := by decide +kernel
theorem dX11_borderAt_6 : decode cX11_borderAt 6 = .ok (.getfield 12, 3) := by decide +kernel
theorem dX11_borderAt_9 : decode cX11_borderAt 9 = .ok (.getfield 88, 3) := by decide +kernel
theorem w_121 : (Cond.fieldLink "GooseBorder" (88 : Nat) "GooseBorder$Told" "held" "[I") ∈ gb_wA := gb_t1 121 rfl rfl
theorem dX11_borderAt_12 : decode cX11_borderAt 12 = .ok (.iconst 0, 1) := by decide +kernel
theorem dX11_borderAt_13 : decode cX11_borderAt 13 = .ok (.iaload, 1) := by decide +kernel
theorem dX11_borderAt_14 : decode cX11_borderAt 14 = .ok (.if_icmp .ge 15, 3) := by decide +kernel
set_option maxHeartbeats 4000000 in
set_option maxRecDepth 100000 in
theorem f_X11_borderAt (l : Launch) (D : va_G) (cT : Nat → ClassId) (tt : Nat → Nat) (b1 b : Nat) (hb1 : b1 ≤ b) (p1 : Int32) : Met l yX11_borderAt (.code yX11_borderAt cX11_borderAt 2 (some (FieldType.object "GooseBorder$Border")) :: gb_wA) ({ frames := 0, cells := 0, slots := 0, locals := 0 }) (gb_Pc D cT tt b1 [.ref (b + 0), .int p1] (fun h => va_P D vwCl (gb_wl b (gb_C cT b)) h)) (gb_Qq (fun r h => r = none ∧ va_P D vwCl (gb_wl b (gb_C cT b)) h) (gb_fr b 135)) 0 0 (gb_fr b 135) := by
  refine Met.ofW (cc := cX11_borderAt) (maxL := 2) (ret := (some (FieldType.object "GooseBorder$Border"))) (by decide) rfl ?_
  intro p e s m args below meth c s₁ B hml hv
  obtain ⟨rfl, hSt, hP⟩ := hv
  have hx := B.exec
  have hb := B.bytes
  have hr := B.returns
  have hts := atoms_spec (ws := .code yX11_borderAt cX11_borderAt 2 (some (FieldType.object "GooseBorder$Border")) :: gb_wA) B.pre
  have hq : ∀ w ∈ gb_wA, w.before _ s = true := fun w h => hts w (List.mem_cons_of_mem _ h)
  have hown : s.vm.findClass RX11 = some m.cls := findClass_of_methodNamed B.named
  have hlocks := B.notSynchronized
  have hK := hSt.1
  have hS : va_S (gb_fr b 135) s.heap s.heap [] := va_S.rf
  have hl := lv_entry ([.ref (b + 0), .int p1]) (n := 2) (Nat.le_of_ble_eq_true rfl)
  rw [lg_entry_eq]
  generalize (lg_sl ([.ref (b + 0), .int p1]) ++ List.replicate (2 - (lg_sl ([.ref (b + 0), .int p1])).length) Slot.unset).toArray = ls at hl ⊢
  have hl : lv_has ls 2 [(0, .ref (b + 0)), (1, .int p1)] := hl
  refine lv_iload_n hx hb dX11_borderAt_0 rfl (lv_at hl 1 rfl) ?_
  refine lv_if_lt (tgt := 29) hx hb dX11_borderAt_1 (by decide) (fun c_1 => ?_) (fun c_1 => ?_)
  · refine lv_null hx hb dX11_borderAt_29 ?_
    exact W.aret (v := .null) hx hb hr (Or.inl ⟨_, rfl⟩) (Or.inl rfl) (fun t ht hW => gb_rq none ht ⟨rfl, hP⟩ hS) hS.2.2 dX11_borderAt_30
  · refine lv_iload_n hx hb dX11_borderAt_4 rfl (lv_at hl 1 rfl) ?_
    refine lv_aload_n hx hb dX11_borderAt_5 rfl (lv_at hl 0 rfl) ?_
    refine va_get (ci := 9) (v := (.ref (b + 1))) (C := RX11) (T := TX11) (N := 10) hx hb hq i_X11 hown hK hP 0 (gb_at b rfl) rfl 0 (by decide) (hq _ w_315) (fun _ h9 => h9) rfl dX11_borderAt_6 ?_
    refine va_get (ci := 8) (v := (.ref (b + 22))) (C := RX10) (T := TX10) (N := 9) hx hb hq i_X10 hown hK hP 1 (gb_at b rfl) rfl 4 (by decide) (hq _ w_121) (fun _ h9 => h9) rfl dX11_borderAt_9 ?_
    refine lv_iconst (v := 0) hx hb dX11_borderAt_12 (by decide) ?_
    refine gb_iald (v := 0) hx hb hK hP 22 0 (gb_at b rfl) rfl (gb_in rfl) rfl dX11_borderAt_13 ?_
    refine lv_icmp_ge (tgt := 29) hx hb dX11_borderAt_14 (by decide) (fun c_14 => ?_) (fun c_14 => absurd (Int32.not_lt.mp c_1) c_14)
    refine lv_null hx hb dX11_borderAt_29 ?_
    exact W.aret (v := .null) hx hb hr (Or.inl ⟨_, rfl⟩) (Or.inl rfl) (fun t ht hW => gb_rq none ht ⟨rfl, hP⟩ hS) hS.2.2 dX11_borderAt_30
theorem w_596 : (Cond.code ({ cls := "GooseBorder", name := "borderAt", desc := "(I)LGooseBorder$Border;" } : MethodName) prog_1_method_16_code (2 : Nat) (Option.some (FieldType.object "GooseBorder$Border"))) ∈ gb_wA := gb_t3 116 rfl rfl
theorem w_593 : (Cond.methodLink "GooseBorder" (113 : Nat) ({ cls := "GooseBorder", name := "borderAt", desc := "(I)LGooseBorder$Border;" } : MethodName)) ∈ gb_wA := gb_t3 113 rfl rfl
theorem w_595 : (Cond.instanceMethod ({ cls := "GooseBorder", name := "borderAt", desc := "(I)LGooseBorder$Border;" } : MethodName)) ∈ gb_wA := gb_t3 115 rfl rfl
theorem s_1_7 : Cond.selects "GooseBorder" (⟨"GooseBorder", "borderAt", "(I)LGooseBorder$Border;"⟩ : MethodName) (⟨"GooseBorder", "borderAt", "(I)LGooseBorder$Border;"⟩ : MethodName) ∈ gb_wA := gb_s1 7 rfl rfl
theorem w_1 : (Cond.initialized "GooseBorder") ∈ gb_wA := gb_t1 1 rfl rfl
theorem dX11_border_5 : decode cX11_border 5 = .ok (.astore_n 3, 1) := by decide +kernel
theorem dX11_border_6 : decode cX11_border 6 = .ok (.aload_n 3, 1) := by decide +kernel
theorem dX11_border_7 : decode cX11_border 7 = .ok (.ifnonnull 6, 3) := by decide +kernel
theorem dX11_border_10 : decode cX11_border 10 = .ok (.bipush (-2), 2) := by decide +kernel
theorem dX11_border_12 : decode cX11_border 12 = .ok (.ireturn, 1) := by decide +kernel
set_option maxHeartbeats 4000000 in
set_option maxRecDepth 100000 in
theorem a_X11_border (l : Launch) (D : va_G) (cT : Nat → ClassId) (tt : Nat → Nat) (b1 b : Nat) (hb1 : b1 ≤ b) (p1 : Int32) (p2 : Int32) : Met l yX11_border (.code yX11_border cX11_border 4 (some FieldType.int) :: gb_wA) ({ frames := 1, cells := 0, slots := 0, locals := 21 }) (gb_Pc D cT tt b1 [.ref (b + 0), .int p1, .int p2] (fun h => va_P D vwCl (gb_wl b (gb_C cT b)) h)) (gb_Qi (fun r _ => r = (-2)) (gb_fr b 135)) 0 0 (gb_fr b 135) := by
  refine Met.ofW (cc := cX11_border) (maxL := 4) (ret := (some FieldType.int)) (by decide) rfl ?_
  intro p e s m args below meth c s₁ B hml hv
  obtain ⟨rfl, hSt, hP⟩ := hv
  have hx := B.exec
  have hb := B.bytes
  have hr := B.returns
  have hts := atoms_spec (ws := .code yX11_border cX11_border 4 (some FieldType.int) :: gb_wA) B.pre
  have hq : ∀ w ∈ gb_wA, w.before _ s = true := fun w h => hts w (List.mem_cons_of_mem _ h)
  have hown : s.vm.findClass RX11 = some m.cls := findClass_of_methodNamed B.named
  have hlocks := B.notSynchronized
  have hK := hSt.1
  have hS : va_S (gb_fr b 135) s.heap s.heap [] := va_S.rf
  have hl := lv_entry ([.ref (b + 0), .int p1, .int p2]) (n := 4) (Nat.le_of_ble_eq_true rfl)
  rw [lg_entry_eq]
  generalize (lg_sl ([.ref (b + 0), .int p1, .int p2]) ++ List.replicate (4 - (lg_sl ([.ref (b + 0), .int p1, .int p2])).length) Slot.unset).toArray = ls at hl ⊢
  have hl : lv_has ls 4 [(0, .ref (b + 0)), (1, .int p1), (2, .int p2)] := hl
  refine lv_aload_n hx hb dX11_border_0 rfl (lv_at hl 0 rfl) ?_
  refine lv_iload_n hx hb dX11_border_1 rfl (lv_at hl 1 rfl) ?_
  refine gb_callq (va_runV (C := RX11) (As := [.int p1]) (rest := []) ⟨hx, hb, hml, hown, hq⟩ (f_X11_borderAt l D cT tt b1 b hb1 p1) (cwV 1 hq (gb_gV w_593 w_595 s_1_7 w_1 w_596) rfl rfl rfl (by decide +kernel) ⟨Nat.le_of_ble_eq_true rfl, Nat.le_of_ble_eq_true rfl⟩) (gb_preV (r := (RX11, TX11, 10)) (ci := 9) (q0 := 0) hSt hP rfl (gb_at b rfl) hS (fun q h => Nat.le_trans hb1 h.1) hP) rfl rfl hl.1 rfl (lv_room (Nat.le_of_ble_eq_true rfl)) dX11_border_2 ⟨Nat.le_of_ble_eq_true rfl, Nat.le_of_ble_eq_true rfl⟩) hS (fun _ h => h) (fun _ h => h) (fun r H locs hY hk hS => ?_)
  obtain ⟨hr9, hP⟩ := hY
  subst hr9
  refine W.eq (g2 := F0 m 5 ls [.null]) rfl ?_
  refine lv_astore_nN (lv' := [(3, .null), (0, .ref (b + 0)), (1, .int p1), (2, .int p2)]) hx hb dX11_border_5 rfl hl (by decide) rfl (fun ls hl => ?_)
  refine lv_aload_nN hx hb dX11_border_6 rfl (lv_at hl 0 rfl) ?_
  refine lv_ifnonnullN hx hb dX11_border_7 ?_
  refine lv_bipush (v := (-2)) hx hb dX11_border_10 (by decide) ?_
  exact W.iret (v := (-2)) hx hb hr (fun t ht hW => gb_ri ht rfl hS) hS.2.2 dX11_border_12
theorem dX11_marks_0 : decode cX11_marks 0 = .ok (.aload_n 0, 1) := by decide +kernel
theorem dX11_marks_1 : decode cX11_marks 1 = .ok (.iload_n 1, 1) := by decide +kernel
theorem dX11_marks_2 : decode cX11_marks 2 = .ok (.invokevirtual 113, 3) := by decide +kernel
theorem dX11_marks_5 : decode cX11_marks 5 = .ok (.astore 5, 2) := by decide +kernel
theorem dX11_marks_7 : decode cX11_marks 7 = .ok (.aload 5, 2) := by decide +kernel
theorem dX11_marks_9 : decode cX11_marks 9 = .ok (.ifnull 21, 3) := by decide +kernel
theorem dX11_marks_30 : decode cX11_marks 30 = .ok (.iconst (-1), 1) := by decide +kernel
theorem dX11_marks_31 : decode cX11_marks 31 = .ok (.ireturn, 1) := by decide +kernel
set_option maxHeartbeats 4000000 in
set_option maxRecDepth 100000 in
theorem a_X11_marks (l : Launch) (D : va_G) (cT : Nat → ClassId) (tt : Nat → Nat) (b1 b : Nat) (hb1 : b1 ≤ b) (p1 : Int32) (p2 : Int32) (p3 : Int32) (p4 : Int32) : Met l yX11_marks (.code yX11_marks cX11_marks 6 (some FieldType.int) :: gb_wA) ({ frames := 1, cells := 0, slots := 0, locals := 21 }) (gb_Pc D cT tt b1 [.ref (b + 0), .int p1, .int p2, .int p3, .int p4] (fun h => va_P D vwCl (gb_wl b (gb_C cT b)) h)) (gb_Qi (fun r _ => r = (-1)) (gb_fr b 135)) 0 0 (gb_fr b 135) := by
  refine Met.ofW (cc := cX11_marks) (maxL := 6) (ret := (some FieldType.int)) (by decide) rfl ?_
  intro p e s m args below meth c s₁ B hml hv
  obtain ⟨rfl, hSt, hP⟩ := hv
  have hx := B.exec
  have hb := B.bytes
  have hr := B.returns
  have hts := atoms_spec (ws := .code yX11_marks cX11_marks 6 (some FieldType.int) :: gb_wA) B.pre
  have hq : ∀ w ∈ gb_wA, w.before _ s = true := fun w h => hts w (List.mem_cons_of_mem _ h)
  have hown : s.vm.findClass RX11 = some m.cls := findClass_of_methodNamed B.named
  have hlocks := B.notSynchronized
  have hK := hSt.1
  have hS : va_S (gb_fr b 135) s.heap s.heap [] := va_S.rf
  have hl := lv_entry ([.ref (b + 0), .int p1, .int p2, .int p3, .int p4]) (n := 6) (Nat.le_of_ble_eq_true rfl)
  rw [lg_entry_eq]
  generalize (lg_sl ([.ref (b + 0), .int p1, .int p2, .int p3, .int p4]) ++ List.replicate (6 - (lg_sl ([.ref (b + 0), .int p1, .int p2, .int p3, .int p4])).length) Slot.unset).toArray = ls at hl ⊢
  have hl : lv_has ls 6 [(0, .ref (b + 0)), (1, .int p1), (2, .int p2), (3, .int p3), (4, .int p4)] := hl
  refine lv_aload_n hx hb dX11_marks_0 rfl (lv_at hl 0 rfl) ?_
  refine lv_iload_n hx hb dX11_marks_1 rfl (lv_at hl 1 rfl) ?_
  refine gb_callq (va_runV (C := RX11) (As := [.int p1]) (rest := []) ⟨hx, hb, hml, hown, hq⟩ (f_X11_borderAt l D cT tt b1 b hb1 p1) (cwV 1 hq (gb_gV w_593 w_595 s_1_7 w_1 w_596) rfl rfl rfl (by decide +kernel) ⟨Nat.le_of_ble_eq_true rfl, Nat.le_of_ble_eq_true rfl⟩) (gb_preV (r := (RX11, TX11, 10)) (ci := 9) (q0 := 0) hSt hP rfl (gb_at b rfl) hS (fun q h => Nat.le_trans hb1 h.1) hP) rfl rfl hl.1 rfl (lv_room (Nat.le_of_ble_eq_true rfl)) dX11_marks_2 ⟨Nat.le_of_ble_eq_true rfl, Nat.le_of_ble_eq_true rfl⟩) hS (fun _ h => h) (fun _ h => h) (fun r H locs hY hk hS => ?_)
  obtain ⟨hr9, hP⟩ := hY
  subst hr9
  refine W.eq (g2 := F0 m 5 ls [.null]) rfl ?_
  refine lv_astoreN (lv' := [(5, .null), (0, .ref (b + 0)), (1, .int p1), (2, .int p2), (3, .int p3), (4, .int p4)]) hx hb dX11_marks_5 hl (by decide) rfl (fun ls hl => ?_)
  refine lv_aloadN hx hb dX11_marks_7 (lv_at hl 0 rfl) ?_
  refine lv_ifnullN (tgt := 30) hx hb dX11_marks_9 (by decide) ?_
  refine lv_iconst (v := (-1)) hx hb dX11_marks_30 (by decide) ?_
  exact W.iret (v := (-1)) hx hb hr (fun t ht hW => gb_ri ht rfl hS) hS.2.2 dX11_marks_31
theorem dX11_deed_0 : decode cX11_deed 0 = .ok (.aload_n 0, 1) := by decide +kernel
theorem dX11_deed_1 : decode cX11_deed 1 = .ok (.iload_n 1, 1) := by decide +kernel
theorem dX11_deed_2 : decode cX11_deed 2 = .ok (.invokevirtual 148, 3) := by decide +kernel
theorem dX11_nightAt_0 : decode cX11_nightAt 0 = .ok (.iload_n 1, 1) := by decide +kernel
theorem dX11_nightAt_1 : decode cX11_nightAt 1 = .ok (.ifCond .lt 28, 3) := by decide +kernel
theorem dX11_nightAt_29 : decode cX11_nightAt 29 = .ok (.aconst_null, 1) := by decide +kernel
theorem dX11_nightAt_30 : decode cX11_nightAt 30 = .ok (.areturn, 1) := by decide +kernel
theorem dX11_nightAt_4 : decode cX11_nightAt 4 = .ok (.iload_n 1, 1) := by decide +kernel
theorem dX11_nightAt_5 : decode cX11_nightAt 5 = .ok (.aload_n 0, 1) := by decide +kernel
theorem dX11_nightAt_6 : decode cX11_nightAt 6 = .ok (.getfield 12, 3) := by decide +kernel
theorem dX11_nightAt_9 : decode cX11_nightAt 9 = .ok (.getfield 88, 3) := by decide +kernel
theorem dX11_nightAt_12 : decode cX11_nightAt 12 = .ok (.iconst 1, 1) := by decide +kernel
theorem dX11_nightAt_13 : decode cX11_nightAt 13 = .ok (.iaload, 1) := by decide +kernel
theorem dX11_nightAt_14 : decode cX11_nightAt 14 = .ok (.if_icmp .ge 15, 3) := by decide +kernel
set_option maxHeartbeats 4000000 in
set_option maxRecDepth 100000 in
theorem f_X11_nightAt (l : Launch) (D : va_G) (cT : Nat → ClassId) (tt : Nat → Nat) (b1 b : Nat) (hb1 : b1 ≤ b) (p1 : Int32) : Met l yX11_nightAt (.code yX11_nightAt cX11_nightAt 2 (some (FieldType.object "GooseBorder$Night")) :: gb_wA) ({ frames := 0, cells := 0, slots := 0, locals := 0 }) (gb_Pc D cT tt b1 [.ref (b + 0), .int p1] (fun h => va_P D vwCl (gb_wl b (gb_C cT b)) h)) (gb_Qq (fun r h => r = none ∧ va_P D vwCl (gb_wl b (gb_C cT b)) h) (gb_fr b 135)) 0 0 (gb_fr b 135) := by
  refine Met.ofW (cc := cX11_nightAt) (maxL := 2) (ret := (some (FieldType.object "GooseBorder$Night"))) (by decide) rfl ?_
  intro p e s m args below meth c s₁ B hml hv
  obtain ⟨rfl, hSt, hP⟩ := hv
  have hx := B.exec
  have hb := B.bytes
  have hr := B.returns
  have hts := atoms_spec (ws := .code yX11_nightAt cX11_nightAt 2 (some (FieldType.object "GooseBorder$Night")) :: gb_wA) B.pre
  have hq : ∀ w ∈ gb_wA, w.before _ s = true := fun w h => hts w (List.mem_cons_of_mem _ h)
  have hown : s.vm.findClass RX11 = some m.cls := findClass_of_methodNamed B.named
  have hlocks := B.notSynchronized
  have hK := hSt.1
  have hS : va_S (gb_fr b 135) s.heap s.heap [] := va_S.rf
  have hl := lv_entry ([.ref (b + 0), .int p1]) (n := 2) (Nat.le_of_ble_eq_true rfl)
  rw [lg_entry_eq]
  generalize (lg_sl ([.ref (b + 0), .int p1]) ++ List.replicate (2 - (lg_sl ([.ref (b + 0), .int p1])).length) Slot.unset).toArray = ls at hl ⊢
  have hl : lv_has ls 2 [(0, .ref (b + 0)), (1, .int p1)] := hl
  refine lv_iload_n hx hb dX11_nightAt_0 rfl (lv_at hl 1 rfl) ?_
  refine lv_if_lt (tgt := 29) hx hb dX11_nightAt_1 (by decide) (fun c_1 => ?_) (fun c_1 => ?_)
  · refine lv_null hx hb dX11_nightAt_29 ?_
    exact W.aret (v := .null) hx hb hr (Or.inl ⟨_, rfl⟩) (Or.inl rfl) (fun t ht hW => gb_rq none ht ⟨rfl, hP⟩ hS) hS.2.2 dX11_nightAt_30
  · refine lv_iload_n hx hb dX11_nightAt_4 rfl (lv_at hl 1 rfl) ?_
    refine lv_aload_n hx hb dX11_nightAt_5 rfl (lv_at hl 0 rfl) ?_
    refine va_get (ci := 9) (v := (.ref (b + 1))) (C := RX11) (T := TX11) (N := 10) hx hb hq i_X11 hown hK hP 0 (gb_at b rfl) rfl 0 (by decide) (hq _ w_315) (fun _ h9 => h9) rfl dX11_nightAt_6 ?_
    refine va_get (ci := 8) (v := (.ref (b + 22))) (C := RX10) (T := TX10) (N := 9) hx hb hq i_X10 hown hK hP 1 (gb_at b rfl) rfl 4 (by decide) (hq _ w_121) (fun _ h9 => h9) rfl dX11_nightAt_9 ?_
    refine lv_iconst (v := 1) hx hb dX11_nightAt_12 (by decide) ?_
    refine gb_iald (v := 0) hx hb hK hP 22 0 (gb_at b rfl) rfl (gb_in rfl) rfl dX11_nightAt_13 ?_
    refine lv_icmp_ge (tgt := 29) hx hb dX11_nightAt_14 (by decide) (fun c_14 => ?_) (fun c_14 => absurd (Int32.not_lt.mp c_1) c_14)
    refine lv_null hx hb dX11_nightAt_29 ?_
    exact W.aret (v := .null) hx hb hr (Or.inl ⟨_, rfl⟩) (Or.inl rfl) (fun t ht hW => gb_rq none ht ⟨rfl, hP⟩ hS) hS.2.2 dX11_nightAt_30
theorem w_649 : (Cond.code ({ cls := "GooseBorder", name := "nightAt", desc := "(I)LGooseBorder$Night;" } : MethodName) prog_1_method_17_code (2 : Nat) (Option.some (FieldType.object "GooseBorder$Night"))) ∈ gb_wA := gb_t3 169 rfl rfl
theorem w_646 : (Cond.methodLink "GooseBorder" (148 : Nat) ({ cls := "GooseBorder", name := "nightAt", desc := "(I)LGooseBorder$Night;" } : MethodName)) ∈ gb_wA := gb_t3 166 rfl rfl
theorem w_648 : (Cond.instanceMethod ({ cls := "GooseBorder", name := "nightAt", desc := "(I)LGooseBorder$Night;" } : MethodName)) ∈ gb_wA := gb_t3 168 rfl rfl
theorem s_1_8 : Cond.selects "GooseBorder" (⟨"GooseBorder", "nightAt", "(I)LGooseBorder$Night;"⟩ : MethodName) (⟨"GooseBorder", "nightAt", "(I)LGooseBorder$Night;"⟩ : MethodName) ∈ gb_wA := gb_s1 8 rfl rfl
theorem dX11_deed_5 : decode cX11_deed 5 = .ok (.astore 4, 2) := by decide +kernel
theorem dX11_deed_7 : decode cX11_deed 7 = .ok (.aload 4, 2) := by decide +kernel
theorem dX11_deed_9 : decode cX11_deed 9 = .ok (.ifnonnull 8, 3) := by decide +kernel
theorem dX11_deed_12 : decode cX11_deed 12 = .ok (.bipush (-2), 2) := by decide +kernel
theorem dX11_deed_14 : decode cX11_deed 14 = .ok (.goto 10, 3) := by decide +kernel
theorem dX11_deed_24 : decode cX11_deed 24 = .ok (.ireturn, 1) := by decide +kernel
set_option maxHeartbeats 4000000 in
set_option maxRecDepth 100000 in
theorem a_X11_deed (l : Launch) (D : va_G) (cT : Nat → ClassId) (tt : Nat → Nat) (b1 b : Nat) (hb1 : b1 ≤ b) (p1 : Int32) (p2 : Int32) (p3 : Int32) : Met l yX11_deed (.code yX11_deed cX11_deed 5 (some FieldType.int) :: gb_wA) ({ frames := 1, cells := 0, slots := 0, locals := 21 }) (gb_Pc D cT tt b1 [.ref (b + 0), .int p1, .int p2, .int p3] (fun h => va_P D vwCl (gb_wl b (gb_C cT b)) h)) (gb_Qi (fun r _ => r = (-2)) (gb_fr b 135)) 0 0 (gb_fr b 135) := by
  refine Met.ofW (cc := cX11_deed) (maxL := 5) (ret := (some FieldType.int)) (by decide) rfl ?_
  intro p e s m args below meth c s₁ B hml hv
  obtain ⟨rfl, hSt, hP⟩ := hv
  have hx := B.exec
  have hb := B.bytes
  have hr := B.returns
  have hts := atoms_spec (ws := .code yX11_deed cX11_deed 5 (some FieldType.int) :: gb_wA) B.pre
  have hq : ∀ w ∈ gb_wA, w.before _ s = true := fun w h => hts w (List.mem_cons_of_mem _ h)
  have hown : s.vm.findClass RX11 = some m.cls := findClass_of_methodNamed B.named
  have hlocks := B.notSynchronized
  have hK := hSt.1
  have hS : va_S (gb_fr b 135) s.heap s.heap [] := va_S.rf
  have hl := lv_entry ([.ref (b + 0), .int p1, .int p2, .int p3]) (n := 5) (Nat.le_of_ble_eq_true rfl)
  rw [lg_entry_eq]
  generalize (lg_sl ([.ref (b + 0), .int p1, .int p2, .int p3]) ++ List.replicate (5 - (lg_sl ([.ref (b + 0), .int p1, .int p2, .int p3])).length) Slot.unset).toArray = ls at hl ⊢
  have hl : lv_has ls 5 [(0, .ref (b + 0)), (1, .int p1), (2, .int p2), (3, .int p3)] := hl
  refine lv_aload_n hx hb dX11_deed_0 rfl (lv_at hl 0 rfl) ?_
  refine lv_iload_n hx hb dX11_deed_1 rfl (lv_at hl 1 rfl) ?_
  refine gb_callq (va_runV (C := RX11) (As := [.int p1]) (rest := []) ⟨hx, hb, hml, hown, hq⟩ (f_X11_nightAt l D cT tt b1 b hb1 p1) (cwV 1 hq (gb_gV w_646 w_648 s_1_8 w_1 w_649) rfl rfl rfl (by decide +kernel) ⟨Nat.le_of_ble_eq_true rfl, Nat.le_of_ble_eq_true rfl⟩) (gb_preV (r := (RX11, TX11, 10)) (ci := 9) (q0 := 0) hSt hP rfl (gb_at b rfl) hS (fun q h => Nat.le_trans hb1 h.1) hP) rfl rfl hl.1 rfl (lv_room (Nat.le_of_ble_eq_true rfl)) dX11_deed_2 ⟨Nat.le_of_ble_eq_true rfl, Nat.le_of_ble_eq_true rfl⟩) hS (fun _ h => h) (fun _ h => h) (fun r H locs hY hk hS => ?_)
  obtain ⟨hr9, hP⟩ := hY
  subst hr9
  refine W.eq (g2 := F0 m 5 ls [.null]) rfl ?_
  refine lv_astoreN (lv' := [(4, .null), (0, .ref (b + 0)), (1, .int p1), (2, .int p2), (3, .int p3)]) hx hb dX11_deed_5 hl (by decide) rfl (fun ls hl => ?_)
  refine lv_aloadN hx hb dX11_deed_7 (lv_at hl 0 rfl) ?_
  refine lv_ifnonnullN hx hb dX11_deed_9 ?_
  refine lv_bipush (v := (-2)) hx hb dX11_deed_12 (by decide) ?_
  refine lv_goto (tgt := 24) hx hb dX11_deed_14 (by decide) ?_
  exact W.iret (v := (-2)) hx hb hr (fun t ht hW => gb_ri ht rfl hS) hS.2.2 dX11_deed_24
theorem dX11_term_0 : decode cX11_term 0 = .ok (.aload_n 0, 1) := by decide +kernel
theorem dX11_term_1 : decode cX11_term 1 = .ok (.iload_n 1, 1) := by decide +kernel
theorem dX11_term_2 : decode cX11_term 2 = .ok (.invokevirtual 156, 3) := by decide +kernel
theorem dX11_lawAt_0 : decode cX11_lawAt 0 = .ok (.iload_n 1, 1) := by decide +kernel
theorem dX11_lawAt_1 : decode cX11_lawAt 1 = .ok (.ifCond .lt 28, 3) := by decide +kernel
theorem dX11_lawAt_29 : decode cX11_lawAt 29 = .ok (.aconst_null, 1) := by decide +kernel
theorem dX11_lawAt_30 : decode cX11_lawAt 30 = .ok (.areturn, 1) := by decide +kernel
theorem dX11_lawAt_4 : decode cX11_lawAt 4 = .ok (.iload_n 1, 1) := by decide +kernel
theorem dX11_lawAt_5 : decode cX11_lawAt 5 = .ok (.aload_n 0, 1) := by decide +kernel
theorem dX11_lawAt_6 : decode cX11_lawAt 6 = .ok (.getfield 12, 3) := by decide +kernel
theorem dX11_lawAt_9 : decode cX11_lawAt 9 = .ok (.getfield 88, 3) := by decide +kernel
theorem dX11_lawAt_12 : decode cX11_lawAt 12 = .ok (.iconst 2, 1) := by decide +kernel
theorem dX11_lawAt_13 : decode cX11_lawAt 13 = .ok (.iaload, 1) := by decide +kernel
theorem dX11_lawAt_14 : decode cX11_lawAt 14 = .ok (.if_icmp .ge 15, 3) := by decide +kernel
set_option maxHeartbeats 4000000 in
set_option maxRecDepth 100000 in
theorem f_X11_lawAt (l : Launch) (D : va_G) (cT : Nat → ClassId) (tt : Nat → Nat) (b1 b : Nat) (hb1 : b1 ≤ b) (p1 : Int32) : Met l yX11_lawAt (.code yX11_lawAt cX11_lawAt 2 (some (FieldType.object "GooseBorder$Law")) :: gb_wA) ({ frames := 0, cells := 0, slots := 0, locals := 0 }) (gb_Pc D cT tt b1 [.ref (b + 0), .int p1] (fun h => va_P D vwCl (gb_wl b (gb_C cT b)) h)) (gb_Qq (fun r h => r = none ∧ va_P D vwCl (gb_wl b (gb_C cT b)) h) (gb_fr b 135)) 0 0 (gb_fr b 135) := by
  refine Met.ofW (cc := cX11_lawAt) (maxL := 2) (ret := (some (FieldType.object "GooseBorder$Law"))) (by decide) rfl ?_
  intro p e s m args below meth c s₁ B hml hv
  obtain ⟨rfl, hSt, hP⟩ := hv
  have hx := B.exec
  have hb := B.bytes
  have hr := B.returns
  have hts := atoms_spec (ws := .code yX11_lawAt cX11_lawAt 2 (some (FieldType.object "GooseBorder$Law")) :: gb_wA) B.pre
  have hq : ∀ w ∈ gb_wA, w.before _ s = true := fun w h => hts w (List.mem_cons_of_mem _ h)
  have hown : s.vm.findClass RX11 = some m.cls := findClass_of_methodNamed B.named
  have hlocks := B.notSynchronized
  have hK := hSt.1
  have hS : va_S (gb_fr b 135) s.heap s.heap [] := va_S.rf
  have hl := lv_entry ([.ref (b + 0), .int p1]) (n := 2) (Nat.le_of_ble_eq_true rfl)
  rw [lg_entry_eq]
  generalize (lg_sl ([.ref (b + 0), .int p1]) ++ List.replicate (2 - (lg_sl ([.ref (b + 0), .int p1])).length) Slot.unset).toArray = ls at hl ⊢
  have hl : lv_has ls 2 [(0, .ref (b + 0)), (1, .int p1)] := hl
  refine lv_iload_n hx hb dX11_lawAt_0 rfl (lv_at hl 1 rfl) ?_
  refine lv_if_lt (tgt := 29) hx hb dX11_lawAt_1 (by decide) (fun c_1 => ?_) (fun c_1 => ?_)
  · refine lv_null hx hb dX11_lawAt_29 ?_
    exact W.aret (v := .null) hx hb hr (Or.inl ⟨_, rfl⟩) (Or.inl rfl) (fun t ht hW => gb_rq none ht ⟨rfl, hP⟩ hS) hS.2.2 dX11_lawAt_30
  · refine lv_iload_n hx hb dX11_lawAt_4 rfl (lv_at hl 1 rfl) ?_
    refine lv_aload_n hx hb dX11_lawAt_5 rfl (lv_at hl 0 rfl) ?_
    refine va_get (ci := 9) (v := (.ref (b + 1))) (C := RX11) (T := TX11) (N := 10) hx hb hq i_X11 hown hK hP 0 (gb_at b rfl) rfl 0 (by decide) (hq _ w_315) (fun _ h9 => h9) rfl dX11_lawAt_6 ?_
    refine va_get (ci := 8) (v := (.ref (b + 22))) (C := RX10) (T := TX10) (N := 9) hx hb hq i_X10 hown hK hP 1 (gb_at b rfl) rfl 4 (by decide) (hq _ w_121) (fun _ h9 => h9) rfl dX11_lawAt_9 ?_
    refine lv_iconst (v := 2) hx hb dX11_lawAt_12 (by decide) ?_
    refine gb_iald (v := 0) hx hb hK hP 22 0 (gb_at b rfl) rfl (gb_in rfl) rfl dX11_lawAt_13 ?_
    refine lv_icmp_ge (tgt := 29) hx hb dX11_lawAt_14 (by decide) (fun c_14 => ?_) (fun c_14 => absurd (Int32.not_lt.mp c_1) c_14)
    refine lv_null hx hb dX11_lawAt_29 ?_
    exact W.aret (v := .null) hx hb hr (Or.inl ⟨_, rfl⟩) (Or.inl rfl) (fun t ht hW => gb_rq none ht ⟨rfl, hP⟩ hS) hS.2.2 dX11_lawAt_30
theorem w_662 : (Cond.code ({ cls := "GooseBorder", name := "lawAt", desc := "(I)LGooseBorder$Law;" } : MethodName) prog_1_method_18_code (2 : Nat) (Option.some (FieldType.object "GooseBorder$Law"))) ∈ gb_wA := gb_t3 182 rfl rfl
theorem w_659 : (Cond.methodLink "GooseBorder" (156 : Nat) ({ cls := "GooseBorder", name := "lawAt", desc := "(I)LGooseBorder$Law;" } : MethodName)) ∈ gb_wA := gb_t3 179 rfl rfl
theorem w_661 : (Cond.instanceMethod ({ cls := "GooseBorder", name := "lawAt", desc := "(I)LGooseBorder$Law;" } : MethodName)) ∈ gb_wA := gb_t3 181 rfl rfl
theorem s_1_9 : Cond.selects "GooseBorder" (⟨"GooseBorder", "lawAt", "(I)LGooseBorder$Law;"⟩ : MethodName) (⟨"GooseBorder", "lawAt", "(I)LGooseBorder$Law;"⟩ : MethodName) ∈ gb_wA := gb_s1 9 rfl rfl
theorem dX11_term_5 : decode cX11_term 5 = .ok (.astore 4, 2) := by decide +kernel
theorem dX11_term_7 : decode cX11_term 7 = .ok (.aload 4, 2) := by decide +kernel
theorem dX11_term_9 : decode cX11_term 9 = .ok (.ifnonnull 8, 3) := by decide +kernel
theorem dX11_term_12 : decode cX11_term 12 = .ok (.bipush (-2), 2) := by decide +kernel
theorem dX11_term_14 : decode cX11_term 14 = .ok (.goto 10, 3) := by decide +kernel
theorem dX11_term_24 : decode cX11_term 24 = .ok (.ireturn, 1) := by decide +kernel
set_option maxHeartbeats 4000000 in
set_option maxRecDepth 100000 in
theorem a_X11_term (l : Launch) (D : va_G) (cT : Nat → ClassId) (tt : Nat → Nat) (b1 b : Nat) (hb1 : b1 ≤ b) (p1 : Int32) (p2 : Int32) (p3 : Int32) : Met l yX11_term (.code yX11_term cX11_term 5 (some FieldType.int) :: gb_wA) ({ frames := 1, cells := 0, slots := 0, locals := 21 }) (gb_Pc D cT tt b1 [.ref (b + 0), .int p1, .int p2, .int p3] (fun h => va_P D vwCl (gb_wl b (gb_C cT b)) h)) (gb_Qi (fun r _ => r = (-2)) (gb_fr b 135)) 0 0 (gb_fr b 135) := by
  refine Met.ofW (cc := cX11_term) (maxL := 5) (ret := (some FieldType.int)) (by decide) rfl ?_
  intro p e s m args below meth c s₁ B hml hv
  obtain ⟨rfl, hSt, hP⟩ := hv
  have hx := B.exec
  have hb := B.bytes
  have hr := B.returns
  have hts := atoms_spec (ws := .code yX11_term cX11_term 5 (some FieldType.int) :: gb_wA) B.pre
  have hq : ∀ w ∈ gb_wA, w.before _ s = true := fun w h => hts w (List.mem_cons_of_mem _ h)
  have hown : s.vm.findClass RX11 = some m.cls := findClass_of_methodNamed B.named
  have hlocks := B.notSynchronized
  have hK := hSt.1
  have hS : va_S (gb_fr b 135) s.heap s.heap [] := va_S.rf
  have hl := lv_entry ([.ref (b + 0), .int p1, .int p2, .int p3]) (n := 5) (Nat.le_of_ble_eq_true rfl)
  rw [lg_entry_eq]
  generalize (lg_sl ([.ref (b + 0), .int p1, .int p2, .int p3]) ++ List.replicate (5 - (lg_sl ([.ref (b + 0), .int p1, .int p2, .int p3])).length) Slot.unset).toArray = ls at hl ⊢
  have hl : lv_has ls 5 [(0, .ref (b + 0)), (1, .int p1), (2, .int p2), (3, .int p3)] := hl
  refine lv_aload_n hx hb dX11_term_0 rfl (lv_at hl 0 rfl) ?_
  refine lv_iload_n hx hb dX11_term_1 rfl (lv_at hl 1 rfl) ?_
  refine gb_callq (va_runV (C := RX11) (As := [.int p1]) (rest := []) ⟨hx, hb, hml, hown, hq⟩ (f_X11_lawAt l D cT tt b1 b hb1 p1) (cwV 1 hq (gb_gV w_659 w_661 s_1_9 w_1 w_662) rfl rfl rfl (by decide +kernel) ⟨Nat.le_of_ble_eq_true rfl, Nat.le_of_ble_eq_true rfl⟩) (gb_preV (r := (RX11, TX11, 10)) (ci := 9) (q0 := 0) hSt hP rfl (gb_at b rfl) hS (fun q h => Nat.le_trans hb1 h.1) hP) rfl rfl hl.1 rfl (lv_room (Nat.le_of_ble_eq_true rfl)) dX11_term_2 ⟨Nat.le_of_ble_eq_true rfl, Nat.le_of_ble_eq_true rfl⟩) hS (fun _ h => h) (fun _ h => h) (fun r H locs hY hk hS => ?_)
  obtain ⟨hr9, hP⟩ := hY
  subst hr9
  refine W.eq (g2 := F0 m 5 ls [.null]) rfl ?_
  refine lv_astoreN (lv' := [(4, .null), (0, .ref (b + 0)), (1, .int p1), (2, .int p2), (3, .int p3)]) hx hb dX11_term_5 hl (by decide) rfl (fun ls hl => ?_)
  refine lv_aloadN hx hb dX11_term_7 (lv_at hl 0 rfl) ?_
  refine lv_ifnonnullN hx hb dX11_term_9 ?_
  refine lv_bipush (v := (-2)) hx hb dX11_term_12 (by decide) ?_
  refine lv_goto (tgt := 24) hx hb dX11_term_14 (by decide) ?_
  exact W.iret (v := (-2)) hx hb hr (fun t ht hW => gb_ri ht rfl hS) hS.2.2 dX11_term_24
theorem dX11_seen_0 : decode cX11_seen 0 = .ok (.aload_n 0, 1) := by decide +kernel
theorem dX11_seen_1 : decode cX11_seen 1 = .ok (.iload_n 1, 1) := by decide +kernel
theorem dX11_seen_2 : decode cX11_seen 2 = .ok (.invokevirtual 160, 3) := by decide +kernel
theorem dX11_dawnAt_0 : decode cX11_dawnAt 0 = .ok (.iload_n 1, 1) := by decide +kernel
theorem dX11_dawnAt_1 : decode cX11_dawnAt 1 = .ok (.ifCond .lt 28, 3) := by decide +kernel
theorem dX11_dawnAt_29 : decode cX11_dawnAt 29 = .ok (.aconst_null, 1) := by decide +kernel
theorem dX11_dawnAt_30 : decode cX11_dawnAt 30 = .ok (.areturn, 1) := by decide +kernel
theorem dX11_dawnAt_4 : decode cX11_dawnAt 4 = .ok (.iload_n 1, 1) := by decide +kernel
theorem dX11_dawnAt_5 : decode cX11_dawnAt 5 = .ok (.aload_n 0, 1) := by decide +kernel
theorem dX11_dawnAt_6 : decode cX11_dawnAt 6 = .ok (.getfield 12, 3) := by decide +kernel
theorem dX11_dawnAt_9 : decode cX11_dawnAt 9 = .ok (.getfield 88, 3) := by decide +kernel
theorem dX11_dawnAt_12 : decode cX11_dawnAt 12 = .ok (.iconst 3, 1) := by decide +kernel
theorem dX11_dawnAt_13 : decode cX11_dawnAt 13 = .ok (.iaload, 1) := by decide +kernel
theorem dX11_dawnAt_14 : decode cX11_dawnAt 14 = .ok (.if_icmp .ge 15, 3) := by decide +kernel
set_option maxHeartbeats 4000000 in
set_option maxRecDepth 100000 in
theorem f_X11_dawnAt (l : Launch) (D : va_G) (cT : Nat → ClassId) (tt : Nat → Nat) (b1 b : Nat) (hb1 : b1 ≤ b) (p1 : Int32) : Met l yX11_dawnAt (.code yX11_dawnAt cX11_dawnAt 2 (some (FieldType.object "GooseBorder$Dawn")) :: gb_wA) ({ frames := 0, cells := 0, slots := 0, locals := 0 }) (gb_Pc D cT tt b1 [.ref (b + 0), .int p1] (fun h => va_P D vwCl (gb_wl b (gb_C cT b)) h)) (gb_Qq (fun r h => r = none ∧ va_P D vwCl (gb_wl b (gb_C cT b)) h) (gb_fr b 135)) 0 0 (gb_fr b 135) := by
  refine Met.ofW (cc := cX11_dawnAt) (maxL := 2) (ret := (some (FieldType.object "GooseBorder$Dawn"))) (by decide) rfl ?_
  intro p e s m args below meth c s₁ B hml hv
  obtain ⟨rfl, hSt, hP⟩ := hv
  have hx := B.exec
  have hb := B.bytes
  have hr := B.returns
  have hts := atoms_spec (ws := .code yX11_dawnAt cX11_dawnAt 2 (some (FieldType.object "GooseBorder$Dawn")) :: gb_wA) B.pre
  have hq : ∀ w ∈ gb_wA, w.before _ s = true := fun w h => hts w (List.mem_cons_of_mem _ h)
  have hown : s.vm.findClass RX11 = some m.cls := findClass_of_methodNamed B.named
  have hlocks := B.notSynchronized
  have hK := hSt.1
  have hS : va_S (gb_fr b 135) s.heap s.heap [] := va_S.rf
  have hl := lv_entry ([.ref (b + 0), .int p1]) (n := 2) (Nat.le_of_ble_eq_true rfl)
  rw [lg_entry_eq]
  generalize (lg_sl ([.ref (b + 0), .int p1]) ++ List.replicate (2 - (lg_sl ([.ref (b + 0), .int p1])).length) Slot.unset).toArray = ls at hl ⊢
  have hl : lv_has ls 2 [(0, .ref (b + 0)), (1, .int p1)] := hl
  refine lv_iload_n hx hb dX11_dawnAt_0 rfl (lv_at hl 1 rfl) ?_
  refine lv_if_lt (tgt := 29) hx hb dX11_dawnAt_1 (by decide) (fun c_1 => ?_) (fun c_1 => ?_)
  · refine lv_null hx hb dX11_dawnAt_29 ?_
    exact W.aret (v := .null) hx hb hr (Or.inl ⟨_, rfl⟩) (Or.inl rfl) (fun t ht hW => gb_rq none ht ⟨rfl, hP⟩ hS) hS.2.2 dX11_dawnAt_30
  · refine lv_iload_n hx hb dX11_dawnAt_4 rfl (lv_at hl 1 rfl) ?_
    refine lv_aload_n hx hb dX11_dawnAt_5 rfl (lv_at hl 0 rfl) ?_
    refine va_get (ci := 9) (v := (.ref (b + 1))) (C := RX11) (T := TX11) (N := 10) hx hb hq i_X11 hown hK hP 0 (gb_at b rfl) rfl 0 (by decide) (hq _ w_315) (fun _ h9 => h9) rfl dX11_dawnAt_6 ?_
    refine va_get (ci := 8) (v := (.ref (b + 22))) (C := RX10) (T := TX10) (N := 9) hx hb hq i_X10 hown hK hP 1 (gb_at b rfl) rfl 4 (by decide) (hq _ w_121) (fun _ h9 => h9) rfl dX11_dawnAt_9 ?_
    refine lv_iconst (v := 3) hx hb dX11_dawnAt_12 (by decide) ?_
    refine gb_iald (v := 0) hx hb hK hP 22 0 (gb_at b rfl) rfl (gb_in rfl) rfl dX11_dawnAt_13 ?_
    refine lv_icmp_ge (tgt := 29) hx hb dX11_dawnAt_14 (by decide) (fun c_14 => ?_) (fun c_14 => absurd (Int32.not_lt.mp c_1) c_14)
    refine lv_null hx hb dX11_dawnAt_29 ?_
    exact W.aret (v := .null) hx hb hr (Or.inl ⟨_, rfl⟩) (Or.inl rfl) (fun t ht hW => gb_rq none ht ⟨rfl, hP⟩ hS) hS.2.2 dX11_dawnAt_30
theorem w_670 : (Cond.code ({ cls := "GooseBorder", name := "dawnAt", desc := "(I)LGooseBorder$Dawn;" } : MethodName) prog_1_method_19_code (2 : Nat) (Option.some (FieldType.object "GooseBorder$Dawn"))) ∈ gb_wA := gb_t3 190 rfl rfl
theorem w_667 : (Cond.methodLink "GooseBorder" (160 : Nat) ({ cls := "GooseBorder", name := "dawnAt", desc := "(I)LGooseBorder$Dawn;" } : MethodName)) ∈ gb_wA := gb_t3 187 rfl rfl
theorem w_669 : (Cond.instanceMethod ({ cls := "GooseBorder", name := "dawnAt", desc := "(I)LGooseBorder$Dawn;" } : MethodName)) ∈ gb_wA := gb_t3 189 rfl rfl
theorem s_1_10 : Cond.selects "GooseBorder" (⟨"GooseBorder", "dawnAt", "(I)LGooseBorder$Dawn;"⟩ : MethodName) (⟨"GooseBorder", "dawnAt", "(I)LGooseBorder$Dawn;"⟩ : MethodName) ∈ gb_wA := gb_s1 10 rfl rfl
theorem dX11_seen_5 : decode cX11_seen 5 = .ok (.astore 4, 2) := by decide +kernel
theorem dX11_seen_7 : decode cX11_seen 7 = .ok (.aload 4, 2) := by decide +kernel
theorem dX11_seen_9 : decode cX11_seen 9 = .ok (.ifnull 12, 3) := by decide +kernel
theorem dX11_seen_21 : decode cX11_seen 21 = .ok (.bipush (-2), 2) := by decide +kernel
theorem dX11_seen_23 : decode cX11_seen 23 = .ok (.ireturn, 1) := by decide +kernel
set_option maxHeartbeats 4000000 in
set_option maxRecDepth 100000 in
theorem a_X11_seen (l : Launch) (D : va_G) (cT : Nat → ClassId) (tt : Nat → Nat) (b1 b : Nat) (hb1 : b1 ≤ b) (p1 : Int32) (p2 : Int32) (p3 : Int32) : Met l yX11_seen (.code yX11_seen cX11_seen 5 (some FieldType.int) :: gb_wA) ({ frames := 1, cells := 0, slots := 0, locals := 21 }) (gb_Pc D cT tt b1 [.ref (b + 0), .int p1, .int p2, .int p3] (fun h => va_P D vwCl (gb_wl b (gb_C cT b)) h)) (gb_Qi (fun r _ => r = (-2)) (gb_fr b 135)) 0 0 (gb_fr b 135) := by
  refine Met.ofW (cc := cX11_seen) (maxL := 5) (ret := (some FieldType.int)) (by decide) rfl ?_
  intro p e s m args below meth c s₁ B hml hv
  obtain ⟨rfl, hSt, hP⟩ := hv
  have hx := B.exec
  have hb := B.bytes
  have hr := B.returns
  have hts := atoms_spec (ws := .code yX11_seen cX11_seen 5 (some FieldType.int) :: gb_wA) B.pre
  have hq : ∀ w ∈ gb_wA, w.before _ s = true := fun w h => hts w (List.mem_cons_of_mem _ h)
  have hown : s.vm.findClass RX11 = some m.cls := findClass_of_methodNamed B.named
  have hlocks := B.notSynchronized
  have hK := hSt.1
  have hS : va_S (gb_fr b 135) s.heap s.heap [] := va_S.rf
  have hl := lv_entry ([.ref (b + 0), .int p1, .int p2, .int p3]) (n := 5) (Nat.le_of_ble_eq_true rfl)
  rw [lg_entry_eq]
  generalize (lg_sl ([.ref (b + 0), .int p1, .int p2, .int p3]) ++ List.replicate (5 - (lg_sl ([.ref (b + 0), .int p1, .int p2, .int p3])).length) Slot.unset).toArray = ls at hl ⊢
  have hl : lv_has ls 5 [(0, .ref (b + 0)), (1, .int p1), (2, .int p2), (3, .int p3)] := hl
  refine lv_aload_n hx hb dX11_seen_0 rfl (lv_at hl 0 rfl) ?_
  refine lv_iload_n hx hb dX11_seen_1 rfl (lv_at hl 1 rfl) ?_
  refine gb_callq (va_runV (C := RX11) (As := [.int p1]) (rest := []) ⟨hx, hb, hml, hown, hq⟩ (f_X11_dawnAt l D cT tt b1 b hb1 p1) (cwV 1 hq (gb_gV w_667 w_669 s_1_10 w_1 w_670) rfl rfl rfl (by decide +kernel) ⟨Nat.le_of_ble_eq_true rfl, Nat.le_of_ble_eq_true rfl⟩) (gb_preV (r := (RX11, TX11, 10)) (ci := 9) (q0 := 0) hSt hP rfl (gb_at b rfl) hS (fun q h => Nat.le_trans hb1 h.1) hP) rfl rfl hl.1 rfl (lv_room (Nat.le_of_ble_eq_true rfl)) dX11_seen_2 ⟨Nat.le_of_ble_eq_true rfl, Nat.le_of_ble_eq_true rfl⟩) hS (fun _ h => h) (fun _ h => h) (fun r H locs hY hk hS => ?_)
  obtain ⟨hr9, hP⟩ := hY
  subst hr9
  refine W.eq (g2 := F0 m 5 ls [.null]) rfl ?_
  refine lv_astoreN (lv' := [(4, .null), (0, .ref (b + 0)), (1, .int p1), (2, .int p2), (3, .int p3)]) hx hb dX11_seen_5 hl (by decide) rfl (fun ls hl => ?_)
  refine lv_aloadN hx hb dX11_seen_7 (lv_at hl 0 rfl) ?_
  refine lv_ifnullN (tgt := 21) hx hb dX11_seen_9 (by decide) ?_
  refine lv_bipush (v := (-2)) hx hb dX11_seen_21 (by decide) ?_
  exact W.iret (v := (-2)) hx hb hr (fun t ht hW => gb_ri ht rfl hS) hS.2.2 dX11_seen_23
theorem dX11_pays_0 : decode cX11_pays 0 = .ok (.aload_n 0, 1) := by decide +kernel
theorem dX11_pays_1 : decode cX11_pays 1 = .ok (.iload_n 1, 1) := by decide +kernel
theorem dX11_pays_2 : decode cX11_pays 2 = .ok (.invokevirtual 156, 3) := by decide +kernel
theorem dX11_pays_5 : decode cX11_pays 5 = .ok (.astore_n 3, 1) := by decide +kernel
theorem dX11_pays_6 : decode cX11_pays 6 = .ok (.aload_n 3, 1) := by decide +kernel
theorem dX11_pays_7 : decode cX11_pays 7 = .ok (.ifnull 14, 3) := by decide +kernel
theorem dX11_pays_21 : decode cX11_pays 21 = .ok (.iconst (-1), 1) := by decide +kernel
theorem dX11_pays_22 : decode cX11_pays 22 = .ok (.ireturn, 1) := by decide +kernel
set_option maxHeartbeats 4000000 in
set_option maxRecDepth 100000 in
theorem a_X11_pays (l : Launch) (D : va_G) (cT : Nat → ClassId) (tt : Nat → Nat) (b1 b : Nat) (hb1 : b1 ≤ b) (p1 : Int32) (p2 : Int32) : Met l yX11_pays (.code yX11_pays cX11_pays 4 (some FieldType.int) :: gb_wA) ({ frames := 1, cells := 0, slots := 0, locals := 21 }) (gb_Pc D cT tt b1 [.ref (b + 0), .int p1, .int p2] (fun h => va_P D vwCl (gb_wl b (gb_C cT b)) h)) (gb_Qi (fun r _ => r = (-1)) (gb_fr b 135)) 0 0 (gb_fr b 135) := by
  refine Met.ofW (cc := cX11_pays) (maxL := 4) (ret := (some FieldType.int)) (by decide) rfl ?_
  intro p e s m args below meth c s₁ B hml hv
  obtain ⟨rfl, hSt, hP⟩ := hv
  have hx := B.exec
  have hb := B.bytes
  have hr := B.returns
  have hts := atoms_spec (ws := .code yX11_pays cX11_pays 4 (some FieldType.int) :: gb_wA) B.pre
  have hq : ∀ w ∈ gb_wA, w.before _ s = true := fun w h => hts w (List.mem_cons_of_mem _ h)
  have hown : s.vm.findClass RX11 = some m.cls := findClass_of_methodNamed B.named
  have hlocks := B.notSynchronized
  have hK := hSt.1
  have hS : va_S (gb_fr b 135) s.heap s.heap [] := va_S.rf
  have hl := lv_entry ([.ref (b + 0), .int p1, .int p2]) (n := 4) (Nat.le_of_ble_eq_true rfl)
  rw [lg_entry_eq]
  generalize (lg_sl ([.ref (b + 0), .int p1, .int p2]) ++ List.replicate (4 - (lg_sl ([.ref (b + 0), .int p1, .int p2])).length) Slot.unset).toArray = ls at hl ⊢
  have hl : lv_has ls 4 [(0, .ref (b + 0)), (1, .int p1), (2, .int p2)] := hl
  refine lv_aload_n hx hb dX11_pays_0 rfl (lv_at hl 0 rfl) ?_
  refine lv_iload_n hx hb dX11_pays_1 rfl (lv_at hl 1 rfl) ?_
  refine gb_callq (va_runV (C := RX11) (As := [.int p1]) (rest := []) ⟨hx, hb, hml, hown, hq⟩ (f_X11_lawAt l D cT tt b1 b hb1 p1) (cwV 1 hq (gb_gV w_659 w_661 s_1_9 w_1 w_662) rfl rfl rfl (by decide +kernel) ⟨Nat.le_of_ble_eq_true rfl, Nat.le_of_ble_eq_true rfl⟩) (gb_preV (r := (RX11, TX11, 10)) (ci := 9) (q0 := 0) hSt hP rfl (gb_at b rfl) hS (fun q h => Nat.le_trans hb1 h.1) hP) rfl rfl hl.1 rfl (lv_room (Nat.le_of_ble_eq_true rfl)) dX11_pays_2 ⟨Nat.le_of_ble_eq_true rfl, Nat.le_of_ble_eq_true rfl⟩) hS (fun _ h => h) (fun _ h => h) (fun r H locs hY hk hS => ?_)
  obtain ⟨hr9, hP⟩ := hY
  subst hr9
  refine W.eq (g2 := F0 m 5 ls [.null]) rfl ?_
  refine lv_astore_nN (lv' := [(3, .null), (0, .ref (b + 0)), (1, .int p1), (2, .int p2)]) hx hb dX11_pays_5 rfl hl (by decide) rfl (fun ls hl => ?_)
  refine lv_aload_nN hx hb dX11_pays_6 rfl (lv_at hl 0 rfl) ?_
  refine lv_ifnullN (tgt := 21) hx hb dX11_pays_7 (by decide) ?_
  refine lv_iconst (v := (-1)) hx hb dX11_pays_21 (by decide) ?_
  exact W.iret (v := (-1)) hx hb hr (fun t ht hW => gb_ri ht rfl hS) hS.2.2 dX11_pays_22
theorem dX11_stop_0 : decode cX11_stop 0 = .ok (.aload_n 0, 1) := by decide +kernel
theorem dX11_stop_1 : decode cX11_stop 1 = .ok (.aload_n 0, 1) := by decide +kernel
theorem dX11_stop_2 : decode cX11_stop 2 = .ok (.iload_n 1, 1) := by decide +kernel
theorem dX11_stop_3 : decode cX11_stop 3 = .ok (.invokevirtual 113, 3) := by decide +kernel
theorem dX11_stop_6 : decode cX11_stop 6 = .ok (.aload_n 0, 1) := by decide +kernel
theorem dX11_stop_7 : decode cX11_stop 7 = .ok (.iload_n 2, 1) := by decide +kernel
theorem dX11_stop_8 : decode cX11_stop 8 = .ok (.invokevirtual 148, 3) := by decide +kernel
theorem dX11_stop_11 : decode cX11_stop 11 = .ok (.invokevirtual 195, 3) := by decide +kernel
theorem dX11_playedOut_0 : decode cX11_playedOut 0 = .ok (.aload_n 1, 1) := by decide +kernel
theorem dX11_playedOut_1 : decode cX11_playedOut 1 = .ok (.ifnull 7, 3) := by decide +kernel
theorem dX11_playedOut_8 : decode cX11_playedOut 8 = .ok (.iconst 0, 1) := by decide +kernel
theorem dX11_playedOut_9 : decode cX11_playedOut 9 = .ok (.ireturn, 1) := by decide +kernel
set_option maxHeartbeats 4000000 in
set_option maxRecDepth 100000 in
theorem f_X11_playedOut (l : Launch) (D : va_G) (cT : Nat → ClassId) (tt : Nat → Nat) (b1 b : Nat) (hb1 : b1 ≤ b) : Met l yX11_playedOut (.code yX11_playedOut cX11_playedOut 3 (some FieldType.boolean) :: gb_wA) ({ frames := 0, cells := 0, slots := 0, locals := 0 }) (gb_Pc D cT tt b1 [.ref (b + 0), .null, .null] (fun h => va_P D vwCl (gb_wl b (gb_C cT b)) h)) (gb_Qi (fun r h => r = 0 ∧ va_P D vwCl (gb_wl b (gb_C cT b)) h) (gb_fr b 135)) 0 0 (gb_fr b 135) := by
  refine Met.ofW (cc := cX11_playedOut) (maxL := 3) (ret := (some FieldType.boolean)) (by decide) rfl ?_
  intro p e s m args below meth c s₁ B hml hv
  obtain ⟨rfl, hSt, hP⟩ := hv
  have hx := B.exec
  have hb := B.bytes
  have hr := B.returns
  have hts := atoms_spec (ws := .code yX11_playedOut cX11_playedOut 3 (some FieldType.boolean) :: gb_wA) B.pre
  have hq : ∀ w ∈ gb_wA, w.before _ s = true := fun w h => hts w (List.mem_cons_of_mem _ h)
  have hown : s.vm.findClass RX11 = some m.cls := findClass_of_methodNamed B.named
  have hlocks := B.notSynchronized
  have hK := hSt.1
  have hS : va_S (gb_fr b 135) s.heap s.heap [] := va_S.rf
  have hl := lv_entry ([.ref (b + 0), .null, .null]) (n := 3) (Nat.le_of_ble_eq_true rfl)
  rw [lg_entry_eq]
  generalize (lg_sl ([.ref (b + 0), .null, .null]) ++ List.replicate (3 - (lg_sl ([.ref (b + 0), .null, .null])).length) Slot.unset).toArray = ls at hl ⊢
  have hl : lv_has ls 3 [(0, .ref (b + 0)), (1, .null), (2, .null)] := hl
  refine lv_aload_nN hx hb dX11_playedOut_0 rfl (lv_at hl 1 rfl) ?_
  refine lv_ifnullN (tgt := 8) hx hb dX11_playedOut_1 (by decide) ?_
  refine lv_iconst (v := 0) hx hb dX11_playedOut_8 (by decide) ?_
  exact W.zret (v := 0) hx hb hr (by decide) (fun t ht hW => gb_ri ht ⟨rfl, hP⟩ hS) hS.2.2 dX11_playedOut_9
theorem w_700 : (Cond.code ({ cls := "GooseBorder", name := "playedOut", desc := "(LGooseBorder$Border;LGooseBorder$Night;)Z" } : MethodName) prog_1_method_24_code (3 : Nat) (Option.some FieldType.boolean)) ∈ gb_wA := gb_t3 220 rfl rfl
theorem w_697 : (Cond.methodLink "GooseBorder" (195 : Nat) ({ cls := "GooseBorder", name := "playedOut", desc := "(LGooseBorder$Border;LGooseBorder$Night;)Z" } : MethodName)) ∈ gb_wA := gb_t3 217 rfl rfl
theorem w_699 : (Cond.instanceMethod ({ cls := "GooseBorder", name := "playedOut", desc := "(LGooseBorder$Border;LGooseBorder$Night;)Z" } : MethodName)) ∈ gb_wA := gb_t3 219 rfl rfl
theorem s_1_11 : Cond.selects "GooseBorder" (⟨"GooseBorder", "playedOut", "(LGooseBorder$Border;LGooseBorder$Night;)Z"⟩ : MethodName) (⟨"GooseBorder", "playedOut", "(LGooseBorder$Border;LGooseBorder$Night;)Z"⟩ : MethodName) ∈ gb_wA := gb_s1 11 rfl rfl
theorem dX11_stop_14 : decode cX11_stop 14 = .ok (.ifCond .eq 13, 3) := by decide +kernel
theorem dX11_stop_27 : decode cX11_stop 27 = .ok (.iconst (-1), 1) := by decide +kernel
theorem dX11_stop_28 : decode cX11_stop 28 = .ok (.ireturn, 1) := by decide +kernel
set_option maxHeartbeats 4000000 in
set_option maxRecDepth 100000 in
theorem a_X11_stop (l : Launch) (D : va_G) (cT : Nat → ClassId) (tt : Nat → Nat) (b1 b : Nat) (hb1 : b1 ≤ b) (p1 : Int32) (p2 : Int32) : Met l yX11_stop (.code yX11_stop cX11_stop 3 (some FieldType.int) :: gb_wA) ({ frames := 1, cells := 0, slots := 0, locals := 22 }) (gb_Pc D cT tt b1 [.ref (b + 0), .int p1, .int p2] (fun h => va_P D vwCl (gb_wl b (gb_C cT b)) h)) (gb_Qi (fun r _ => r = (-1)) (gb_fr b 135)) 0 0 (gb_fr b 135) := by
  refine Met.ofW (cc := cX11_stop) (maxL := 3) (ret := (some FieldType.int)) (by decide) rfl ?_
  intro p e s m args below meth c s₁ B hml hv
  obtain ⟨rfl, hSt, hP⟩ := hv
  have hx := B.exec
  have hb := B.bytes
  have hr := B.returns
  have hts := atoms_spec (ws := .code yX11_stop cX11_stop 3 (some FieldType.int) :: gb_wA) B.pre
  have hq : ∀ w ∈ gb_wA, w.before _ s = true := fun w h => hts w (List.mem_cons_of_mem _ h)
  have hown : s.vm.findClass RX11 = some m.cls := findClass_of_methodNamed B.named
  have hlocks := B.notSynchronized
  have hK := hSt.1
  have hS : va_S (gb_fr b 135) s.heap s.heap [] := va_S.rf
  have hl := lv_entry ([.ref (b + 0), .int p1, .int p2]) (n := 3) (Nat.le_of_ble_eq_true rfl)
  rw [lg_entry_eq]
  generalize (lg_sl ([.ref (b + 0), .int p1, .int p2]) ++ List.replicate (3 - (lg_sl ([.ref (b + 0), .int p1, .int p2])).length) Slot.unset).toArray = ls at hl ⊢
  have hl : lv_has ls 3 [(0, .ref (b + 0)), (1, .int p1), (2, .int p2)] := hl
  refine lv_aload_n hx hb dX11_stop_0 rfl (lv_at hl 0 rfl) ?_
  refine lv_aload_n hx hb dX11_stop_1 rfl (lv_at hl 0 rfl) ?_
  refine lv_iload_n hx hb dX11_stop_2 rfl (lv_at hl 1 rfl) ?_
  refine gb_callq (va_runV (C := RX11) (As := [.int p1]) (rest := [.ref (b + 0)]) ⟨hx, hb, hml, hown, hq⟩ (f_X11_borderAt l D cT tt b1 b hb1 p1) (cwV 1 hq (gb_gV w_593 w_595 s_1_7 w_1 w_596) rfl rfl rfl (by decide +kernel) ⟨Nat.le_of_ble_eq_true rfl, Nat.le_of_ble_eq_true rfl⟩) (gb_preV (r := (RX11, TX11, 10)) (ci := 9) (q0 := 0) hSt hP rfl (gb_at b rfl) hS (fun q h => Nat.le_trans hb1 h.1) hP) rfl rfl hl.1 rfl (lv_room (Nat.le_of_ble_eq_true rfl)) dX11_stop_3 ⟨Nat.le_of_ble_eq_true rfl, Nat.le_of_ble_eq_true rfl⟩) hS (fun _ h => h) (fun _ h => h) (fun r H locs hY hk hS => ?_)
  obtain ⟨hr9, hP⟩ := hY
  subst hr9
  refine W.eq (g2 := F0 m 6 ls [.null, .ref (b + 0)]) rfl ?_
  refine lv_aload_n hx hb dX11_stop_6 rfl (lv_at hl 0 rfl) ?_
  refine lv_iload_n hx hb dX11_stop_7 rfl (lv_at hl 2 rfl) ?_
  refine gb_callq (va_runV (C := RX11) (As := [.int p2]) (rest := [.null, .ref (b + 0)]) ⟨hx, hb, hml, hown, hq⟩ (f_X11_nightAt l D cT tt b1 b hb1 p2) (cwV 1 hq (gb_gV w_646 w_648 s_1_8 w_1 w_649) rfl rfl rfl (by decide +kernel) ⟨Nat.le_of_ble_eq_true rfl, Nat.le_of_ble_eq_true rfl⟩) (gb_preV (r := (RX11, TX11, 10)) (ci := 9) (q0 := 0) hSt hP rfl (gb_at b rfl) hS (fun q h => Nat.le_trans hb1 h.1) hP) rfl rfl hl.1 rfl (lv_room (Nat.le_of_ble_eq_true rfl)) dX11_stop_8 ⟨Nat.le_of_ble_eq_true rfl, Nat.le_of_ble_eq_true rfl⟩) hS (fun _ h => h) (fun _ h => h) (fun r H locs hY hk hS => ?_)
  obtain ⟨hr9, hP⟩ := hY
  subst hr9
  refine W.eq (g2 := F0 m 11 ls [.null, .null, .ref (b + 0)]) rfl ?_
  refine gb_calli (va_runV (C := RX11) (As := [.null, .null]) (rest := []) ⟨hx, hb, hml, hown, hq⟩ (f_X11_playedOut l D cT tt b1 b hb1) (cwV 2 hq (gb_gV w_697 w_699 s_1_11 w_1 w_700) rfl rfl rfl (by decide +kernel) ⟨Nat.le_of_ble_eq_true rfl, Nat.le_of_ble_eq_true rfl⟩) (gb_preV (r := (RX11, TX11, 10)) (ci := 9) (q0 := 0) hSt hP rfl (gb_at b rfl) hS (fun q h => Nat.le_trans hb1 h.1) hP) rfl rfl hl.1 rfl (lv_room (Nat.le_of_ble_eq_true rfl)) dX11_stop_11 ⟨Nat.le_of_ble_eq_true rfl, Nat.le_of_ble_eq_true rfl⟩) hS (fun _ h => h) (fun _ h => h) (fun r H locs hY hk hS => ?_)
  obtain ⟨hr9, hP⟩ := hY
  subst hr9
  refine lv_if_eq (tgt := 27) hx hb dX11_stop_14 (by decide) (fun _ => ?_) (fun hc => absurd (by decide) hc)
  refine lv_iconst (v := (-1)) hx hb dX11_stop_27 (by decide) ?_
  exact W.iret (v := (-1)) hx hb hr (fun t ht hW => gb_ri ht rfl hS) hS.2.2 dX11_stop_28
theorem dX11_goose_0 : decode cX11_goose 0 = .ok (.aload_n 0, 1) := by decide +kernel
theorem dX11_goose_1 : decode cX11_goose 1 = .ok (.iload_n 1, 1) := by decide +kernel
theorem dX11_goose_2 : decode cX11_goose 2 = .ok (.invokevirtual 113, 3) := by decide +kernel
theorem dX11_goose_5 : decode cX11_goose 5 = .ok (.astore 6, 2) := by decide +kernel
theorem dX11_goose_7 : decode cX11_goose 7 = .ok (.aload 6, 2) := by decide +kernel
theorem dX11_goose_9 : decode cX11_goose 9 = .ok (.ifnull 28, 3) := by decide +kernel
theorem dX11_goose_37 : decode cX11_goose 37 = .ok (.bipush (-2), 2) := by decide +kernel
theorem dX11_goose_39 : decode cX11_goose 39 = .ok (.ireturn, 1) := by decide +kernel
set_option maxHeartbeats 4000000 in
set_option maxRecDepth 100000 in
theorem a_X11_goose (l : Launch) (D : va_G) (cT : Nat → ClassId) (tt : Nat → Nat) (b1 b : Nat) (hb1 : b1 ≤ b) (p1 : Int32) (p2 : Int32) (p3 : Int32) (p4 : Int32) (p5 : Int32) : Met l yX11_goose (.code yX11_goose cX11_goose 7 (some FieldType.int) :: gb_wA) ({ frames := 1, cells := 0, slots := 0, locals := 21 }) (gb_Pc D cT tt b1 [.ref (b + 0), .int p1, .int p2, .int p3, .int p4, .int p5] (fun h => va_P D vwCl (gb_wl b (gb_C cT b)) h)) (gb_Qi (fun r _ => r = (-2)) (gb_fr b 135)) 0 0 (gb_fr b 135) := by
  refine Met.ofW (cc := cX11_goose) (maxL := 7) (ret := (some FieldType.int)) (by decide) rfl ?_
  intro p e s m args below meth c s₁ B hml hv
  obtain ⟨rfl, hSt, hP⟩ := hv
  have hx := B.exec
  have hb := B.bytes
  have hr := B.returns
  have hts := atoms_spec (ws := .code yX11_goose cX11_goose 7 (some FieldType.int) :: gb_wA) B.pre
  have hq : ∀ w ∈ gb_wA, w.before _ s = true := fun w h => hts w (List.mem_cons_of_mem _ h)
  have hown : s.vm.findClass RX11 = some m.cls := findClass_of_methodNamed B.named
  have hlocks := B.notSynchronized
  have hK := hSt.1
  have hS : va_S (gb_fr b 135) s.heap s.heap [] := va_S.rf
  have hl := lv_entry ([.ref (b + 0), .int p1, .int p2, .int p3, .int p4, .int p5]) (n := 7) (Nat.le_of_ble_eq_true rfl)
  rw [lg_entry_eq]
  generalize (lg_sl ([.ref (b + 0), .int p1, .int p2, .int p3, .int p4, .int p5]) ++ List.replicate (7 - (lg_sl ([.ref (b + 0), .int p1, .int p2, .int p3, .int p4, .int p5])).length) Slot.unset).toArray = ls at hl ⊢
  have hl : lv_has ls 7 [(0, .ref (b + 0)), (1, .int p1), (2, .int p2), (3, .int p3), (4, .int p4), (5, .int p5)] := hl
  refine lv_aload_n hx hb dX11_goose_0 rfl (lv_at hl 0 rfl) ?_
  refine lv_iload_n hx hb dX11_goose_1 rfl (lv_at hl 1 rfl) ?_
  refine gb_callq (va_runV (C := RX11) (As := [.int p1]) (rest := []) ⟨hx, hb, hml, hown, hq⟩ (f_X11_borderAt l D cT tt b1 b hb1 p1) (cwV 1 hq (gb_gV w_593 w_595 s_1_7 w_1 w_596) rfl rfl rfl (by decide +kernel) ⟨Nat.le_of_ble_eq_true rfl, Nat.le_of_ble_eq_true rfl⟩) (gb_preV (r := (RX11, TX11, 10)) (ci := 9) (q0 := 0) hSt hP rfl (gb_at b rfl) hS (fun q h => Nat.le_trans hb1 h.1) hP) rfl rfl hl.1 rfl (lv_room (Nat.le_of_ble_eq_true rfl)) dX11_goose_2 ⟨Nat.le_of_ble_eq_true rfl, Nat.le_of_ble_eq_true rfl⟩) hS (fun _ h => h) (fun _ h => h) (fun r H locs hY hk hS => ?_)
  obtain ⟨hr9, hP⟩ := hY
  subst hr9
  refine W.eq (g2 := F0 m 5 ls [.null]) rfl ?_
  refine lv_astoreN (lv' := [(6, .null), (0, .ref (b + 0)), (1, .int p1), (2, .int p2), (3, .int p3), (4, .int p4), (5, .int p5)]) hx hb dX11_goose_5 hl (by decide) rfl (fun ls hl => ?_)
  refine lv_aloadN hx hb dX11_goose_7 (lv_at hl 0 rfl) ?_
  refine lv_ifnullN (tgt := 37) hx hb dX11_goose_9 (by decide) ?_
  refine lv_bipush (v := (-2)) hx hb dX11_goose_37 (by decide) ?_
  exact W.iret (v := (-2)) hx hb hr (fun t ht hW => gb_ri ht rfl hS) hS.2.2 dX11_goose_39
theorem dX11_path_0 : decode cX11_path 0 = .ok (.aload_n 0, 1) := by decide +kernel
theorem dX11_path_1 : decode cX11_path 1 = .ok (.iload_n 1, 1) := by decide +kernel
theorem dX11_path_2 : decode cX11_path 2 = .ok (.invokevirtual 113, 3) := by decide +kernel
theorem dX11_path_5 : decode cX11_path 5 = .ok (.astore 6, 2) := by decide +kernel
theorem dX11_path_7 : decode cX11_path 7 = .ok (.aload 6, 2) := by decide +kernel
theorem dX11_path_9 : decode cX11_path 9 = .ok (.ifnull 28, 3) := by decide +kernel
theorem dX11_path_37 : decode cX11_path 37 = .ok (.bipush (-2), 2) := by decide +kernel
theorem dX11_path_39 : decode cX11_path 39 = .ok (.ireturn, 1) := by decide +kernel
set_option maxHeartbeats 4000000 in
set_option maxRecDepth 100000 in
theorem a_X11_path (l : Launch) (D : va_G) (cT : Nat → ClassId) (tt : Nat → Nat) (b1 b : Nat) (hb1 : b1 ≤ b) (p1 : Int32) (p2 : Int32) (p3 : Int32) (p4 : Int32) (p5 : Int32) : Met l yX11_path (.code yX11_path cX11_path 7 (some FieldType.int) :: gb_wA) ({ frames := 1, cells := 0, slots := 0, locals := 21 }) (gb_Pc D cT tt b1 [.ref (b + 0), .int p1, .int p2, .int p3, .int p4, .int p5] (fun h => va_P D vwCl (gb_wl b (gb_C cT b)) h)) (gb_Qi (fun r _ => r = (-2)) (gb_fr b 135)) 0 0 (gb_fr b 135) := by
  refine Met.ofW (cc := cX11_path) (maxL := 7) (ret := (some FieldType.int)) (by decide) rfl ?_
  intro p e s m args below meth c s₁ B hml hv
  obtain ⟨rfl, hSt, hP⟩ := hv
  have hx := B.exec
  have hb := B.bytes
  have hr := B.returns
  have hts := atoms_spec (ws := .code yX11_path cX11_path 7 (some FieldType.int) :: gb_wA) B.pre
  have hq : ∀ w ∈ gb_wA, w.before _ s = true := fun w h => hts w (List.mem_cons_of_mem _ h)
  have hown : s.vm.findClass RX11 = some m.cls := findClass_of_methodNamed B.named
  have hlocks := B.notSynchronized
  have hK := hSt.1
  have hS : va_S (gb_fr b 135) s.heap s.heap [] := va_S.rf
  have hl := lv_entry ([.ref (b + 0), .int p1, .int p2, .int p3, .int p4, .int p5]) (n := 7) (Nat.le_of_ble_eq_true rfl)
  rw [lg_entry_eq]
  generalize (lg_sl ([.ref (b + 0), .int p1, .int p2, .int p3, .int p4, .int p5]) ++ List.replicate (7 - (lg_sl ([.ref (b + 0), .int p1, .int p2, .int p3, .int p4, .int p5])).length) Slot.unset).toArray = ls at hl ⊢
  have hl : lv_has ls 7 [(0, .ref (b + 0)), (1, .int p1), (2, .int p2), (3, .int p3), (4, .int p4), (5, .int p5)] := hl
  refine lv_aload_n hx hb dX11_path_0 rfl (lv_at hl 0 rfl) ?_
  refine lv_iload_n hx hb dX11_path_1 rfl (lv_at hl 1 rfl) ?_
  refine gb_callq (va_runV (C := RX11) (As := [.int p1]) (rest := []) ⟨hx, hb, hml, hown, hq⟩ (f_X11_borderAt l D cT tt b1 b hb1 p1) (cwV 1 hq (gb_gV w_593 w_595 s_1_7 w_1 w_596) rfl rfl rfl (by decide +kernel) ⟨Nat.le_of_ble_eq_true rfl, Nat.le_of_ble_eq_true rfl⟩) (gb_preV (r := (RX11, TX11, 10)) (ci := 9) (q0 := 0) hSt hP rfl (gb_at b rfl) hS (fun q h => Nat.le_trans hb1 h.1) hP) rfl rfl hl.1 rfl (lv_room (Nat.le_of_ble_eq_true rfl)) dX11_path_2 ⟨Nat.le_of_ble_eq_true rfl, Nat.le_of_ble_eq_true rfl⟩) hS (fun _ h => h) (fun _ h => h) (fun r H locs hY hk hS => ?_)
  obtain ⟨hr9, hP⟩ := hY
  subst hr9
  refine W.eq (g2 := F0 m 5 ls [.null]) rfl ?_
  refine lv_astoreN (lv' := [(6, .null), (0, .ref (b + 0)), (1, .int p1), (2, .int p2), (3, .int p3), (4, .int p4), (5, .int p5)]) hx hb dX11_path_5 hl (by decide) rfl (fun ls hl => ?_)
  refine lv_aloadN hx hb dX11_path_7 (lv_at hl 0 rfl) ?_
  refine lv_ifnullN (tgt := 37) hx hb dX11_path_9 (by decide) ?_
  refine lv_bipush (v := (-2)) hx hb dX11_path_37 (by decide) ?_
  exact W.iret (v := (-2)) hx hb hr (fun t ht hW => gb_ri ht rfl hS) hS.2.2 dX11_path_39
theorem dX11_state_0 : decode cX11_state 0 = .ok (.aload_n 0, 1) := by decide +kernel
theorem dX11_state_1 : decode cX11_state 1 = .ok (.iload_n 1, 1) := by decide +kernel
theorem dX11_state_2 : decode cX11_state 2 = .ok (.invokevirtual 113, 3) := by decide +kernel
theorem dX11_state_5 : decode cX11_state 5 = .ok (.astore 5, 2) := by decide +kernel
theorem dX11_state_7 : decode cX11_state 7 = .ok (.aload 5, 2) := by decide +kernel
theorem dX11_state_9 : decode cX11_state 9 = .ok (.ifnull 18, 3) := by decide +kernel
theorem dX11_state_27 : decode cX11_state 27 = .ok (.bipush (-2), 2) := by decide +kernel
theorem dX11_state_29 : decode cX11_state 29 = .ok (.ireturn, 1) := by decide +kernel
set_option maxHeartbeats 4000000 in
set_option maxRecDepth 100000 in
theorem a_X11_state (l : Launch) (D : va_G) (cT : Nat → ClassId) (tt : Nat → Nat) (b1 b : Nat) (hb1 : b1 ≤ b) (p1 : Int32) (p2 : Int32) (p3 : Int32) (p4 : Int32) : Met l yX11_state (.code yX11_state cX11_state 6 (some FieldType.int) :: gb_wA) ({ frames := 1, cells := 0, slots := 0, locals := 21 }) (gb_Pc D cT tt b1 [.ref (b + 0), .int p1, .int p2, .int p3, .int p4] (fun h => va_P D vwCl (gb_wl b (gb_C cT b)) h)) (gb_Qi (fun r _ => r = (-2)) (gb_fr b 135)) 0 0 (gb_fr b 135) := by
  refine Met.ofW (cc := cX11_state) (maxL := 6) (ret := (some FieldType.int)) (by decide) rfl ?_
  intro p e s m args below meth c s₁ B hml hv
  obtain ⟨rfl, hSt, hP⟩ := hv
  have hx := B.exec
  have hb := B.bytes
  have hr := B.returns
  have hts := atoms_spec (ws := .code yX11_state cX11_state 6 (some FieldType.int) :: gb_wA) B.pre
  have hq : ∀ w ∈ gb_wA, w.before _ s = true := fun w h => hts w (List.mem_cons_of_mem _ h)
  have hown : s.vm.findClass RX11 = some m.cls := findClass_of_methodNamed B.named
  have hlocks := B.notSynchronized
  have hK := hSt.1
  have hS : va_S (gb_fr b 135) s.heap s.heap [] := va_S.rf
  have hl := lv_entry ([.ref (b + 0), .int p1, .int p2, .int p3, .int p4]) (n := 6) (Nat.le_of_ble_eq_true rfl)
  rw [lg_entry_eq]
  generalize (lg_sl ([.ref (b + 0), .int p1, .int p2, .int p3, .int p4]) ++ List.replicate (6 - (lg_sl ([.ref (b + 0), .int p1, .int p2, .int p3, .int p4])).length) Slot.unset).toArray = ls at hl ⊢
  have hl : lv_has ls 6 [(0, .ref (b + 0)), (1, .int p1), (2, .int p2), (3, .int p3), (4, .int p4)] := hl
  refine lv_aload_n hx hb dX11_state_0 rfl (lv_at hl 0 rfl) ?_
  refine lv_iload_n hx hb dX11_state_1 rfl (lv_at hl 1 rfl) ?_
  refine gb_callq (va_runV (C := RX11) (As := [.int p1]) (rest := []) ⟨hx, hb, hml, hown, hq⟩ (f_X11_borderAt l D cT tt b1 b hb1 p1) (cwV 1 hq (gb_gV w_593 w_595 s_1_7 w_1 w_596) rfl rfl rfl (by decide +kernel) ⟨Nat.le_of_ble_eq_true rfl, Nat.le_of_ble_eq_true rfl⟩) (gb_preV (r := (RX11, TX11, 10)) (ci := 9) (q0 := 0) hSt hP rfl (gb_at b rfl) hS (fun q h => Nat.le_trans hb1 h.1) hP) rfl rfl hl.1 rfl (lv_room (Nat.le_of_ble_eq_true rfl)) dX11_state_2 ⟨Nat.le_of_ble_eq_true rfl, Nat.le_of_ble_eq_true rfl⟩) hS (fun _ h => h) (fun _ h => h) (fun r H locs hY hk hS => ?_)
  obtain ⟨hr9, hP⟩ := hY
  subst hr9
  refine W.eq (g2 := F0 m 5 ls [.null]) rfl ?_
  refine lv_astoreN (lv' := [(5, .null), (0, .ref (b + 0)), (1, .int p1), (2, .int p2), (3, .int p3), (4, .int p4)]) hx hb dX11_state_5 hl (by decide) rfl (fun ls hl => ?_)
  refine lv_aloadN hx hb dX11_state_7 (lv_at hl 0 rfl) ?_
  refine lv_ifnullN (tgt := 27) hx hb dX11_state_9 (by decide) ?_
  refine lv_bipush (v := (-2)) hx hb dX11_state_27 (by decide) ?_
  exact W.iret (v := (-2)) hx hb hr (fun t ht hW => gb_ri ht rfl hS) hS.2.2 dX11_state_29
theorem dX11_rest_0 : decode cX11_rest 0 = .ok (.aload_n 0, 1) := by decide +kernel
theorem dX11_rest_1 : decode cX11_rest 1 = .ok (.iload_n 1, 1) := by decide +kernel
theorem dX11_rest_2 : decode cX11_rest 2 = .ok (.invokevirtual 113, 3) := by decide +kernel
theorem dX11_rest_5 : decode cX11_rest 5 = .ok (.astore 4, 2) := by decide +kernel
theorem dX11_rest_7 : decode cX11_rest 7 = .ok (.iload_n 3, 1) := by decide +kernel
theorem dX11_rest_8 : decode cX11_rest 8 = .ok (.iconst (-1), 1) := by decide +kernel
theorem dX11_rest_9 : decode cX11_rest 9 = .ok (.if_icmp .lt 22, 3) := by decide +kernel
theorem dX11_rest_31 : decode cX11_rest 31 = .ok (.bipush (-2), 2) := by decide +kernel
theorem dX11_rest_33 : decode cX11_rest 33 = .ok (.ireturn, 1) := by decide +kernel
theorem dX11_rest_12 : decode cX11_rest 12 = .ok (.aload 4, 2) := by decide +kernel
theorem dX11_rest_14 : decode cX11_rest 14 = .ok (.ifnull 17, 3) := by decide +kernel
set_option maxHeartbeats 4000000 in
set_option maxRecDepth 100000 in
theorem a_X11_rest (l : Launch) (D : va_G) (cT : Nat → ClassId) (tt : Nat → Nat) (b1 b : Nat) (hb1 : b1 ≤ b) (p1 : Int32) (p2 : Int32) (p3 : Int32) : Met l yX11_rest (.code yX11_rest cX11_rest 8 (some FieldType.int) :: gb_wA) ({ frames := 1, cells := 0, slots := 0, locals := 21 }) (gb_Pc D cT tt b1 [.ref (b + 0), .int p1, .int p2, .int p3] (fun h => va_P D vwCl (gb_wl b (gb_C cT b)) h)) (gb_Qi (fun r _ => r = (-2)) (gb_fr b 135)) 0 0 (gb_fr b 135) := by
  refine Met.ofW (cc := cX11_rest) (maxL := 8) (ret := (some FieldType.int)) (by decide) rfl ?_
  intro p e s m args below meth c s₁ B hml hv
  obtain ⟨rfl, hSt, hP⟩ := hv
  have hx := B.exec
  have hb := B.bytes
  have hr := B.returns
  have hts := atoms_spec (ws := .code yX11_rest cX11_rest 8 (some FieldType.int) :: gb_wA) B.pre
  have hq : ∀ w ∈ gb_wA, w.before _ s = true := fun w h => hts w (List.mem_cons_of_mem _ h)
  have hown : s.vm.findClass RX11 = some m.cls := findClass_of_methodNamed B.named
  have hlocks := B.notSynchronized
  have hK := hSt.1
  have hS : va_S (gb_fr b 135) s.heap s.heap [] := va_S.rf
  have hl := lv_entry ([.ref (b + 0), .int p1, .int p2, .int p3]) (n := 8) (Nat.le_of_ble_eq_true rfl)
  rw [lg_entry_eq]
  generalize (lg_sl ([.ref (b + 0), .int p1, .int p2, .int p3]) ++ List.replicate (8 - (lg_sl ([.ref (b + 0), .int p1, .int p2, .int p3])).length) Slot.unset).toArray = ls at hl ⊢
  have hl : lv_has ls 8 [(0, .ref (b + 0)), (1, .int p1), (2, .int p2), (3, .int p3)] := hl
  refine lv_aload_n hx hb dX11_rest_0 rfl (lv_at hl 0 rfl) ?_
  refine lv_iload_n hx hb dX11_rest_1 rfl (lv_at hl 1 rfl) ?_
  refine gb_callq (va_runV (C := RX11) (As := [.int p1]) (rest := []) ⟨hx, hb, hml, hown, hq⟩ (f_X11_borderAt l D cT tt b1 b hb1 p1) (cwV 1 hq (gb_gV w_593 w_595 s_1_7 w_1 w_596) rfl rfl rfl (by decide +kernel) ⟨Nat.le_of_ble_eq_true rfl, Nat.le_of_ble_eq_true rfl⟩) (gb_preV (r := (RX11, TX11, 10)) (ci := 9) (q0 := 0) hSt hP rfl (gb_at b rfl) hS (fun q h => Nat.le_trans hb1 h.1) hP) rfl rfl hl.1 rfl (lv_room (Nat.le_of_ble_eq_true rfl)) dX11_rest_2 ⟨Nat.le_of_ble_eq_true rfl, Nat.le_of_ble_eq_true rfl⟩) hS (fun _ h => h) (fun _ h => h) (fun r H locs hY hk hS => ?_)
  obtain ⟨hr9, hP⟩ := hY
  subst hr9
  refine W.eq (g2 := F0 m 5 ls [.null]) rfl ?_
  refine lv_astoreN (lv' := [(4, .null), (0, .ref (b + 0)), (1, .int p1), (2, .int p2), (3, .int p3)]) hx hb dX11_rest_5 hl (by decide) rfl (fun ls hl => ?_)
  refine lv_iload_n hx hb dX11_rest_7 rfl (lv_at hl 4 rfl) ?_
  refine lv_iconst (v := (-1)) hx hb dX11_rest_8 (by decide) ?_
  refine lv_icmp_lt (tgt := 31) hx hb dX11_rest_9 (by decide) (fun c_9 => ?_) (fun c_9 => ?_)
  · refine lv_bipush (v := (-2)) hx hb dX11_rest_31 (by decide) ?_
    exact W.iret (v := (-2)) hx hb hr (fun t ht hW => gb_ri ht rfl hS) hS.2.2 dX11_rest_33
  · refine lv_aloadN hx hb dX11_rest_12 (lv_at hl 0 rfl) ?_
    refine lv_ifnullN (tgt := 31) hx hb dX11_rest_14 (by decide) ?_
    refine lv_bipush (v := (-2)) hx hb dX11_rest_31 (by decide) ?_
    exact W.iret (v := (-2)) hx hb hr (fun t ht hW => gb_ri ht rfl hS) hS.2.2 dX11_rest_33
theorem dX11_take_0 : decode cX11_take 0 = .ok (.aload_n 0, 1) := by decide +kernel
theorem dX11_take_1 : decode cX11_take 1 = .ok (.iload_n 1, 1) := by decide +kernel
theorem dX11_take_2 : decode cX11_take 2 = .ok (.invokevirtual 113, 3) := by decide +kernel
theorem dX11_take_5 : decode cX11_take 5 = .ok (.astore 5, 2) := by decide +kernel
theorem dX11_take_7 : decode cX11_take 7 = .ok (.aload 5, 2) := by decide +kernel
theorem dX11_take_9 : decode cX11_take 9 = .ok (.ifnull 28, 3) := by decide +kernel
theorem dX11_take_37 : decode cX11_take 37 = .ok (.iconst (-1), 1) := by decide +kernel
theorem dX11_take_38 : decode cX11_take 38 = .ok (.ireturn, 1) := by decide +kernel
set_option maxHeartbeats 4000000 in
set_option maxRecDepth 100000 in
theorem a_X11_take (l : Launch) (D : va_G) (cT : Nat → ClassId) (tt : Nat → Nat) (b1 b : Nat) (hb1 : b1 ≤ b) (p1 : Int32) (p2 : Int32) (p3 : Int32) (p4 : Int32) : Met l yX11_take (.code yX11_take cX11_take 6 (some FieldType.int) :: gb_wA) ({ frames := 1, cells := 0, slots := 0, locals := 21 }) (gb_Pc D cT tt b1 [.ref (b + 0), .int p1, .int p2, .int p3, .int p4] (fun h => va_P D vwCl (gb_wl b (gb_C cT b)) h)) (gb_Qi (fun r _ => r = (-1)) (gb_fr b 135)) 0 0 (gb_fr b 135) := by
  refine Met.ofW (cc := cX11_take) (maxL := 6) (ret := (some FieldType.int)) (by decide) rfl ?_
  intro p e s m args below meth c s₁ B hml hv
  obtain ⟨rfl, hSt, hP⟩ := hv
  have hx := B.exec
  have hb := B.bytes
  have hr := B.returns
  have hts := atoms_spec (ws := .code yX11_take cX11_take 6 (some FieldType.int) :: gb_wA) B.pre
  have hq : ∀ w ∈ gb_wA, w.before _ s = true := fun w h => hts w (List.mem_cons_of_mem _ h)
  have hown : s.vm.findClass RX11 = some m.cls := findClass_of_methodNamed B.named
  have hlocks := B.notSynchronized
  have hK := hSt.1
  have hS : va_S (gb_fr b 135) s.heap s.heap [] := va_S.rf
  have hl := lv_entry ([.ref (b + 0), .int p1, .int p2, .int p3, .int p4]) (n := 6) (Nat.le_of_ble_eq_true rfl)
  rw [lg_entry_eq]
  generalize (lg_sl ([.ref (b + 0), .int p1, .int p2, .int p3, .int p4]) ++ List.replicate (6 - (lg_sl ([.ref (b + 0), .int p1, .int p2, .int p3, .int p4])).length) Slot.unset).toArray = ls at hl ⊢
  have hl : lv_has ls 6 [(0, .ref (b + 0)), (1, .int p1), (2, .int p2), (3, .int p3), (4, .int p4)] := hl
  refine lv_aload_n hx hb dX11_take_0 rfl (lv_at hl 0 rfl) ?_
  refine lv_iload_n hx hb dX11_take_1 rfl (lv_at hl 1 rfl) ?_
  refine gb_callq (va_runV (C := RX11) (As := [.int p1]) (rest := []) ⟨hx, hb, hml, hown, hq⟩ (f_X11_borderAt l D cT tt b1 b hb1 p1) (cwV 1 hq (gb_gV w_593 w_595 s_1_7 w_1 w_596) rfl rfl rfl (by decide +kernel) ⟨Nat.le_of_ble_eq_true rfl, Nat.le_of_ble_eq_true rfl⟩) (gb_preV (r := (RX11, TX11, 10)) (ci := 9) (q0 := 0) hSt hP rfl (gb_at b rfl) hS (fun q h => Nat.le_trans hb1 h.1) hP) rfl rfl hl.1 rfl (lv_room (Nat.le_of_ble_eq_true rfl)) dX11_take_2 ⟨Nat.le_of_ble_eq_true rfl, Nat.le_of_ble_eq_true rfl⟩) hS (fun _ h => h) (fun _ h => h) (fun r H locs hY hk hS => ?_)
  obtain ⟨hr9, hP⟩ := hY
  subst hr9
  refine W.eq (g2 := F0 m 5 ls [.null]) rfl ?_
  refine lv_astoreN (lv' := [(5, .null), (0, .ref (b + 0)), (1, .int p1), (2, .int p2), (3, .int p3), (4, .int p4)]) hx hb dX11_take_5 hl (by decide) rfl (fun ls hl => ?_)
  refine lv_aloadN hx hb dX11_take_7 (lv_at hl 0 rfl) ?_
  refine lv_ifnullN (tgt := 37) hx hb dX11_take_9 (by decide) ?_
  refine lv_iconst (v := (-1)) hx hb dX11_take_37 (by decide) ?_
  exact W.iret (v := (-1)) hx hb hr (fun t ht hW => gb_ri ht rfl hS) hS.2.2 dX11_take_38
theorem dX11_honest_0 : decode cX11_honest 0 = .ok (.aload_n 0, 1) := by decide +kernel
theorem dX11_honest_1 : decode cX11_honest 1 = .ok (.iload_n 1, 1) := by decide +kernel
theorem dX11_honest_2 : decode cX11_honest 2 = .ok (.invokevirtual 113, 3) := by decide +kernel
theorem dX11_honest_5 : decode cX11_honest 5 = .ok (.astore 4, 2) := by decide +kernel
theorem dX11_honest_7 : decode cX11_honest 7 = .ok (.aload 4, 2) := by decide +kernel
theorem dX11_honest_9 : decode cX11_honest 9 = .ok (.ifnull 26, 3) := by decide +kernel
theorem dX11_honest_35 : decode cX11_honest 35 = .ok (.iconst (-1), 1) := by decide +kernel
theorem dX11_honest_36 : decode cX11_honest 36 = .ok (.ireturn, 1) := by decide +kernel
set_option maxHeartbeats 4000000 in
set_option maxRecDepth 100000 in
theorem a_X11_honest (l : Launch) (D : va_G) (cT : Nat → ClassId) (tt : Nat → Nat) (b1 b : Nat) (hb1 : b1 ≤ b) (p1 : Int32) (p2 : Int32) (p3 : Int32) : Met l yX11_honest (.code yX11_honest cX11_honest 6 (some FieldType.int) :: gb_wA) ({ frames := 1, cells := 0, slots := 0, locals := 21 }) (gb_Pc D cT tt b1 [.ref (b + 0), .int p1, .int p2, .int p3] (fun h => va_P D vwCl (gb_wl b (gb_C cT b)) h)) (gb_Qi (fun r _ => r = (-1)) (gb_fr b 135)) 0 0 (gb_fr b 135) := by
  refine Met.ofW (cc := cX11_honest) (maxL := 6) (ret := (some FieldType.int)) (by decide) rfl ?_
  intro p e s m args below meth c s₁ B hml hv
  obtain ⟨rfl, hSt, hP⟩ := hv
  have hx := B.exec
  have hb := B.bytes
  have hr := B.returns
  have hts := atoms_spec (ws := .code yX11_honest cX11_honest 6 (some FieldType.int) :: gb_wA) B.pre
  have hq : ∀ w ∈ gb_wA, w.before _ s = true := fun w h => hts w (List.mem_cons_of_mem _ h)
  have hown : s.vm.findClass RX11 = some m.cls := findClass_of_methodNamed B.named
  have hlocks := B.notSynchronized
  have hK := hSt.1
  have hS : va_S (gb_fr b 135) s.heap s.heap [] := va_S.rf
  have hl := lv_entry ([.ref (b + 0), .int p1, .int p2, .int p3]) (n := 6) (Nat.le_of_ble_eq_true rfl)
  rw [lg_entry_eq]
  generalize (lg_sl ([.ref (b + 0), .int p1, .int p2, .int p3]) ++ List.replicate (6 - (lg_sl ([.ref (b + 0), .int p1, .int p2, .int p3])).length) Slot.unset).toArray = ls at hl ⊢
  have hl : lv_has ls 6 [(0, .ref (b + 0)), (1, .int p1), (2, .int p2), (3, .int p3)] := hl
  refine lv_aload_n hx hb dX11_honest_0 rfl (lv_at hl 0 rfl) ?_
  refine lv_iload_n hx hb dX11_honest_1 rfl (lv_at hl 1 rfl) ?_
  refine gb_callq (va_runV (C := RX11) (As := [.int p1]) (rest := []) ⟨hx, hb, hml, hown, hq⟩ (f_X11_borderAt l D cT tt b1 b hb1 p1) (cwV 1 hq (gb_gV w_593 w_595 s_1_7 w_1 w_596) rfl rfl rfl (by decide +kernel) ⟨Nat.le_of_ble_eq_true rfl, Nat.le_of_ble_eq_true rfl⟩) (gb_preV (r := (RX11, TX11, 10)) (ci := 9) (q0 := 0) hSt hP rfl (gb_at b rfl) hS (fun q h => Nat.le_trans hb1 h.1) hP) rfl rfl hl.1 rfl (lv_room (Nat.le_of_ble_eq_true rfl)) dX11_honest_2 ⟨Nat.le_of_ble_eq_true rfl, Nat.le_of_ble_eq_true rfl⟩) hS (fun _ h => h) (fun _ h => h) (fun r H locs hY hk hS => ?_)
  obtain ⟨hr9, hP⟩ := hY
  subst hr9
  refine W.eq (g2 := F0 m 5 ls [.null]) rfl ?_
  refine lv_astoreN (lv' := [(4, .null), (0, .ref (b + 0)), (1, .int p1), (2, .int p2), (3, .int p3)]) hx hb dX11_honest_5 hl (by decide) rfl (fun ls hl => ?_)
  refine lv_aloadN hx hb dX11_honest_7 (lv_at hl 0 rfl) ?_
  refine lv_ifnullN (tgt := 35) hx hb dX11_honest_9 (by decide) ?_
  refine lv_iconst (v := (-1)) hx hb dX11_honest_35 (by decide) ?_
  exact W.iret (v := (-1)) hx hb hr (fun t ht hW => gb_ri ht rfl hS) hS.2.2 dX11_honest_36
theorem dX11_lacks_0 : decode cX11_lacks 0 = .ok (.aload_n 0, 1) := by decide +kernel
theorem dX11_lacks_1 : decode cX11_lacks 1 = .ok (.iload_n 1, 1) := by decide +kernel
theorem dX11_lacks_2 : decode cX11_lacks 2 = .ok (.invokevirtual 113, 3) := by decide +kernel
theorem dX11_lacks_5 : decode cX11_lacks 5 = .ok (.astore 4, 2) := by decide +kernel
theorem dX11_lacks_7 : decode cX11_lacks 7 = .ok (.aload_n 0, 1) := by decide +kernel
theorem dX11_lacks_8 : decode cX11_lacks 8 = .ok (.iload_n 3, 1) := by decide +kernel
theorem dX11_lacks_9 : decode cX11_lacks 9 = .ok (.invokevirtual 160, 3) := by decide +kernel
theorem dX11_lacks_12 : decode cX11_lacks 12 = .ok (.astore 5, 2) := by decide +kernel
theorem dX11_lacks_14 : decode cX11_lacks 14 = .ok (.aload 4, 2) := by decide +kernel
theorem dX11_lacks_16 : decode cX11_lacks 16 = .ok (.ifnull 22, 3) := by decide +kernel
theorem dX11_lacks_38 : decode cX11_lacks 38 = .ok (.iconst (-1), 1) := by decide +kernel
theorem dX11_lacks_39 : decode cX11_lacks 39 = .ok (.ireturn, 1) := by decide +kernel
set_option maxHeartbeats 4000000 in
set_option maxRecDepth 100000 in
theorem a_X11_lacks (l : Launch) (D : va_G) (cT : Nat → ClassId) (tt : Nat → Nat) (b1 b : Nat) (hb1 : b1 ≤ b) (p1 : Int32) (p2 : Int32) (p3 : Int32) : Met l yX11_lacks (.code yX11_lacks cX11_lacks 8 (some FieldType.int) :: gb_wA) ({ frames := 1, cells := 0, slots := 0, locals := 21 }) (gb_Pc D cT tt b1 [.ref (b + 0), .int p1, .int p2, .int p3] (fun h => va_P D vwCl (gb_wl b (gb_C cT b)) h)) (gb_Qi (fun r _ => r = (-1)) (gb_fr b 135)) 0 0 (gb_fr b 135) := by
  refine Met.ofW (cc := cX11_lacks) (maxL := 8) (ret := (some FieldType.int)) (by decide) rfl ?_
  intro p e s m args below meth c s₁ B hml hv
  obtain ⟨rfl, hSt, hP⟩ := hv
  have hx := B.exec
  have hb := B.bytes
  have hr := B.returns
  have hts := atoms_spec (ws := .code yX11_lacks cX11_lacks 8 (some FieldType.int) :: gb_wA) B.pre
  have hq : ∀ w ∈ gb_wA, w.before _ s = true := fun w h => hts w (List.mem_cons_of_mem _ h)
  have hown : s.vm.findClass RX11 = some m.cls := findClass_of_methodNamed B.named
  have hlocks := B.notSynchronized
  have hK := hSt.1
  have hS : va_S (gb_fr b 135) s.heap s.heap [] := va_S.rf
  have hl := lv_entry ([.ref (b + 0), .int p1, .int p2, .int p3]) (n := 8) (Nat.le_of_ble_eq_true rfl)
  rw [lg_entry_eq]
  generalize (lg_sl ([.ref (b + 0), .int p1, .int p2, .int p3]) ++ List.replicate (8 - (lg_sl ([.ref (b + 0), .int p1, .int p2, .int p3])).length) Slot.unset).toArray = ls at hl ⊢
  have hl : lv_has ls 8 [(0, .ref (b + 0)), (1, .int p1), (2, .int p2), (3, .int p3)] := hl
  refine lv_aload_n hx hb dX11_lacks_0 rfl (lv_at hl 0 rfl) ?_
  refine lv_iload_n hx hb dX11_lacks_1 rfl (lv_at hl 1 rfl) ?_
  refine gb_callq (va_runV (C := RX11) (As := [.int p1]) (rest := []) ⟨hx, hb, hml, hown, hq⟩ (f_X11_borderAt l D cT tt b1 b hb1 p1) (cwV 1 hq (gb_gV w_593 w_595 s_1_7 w_1 w_596) rfl rfl rfl (by decide +kernel) ⟨Nat.le_of_ble_eq_true rfl, Nat.le_of_ble_eq_true rfl⟩) (gb_preV (r := (RX11, TX11, 10)) (ci := 9) (q0 := 0) hSt hP rfl (gb_at b rfl) hS (fun q h => Nat.le_trans hb1 h.1) hP) rfl rfl hl.1 rfl (lv_room (Nat.le_of_ble_eq_true rfl)) dX11_lacks_2 ⟨Nat.le_of_ble_eq_true rfl, Nat.le_of_ble_eq_true rfl⟩) hS (fun _ h => h) (fun _ h => h) (fun r H locs hY hk hS => ?_)
  obtain ⟨hr9, hP⟩ := hY
  subst hr9
  refine W.eq (g2 := F0 m 5 ls [.null]) rfl ?_
  refine lv_astoreN (lv' := [(4, .null), (0, .ref (b + 0)), (1, .int p1), (2, .int p2), (3, .int p3)]) hx hb dX11_lacks_5 hl (by decide) rfl (fun ls hl => ?_)
  refine lv_aload_n hx hb dX11_lacks_7 rfl (lv_at hl 1 rfl) ?_
  refine lv_iload_n hx hb dX11_lacks_8 rfl (lv_at hl 4 rfl) ?_
  refine gb_callq (va_runV (C := RX11) (As := [.int p3]) (rest := []) ⟨hx, hb, hml, hown, hq⟩ (f_X11_dawnAt l D cT tt b1 b hb1 p3) (cwV 1 hq (gb_gV w_667 w_669 s_1_10 w_1 w_670) rfl rfl rfl (by decide +kernel) ⟨Nat.le_of_ble_eq_true rfl, Nat.le_of_ble_eq_true rfl⟩) (gb_preV (r := (RX11, TX11, 10)) (ci := 9) (q0 := 0) hSt hP rfl (gb_at b rfl) hS (fun q h => Nat.le_trans hb1 h.1) hP) rfl rfl hl.1 rfl (lv_room (Nat.le_of_ble_eq_true rfl)) dX11_lacks_9 ⟨Nat.le_of_ble_eq_true rfl, Nat.le_of_ble_eq_true rfl⟩) hS (fun _ h => h) (fun _ h => h) (fun r H locs hY hk hS => ?_)
  obtain ⟨hr9, hP⟩ := hY
  subst hr9
  refine W.eq (g2 := F0 m 12 ls [.null]) rfl ?_
  refine lv_astoreN (lv' := [(5, .null), (4, .null), (0, .ref (b + 0)), (1, .int p1), (2, .int p2), (3, .int p3)]) hx hb dX11_lacks_12 hl (by decide) rfl (fun ls hl => ?_)
  refine lv_aloadN hx hb dX11_lacks_14 (lv_at hl 1 rfl) ?_
  refine lv_ifnullN (tgt := 38) hx hb dX11_lacks_16 (by decide) ?_
  refine lv_iconst (v := (-1)) hx hb dX11_lacks_38 (by decide) ?_
  exact W.iret (v := (-1)) hx hb hr (fun t ht hW => gb_ri ht rfl hS) hS.2.2 dX11_lacks_39
theorem dX11_who_0 : decode cX11_who 0 = .ok (.aload_n 0, 1) := by decide +kernel
theorem dX11_who_1 : decode cX11_who 1 = .ok (.iload_n 1, 1) := by decide +kernel
theorem dX11_who_2 : decode cX11_who 2 = .ok (.invokevirtual 113, 3) := by decide +kernel
theorem dX11_who_5 : decode cX11_who 5 = .ok (.astore 5, 2) := by decide +kernel
theorem dX11_who_7 : decode cX11_who 7 = .ok (.aload_n 0, 1) := by decide +kernel
theorem dX11_who_8 : decode cX11_who 8 = .ok (.iload_n 2, 1) := by decide +kernel
theorem dX11_who_9 : decode cX11_who 9 = .ok (.invokevirtual 148, 3) := by decide +kernel
theorem dX11_who_12 : decode cX11_who 12 = .ok (.astore 6, 2) := by decide +kernel
theorem dX11_who_14 : decode cX11_who 14 = .ok (.aload 5, 2) := by decide +kernel
theorem dX11_who_16 : decode cX11_who 16 = .ok (.ifnull 28, 3) := by decide +kernel
theorem dX11_who_44 : decode cX11_who 44 = .ok (.iconst (-1), 1) := by decide +kernel
theorem dX11_who_45 : decode cX11_who 45 = .ok (.ireturn, 1) := by decide +kernel
set_option maxHeartbeats 4000000 in
set_option maxRecDepth 100000 in
theorem a_X11_who (l : Launch) (D : va_G) (cT : Nat → ClassId) (tt : Nat → Nat) (b1 b : Nat) (hb1 : b1 ≤ b) (p1 : Int32) (p2 : Int32) (p3 : Int32) (p4 : Int32) : Met l yX11_who (.code yX11_who cX11_who 9 (some FieldType.int) :: gb_wA) ({ frames := 1, cells := 0, slots := 0, locals := 21 }) (gb_Pc D cT tt b1 [.ref (b + 0), .int p1, .int p2, .int p3, .int p4] (fun h => va_P D vwCl (gb_wl b (gb_C cT b)) h)) (gb_Qi (fun r _ => r = (-1)) (gb_fr b 135)) 0 0 (gb_fr b 135) := by
  refine Met.ofW (cc := cX11_who) (maxL := 9) (ret := (some FieldType.int)) (by decide) rfl ?_
  intro p e s m args below meth c s₁ B hml hv
  obtain ⟨rfl, hSt, hP⟩ := hv
  have hx := B.exec
  have hb := B.bytes
  have hr := B.returns
  have hts := atoms_spec (ws := .code yX11_who cX11_who 9 (some FieldType.int) :: gb_wA) B.pre
  have hq : ∀ w ∈ gb_wA, w.before _ s = true := fun w h => hts w (List.mem_cons_of_mem _ h)
  have hown : s.vm.findClass RX11 = some m.cls := findClass_of_methodNamed B.named
  have hlocks := B.notSynchronized
  have hK := hSt.1
  have hS : va_S (gb_fr b 135) s.heap s.heap [] := va_S.rf
  have hl := lv_entry ([.ref (b + 0), .int p1, .int p2, .int p3, .int p4]) (n := 9) (Nat.le_of_ble_eq_true rfl)
  rw [lg_entry_eq]
  generalize (lg_sl ([.ref (b + 0), .int p1, .int p2, .int p3, .int p4]) ++ List.replicate (9 - (lg_sl ([.ref (b + 0), .int p1, .int p2, .int p3, .int p4])).length) Slot.unset).toArray = ls at hl ⊢
  have hl : lv_has ls 9 [(0, .ref (b + 0)), (1, .int p1), (2, .int p2), (3, .int p3), (4, .int p4)] := hl
  refine lv_aload_n hx hb dX11_who_0 rfl (lv_at hl 0 rfl) ?_
  refine lv_iload_n hx hb dX11_who_1 rfl (lv_at hl 1 rfl) ?_
  refine gb_callq (va_runV (C := RX11) (As := [.int p1]) (rest := []) ⟨hx, hb, hml, hown, hq⟩ (f_X11_borderAt l D cT tt b1 b hb1 p1) (cwV 1 hq (gb_gV w_593 w_595 s_1_7 w_1 w_596) rfl rfl rfl (by decide +kernel) ⟨Nat.le_of_ble_eq_true rfl, Nat.le_of_ble_eq_true rfl⟩) (gb_preV (r := (RX11, TX11, 10)) (ci := 9) (q0 := 0) hSt hP rfl (gb_at b rfl) hS (fun q h => Nat.le_trans hb1 h.1) hP) rfl rfl hl.1 rfl (lv_room (Nat.le_of_ble_eq_true rfl)) dX11_who_2 ⟨Nat.le_of_ble_eq_true rfl, Nat.le_of_ble_eq_true rfl⟩) hS (fun _ h => h) (fun _ h => h) (fun r H locs hY hk hS => ?_)
  obtain ⟨hr9, hP⟩ := hY
  subst hr9
  refine W.eq (g2 := F0 m 5 ls [.null]) rfl ?_
  refine lv_astoreN (lv' := [(5, .null), (0, .ref (b + 0)), (1, .int p1), (2, .int p2), (3, .int p3), (4, .int p4)]) hx hb dX11_who_5 hl (by decide) rfl (fun ls hl => ?_)
  refine lv_aload_n hx hb dX11_who_7 rfl (lv_at hl 1 rfl) ?_
  refine lv_iload_n hx hb dX11_who_8 rfl (lv_at hl 3 rfl) ?_
  refine gb_callq (va_runV (C := RX11) (As := [.int p2]) (rest := []) ⟨hx, hb, hml, hown, hq⟩ (f_X11_nightAt l D cT tt b1 b hb1 p2) (cwV 1 hq (gb_gV w_646 w_648 s_1_8 w_1 w_649) rfl rfl rfl (by decide +kernel) ⟨Nat.le_of_ble_eq_true rfl, Nat.le_of_ble_eq_true rfl⟩) (gb_preV (r := (RX11, TX11, 10)) (ci := 9) (q0 := 0) hSt hP rfl (gb_at b rfl) hS (fun q h => Nat.le_trans hb1 h.1) hP) rfl rfl hl.1 rfl (lv_room (Nat.le_of_ble_eq_true rfl)) dX11_who_9 ⟨Nat.le_of_ble_eq_true rfl, Nat.le_of_ble_eq_true rfl⟩) hS (fun _ h => h) (fun _ h => h) (fun r H locs hY hk hS => ?_)
  obtain ⟨hr9, hP⟩ := hY
  subst hr9
  refine W.eq (g2 := F0 m 12 ls [.null]) rfl ?_
  refine lv_astoreN (lv' := [(6, .null), (5, .null), (0, .ref (b + 0)), (1, .int p1), (2, .int p2), (3, .int p3), (4, .int p4)]) hx hb dX11_who_12 hl (by decide) rfl (fun ls hl => ?_)
  refine lv_aloadN hx hb dX11_who_14 (lv_at hl 1 rfl) ?_
  refine lv_ifnullN (tgt := 44) hx hb dX11_who_16 (by decide) ?_
  refine lv_iconst (v := (-1)) hx hb dX11_who_44 (by decide) ?_
  exact W.iret (v := (-1)) hx hb hr (fun t ht hW => gb_ri ht rfl hS) hS.2.2 dX11_who_45
theorem dX11_shift_0 : decode cX11_shift 0 = .ok (.aload_n 0, 1) := by decide +kernel
theorem dX11_shift_1 : decode cX11_shift 1 = .ok (.iload_n 1, 1) := by decide +kernel
theorem dX11_shift_2 : decode cX11_shift 2 = .ok (.invokevirtual 113, 3) := by decide +kernel
theorem dX11_shift_5 : decode cX11_shift 5 = .ok (.astore 4, 2) := by decide +kernel
theorem dX11_shift_7 : decode cX11_shift 7 = .ok (.aload_n 0, 1) := by decide +kernel
theorem dX11_shift_8 : decode cX11_shift 8 = .ok (.iload_n 2, 1) := by decide +kernel
theorem dX11_shift_9 : decode cX11_shift 9 = .ok (.invokevirtual 148, 3) := by decide +kernel
theorem dX11_shift_12 : decode cX11_shift 12 = .ok (.astore 5, 2) := by decide +kernel
theorem dX11_shift_14 : decode cX11_shift 14 = .ok (.aload 4, 2) := by decide +kernel
theorem dX11_shift_16 : decode cX11_shift 16 = .ok (.ifnull 19, 3) := by decide +kernel
theorem dX11_shift_35 : decode cX11_shift 35 = .ok (.iconst (-1), 1) := by decide +kernel
theorem dX11_shift_36 : decode cX11_shift 36 = .ok (.ireturn, 1) := by decide +kernel
set_option maxHeartbeats 4000000 in
set_option maxRecDepth 100000 in
theorem a_X11_shift (l : Launch) (D : va_G) (cT : Nat → ClassId) (tt : Nat → Nat) (b1 b : Nat) (hb1 : b1 ≤ b) (p1 : Int32) (p2 : Int32) (p3 : Int32) : Met l yX11_shift (.code yX11_shift cX11_shift 10 (some FieldType.int) :: gb_wA) ({ frames := 1, cells := 0, slots := 0, locals := 21 }) (gb_Pc D cT tt b1 [.ref (b + 0), .int p1, .int p2, .int p3] (fun h => va_P D vwCl (gb_wl b (gb_C cT b)) h)) (gb_Qi (fun r _ => r = (-1)) (gb_fr b 135)) 0 0 (gb_fr b 135) := by
  refine Met.ofW (cc := cX11_shift) (maxL := 10) (ret := (some FieldType.int)) (by decide) rfl ?_
  intro p e s m args below meth c s₁ B hml hv
  obtain ⟨rfl, hSt, hP⟩ := hv
  have hx := B.exec
  have hb := B.bytes
  have hr := B.returns
  have hts := atoms_spec (ws := .code yX11_shift cX11_shift 10 (some FieldType.int) :: gb_wA) B.pre
  have hq : ∀ w ∈ gb_wA, w.before _ s = true := fun w h => hts w (List.mem_cons_of_mem _ h)
  have hown : s.vm.findClass RX11 = some m.cls := findClass_of_methodNamed B.named
  have hlocks := B.notSynchronized
  have hK := hSt.1
  have hS : va_S (gb_fr b 135) s.heap s.heap [] := va_S.rf
  have hl := lv_entry ([.ref (b + 0), .int p1, .int p2, .int p3]) (n := 10) (Nat.le_of_ble_eq_true rfl)
  rw [lg_entry_eq]
  generalize (lg_sl ([.ref (b + 0), .int p1, .int p2, .int p3]) ++ List.replicate (10 - (lg_sl ([.ref (b + 0), .int p1, .int p2, .int p3])).length) Slot.unset).toArray = ls at hl ⊢
  have hl : lv_has ls 10 [(0, .ref (b + 0)), (1, .int p1), (2, .int p2), (3, .int p3)] := hl
  refine lv_aload_n hx hb dX11_shift_0 rfl (lv_at hl 0 rfl) ?_
  refine lv_iload_n hx hb dX11_shift_1 rfl (lv_at hl 1 rfl) ?_
  refine gb_callq (va_runV (C := RX11) (As := [.int p1]) (rest := []) ⟨hx, hb, hml, hown, hq⟩ (f_X11_borderAt l D cT tt b1 b hb1 p1) (cwV 1 hq (gb_gV w_593 w_595 s_1_7 w_1 w_596) rfl rfl rfl (by decide +kernel) ⟨Nat.le_of_ble_eq_true rfl, Nat.le_of_ble_eq_true rfl⟩) (gb_preV (r := (RX11, TX11, 10)) (ci := 9) (q0 := 0) hSt hP rfl (gb_at b rfl) hS (fun q h => Nat.le_trans hb1 h.1) hP) rfl rfl hl.1 rfl (lv_room (Nat.le_of_ble_eq_true rfl)) dX11_shift_2 ⟨Nat.le_of_ble_eq_true rfl, Nat.le_of_ble_eq_true rfl⟩) hS (fun _ h => h) (fun _ h => h) (fun r H locs hY hk hS => ?_)
  obtain ⟨hr9, hP⟩ := hY
  subst hr9
  refine W.eq (g2 := F0 m 5 ls [.null]) rfl ?_
  refine lv_astoreN (lv' := [(4, .null), (0, .ref (b + 0)), (1, .int p1), (2, .int p2), (3, .int p3)]) hx hb dX11_shift_5 hl (by decide) rfl (fun ls hl => ?_)
  refine lv_aload_n hx hb dX11_shift_7 rfl (lv_at hl 1 rfl) ?_
  refine lv_iload_n hx hb dX11_shift_8 rfl (lv_at hl 3 rfl) ?_
  refine gb_callq (va_runV (C := RX11) (As := [.int p2]) (rest := []) ⟨hx, hb, hml, hown, hq⟩ (f_X11_nightAt l D cT tt b1 b hb1 p2) (cwV 1 hq (gb_gV w_646 w_648 s_1_8 w_1 w_649) rfl rfl rfl (by decide +kernel) ⟨Nat.le_of_ble_eq_true rfl, Nat.le_of_ble_eq_true rfl⟩) (gb_preV (r := (RX11, TX11, 10)) (ci := 9) (q0 := 0) hSt hP rfl (gb_at b rfl) hS (fun q h => Nat.le_trans hb1 h.1) hP) rfl rfl hl.1 rfl (lv_room (Nat.le_of_ble_eq_true rfl)) dX11_shift_9 ⟨Nat.le_of_ble_eq_true rfl, Nat.le_of_ble_eq_true rfl⟩) hS (fun _ h => h) (fun _ h => h) (fun r H locs hY hk hS => ?_)
  obtain ⟨hr9, hP⟩ := hY
  subst hr9
  refine W.eq (g2 := F0 m 12 ls [.null]) rfl ?_
  refine lv_astoreN (lv' := [(5, .null), (4, .null), (0, .ref (b + 0)), (1, .int p1), (2, .int p2), (3, .int p3)]) hx hb dX11_shift_12 hl (by decide) rfl (fun ls hl => ?_)
  refine lv_aloadN hx hb dX11_shift_14 (lv_at hl 1 rfl) ?_
  refine lv_ifnullN (tgt := 35) hx hb dX11_shift_16 (by decide) ?_
  refine lv_iconst (v := (-1)) hx hb dX11_shift_35 (by decide) ?_
  exact W.iret (v := (-1)) hx hb hr (fun t ht hW => gb_ri ht rfl hS) hS.2.2 dX11_shift_36
theorem dX11_even_0 : decode cX11_even 0 = .ok (.aload_n 0, 1) := by decide +kernel
theorem dX11_even_1 : decode cX11_even 1 = .ok (.iload_n 1, 1) := by decide +kernel
theorem dX11_even_2 : decode cX11_even 2 = .ok (.invokevirtual 113, 3) := by decide +kernel
theorem dX11_even_5 : decode cX11_even 5 = .ok (.astore_n 3, 1) := by decide +kernel
theorem dX11_even_6 : decode cX11_even 6 = .ok (.aload_n 3, 1) := by decide +kernel
theorem dX11_even_7 : decode cX11_even 7 = .ok (.ifnull 10, 3) := by decide +kernel
theorem dX11_even_17 : decode cX11_even 17 = .ok (.iconst (-1), 1) := by decide +kernel
theorem dX11_even_18 : decode cX11_even 18 = .ok (.ireturn, 1) := by decide +kernel
set_option maxHeartbeats 4000000 in
set_option maxRecDepth 100000 in
theorem a_X11_even (l : Launch) (D : va_G) (cT : Nat → ClassId) (tt : Nat → Nat) (b1 b : Nat) (hb1 : b1 ≤ b) (p1 : Int32) (p2 : Int32) : Met l yX11_even (.code yX11_even cX11_even 4 (some FieldType.int) :: gb_wA) ({ frames := 1, cells := 0, slots := 0, locals := 21 }) (gb_Pc D cT tt b1 [.ref (b + 0), .int p1, .int p2] (fun h => va_P D vwCl (gb_wl b (gb_C cT b)) h)) (gb_Qi (fun r _ => r = (-1)) (gb_fr b 135)) 0 0 (gb_fr b 135) := by
  refine Met.ofW (cc := cX11_even) (maxL := 4) (ret := (some FieldType.int)) (by decide) rfl ?_
  intro p e s m args below meth c s₁ B hml hv
  obtain ⟨rfl, hSt, hP⟩ := hv
  have hx := B.exec
  have hb := B.bytes
  have hr := B.returns
  have hts := atoms_spec (ws := .code yX11_even cX11_even 4 (some FieldType.int) :: gb_wA) B.pre
  have hq : ∀ w ∈ gb_wA, w.before _ s = true := fun w h => hts w (List.mem_cons_of_mem _ h)
  have hown : s.vm.findClass RX11 = some m.cls := findClass_of_methodNamed B.named
  have hlocks := B.notSynchronized
  have hK := hSt.1
  have hS : va_S (gb_fr b 135) s.heap s.heap [] := va_S.rf
  have hl := lv_entry ([.ref (b + 0), .int p1, .int p2]) (n := 4) (Nat.le_of_ble_eq_true rfl)
  rw [lg_entry_eq]
  generalize (lg_sl ([.ref (b + 0), .int p1, .int p2]) ++ List.replicate (4 - (lg_sl ([.ref (b + 0), .int p1, .int p2])).length) Slot.unset).toArray = ls at hl ⊢
  have hl : lv_has ls 4 [(0, .ref (b + 0)), (1, .int p1), (2, .int p2)] := hl
  refine lv_aload_n hx hb dX11_even_0 rfl (lv_at hl 0 rfl) ?_
  refine lv_iload_n hx hb dX11_even_1 rfl (lv_at hl 1 rfl) ?_
  refine gb_callq (va_runV (C := RX11) (As := [.int p1]) (rest := []) ⟨hx, hb, hml, hown, hq⟩ (f_X11_borderAt l D cT tt b1 b hb1 p1) (cwV 1 hq (gb_gV w_593 w_595 s_1_7 w_1 w_596) rfl rfl rfl (by decide +kernel) ⟨Nat.le_of_ble_eq_true rfl, Nat.le_of_ble_eq_true rfl⟩) (gb_preV (r := (RX11, TX11, 10)) (ci := 9) (q0 := 0) hSt hP rfl (gb_at b rfl) hS (fun q h => Nat.le_trans hb1 h.1) hP) rfl rfl hl.1 rfl (lv_room (Nat.le_of_ble_eq_true rfl)) dX11_even_2 ⟨Nat.le_of_ble_eq_true rfl, Nat.le_of_ble_eq_true rfl⟩) hS (fun _ h => h) (fun _ h => h) (fun r H locs hY hk hS => ?_)
  obtain ⟨hr9, hP⟩ := hY
  subst hr9
  refine W.eq (g2 := F0 m 5 ls [.null]) rfl ?_
  refine lv_astore_nN (lv' := [(3, .null), (0, .ref (b + 0)), (1, .int p1), (2, .int p2)]) hx hb dX11_even_5 rfl hl (by decide) rfl (fun ls hl => ?_)
  refine lv_aload_nN hx hb dX11_even_6 rfl (lv_at hl 0 rfl) ?_
  refine lv_ifnullN (tgt := 17) hx hb dX11_even_7 (by decide) ?_
  refine lv_iconst (v := (-1)) hx hb dX11_even_17 (by decide) ?_
  exact W.iret (v := (-1)) hx hb hr (fun t ht hW => gb_ri ht rfl hS) hS.2.2 dX11_even_18
theorem dX11_richest_0 : decode cX11_richest 0 = .ok (.aload_n 0, 1) := by decide +kernel
theorem dX11_richest_1 : decode cX11_richest 1 = .ok (.iload_n 1, 1) := by decide +kernel
theorem dX11_richest_2 : decode cX11_richest 2 = .ok (.invokevirtual 113, 3) := by decide +kernel
theorem dX11_richest_5 : decode cX11_richest 5 = .ok (.astore 4, 2) := by decide +kernel
theorem dX11_richest_7 : decode cX11_richest 7 = .ok (.aload_n 0, 1) := by decide +kernel
theorem dX11_richest_8 : decode cX11_richest 8 = .ok (.iload_n 2, 1) := by decide +kernel
theorem dX11_richest_9 : decode cX11_richest 9 = .ok (.invokevirtual 156, 3) := by decide +kernel
theorem dX11_richest_12 : decode cX11_richest 12 = .ok (.astore 5, 2) := by decide +kernel
theorem dX11_richest_14 : decode cX11_richest 14 = .ok (.aload 4, 2) := by decide +kernel
theorem dX11_richest_16 : decode cX11_richest 16 = .ok (.ifnull 16, 3) := by decide +kernel
theorem dX11_richest_32 : decode cX11_richest 32 = .ok (.iconst (-1), 1) := by decide +kernel
theorem dX11_richest_33 : decode cX11_richest 33 = .ok (.ireturn, 1) := by decide +kernel
set_option maxHeartbeats 4000000 in
set_option maxRecDepth 100000 in
theorem a_X11_richest (l : Launch) (D : va_G) (cT : Nat → ClassId) (tt : Nat → Nat) (b1 b : Nat) (hb1 : b1 ≤ b) (p1 : Int32) (p2 : Int32) (p3 : Int32) : Met l yX11_richest (.code yX11_richest cX11_richest 6 (some FieldType.int) :: gb_wA) ({ frames := 1, cells := 0, slots := 0, locals := 21 }) (gb_Pc D cT tt b1 [.ref (b + 0), .int p1, .int p2, .int p3] (fun h => va_P D vwCl (gb_wl b (gb_C cT b)) h)) (gb_Qi (fun r _ => r = (-1)) (gb_fr b 135)) 0 0 (gb_fr b 135) := by
  refine Met.ofW (cc := cX11_richest) (maxL := 6) (ret := (some FieldType.int)) (by decide) rfl ?_
  intro p e s m args below meth c s₁ B hml hv
  obtain ⟨rfl, hSt, hP⟩ := hv
  have hx := B.exec
  have hb := B.bytes
  have hr := B.returns
  have hts := atoms_spec (ws := .code yX11_richest cX11_richest 6 (some FieldType.int) :: gb_wA) B.pre
  have hq : ∀ w ∈ gb_wA, w.before _ s = true := fun w h => hts w (List.mem_cons_of_mem _ h)
  have hown : s.vm.findClass RX11 = some m.cls := findClass_of_methodNamed B.named
  have hlocks := B.notSynchronized
  have hK := hSt.1
  have hS : va_S (gb_fr b 135) s.heap s.heap [] := va_S.rf
  have hl := lv_entry ([.ref (b + 0), .int p1, .int p2, .int p3]) (n := 6) (Nat.le_of_ble_eq_true rfl)
  rw [lg_entry_eq]
  generalize (lg_sl ([.ref (b + 0), .int p1, .int p2, .int p3]) ++ List.replicate (6 - (lg_sl ([.ref (b + 0), .int p1, .int p2, .int p3])).length) Slot.unset).toArray = ls at hl ⊢
  have hl : lv_has ls 6 [(0, .ref (b + 0)), (1, .int p1), (2, .int p2), (3, .int p3)] := hl
  refine lv_aload_n hx hb dX11_richest_0 rfl (lv_at hl 0 rfl) ?_
  refine lv_iload_n hx hb dX11_richest_1 rfl (lv_at hl 1 rfl) ?_
  refine gb_callq (va_runV (C := RX11) (As := [.int p1]) (rest := []) ⟨hx, hb, hml, hown, hq⟩ (f_X11_borderAt l D cT tt b1 b hb1 p1) (cwV 1 hq (gb_gV w_593 w_595 s_1_7 w_1 w_596) rfl rfl rfl (by decide +kernel) ⟨Nat.le_of_ble_eq_true rfl, Nat.le_of_ble_eq_true rfl⟩) (gb_preV (r := (RX11, TX11, 10)) (ci := 9) (q0 := 0) hSt hP rfl (gb_at b rfl) hS (fun q h => Nat.le_trans hb1 h.1) hP) rfl rfl hl.1 rfl (lv_room (Nat.le_of_ble_eq_true rfl)) dX11_richest_2 ⟨Nat.le_of_ble_eq_true rfl, Nat.le_of_ble_eq_true rfl⟩) hS (fun _ h => h) (fun _ h => h) (fun r H locs hY hk hS => ?_)
  obtain ⟨hr9, hP⟩ := hY
  subst hr9
  refine W.eq (g2 := F0 m 5 ls [.null]) rfl ?_
  refine lv_astoreN (lv' := [(4, .null), (0, .ref (b + 0)), (1, .int p1), (2, .int p2), (3, .int p3)]) hx hb dX11_richest_5 hl (by decide) rfl (fun ls hl => ?_)
  refine lv_aload_n hx hb dX11_richest_7 rfl (lv_at hl 1 rfl) ?_
  refine lv_iload_n hx hb dX11_richest_8 rfl (lv_at hl 3 rfl) ?_
  refine gb_callq (va_runV (C := RX11) (As := [.int p2]) (rest := []) ⟨hx, hb, hml, hown, hq⟩ (f_X11_lawAt l D cT tt b1 b hb1 p2) (cwV 1 hq (gb_gV w_659 w_661 s_1_9 w_1 w_662) rfl rfl rfl (by decide +kernel) ⟨Nat.le_of_ble_eq_true rfl, Nat.le_of_ble_eq_true rfl⟩) (gb_preV (r := (RX11, TX11, 10)) (ci := 9) (q0 := 0) hSt hP rfl (gb_at b rfl) hS (fun q h => Nat.le_trans hb1 h.1) hP) rfl rfl hl.1 rfl (lv_room (Nat.le_of_ble_eq_true rfl)) dX11_richest_9 ⟨Nat.le_of_ble_eq_true rfl, Nat.le_of_ble_eq_true rfl⟩) hS (fun _ h => h) (fun _ h => h) (fun r H locs hY hk hS => ?_)
  obtain ⟨hr9, hP⟩ := hY
  subst hr9
  refine W.eq (g2 := F0 m 12 ls [.null]) rfl ?_
  refine lv_astoreN (lv' := [(5, .null), (4, .null), (0, .ref (b + 0)), (1, .int p1), (2, .int p2), (3, .int p3)]) hx hb dX11_richest_12 hl (by decide) rfl (fun ls hl => ?_)
  refine lv_aloadN hx hb dX11_richest_14 (lv_at hl 1 rfl) ?_
  refine lv_ifnullN (tgt := 32) hx hb dX11_richest_16 (by decide) ?_
  refine lv_iconst (v := (-1)) hx hb dX11_richest_32 (by decide) ?_
  exact W.iret (v := (-1)) hx hb hr (fun t ht hW => gb_ri ht rfl hS) hS.2.2 dX11_richest_33
theorem dX11_close_0 : decode cX11_close 0 = .ok (.aload_n 0, 1) := by decide +kernel
theorem dX11_close_1 : decode cX11_close 1 = .ok (.iload_n 1, 1) := by decide +kernel
theorem dX11_close_2 : decode cX11_close 2 = .ok (.invokevirtual 113, 3) := by decide +kernel
theorem dX11_close_5 : decode cX11_close 5 = .ok (.astore_n 3, 1) := by decide +kernel
theorem dX11_close_6 : decode cX11_close 6 = .ok (.aload_n 3, 1) := by decide +kernel
theorem dX11_close_7 : decode cX11_close 7 = .ok (.ifnull 18, 3) := by decide +kernel
theorem dX11_close_25 : decode cX11_close 25 = .ok (.iconst (-1), 1) := by decide +kernel
theorem dX11_close_26 : decode cX11_close 26 = .ok (.ireturn, 1) := by decide +kernel
set_option maxHeartbeats 4000000 in
set_option maxRecDepth 100000 in
theorem a_X11_close (l : Launch) (D : va_G) (cT : Nat → ClassId) (tt : Nat → Nat) (b1 b : Nat) (hb1 : b1 ≤ b) (p1 : Int32) (p2 : Int32) : Met l yX11_close (.code yX11_close cX11_close 7 (some FieldType.int) :: gb_wA) ({ frames := 1, cells := 0, slots := 0, locals := 21 }) (gb_Pc D cT tt b1 [.ref (b + 0), .int p1, .int p2] (fun h => va_P D vwCl (gb_wl b (gb_C cT b)) h)) (gb_Qi (fun r _ => r = (-1)) (gb_fr b 135)) 0 0 (gb_fr b 135) := by
  refine Met.ofW (cc := cX11_close) (maxL := 7) (ret := (some FieldType.int)) (by decide) rfl ?_
  intro p e s m args below meth c s₁ B hml hv
  obtain ⟨rfl, hSt, hP⟩ := hv
  have hx := B.exec
  have hb := B.bytes
  have hr := B.returns
  have hts := atoms_spec (ws := .code yX11_close cX11_close 7 (some FieldType.int) :: gb_wA) B.pre
  have hq : ∀ w ∈ gb_wA, w.before _ s = true := fun w h => hts w (List.mem_cons_of_mem _ h)
  have hown : s.vm.findClass RX11 = some m.cls := findClass_of_methodNamed B.named
  have hlocks := B.notSynchronized
  have hK := hSt.1
  have hS : va_S (gb_fr b 135) s.heap s.heap [] := va_S.rf
  have hl := lv_entry ([.ref (b + 0), .int p1, .int p2]) (n := 7) (Nat.le_of_ble_eq_true rfl)
  rw [lg_entry_eq]
  generalize (lg_sl ([.ref (b + 0), .int p1, .int p2]) ++ List.replicate (7 - (lg_sl ([.ref (b + 0), .int p1, .int p2])).length) Slot.unset).toArray = ls at hl ⊢
  have hl : lv_has ls 7 [(0, .ref (b + 0)), (1, .int p1), (2, .int p2)] := hl
  refine lv_aload_n hx hb dX11_close_0 rfl (lv_at hl 0 rfl) ?_
  refine lv_iload_n hx hb dX11_close_1 rfl (lv_at hl 1 rfl) ?_
  refine gb_callq (va_runV (C := RX11) (As := [.int p1]) (rest := []) ⟨hx, hb, hml, hown, hq⟩ (f_X11_borderAt l D cT tt b1 b hb1 p1) (cwV 1 hq (gb_gV w_593 w_595 s_1_7 w_1 w_596) rfl rfl rfl (by decide +kernel) ⟨Nat.le_of_ble_eq_true rfl, Nat.le_of_ble_eq_true rfl⟩) (gb_preV (r := (RX11, TX11, 10)) (ci := 9) (q0 := 0) hSt hP rfl (gb_at b rfl) hS (fun q h => Nat.le_trans hb1 h.1) hP) rfl rfl hl.1 rfl (lv_room (Nat.le_of_ble_eq_true rfl)) dX11_close_2 ⟨Nat.le_of_ble_eq_true rfl, Nat.le_of_ble_eq_true rfl⟩) hS (fun _ h => h) (fun _ h => h) (fun r H locs hY hk hS => ?_)
  obtain ⟨hr9, hP⟩ := hY
  subst hr9
  refine W.eq (g2 := F0 m 5 ls [.null]) rfl ?_
  refine lv_astore_nN (lv' := [(3, .null), (0, .ref (b + 0)), (1, .int p1), (2, .int p2)]) hx hb dX11_close_5 rfl hl (by decide) rfl (fun ls hl => ?_)
  refine lv_aload_nN hx hb dX11_close_6 rfl (lv_at hl 0 rfl) ?_
  refine lv_ifnullN (tgt := 25) hx hb dX11_close_7 (by decide) ?_
  refine lv_iconst (v := (-1)) hx hb dX11_close_25 (by decide) ?_
  exact W.iret (v := (-1)) hx hb hr (fun t ht hW => gb_ri ht rfl hS) hS.2.2 dX11_close_26
theorem dX11_tar_0 : decode cX11_tar 0 = .ok (.aload_n 0, 1) := by decide +kernel
theorem dX11_tar_1 : decode cX11_tar 1 = .ok (.iload_n 1, 1) := by decide +kernel
theorem dX11_tar_2 : decode cX11_tar 2 = .ok (.invokevirtual 113, 3) := by decide +kernel
theorem dX11_tar_5 : decode cX11_tar 5 = .ok (.astore 4, 2) := by decide +kernel
theorem dX11_tar_7 : decode cX11_tar 7 = .ok (.aload 4, 2) := by decide +kernel
theorem dX11_tar_9 : decode cX11_tar 9 = .ok (.ifnull 23, 3) := by decide +kernel
theorem dX11_tar_32 : decode cX11_tar 32 = .ok (.iconst (-1), 1) := by decide +kernel
theorem dX11_tar_33 : decode cX11_tar 33 = .ok (.ireturn, 1) := by decide +kernel
set_option maxHeartbeats 4000000 in
set_option maxRecDepth 100000 in
theorem a_X11_tar (l : Launch) (D : va_G) (cT : Nat → ClassId) (tt : Nat → Nat) (b1 b : Nat) (hb1 : b1 ≤ b) (p1 : Int32) (p2 : Int32) (p3 : Int32) : Met l yX11_tar (.code yX11_tar cX11_tar 9 (some FieldType.int) :: gb_wA) ({ frames := 1, cells := 0, slots := 0, locals := 21 }) (gb_Pc D cT tt b1 [.ref (b + 0), .int p1, .int p2, .int p3] (fun h => va_P D vwCl (gb_wl b (gb_C cT b)) h)) (gb_Qi (fun r _ => r = (-1)) (gb_fr b 135)) 0 0 (gb_fr b 135) := by
  refine Met.ofW (cc := cX11_tar) (maxL := 9) (ret := (some FieldType.int)) (by decide) rfl ?_
  intro p e s m args below meth c s₁ B hml hv
  obtain ⟨rfl, hSt, hP⟩ := hv
  have hx := B.exec
  have hb := B.bytes
  have hr := B.returns
  have hts := atoms_spec (ws := .code yX11_tar cX11_tar 9 (some FieldType.int) :: gb_wA) B.pre
  have hq : ∀ w ∈ gb_wA, w.before _ s = true := fun w h => hts w (List.mem_cons_of_mem _ h)
  have hown : s.vm.findClass RX11 = some m.cls := findClass_of_methodNamed B.named
  have hlocks := B.notSynchronized
  have hK := hSt.1
  have hS : va_S (gb_fr b 135) s.heap s.heap [] := va_S.rf
  have hl := lv_entry ([.ref (b + 0), .int p1, .int p2, .int p3]) (n := 9) (Nat.le_of_ble_eq_true rfl)
  rw [lg_entry_eq]
  generalize (lg_sl ([.ref (b + 0), .int p1, .int p2, .int p3]) ++ List.replicate (9 - (lg_sl ([.ref (b + 0), .int p1, .int p2, .int p3])).length) Slot.unset).toArray = ls at hl ⊢
  have hl : lv_has ls 9 [(0, .ref (b + 0)), (1, .int p1), (2, .int p2), (3, .int p3)] := hl
  refine lv_aload_n hx hb dX11_tar_0 rfl (lv_at hl 0 rfl) ?_
  refine lv_iload_n hx hb dX11_tar_1 rfl (lv_at hl 1 rfl) ?_
  refine gb_callq (va_runV (C := RX11) (As := [.int p1]) (rest := []) ⟨hx, hb, hml, hown, hq⟩ (f_X11_borderAt l D cT tt b1 b hb1 p1) (cwV 1 hq (gb_gV w_593 w_595 s_1_7 w_1 w_596) rfl rfl rfl (by decide +kernel) ⟨Nat.le_of_ble_eq_true rfl, Nat.le_of_ble_eq_true rfl⟩) (gb_preV (r := (RX11, TX11, 10)) (ci := 9) (q0 := 0) hSt hP rfl (gb_at b rfl) hS (fun q h => Nat.le_trans hb1 h.1) hP) rfl rfl hl.1 rfl (lv_room (Nat.le_of_ble_eq_true rfl)) dX11_tar_2 ⟨Nat.le_of_ble_eq_true rfl, Nat.le_of_ble_eq_true rfl⟩) hS (fun _ h => h) (fun _ h => h) (fun r H locs hY hk hS => ?_)
  obtain ⟨hr9, hP⟩ := hY
  subst hr9
  refine W.eq (g2 := F0 m 5 ls [.null]) rfl ?_
  refine lv_astoreN (lv' := [(4, .null), (0, .ref (b + 0)), (1, .int p1), (2, .int p2), (3, .int p3)]) hx hb dX11_tar_5 hl (by decide) rfl (fun ls hl => ?_)
  refine lv_aloadN hx hb dX11_tar_7 (lv_at hl 0 rfl) ?_
  refine lv_ifnullN (tgt := 32) hx hb dX11_tar_9 (by decide) ?_
  refine lv_iconst (v := (-1)) hx hb dX11_tar_32 (by decide) ?_
  exact W.iret (v := (-1)) hx hb hr (fun t ht hW => gb_ri ht rfl hS) hS.2.2 dX11_tar_33
theorem dX11_lame_0 : decode cX11_lame 0 = .ok (.aload_n 0, 1) := by decide +kernel
theorem dX11_lame_1 : decode cX11_lame 1 = .ok (.iload_n 1, 1) := by decide +kernel
theorem dX11_lame_2 : decode cX11_lame 2 = .ok (.invokevirtual 113, 3) := by decide +kernel
theorem dX11_lame_5 : decode cX11_lame 5 = .ok (.astore 4, 2) := by decide +kernel
theorem dX11_lame_7 : decode cX11_lame 7 = .ok (.aload 4, 2) := by decide +kernel
theorem dX11_lame_9 : decode cX11_lame 9 = .ok (.ifnonnull 5, 3) := by decide +kernel
theorem dX11_lame_12 : decode cX11_lame 12 = .ok (.iconst (-1), 1) := by decide +kernel
theorem dX11_lame_13 : decode cX11_lame 13 = .ok (.ireturn, 1) := by decide +kernel
set_option maxHeartbeats 4000000 in
set_option maxRecDepth 100000 in
theorem a_X11_lame (l : Launch) (D : va_G) (cT : Nat → ClassId) (tt : Nat → Nat) (b1 b : Nat) (hb1 : b1 ≤ b) (p1 : Int32) (p2 : Int32) (p3 : Int32) : Met l yX11_lame (.code yX11_lame cX11_lame 9 (some FieldType.int) :: gb_wA) ({ frames := 1, cells := 0, slots := 0, locals := 21 }) (gb_Pc D cT tt b1 [.ref (b + 0), .int p1, .int p2, .int p3] (fun h => va_P D vwCl (gb_wl b (gb_C cT b)) h)) (gb_Qi (fun r _ => r = (-1)) (gb_fr b 135)) 0 0 (gb_fr b 135) := by
  refine Met.ofW (cc := cX11_lame) (maxL := 9) (ret := (some FieldType.int)) (by decide) rfl ?_
  intro p e s m args below meth c s₁ B hml hv
  obtain ⟨rfl, hSt, hP⟩ := hv
  have hx := B.exec
  have hb := B.bytes
  have hr := B.returns
  have hts := atoms_spec (ws := .code yX11_lame cX11_lame 9 (some FieldType.int) :: gb_wA) B.pre
  have hq : ∀ w ∈ gb_wA, w.before _ s = true := fun w h => hts w (List.mem_cons_of_mem _ h)
  have hown : s.vm.findClass RX11 = some m.cls := findClass_of_methodNamed B.named
  have hlocks := B.notSynchronized
  have hK := hSt.1
  have hS : va_S (gb_fr b 135) s.heap s.heap [] := va_S.rf
  have hl := lv_entry ([.ref (b + 0), .int p1, .int p2, .int p3]) (n := 9) (Nat.le_of_ble_eq_true rfl)
  rw [lg_entry_eq]
  generalize (lg_sl ([.ref (b + 0), .int p1, .int p2, .int p3]) ++ List.replicate (9 - (lg_sl ([.ref (b + 0), .int p1, .int p2, .int p3])).length) Slot.unset).toArray = ls at hl ⊢
  have hl : lv_has ls 9 [(0, .ref (b + 0)), (1, .int p1), (2, .int p2), (3, .int p3)] := hl
  refine lv_aload_n hx hb dX11_lame_0 rfl (lv_at hl 0 rfl) ?_
  refine lv_iload_n hx hb dX11_lame_1 rfl (lv_at hl 1 rfl) ?_
  refine gb_callq (va_runV (C := RX11) (As := [.int p1]) (rest := []) ⟨hx, hb, hml, hown, hq⟩ (f_X11_borderAt l D cT tt b1 b hb1 p1) (cwV 1 hq (gb_gV w_593 w_595 s_1_7 w_1 w_596) rfl rfl rfl (by decide +kernel) ⟨Nat.le_of_ble_eq_true rfl, Nat.le_of_ble_eq_true rfl⟩) (gb_preV (r := (RX11, TX11, 10)) (ci := 9) (q0 := 0) hSt hP rfl (gb_at b rfl) hS (fun q h => Nat.le_trans hb1 h.1) hP) rfl rfl hl.1 rfl (lv_room (Nat.le_of_ble_eq_true rfl)) dX11_lame_2 ⟨Nat.le_of_ble_eq_true rfl, Nat.le_of_ble_eq_true rfl⟩) hS (fun _ h => h) (fun _ h => h) (fun r H locs hY hk hS => ?_)
  obtain ⟨hr9, hP⟩ := hY
  subst hr9
  refine W.eq (g2 := F0 m 5 ls [.null]) rfl ?_
  refine lv_astoreN (lv' := [(4, .null), (0, .ref (b + 0)), (1, .int p1), (2, .int p2), (3, .int p3)]) hx hb dX11_lame_5 hl (by decide) rfl (fun ls hl => ?_)
  refine lv_aloadN hx hb dX11_lame_7 (lv_at hl 0 rfl) ?_
  refine lv_ifnonnullN hx hb dX11_lame_9 ?_
  refine lv_iconst (v := (-1)) hx hb dX11_lame_12 (by decide) ?_
  exact W.iret (v := (-1)) hx hb hr (fun t ht hW => gb_ri ht rfl hS) hS.2.2 dX11_lame_13
theorem dX11_two_0 : decode cX11_two 0 = .ok (.aload_n 0, 1) := by decide +kernel
theorem dX11_two_1 : decode cX11_two 1 = .ok (.iload_n 1, 1) := by decide +kernel
theorem dX11_two_2 : decode cX11_two 2 = .ok (.invokevirtual 113, 3) := by decide +kernel
theorem dX11_two_5 : decode cX11_two 5 = .ok (.astore 5, 2) := by decide +kernel
theorem dX11_two_7 : decode cX11_two 7 = .ok (.aload_n 0, 1) := by decide +kernel
theorem dX11_two_8 : decode cX11_two 8 = .ok (.iload_n 3, 1) := by decide +kernel
theorem dX11_two_9 : decode cX11_two 9 = .ok (.invokevirtual 113, 3) := by decide +kernel
theorem dX11_two_12 : decode cX11_two 12 = .ok (.astore 6, 2) := by decide +kernel
theorem dX11_two_14 : decode cX11_two 14 = .ok (.aload 5, 2) := by decide +kernel
theorem dX11_two_16 : decode cX11_two 16 = .ok (.ifnull 28, 3) := by decide +kernel
theorem dX11_two_44 : decode cX11_two 44 = .ok (.iconst (-1), 1) := by decide +kernel
theorem dX11_two_45 : decode cX11_two 45 = .ok (.ireturn, 1) := by decide +kernel
set_option maxHeartbeats 4000000 in
set_option maxRecDepth 100000 in
theorem a_X11_two (l : Launch) (D : va_G) (cT : Nat → ClassId) (tt : Nat → Nat) (b1 b : Nat) (hb1 : b1 ≤ b) (p1 : Int32) (p2 : Int32) (p3 : Int32) (p4 : Int32) : Met l yX11_two (.code yX11_two cX11_two 15 (some FieldType.int) :: gb_wA) ({ frames := 1, cells := 0, slots := 0, locals := 21 }) (gb_Pc D cT tt b1 [.ref (b + 0), .int p1, .int p2, .int p3, .int p4] (fun h => va_P D vwCl (gb_wl b (gb_C cT b)) h)) (gb_Qi (fun r _ => r = (-1)) (gb_fr b 135)) 0 0 (gb_fr b 135) := by
  refine Met.ofW (cc := cX11_two) (maxL := 15) (ret := (some FieldType.int)) (by decide) rfl ?_
  intro p e s m args below meth c s₁ B hml hv
  obtain ⟨rfl, hSt, hP⟩ := hv
  have hx := B.exec
  have hb := B.bytes
  have hr := B.returns
  have hts := atoms_spec (ws := .code yX11_two cX11_two 15 (some FieldType.int) :: gb_wA) B.pre
  have hq : ∀ w ∈ gb_wA, w.before _ s = true := fun w h => hts w (List.mem_cons_of_mem _ h)
  have hown : s.vm.findClass RX11 = some m.cls := findClass_of_methodNamed B.named
  have hlocks := B.notSynchronized
  have hK := hSt.1
  have hS : va_S (gb_fr b 135) s.heap s.heap [] := va_S.rf
  have hl := lv_entry ([.ref (b + 0), .int p1, .int p2, .int p3, .int p4]) (n := 15) (Nat.le_of_ble_eq_true rfl)
  rw [lg_entry_eq]
  generalize (lg_sl ([.ref (b + 0), .int p1, .int p2, .int p3, .int p4]) ++ List.replicate (15 - (lg_sl ([.ref (b + 0), .int p1, .int p2, .int p3, .int p4])).length) Slot.unset).toArray = ls at hl ⊢
  have hl : lv_has ls 15 [(0, .ref (b + 0)), (1, .int p1), (2, .int p2), (3, .int p3), (4, .int p4)] := hl
  refine lv_aload_n hx hb dX11_two_0 rfl (lv_at hl 0 rfl) ?_
  refine lv_iload_n hx hb dX11_two_1 rfl (lv_at hl 1 rfl) ?_
  refine gb_callq (va_runV (C := RX11) (As := [.int p1]) (rest := []) ⟨hx, hb, hml, hown, hq⟩ (f_X11_borderAt l D cT tt b1 b hb1 p1) (cwV 1 hq (gb_gV w_593 w_595 s_1_7 w_1 w_596) rfl rfl rfl (by decide +kernel) ⟨Nat.le_of_ble_eq_true rfl, Nat.le_of_ble_eq_true rfl⟩) (gb_preV (r := (RX11, TX11, 10)) (ci := 9) (q0 := 0) hSt hP rfl (gb_at b rfl) hS (fun q h => Nat.le_trans hb1 h.1) hP) rfl rfl hl.1 rfl (lv_room (Nat.le_of_ble_eq_true rfl)) dX11_two_2 ⟨Nat.le_of_ble_eq_true rfl, Nat.le_of_ble_eq_true rfl⟩) hS (fun _ h => h) (fun _ h => h) (fun r H locs hY hk hS => ?_)
  obtain ⟨hr9, hP⟩ := hY
  subst hr9
  refine W.eq (g2 := F0 m 5 ls [.null]) rfl ?_
  refine lv_astoreN (lv' := [(5, .null), (0, .ref (b + 0)), (1, .int p1), (2, .int p2), (3, .int p3), (4, .int p4)]) hx hb dX11_two_5 hl (by decide) rfl (fun ls hl => ?_)
  refine lv_aload_n hx hb dX11_two_7 rfl (lv_at hl 1 rfl) ?_
  refine lv_iload_n hx hb dX11_two_8 rfl (lv_at hl 4 rfl) ?_
  refine gb_callq (va_runV (C := RX11) (As := [.int p3]) (rest := []) ⟨hx, hb, hml, hown, hq⟩ (f_X11_borderAt l D cT tt b1 b hb1 p3) (cwV 1 hq (gb_gV w_593 w_595 s_1_7 w_1 w_596) rfl rfl rfl (by decide +kernel) ⟨Nat.le_of_ble_eq_true rfl, Nat.le_of_ble_eq_true rfl⟩) (gb_preV (r := (RX11, TX11, 10)) (ci := 9) (q0 := 0) hSt hP rfl (gb_at b rfl) hS (fun q h => Nat.le_trans hb1 h.1) hP) rfl rfl hl.1 rfl (lv_room (Nat.le_of_ble_eq_true rfl)) dX11_two_9 ⟨Nat.le_of_ble_eq_true rfl, Nat.le_of_ble_eq_true rfl⟩) hS (fun _ h => h) (fun _ h => h) (fun r H locs hY hk hS => ?_)
  obtain ⟨hr9, hP⟩ := hY
  subst hr9
  refine W.eq (g2 := F0 m 12 ls [.null]) rfl ?_
  refine lv_astoreN (lv' := [(6, .null), (5, .null), (0, .ref (b + 0)), (1, .int p1), (2, .int p2), (3, .int p3), (4, .int p4)]) hx hb dX11_two_12 hl (by decide) rfl (fun ls hl => ?_)
  refine lv_aloadN hx hb dX11_two_14 (lv_at hl 1 rfl) ?_
  refine lv_ifnullN (tgt := 44) hx hb dX11_two_16 (by decide) ?_
  refine lv_iconst (v := (-1)) hx hb dX11_two_44 (by decide) ?_
  exact W.iret (v := (-1)) hx hb hr (fun t ht hW => gb_ri ht rfl hS) hS.2.2 dX11_two_45
theorem dX11_alike_0 : decode cX11_alike 0 = .ok (.aload_n 0, 1) := by decide +kernel
theorem dX11_alike_1 : decode cX11_alike 1 = .ok (.iload_n 1, 1) := by decide +kernel
theorem dX11_alike_2 : decode cX11_alike 2 = .ok (.invokevirtual 113, 3) := by decide +kernel
theorem dX11_alike_5 : decode cX11_alike 5 = .ok (.astore 4, 2) := by decide +kernel
theorem dX11_alike_7 : decode cX11_alike 7 = .ok (.aload 4, 2) := by decide +kernel
theorem dX11_alike_9 : decode cX11_alike 9 = .ok (.ifnull 26, 3) := by decide +kernel
theorem dX11_alike_35 : decode cX11_alike 35 = .ok (.iconst (-1), 1) := by decide +kernel
theorem dX11_alike_36 : decode cX11_alike 36 = .ok (.ireturn, 1) := by decide +kernel
set_option maxHeartbeats 4000000 in
set_option maxRecDepth 100000 in
theorem a_X11_alike (l : Launch) (D : va_G) (cT : Nat → ClassId) (tt : Nat → Nat) (b1 b : Nat) (hb1 : b1 ≤ b) (p1 : Int32) (p2 : Int32) (p3 : Int32) : Met l yX11_alike (.code yX11_alike cX11_alike 7 (some FieldType.int) :: gb_wA) ({ frames := 1, cells := 0, slots := 0, locals := 21 }) (gb_Pc D cT tt b1 [.ref (b + 0), .int p1, .int p2, .int p3] (fun h => va_P D vwCl (gb_wl b (gb_C cT b)) h)) (gb_Qi (fun r _ => r = (-1)) (gb_fr b 135)) 0 0 (gb_fr b 135) := by
  refine Met.ofW (cc := cX11_alike) (maxL := 7) (ret := (some FieldType.int)) (by decide) rfl ?_
  intro p e s m args below meth c s₁ B hml hv
  obtain ⟨rfl, hSt, hP⟩ := hv
  have hx := B.exec
  have hb := B.bytes
  have hr := B.returns
  have hts := atoms_spec (ws := .code yX11_alike cX11_alike 7 (some FieldType.int) :: gb_wA) B.pre
  have hq : ∀ w ∈ gb_wA, w.before _ s = true := fun w h => hts w (List.mem_cons_of_mem _ h)
  have hown : s.vm.findClass RX11 = some m.cls := findClass_of_methodNamed B.named
  have hlocks := B.notSynchronized
  have hK := hSt.1
  have hS : va_S (gb_fr b 135) s.heap s.heap [] := va_S.rf
  have hl := lv_entry ([.ref (b + 0), .int p1, .int p2, .int p3]) (n := 7) (Nat.le_of_ble_eq_true rfl)
  rw [lg_entry_eq]
  generalize (lg_sl ([.ref (b + 0), .int p1, .int p2, .int p3]) ++ List.replicate (7 - (lg_sl ([.ref (b + 0), .int p1, .int p2, .int p3])).length) Slot.unset).toArray = ls at hl ⊢
  have hl : lv_has ls 7 [(0, .ref (b + 0)), (1, .int p1), (2, .int p2), (3, .int p3)] := hl
  refine lv_aload_n hx hb dX11_alike_0 rfl (lv_at hl 0 rfl) ?_
  refine lv_iload_n hx hb dX11_alike_1 rfl (lv_at hl 1 rfl) ?_
  refine gb_callq (va_runV (C := RX11) (As := [.int p1]) (rest := []) ⟨hx, hb, hml, hown, hq⟩ (f_X11_borderAt l D cT tt b1 b hb1 p1) (cwV 1 hq (gb_gV w_593 w_595 s_1_7 w_1 w_596) rfl rfl rfl (by decide +kernel) ⟨Nat.le_of_ble_eq_true rfl, Nat.le_of_ble_eq_true rfl⟩) (gb_preV (r := (RX11, TX11, 10)) (ci := 9) (q0 := 0) hSt hP rfl (gb_at b rfl) hS (fun q h => Nat.le_trans hb1 h.1) hP) rfl rfl hl.1 rfl (lv_room (Nat.le_of_ble_eq_true rfl)) dX11_alike_2 ⟨Nat.le_of_ble_eq_true rfl, Nat.le_of_ble_eq_true rfl⟩) hS (fun _ h => h) (fun _ h => h) (fun r H locs hY hk hS => ?_)
  obtain ⟨hr9, hP⟩ := hY
  subst hr9
  refine W.eq (g2 := F0 m 5 ls [.null]) rfl ?_
  refine lv_astoreN (lv' := [(4, .null), (0, .ref (b + 0)), (1, .int p1), (2, .int p2), (3, .int p3)]) hx hb dX11_alike_5 hl (by decide) rfl (fun ls hl => ?_)
  refine lv_aloadN hx hb dX11_alike_7 (lv_at hl 0 rfl) ?_
  refine lv_ifnullN (tgt := 35) hx hb dX11_alike_9 (by decide) ?_
  refine lv_iconst (v := (-1)) hx hb dX11_alike_35 (by decide) ?_
  exact W.iret (v := (-1)) hx hb hr (fun t ht hW => gb_ri ht rfl hS) hS.2.2 dX11_alike_36
theorem dX11_span_0 : decode cX11_span 0 = .ok (.aload_n 0, 1) := by decide +kernel
theorem dX11_span_1 : decode cX11_span 1 = .ok (.iload_n 1, 1) := by decide +kernel
theorem dX11_span_2 : decode cX11_span 2 = .ok (.invokevirtual 113, 3) := by decide +kernel
theorem dX11_span_5 : decode cX11_span 5 = .ok (.astore 5, 2) := by decide +kernel
theorem dX11_span_7 : decode cX11_span 7 = .ok (.aload 5, 2) := by decide +kernel
theorem dX11_span_9 : decode cX11_span 9 = .ok (.ifnull 25, 3) := by decide +kernel
theorem dX11_span_34 : decode cX11_span 34 = .ok (.iconst (-1), 1) := by decide +kernel
theorem dX11_span_35 : decode cX11_span 35 = .ok (.ireturn, 1) := by decide +kernel
set_option maxHeartbeats 4000000 in
set_option maxRecDepth 100000 in
theorem a_X11_span (l : Launch) (D : va_G) (cT : Nat → ClassId) (tt : Nat → Nat) (b1 b : Nat) (hb1 : b1 ≤ b) (p1 : Int32) (p2 : Int32) (p3 : Int32) (p4 : Int32) : Met l yX11_span (.code yX11_span cX11_span 6 (some FieldType.int) :: gb_wA) ({ frames := 1, cells := 0, slots := 0, locals := 21 }) (gb_Pc D cT tt b1 [.ref (b + 0), .int p1, .int p2, .int p3, .int p4] (fun h => va_P D vwCl (gb_wl b (gb_C cT b)) h)) (gb_Qi (fun r _ => r = (-1)) (gb_fr b 135)) 0 0 (gb_fr b 135) := by
  refine Met.ofW (cc := cX11_span) (maxL := 6) (ret := (some FieldType.int)) (by decide) rfl ?_
  intro p e s m args below meth c s₁ B hml hv
  obtain ⟨rfl, hSt, hP⟩ := hv
  have hx := B.exec
  have hb := B.bytes
  have hr := B.returns
  have hts := atoms_spec (ws := .code yX11_span cX11_span 6 (some FieldType.int) :: gb_wA) B.pre
  have hq : ∀ w ∈ gb_wA, w.before _ s = true := fun w h => hts w (List.mem_cons_of_mem _ h)
  have hown : s.vm.findClass RX11 = some m.cls := findClass_of_methodNamed B.named
  have hlocks := B.notSynchronized
  have hK := hSt.1
  have hS : va_S (gb_fr b 135) s.heap s.heap [] := va_S.rf
  have hl := lv_entry ([.ref (b + 0), .int p1, .int p2, .int p3, .int p4]) (n := 6) (Nat.le_of_ble_eq_true rfl)
  rw [lg_entry_eq]
  generalize (lg_sl ([.ref (b + 0), .int p1, .int p2, .int p3, .int p4]) ++ List.replicate (6 - (lg_sl ([.ref (b + 0), .int p1, .int p2, .int p3, .int p4])).length) Slot.unset).toArray = ls at hl ⊢
  have hl : lv_has ls 6 [(0, .ref (b + 0)), (1, .int p1), (2, .int p2), (3, .int p3), (4, .int p4)] := hl
  refine lv_aload_n hx hb dX11_span_0 rfl (lv_at hl 0 rfl) ?_
  refine lv_iload_n hx hb dX11_span_1 rfl (lv_at hl 1 rfl) ?_
  refine gb_callq (va_runV (C := RX11) (As := [.int p1]) (rest := []) ⟨hx, hb, hml, hown, hq⟩ (f_X11_borderAt l D cT tt b1 b hb1 p1) (cwV 1 hq (gb_gV w_593 w_595 s_1_7 w_1 w_596) rfl rfl rfl (by decide +kernel) ⟨Nat.le_of_ble_eq_true rfl, Nat.le_of_ble_eq_true rfl⟩) (gb_preV (r := (RX11, TX11, 10)) (ci := 9) (q0 := 0) hSt hP rfl (gb_at b rfl) hS (fun q h => Nat.le_trans hb1 h.1) hP) rfl rfl hl.1 rfl (lv_room (Nat.le_of_ble_eq_true rfl)) dX11_span_2 ⟨Nat.le_of_ble_eq_true rfl, Nat.le_of_ble_eq_true rfl⟩) hS (fun _ h => h) (fun _ h => h) (fun r H locs hY hk hS => ?_)
  obtain ⟨hr9, hP⟩ := hY
  subst hr9
  refine W.eq (g2 := F0 m 5 ls [.null]) rfl ?_
  refine lv_astoreN (lv' := [(5, .null), (0, .ref (b + 0)), (1, .int p1), (2, .int p2), (3, .int p3), (4, .int p4)]) hx hb dX11_span_5 hl (by decide) rfl (fun ls hl => ?_)
  refine lv_aloadN hx hb dX11_span_7 (lv_at hl 0 rfl) ?_
  refine lv_ifnullN (tgt := 34) hx hb dX11_span_9 (by decide) ?_
  refine lv_iconst (v := (-1)) hx hb dX11_span_34 (by decide) ?_
  exact W.iret (v := (-1)) hx hb hr (fun t ht hW => gb_ri ht rfl hS) hS.2.2 dX11_span_35
theorem dX11_split_0 : decode cX11_split 0 = .ok (.aload_n 0, 1) := by decide +kernel
theorem dX11_split_1 : decode cX11_split 1 = .ok (.iload_n 1, 1) := by decide +kernel
theorem dX11_split_2 : decode cX11_split 2 = .ok (.invokevirtual 113, 3) := by decide +kernel
theorem dX11_split_5 : decode cX11_split 5 = .ok (.astore 5, 2) := by decide +kernel
theorem dX11_split_7 : decode cX11_split 7 = .ok (.aload 5, 2) := by decide +kernel
theorem dX11_split_9 : decode cX11_split 9 = .ok (.ifnull 26, 3) := by decide +kernel
theorem dX11_split_35 : decode cX11_split 35 = .ok (.iconst (-1), 1) := by decide +kernel
theorem dX11_split_36 : decode cX11_split 36 = .ok (.ireturn, 1) := by decide +kernel
set_option maxHeartbeats 4000000 in
set_option maxRecDepth 100000 in
theorem a_X11_split (l : Launch) (D : va_G) (cT : Nat → ClassId) (tt : Nat → Nat) (b1 b : Nat) (hb1 : b1 ≤ b) (p1 : Int32) (p2 : Int32) (p3 : Int32) (p4 : Int32) : Met l yX11_split (.code yX11_split cX11_split 7 (some FieldType.int) :: gb_wA) ({ frames := 1, cells := 0, slots := 0, locals := 21 }) (gb_Pc D cT tt b1 [.ref (b + 0), .int p1, .int p2, .int p3, .int p4] (fun h => va_P D vwCl (gb_wl b (gb_C cT b)) h)) (gb_Qi (fun r _ => r = (-1)) (gb_fr b 135)) 0 0 (gb_fr b 135) := by
  refine Met.ofW (cc := cX11_split) (maxL := 7) (ret := (some FieldType.int)) (by decide) rfl ?_
  intro p e s m args below meth c s₁ B hml hv
  obtain ⟨rfl, hSt, hP⟩ := hv
  have hx := B.exec
  have hb := B.bytes
  have hr := B.returns
  have hts := atoms_spec (ws := .code yX11_split cX11_split 7 (some FieldType.int) :: gb_wA) B.pre
  have hq : ∀ w ∈ gb_wA, w.before _ s = true := fun w h => hts w (List.mem_cons_of_mem _ h)
  have hown : s.vm.findClass RX11 = some m.cls := findClass_of_methodNamed B.named
  have hlocks := B.notSynchronized
  have hK := hSt.1
  have hS : va_S (gb_fr b 135) s.heap s.heap [] := va_S.rf
  have hl := lv_entry ([.ref (b + 0), .int p1, .int p2, .int p3, .int p4]) (n := 7) (Nat.le_of_ble_eq_true rfl)
  rw [lg_entry_eq]
  generalize (lg_sl ([.ref (b + 0), .int p1, .int p2, .int p3, .int p4]) ++ List.replicate (7 - (lg_sl ([.ref (b + 0), .int p1, .int p2, .int p3, .int p4])).length) Slot.unset).toArray = ls at hl ⊢
  have hl : lv_has ls 7 [(0, .ref (b + 0)), (1, .int p1), (2, .int p2), (3, .int p3), (4, .int p4)] := hl
  refine lv_aload_n hx hb dX11_split_0 rfl (lv_at hl 0 rfl) ?_
  refine lv_iload_n hx hb dX11_split_1 rfl (lv_at hl 1 rfl) ?_
  refine gb_callq (va_runV (C := RX11) (As := [.int p1]) (rest := []) ⟨hx, hb, hml, hown, hq⟩ (f_X11_borderAt l D cT tt b1 b hb1 p1) (cwV 1 hq (gb_gV w_593 w_595 s_1_7 w_1 w_596) rfl rfl rfl (by decide +kernel) ⟨Nat.le_of_ble_eq_true rfl, Nat.le_of_ble_eq_true rfl⟩) (gb_preV (r := (RX11, TX11, 10)) (ci := 9) (q0 := 0) hSt hP rfl (gb_at b rfl) hS (fun q h => Nat.le_trans hb1 h.1) hP) rfl rfl hl.1 rfl (lv_room (Nat.le_of_ble_eq_true rfl)) dX11_split_2 ⟨Nat.le_of_ble_eq_true rfl, Nat.le_of_ble_eq_true rfl⟩) hS (fun _ h => h) (fun _ h => h) (fun r H locs hY hk hS => ?_)
  obtain ⟨hr9, hP⟩ := hY
  subst hr9
  refine W.eq (g2 := F0 m 5 ls [.null]) rfl ?_
  refine lv_astoreN (lv' := [(5, .null), (0, .ref (b + 0)), (1, .int p1), (2, .int p2), (3, .int p3), (4, .int p4)]) hx hb dX11_split_5 hl (by decide) rfl (fun ls hl => ?_)
  refine lv_aloadN hx hb dX11_split_7 (lv_at hl 0 rfl) ?_
  refine lv_ifnullN (tgt := 35) hx hb dX11_split_9 (by decide) ?_
  refine lv_iconst (v := (-1)) hx hb dX11_split_35 (by decide) ?_
  exact W.iret (v := (-1)) hx hb hr (fun t ht hW => gb_ri ht rfl hS) hS.2.2 dX11_split_36
theorem dX11_backs_0 : decode cX11_backs 0 = .ok (.aload_n 0, 1) := by decide +kernel
theorem dX11_backs_1 : decode cX11_backs 1 = .ok (.iload_n 1, 1) := by decide +kernel
theorem dX11_backs_2 : decode cX11_backs 2 = .ok (.invokevirtual 113, 3) := by decide +kernel
theorem dX11_backs_5 : decode cX11_backs 5 = .ok (.astore 5, 2) := by decide +kernel
theorem dX11_backs_7 : decode cX11_backs 7 = .ok (.aload 5, 2) := by decide +kernel
theorem dX11_backs_9 : decode cX11_backs 9 = .ok (.ifnull 23, 3) := by decide +kernel
theorem dX11_backs_32 : decode cX11_backs 32 = .ok (.iconst (-1), 1) := by decide +kernel
theorem dX11_backs_33 : decode cX11_backs 33 = .ok (.ireturn, 1) := by decide +kernel
set_option maxHeartbeats 4000000 in
set_option maxRecDepth 100000 in
theorem a_X11_backs (l : Launch) (D : va_G) (cT : Nat → ClassId) (tt : Nat → Nat) (b1 b : Nat) (hb1 : b1 ≤ b) (p1 : Int32) (p2 : Int32) (p3 : Int32) (p4 : Int32) : Met l yX11_backs (.code yX11_backs cX11_backs 7 (some FieldType.int) :: gb_wA) ({ frames := 1, cells := 0, slots := 0, locals := 21 }) (gb_Pc D cT tt b1 [.ref (b + 0), .int p1, .int p2, .int p3, .int p4] (fun h => va_P D vwCl (gb_wl b (gb_C cT b)) h)) (gb_Qi (fun r _ => r = (-1)) (gb_fr b 135)) 0 0 (gb_fr b 135) := by
  refine Met.ofW (cc := cX11_backs) (maxL := 7) (ret := (some FieldType.int)) (by decide) rfl ?_
  intro p e s m args below meth c s₁ B hml hv
  obtain ⟨rfl, hSt, hP⟩ := hv
  have hx := B.exec
  have hb := B.bytes
  have hr := B.returns
  have hts := atoms_spec (ws := .code yX11_backs cX11_backs 7 (some FieldType.int) :: gb_wA) B.pre
  have hq : ∀ w ∈ gb_wA, w.before _ s = true := fun w h => hts w (List.mem_cons_of_mem _ h)
  have hown : s.vm.findClass RX11 = some m.cls := findClass_of_methodNamed B.named
  have hlocks := B.notSynchronized
  have hK := hSt.1
  have hS : va_S (gb_fr b 135) s.heap s.heap [] := va_S.rf
  have hl := lv_entry ([.ref (b + 0), .int p1, .int p2, .int p3, .int p4]) (n := 7) (Nat.le_of_ble_eq_true rfl)
  rw [lg_entry_eq]
  generalize (lg_sl ([.ref (b + 0), .int p1, .int p2, .int p3, .int p4]) ++ List.replicate (7 - (lg_sl ([.ref (b + 0), .int p1, .int p2, .int p3, .int p4])).length) Slot.unset).toArray = ls at hl ⊢
  have hl : lv_has ls 7 [(0, .ref (b + 0)), (1, .int p1), (2, .int p2), (3, .int p3), (4, .int p4)] := hl
  refine lv_aload_n hx hb dX11_backs_0 rfl (lv_at hl 0 rfl) ?_
  refine lv_iload_n hx hb dX11_backs_1 rfl (lv_at hl 1 rfl) ?_
  refine gb_callq (va_runV (C := RX11) (As := [.int p1]) (rest := []) ⟨hx, hb, hml, hown, hq⟩ (f_X11_borderAt l D cT tt b1 b hb1 p1) (cwV 1 hq (gb_gV w_593 w_595 s_1_7 w_1 w_596) rfl rfl rfl (by decide +kernel) ⟨Nat.le_of_ble_eq_true rfl, Nat.le_of_ble_eq_true rfl⟩) (gb_preV (r := (RX11, TX11, 10)) (ci := 9) (q0 := 0) hSt hP rfl (gb_at b rfl) hS (fun q h => Nat.le_trans hb1 h.1) hP) rfl rfl hl.1 rfl (lv_room (Nat.le_of_ble_eq_true rfl)) dX11_backs_2 ⟨Nat.le_of_ble_eq_true rfl, Nat.le_of_ble_eq_true rfl⟩) hS (fun _ h => h) (fun _ h => h) (fun r H locs hY hk hS => ?_)
  obtain ⟨hr9, hP⟩ := hY
  subst hr9
  refine W.eq (g2 := F0 m 5 ls [.null]) rfl ?_
  refine lv_astoreN (lv' := [(5, .null), (0, .ref (b + 0)), (1, .int p1), (2, .int p2), (3, .int p3), (4, .int p4)]) hx hb dX11_backs_5 hl (by decide) rfl (fun ls hl => ?_)
  refine lv_aloadN hx hb dX11_backs_7 (lv_at hl 0 rfl) ?_
  refine lv_ifnullN (tgt := 32) hx hb dX11_backs_9 (by decide) ?_
  refine lv_iconst (v := (-1)) hx hb dX11_backs_32 (by decide) ?_
  exact W.iret (v := (-1)) hx hb hr (fun t ht hW => gb_ri ht rfl hS) hS.2.2 dX11_backs_33
theorem dX11_near_0 : decode cX11_near 0 = .ok (.aload_n 0, 1) := by decide +kernel
theorem dX11_near_1 : decode cX11_near 1 = .ok (.iload_n 1, 1) := by decide +kernel
theorem dX11_near_2 : decode cX11_near 2 = .ok (.invokevirtual 113, 3) := by decide +kernel
theorem dX11_near_5 : decode cX11_near 5 = .ok (.astore 4, 2) := by decide +kernel
theorem dX11_near_7 : decode cX11_near 7 = .ok (.aload_n 0, 1) := by decide +kernel
theorem dX11_near_8 : decode cX11_near 8 = .ok (.iload_n 2, 1) := by decide +kernel
theorem dX11_near_9 : decode cX11_near 9 = .ok (.invokevirtual 160, 3) := by decide +kernel
theorem dX11_near_12 : decode cX11_near 12 = .ok (.astore 5, 2) := by decide +kernel
theorem dX11_near_14 : decode cX11_near 14 = .ok (.aload 4, 2) := by decide +kernel
theorem dX11_near_16 : decode cX11_near 16 = .ok (.ifnull 35, 3) := by decide +kernel
theorem dX11_near_51 : decode cX11_near 51 = .ok (.iconst (-1), 1) := by decide +kernel
theorem dX11_near_52 : decode cX11_near 52 = .ok (.ireturn, 1) := by decide +kernel
set_option maxHeartbeats 4000000 in
set_option maxRecDepth 100000 in
theorem a_X11_near (l : Launch) (D : va_G) (cT : Nat → ClassId) (tt : Nat → Nat) (b1 b : Nat) (hb1 : b1 ≤ b) (p1 : Int32) (p2 : Int32) (p3 : Int32) : Met l yX11_near (.code yX11_near cX11_near 6 (some FieldType.int) :: gb_wA) ({ frames := 1, cells := 0, slots := 0, locals := 21 }) (gb_Pc D cT tt b1 [.ref (b + 0), .int p1, .int p2, .int p3] (fun h => va_P D vwCl (gb_wl b (gb_C cT b)) h)) (gb_Qi (fun r _ => r = (-1)) (gb_fr b 135)) 0 0 (gb_fr b 135) := by
  refine Met.ofW (cc := cX11_near) (maxL := 6) (ret := (some FieldType.int)) (by decide) rfl ?_
  intro p e s m args below meth c s₁ B hml hv
  obtain ⟨rfl, hSt, hP⟩ := hv
  have hx := B.exec
  have hb := B.bytes
  have hr := B.returns
  have hts := atoms_spec (ws := .code yX11_near cX11_near 6 (some FieldType.int) :: gb_wA) B.pre
  have hq : ∀ w ∈ gb_wA, w.before _ s = true := fun w h => hts w (List.mem_cons_of_mem _ h)
  have hown : s.vm.findClass RX11 = some m.cls := findClass_of_methodNamed B.named
  have hlocks := B.notSynchronized
  have hK := hSt.1
  have hS : va_S (gb_fr b 135) s.heap s.heap [] := va_S.rf
  have hl := lv_entry ([.ref (b + 0), .int p1, .int p2, .int p3]) (n := 6) (Nat.le_of_ble_eq_true rfl)
  rw [lg_entry_eq]
  generalize (lg_sl ([.ref (b + 0), .int p1, .int p2, .int p3]) ++ List.replicate (6 - (lg_sl ([.ref (b + 0), .int p1, .int p2, .int p3])).length) Slot.unset).toArray = ls at hl ⊢
  have hl : lv_has ls 6 [(0, .ref (b + 0)), (1, .int p1), (2, .int p2), (3, .int p3)] := hl
  refine lv_aload_n hx hb dX11_near_0 rfl (lv_at hl 0 rfl) ?_
  refine lv_iload_n hx hb dX11_near_1 rfl (lv_at hl 1 rfl) ?_
  refine gb_callq (va_runV (C := RX11) (As := [.int p1]) (rest := []) ⟨hx, hb, hml, hown, hq⟩ (f_X11_borderAt l D cT tt b1 b hb1 p1) (cwV 1 hq (gb_gV w_593 w_595 s_1_7 w_1 w_596) rfl rfl rfl (by decide +kernel) ⟨Nat.le_of_ble_eq_true rfl, Nat.le_of_ble_eq_true rfl⟩) (gb_preV (r := (RX11, TX11, 10)) (ci := 9) (q0 := 0) hSt hP rfl (gb_at b rfl) hS (fun q h => Nat.le_trans hb1 h.1) hP) rfl rfl hl.1 rfl (lv_room (Nat.le_of_ble_eq_true rfl)) dX11_near_2 ⟨Nat.le_of_ble_eq_true rfl, Nat.le_of_ble_eq_true rfl⟩) hS (fun _ h => h) (fun _ h => h) (fun r H locs hY hk hS => ?_)
  obtain ⟨hr9, hP⟩ := hY
  subst hr9
  refine W.eq (g2 := F0 m 5 ls [.null]) rfl ?_
  refine lv_astoreN (lv' := [(4, .null), (0, .ref (b + 0)), (1, .int p1), (2, .int p2), (3, .int p3)]) hx hb dX11_near_5 hl (by decide) rfl (fun ls hl => ?_)
  refine lv_aload_n hx hb dX11_near_7 rfl (lv_at hl 1 rfl) ?_
  refine lv_iload_n hx hb dX11_near_8 rfl (lv_at hl 3 rfl) ?_
  refine gb_callq (va_runV (C := RX11) (As := [.int p2]) (rest := []) ⟨hx, hb, hml, hown, hq⟩ (f_X11_dawnAt l D cT tt b1 b hb1 p2) (cwV 1 hq (gb_gV w_667 w_669 s_1_10 w_1 w_670) rfl rfl rfl (by decide +kernel) ⟨Nat.le_of_ble_eq_true rfl, Nat.le_of_ble_eq_true rfl⟩) (gb_preV (r := (RX11, TX11, 10)) (ci := 9) (q0 := 0) hSt hP rfl (gb_at b rfl) hS (fun q h => Nat.le_trans hb1 h.1) hP) rfl rfl hl.1 rfl (lv_room (Nat.le_of_ble_eq_true rfl)) dX11_near_9 ⟨Nat.le_of_ble_eq_true rfl, Nat.le_of_ble_eq_true rfl⟩) hS (fun _ h => h) (fun _ h => h) (fun r H locs hY hk hS => ?_)
  obtain ⟨hr9, hP⟩ := hY
  subst hr9
  refine W.eq (g2 := F0 m 12 ls [.null]) rfl ?_
  refine lv_astoreN (lv' := [(5, .null), (4, .null), (0, .ref (b + 0)), (1, .int p1), (2, .int p2), (3, .int p3)]) hx hb dX11_near_12 hl (by decide) rfl (fun ls hl => ?_)
  refine lv_aloadN hx hb dX11_near_14 (lv_at hl 1 rfl) ?_
  refine lv_ifnullN (tgt := 51) hx hb dX11_near_16 (by decide) ?_
  refine lv_iconst (v := (-1)) hx hb dX11_near_51 (by decide) ?_
  exact W.iret (v := (-1)) hx hb hr (fun t ht hW => gb_ri ht rfl hS) hS.2.2 dX11_near_52
theorem dX11_thrift_0 : decode cX11_thrift 0 = .ok (.aload_n 0, 1) := by decide +kernel
theorem dX11_thrift_1 : decode cX11_thrift 1 = .ok (.iload_n 1, 1) := by decide +kernel
theorem dX11_thrift_2 : decode cX11_thrift 2 = .ok (.invokevirtual 113, 3) := by decide +kernel
theorem dX11_thrift_5 : decode cX11_thrift 5 = .ok (.astore_n 2, 1) := by decide +kernel
theorem dX11_thrift_6 : decode cX11_thrift 6 = .ok (.aload_n 2, 1) := by decide +kernel
theorem dX11_thrift_7 : decode cX11_thrift 7 = .ok (.ifnonnull 7, 3) := by decide +kernel
theorem dX11_thrift_10 : decode cX11_thrift 10 = .ok (.iconst (-1), 1) := by decide +kernel
theorem dX11_thrift_11 : decode cX11_thrift 11 = .ok (.goto 11, 3) := by decide +kernel
theorem dX11_thrift_22 : decode cX11_thrift 22 = .ok (.ireturn, 1) := by decide +kernel
set_option maxHeartbeats 4000000 in
set_option maxRecDepth 100000 in
theorem a_X11_thrift (l : Launch) (D : va_G) (cT : Nat → ClassId) (tt : Nat → Nat) (b1 b : Nat) (hb1 : b1 ≤ b) (p1 : Int32) : Met l yX11_thrift (.code yX11_thrift cX11_thrift 3 (some FieldType.int) :: gb_wA) ({ frames := 1, cells := 0, slots := 0, locals := 21 }) (gb_Pc D cT tt b1 [.ref (b + 0), .int p1] (fun h => va_P D vwCl (gb_wl b (gb_C cT b)) h)) (gb_Qi (fun r _ => r = (-1)) (gb_fr b 135)) 0 0 (gb_fr b 135) := by
  refine Met.ofW (cc := cX11_thrift) (maxL := 3) (ret := (some FieldType.int)) (by decide) rfl ?_
  intro p e s m args below meth c s₁ B hml hv
  obtain ⟨rfl, hSt, hP⟩ := hv
  have hx := B.exec
  have hb := B.bytes
  have hr := B.returns
  have hts := atoms_spec (ws := .code yX11_thrift cX11_thrift 3 (some FieldType.int) :: gb_wA) B.pre
  have hq : ∀ w ∈ gb_wA, w.before _ s = true := fun w h => hts w (List.mem_cons_of_mem _ h)
  have hown : s.vm.findClass RX11 = some m.cls := findClass_of_methodNamed B.named
  have hlocks := B.notSynchronized
  have hK := hSt.1
  have hS : va_S (gb_fr b 135) s.heap s.heap [] := va_S.rf
  have hl := lv_entry ([.ref (b + 0), .int p1]) (n := 3) (Nat.le_of_ble_eq_true rfl)
  rw [lg_entry_eq]
  generalize (lg_sl ([.ref (b + 0), .int p1]) ++ List.replicate (3 - (lg_sl ([.ref (b + 0), .int p1])).length) Slot.unset).toArray = ls at hl ⊢
  have hl : lv_has ls 3 [(0, .ref (b + 0)), (1, .int p1)] := hl
  refine lv_aload_n hx hb dX11_thrift_0 rfl (lv_at hl 0 rfl) ?_
  refine lv_iload_n hx hb dX11_thrift_1 rfl (lv_at hl 1 rfl) ?_
  refine gb_callq (va_runV (C := RX11) (As := [.int p1]) (rest := []) ⟨hx, hb, hml, hown, hq⟩ (f_X11_borderAt l D cT tt b1 b hb1 p1) (cwV 1 hq (gb_gV w_593 w_595 s_1_7 w_1 w_596) rfl rfl rfl (by decide +kernel) ⟨Nat.le_of_ble_eq_true rfl, Nat.le_of_ble_eq_true rfl⟩) (gb_preV (r := (RX11, TX11, 10)) (ci := 9) (q0 := 0) hSt hP rfl (gb_at b rfl) hS (fun q h => Nat.le_trans hb1 h.1) hP) rfl rfl hl.1 rfl (lv_room (Nat.le_of_ble_eq_true rfl)) dX11_thrift_2 ⟨Nat.le_of_ble_eq_true rfl, Nat.le_of_ble_eq_true rfl⟩) hS (fun _ h => h) (fun _ h => h) (fun r H locs hY hk hS => ?_)
  obtain ⟨hr9, hP⟩ := hY
  subst hr9
  refine W.eq (g2 := F0 m 5 ls [.null]) rfl ?_
  refine lv_astore_nN (lv' := [(2, .null), (0, .ref (b + 0)), (1, .int p1)]) hx hb dX11_thrift_5 rfl hl (by decide) rfl (fun ls hl => ?_)
  refine lv_aload_nN hx hb dX11_thrift_6 rfl (lv_at hl 0 rfl) ?_
  refine lv_ifnonnullN hx hb dX11_thrift_7 ?_
  refine lv_iconst (v := (-1)) hx hb dX11_thrift_10 (by decide) ?_
  refine lv_goto (tgt := 22) hx hb dX11_thrift_11 (by decide) ?_
  exact W.iret (v := (-1)) hx hb hr (fun t ht hW => gb_ri ht rfl hS) hS.2.2 dX11_thrift_22
theorem dX11_fits_0 : decode cX11_fits 0 = .ok (.aload_n 0, 1) := by decide +kernel
theorem dX11_fits_1 : decode cX11_fits 1 = .ok (.iload_n 1, 1) := by decide +kernel
theorem dX11_fits_2 : decode cX11_fits 2 = .ok (.invokevirtual 113, 3) := by decide +kernel
theorem dX11_fits_5 : decode cX11_fits 5 = .ok (.astore_n 3, 1) := by decide +kernel
theorem dX11_fits_6 : decode cX11_fits 6 = .ok (.aload_n 0, 1) := by decide +kernel
theorem dX11_fits_7 : decode cX11_fits 7 = .ok (.iload_n 2, 1) := by decide +kernel
theorem dX11_fits_8 : decode cX11_fits 8 = .ok (.invokevirtual 160, 3) := by decide +kernel
theorem dX11_fits_11 : decode cX11_fits 11 = .ok (.astore 4, 2) := by decide +kernel
theorem dX11_fits_13 : decode cX11_fits 13 = .ok (.aload_n 3, 1) := by decide +kernel
theorem dX11_fits_14 : decode cX11_fits 14 = .ok (.ifnull 8, 3) := by decide +kernel
theorem dX11_fits_22 : decode cX11_fits 22 = .ok (.ldc2_w 353, 3) := by decide +kernel
theorem w_1043 : (Cond.constantLong "GooseBorder" (353 : Nat) (-1 : Int64)) ∈ gb_wA := gb_t5 83 rfl rfl
theorem dX11_fits_25 : decode cX11_fits 25 = .ok (.lreturn, 1) := by decide +kernel
set_option maxHeartbeats 4000000 in
set_option maxRecDepth 100000 in
theorem a_X11_fits (l : Launch) (D : va_G) (cT : Nat → ClassId) (tt : Nat → Nat) (b1 b : Nat) (hb1 : b1 ≤ b) (p1 : Int32) (p2 : Int32) : Met l yX11_fits (.code yX11_fits cX11_fits 5 (some FieldType.long) :: gb_wA) ({ frames := 1, cells := 0, slots := 0, locals := 21 }) (gb_Pc D cT tt b1 [.ref (b + 0), .int p1, .int p2] (fun h => va_P D vwCl (gb_wl b (gb_C cT b)) h)) (gb_Ql (fun r _ => r = (-1)) (gb_fr b 135)) 0 0 (gb_fr b 135) := by
  refine Met.ofW (cc := cX11_fits) (maxL := 5) (ret := (some FieldType.long)) (by decide) rfl ?_
  intro p e s m args below meth c s₁ B hml hv
  obtain ⟨rfl, hSt, hP⟩ := hv
  have hx := B.exec
  have hb := B.bytes
  have hr := B.returns
  have hts := atoms_spec (ws := .code yX11_fits cX11_fits 5 (some FieldType.long) :: gb_wA) B.pre
  have hq : ∀ w ∈ gb_wA, w.before _ s = true := fun w h => hts w (List.mem_cons_of_mem _ h)
  have hown : s.vm.findClass RX11 = some m.cls := findClass_of_methodNamed B.named
  have hlocks := B.notSynchronized
  have hK := hSt.1
  have hS : va_S (gb_fr b 135) s.heap s.heap [] := va_S.rf
  have hl := lv_entry ([.ref (b + 0), .int p1, .int p2]) (n := 5) (Nat.le_of_ble_eq_true rfl)
  rw [lg_entry_eq]
  generalize (lg_sl ([.ref (b + 0), .int p1, .int p2]) ++ List.replicate (5 - (lg_sl ([.ref (b + 0), .int p1, .int p2])).length) Slot.unset).toArray = ls at hl ⊢
  have hl : lv_has ls 5 [(0, .ref (b + 0)), (1, .int p1), (2, .int p2)] := hl
  refine lv_aload_n hx hb dX11_fits_0 rfl (lv_at hl 0 rfl) ?_
  refine lv_iload_n hx hb dX11_fits_1 rfl (lv_at hl 1 rfl) ?_
  refine gb_callq (va_runV (C := RX11) (As := [.int p1]) (rest := []) ⟨hx, hb, hml, hown, hq⟩ (f_X11_borderAt l D cT tt b1 b hb1 p1) (cwV 1 hq (gb_gV w_593 w_595 s_1_7 w_1 w_596) rfl rfl rfl (by decide +kernel) ⟨Nat.le_of_ble_eq_true rfl, Nat.le_of_ble_eq_true rfl⟩) (gb_preV (r := (RX11, TX11, 10)) (ci := 9) (q0 := 0) hSt hP rfl (gb_at b rfl) hS (fun q h => Nat.le_trans hb1 h.1) hP) rfl rfl hl.1 rfl (lv_room (Nat.le_of_ble_eq_true rfl)) dX11_fits_2 ⟨Nat.le_of_ble_eq_true rfl, Nat.le_of_ble_eq_true rfl⟩) hS (fun _ h => h) (fun _ h => h) (fun r H locs hY hk hS => ?_)
  obtain ⟨hr9, hP⟩ := hY
  subst hr9
  refine W.eq (g2 := F0 m 5 ls [.null]) rfl ?_
  refine lv_astore_nN (lv' := [(3, .null), (0, .ref (b + 0)), (1, .int p1), (2, .int p2)]) hx hb dX11_fits_5 rfl hl (by decide) rfl (fun ls hl => ?_)
  refine lv_aload_n hx hb dX11_fits_6 rfl (lv_at hl 1 rfl) ?_
  refine lv_iload_n hx hb dX11_fits_7 rfl (lv_at hl 3 rfl) ?_
  refine gb_callq (va_runV (C := RX11) (As := [.int p2]) (rest := []) ⟨hx, hb, hml, hown, hq⟩ (f_X11_dawnAt l D cT tt b1 b hb1 p2) (cwV 1 hq (gb_gV w_667 w_669 s_1_10 w_1 w_670) rfl rfl rfl (by decide +kernel) ⟨Nat.le_of_ble_eq_true rfl, Nat.le_of_ble_eq_true rfl⟩) (gb_preV (r := (RX11, TX11, 10)) (ci := 9) (q0 := 0) hSt hP rfl (gb_at b rfl) hS (fun q h => Nat.le_trans hb1 h.1) hP) rfl rfl hl.1 rfl (lv_room (Nat.le_of_ble_eq_true rfl)) dX11_fits_8 ⟨Nat.le_of_ble_eq_true rfl, Nat.le_of_ble_eq_true rfl⟩) hS (fun _ h => h) (fun _ h => h) (fun r H locs hY hk hS => ?_)
  obtain ⟨hr9, hP⟩ := hY
  subst hr9
  refine W.eq (g2 := F0 m 11 ls [.null]) rfl ?_
  refine lv_astoreN (lv' := [(4, .null), (3, .null), (0, .ref (b + 0)), (1, .int p1), (2, .int p2)]) hx hb dX11_fits_11 hl (by decide) rfl (fun ls hl => ?_)
  refine lv_aload_nN hx hb dX11_fits_13 rfl (lv_at hl 1 rfl) ?_
  refine lv_ifnullN (tgt := 22) hx hb dX11_fits_14 (by decide) ?_
  refine lv_ldc2 (v := (-1)) hx hb hown (hq _ w_1043) dX11_fits_22 ?_
  exact W.lret (v := (-1)) hx hb hr (fun t ht hW => gb_rl ht rfl hS) hS.2.2 dX11_fits_25
theorem dX11_told_0 : decode cX11_told 0 = .ok (.aload_n 0, 1) := by decide +kernel
theorem dX11_told_1 : decode cX11_told 1 = .ok (.iload_n 1, 1) := by decide +kernel
theorem dX11_told_2 : decode cX11_told 2 = .ok (.invokevirtual 113, 3) := by decide +kernel
theorem dX11_told_5 : decode cX11_told 5 = .ok (.astore 4, 2) := by decide +kernel
theorem dX11_told_7 : decode cX11_told 7 = .ok (.aload_n 0, 1) := by decide +kernel
theorem dX11_told_8 : decode cX11_told 8 = .ok (.iload_n 2, 1) := by decide +kernel
theorem dX11_told_9 : decode cX11_told 9 = .ok (.invokevirtual 160, 3) := by decide +kernel
theorem dX11_told_12 : decode cX11_told 12 = .ok (.astore 5, 2) := by decide +kernel
theorem dX11_told_14 : decode cX11_told 14 = .ok (.aload 4, 2) := by decide +kernel
theorem dX11_told_16 : decode cX11_told 16 = .ok (.ifnull 8, 3) := by decide +kernel
theorem dX11_told_24 : decode cX11_told 24 = .ok (.bipush (-2), 2) := by decide +kernel
theorem dX11_told_26 : decode cX11_told 26 = .ok (.ireturn, 1) := by decide +kernel
set_option maxHeartbeats 4000000 in
set_option maxRecDepth 100000 in
theorem a_X11_told (l : Launch) (D : va_G) (cT : Nat → ClassId) (tt : Nat → Nat) (b1 b : Nat) (hb1 : b1 ≤ b) (p1 : Int32) (p2 : Int32) (p3 : Int32) : Met l yX11_told (.code yX11_told cX11_told 7 (some FieldType.int) :: gb_wA) ({ frames := 1, cells := 0, slots := 0, locals := 21 }) (gb_Pc D cT tt b1 [.ref (b + 0), .int p1, .int p2, .int p3] (fun h => va_P D vwCl (gb_wl b (gb_C cT b)) h)) (gb_Qi (fun r _ => r = (-2)) (gb_fr b 135)) 0 0 (gb_fr b 135) := by
  refine Met.ofW (cc := cX11_told) (maxL := 7) (ret := (some FieldType.int)) (by decide) rfl ?_
  intro p e s m args below meth c s₁ B hml hv
  obtain ⟨rfl, hSt, hP⟩ := hv
  have hx := B.exec
  have hb := B.bytes
  have hr := B.returns
  have hts := atoms_spec (ws := .code yX11_told cX11_told 7 (some FieldType.int) :: gb_wA) B.pre
  have hq : ∀ w ∈ gb_wA, w.before _ s = true := fun w h => hts w (List.mem_cons_of_mem _ h)
  have hown : s.vm.findClass RX11 = some m.cls := findClass_of_methodNamed B.named
  have hlocks := B.notSynchronized
  have hK := hSt.1
  have hS : va_S (gb_fr b 135) s.heap s.heap [] := va_S.rf
  have hl := lv_entry ([.ref (b + 0), .int p1, .int p2, .int p3]) (n := 7) (Nat.le_of_ble_eq_true rfl)
  rw [lg_entry_eq]
  generalize (lg_sl ([.ref (b + 0), .int p1, .int p2, .int p3]) ++ List.replicate (7 - (lg_sl ([.ref (b + 0), .int p1, .int p2, .int p3])).length) Slot.unset).toArray = ls at hl ⊢
  have hl : lv_has ls 7 [(0, .ref (b + 0)), (1, .int p1), (2, .int p2), (3, .int p3)] := hl
  refine lv_aload_n hx hb dX11_told_0 rfl (lv_at hl 0 rfl) ?_
  refine lv_iload_n hx hb dX11_told_1 rfl (lv_at hl 1 rfl) ?_
  refine gb_callq (va_runV (C := RX11) (As := [.int p1]) (rest := []) ⟨hx, hb, hml, hown, hq⟩ (f_X11_borderAt l D cT tt b1 b hb1 p1) (cwV 1 hq (gb_gV w_593 w_595 s_1_7 w_1 w_596) rfl rfl rfl (by decide +kernel) ⟨Nat.le_of_ble_eq_true rfl, Nat.le_of_ble_eq_true rfl⟩) (gb_preV (r := (RX11, TX11, 10)) (ci := 9) (q0 := 0) hSt hP rfl (gb_at b rfl) hS (fun q h => Nat.le_trans hb1 h.1) hP) rfl rfl hl.1 rfl (lv_room (Nat.le_of_ble_eq_true rfl)) dX11_told_2 ⟨Nat.le_of_ble_eq_true rfl, Nat.le_of_ble_eq_true rfl⟩) hS (fun _ h => h) (fun _ h => h) (fun r H locs hY hk hS => ?_)
  obtain ⟨hr9, hP⟩ := hY
  subst hr9
  refine W.eq (g2 := F0 m 5 ls [.null]) rfl ?_
  refine lv_astoreN (lv' := [(4, .null), (0, .ref (b + 0)), (1, .int p1), (2, .int p2), (3, .int p3)]) hx hb dX11_told_5 hl (by decide) rfl (fun ls hl => ?_)
  refine lv_aload_n hx hb dX11_told_7 rfl (lv_at hl 1 rfl) ?_
  refine lv_iload_n hx hb dX11_told_8 rfl (lv_at hl 3 rfl) ?_
  refine gb_callq (va_runV (C := RX11) (As := [.int p2]) (rest := []) ⟨hx, hb, hml, hown, hq⟩ (f_X11_dawnAt l D cT tt b1 b hb1 p2) (cwV 1 hq (gb_gV w_667 w_669 s_1_10 w_1 w_670) rfl rfl rfl (by decide +kernel) ⟨Nat.le_of_ble_eq_true rfl, Nat.le_of_ble_eq_true rfl⟩) (gb_preV (r := (RX11, TX11, 10)) (ci := 9) (q0 := 0) hSt hP rfl (gb_at b rfl) hS (fun q h => Nat.le_trans hb1 h.1) hP) rfl rfl hl.1 rfl (lv_room (Nat.le_of_ble_eq_true rfl)) dX11_told_9 ⟨Nat.le_of_ble_eq_true rfl, Nat.le_of_ble_eq_true rfl⟩) hS (fun _ h => h) (fun _ h => h) (fun r H locs hY hk hS => ?_)
  obtain ⟨hr9, hP⟩ := hY
  subst hr9
  refine W.eq (g2 := F0 m 12 ls [.null]) rfl ?_
  refine lv_astoreN (lv' := [(5, .null), (4, .null), (0, .ref (b + 0)), (1, .int p1), (2, .int p2), (3, .int p3)]) hx hb dX11_told_12 hl (by decide) rfl (fun ls hl => ?_)
  refine lv_aloadN hx hb dX11_told_14 (lv_at hl 1 rfl) ?_
  refine lv_ifnullN (tgt := 24) hx hb dX11_told_16 (by decide) ?_
  refine lv_bipush (v := (-2)) hx hb dX11_told_24 (by decide) ?_
  exact W.iret (v := (-2)) hx hb hr (fun t ht hW => gb_ri ht rfl hS) hS.2.2 dX11_told_26
theorem dX11_drawn_0 : decode cX11_drawn 0 = .ok (.aload_n 0, 1) := by decide +kernel
theorem dX11_drawn_1 : decode cX11_drawn 1 = .ok (.iload_n 1, 1) := by decide +kernel
theorem dX11_drawn_2 : decode cX11_drawn 2 = .ok (.invokevirtual 113, 3) := by decide +kernel
theorem dX11_drawn_5 : decode cX11_drawn 5 = .ok (.astore 5, 2) := by decide +kernel
theorem dX11_drawn_7 : decode cX11_drawn 7 = .ok (.aload 5, 2) := by decide +kernel
theorem dX11_drawn_9 : decode cX11_drawn 9 = .ok (.ifnull 32, 3) := by decide +kernel
theorem dX11_drawn_41 : decode cX11_drawn 41 = .ok (.iconst (-1), 1) := by decide +kernel
theorem dX11_drawn_42 : decode cX11_drawn 42 = .ok (.ireturn, 1) := by decide +kernel
set_option maxHeartbeats 4000000 in
set_option maxRecDepth 100000 in
theorem a_X11_drawn (l : Launch) (D : va_G) (cT : Nat → ClassId) (tt : Nat → Nat) (b1 b : Nat) (hb1 : b1 ≤ b) (p1 : Int32) (p2 : Int32) (p3 : Int32) (p4 : Int32) : Met l yX11_drawn (.code yX11_drawn cX11_drawn 8 (some FieldType.int) :: gb_wA) ({ frames := 1, cells := 0, slots := 0, locals := 21 }) (gb_Pc D cT tt b1 [.ref (b + 0), .int p1, .int p2, .int p3, .int p4] (fun h => va_P D vwCl (gb_wl b (gb_C cT b)) h)) (gb_Qi (fun r _ => r = (-1)) (gb_fr b 135)) 0 0 (gb_fr b 135) := by
  refine Met.ofW (cc := cX11_drawn) (maxL := 8) (ret := (some FieldType.int)) (by decide) rfl ?_
  intro p e s m args below meth c s₁ B hml hv
  obtain ⟨rfl, hSt, hP⟩ := hv
  have hx := B.exec
  have hb := B.bytes
  have hr := B.returns
  have hts := atoms_spec (ws := .code yX11_drawn cX11_drawn 8 (some FieldType.int) :: gb_wA) B.pre
  have hq : ∀ w ∈ gb_wA, w.before _ s = true := fun w h => hts w (List.mem_cons_of_mem _ h)
  have hown : s.vm.findClass RX11 = some m.cls := findClass_of_methodNamed B.named
  have hlocks := B.notSynchronized
  have hK := hSt.1
  have hS : va_S (gb_fr b 135) s.heap s.heap [] := va_S.rf
  have hl := lv_entry ([.ref (b + 0), .int p1, .int p2, .int p3, .int p4]) (n := 8) (Nat.le_of_ble_eq_true rfl)
  rw [lg_entry_eq]
  generalize (lg_sl ([.ref (b + 0), .int p1, .int p2, .int p3, .int p4]) ++ List.replicate (8 - (lg_sl ([.ref (b + 0), .int p1, .int p2, .int p3, .int p4])).length) Slot.unset).toArray = ls at hl ⊢
  have hl : lv_has ls 8 [(0, .ref (b + 0)), (1, .int p1), (2, .int p2), (3, .int p3), (4, .int p4)] := hl
  refine lv_aload_n hx hb dX11_drawn_0 rfl (lv_at hl 0 rfl) ?_
  refine lv_iload_n hx hb dX11_drawn_1 rfl (lv_at hl 1 rfl) ?_
  refine gb_callq (va_runV (C := RX11) (As := [.int p1]) (rest := []) ⟨hx, hb, hml, hown, hq⟩ (f_X11_borderAt l D cT tt b1 b hb1 p1) (cwV 1 hq (gb_gV w_593 w_595 s_1_7 w_1 w_596) rfl rfl rfl (by decide +kernel) ⟨Nat.le_of_ble_eq_true rfl, Nat.le_of_ble_eq_true rfl⟩) (gb_preV (r := (RX11, TX11, 10)) (ci := 9) (q0 := 0) hSt hP rfl (gb_at b rfl) hS (fun q h => Nat.le_trans hb1 h.1) hP) rfl rfl hl.1 rfl (lv_room (Nat.le_of_ble_eq_true rfl)) dX11_drawn_2 ⟨Nat.le_of_ble_eq_true rfl, Nat.le_of_ble_eq_true rfl⟩) hS (fun _ h => h) (fun _ h => h) (fun r H locs hY hk hS => ?_)
  obtain ⟨hr9, hP⟩ := hY
  subst hr9
  refine W.eq (g2 := F0 m 5 ls [.null]) rfl ?_
  refine lv_astoreN (lv' := [(5, .null), (0, .ref (b + 0)), (1, .int p1), (2, .int p2), (3, .int p3), (4, .int p4)]) hx hb dX11_drawn_5 hl (by decide) rfl (fun ls hl => ?_)
  refine lv_aloadN hx hb dX11_drawn_7 (lv_at hl 0 rfl) ?_
  refine lv_ifnullN (tgt := 41) hx hb dX11_drawn_9 (by decide) ?_
  refine lv_iconst (v := (-1)) hx hb dX11_drawn_41 (by decide) ?_
  exact W.iret (v := (-1)) hx hb hr (fun t ht hW => gb_ri ht rfl hS) hS.2.2 dX11_drawn_42
