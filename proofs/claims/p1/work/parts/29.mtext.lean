theorem gb_34n {x : Int32} (h : 3 < x) : ¬ x < 4 := fun h2 => gb_43 h2 h
theorem gb_34p {x : Int32} (h : ¬ 3 < x) : x < 4 := by
  rw [gb_34] at h
  exact Int32.not_le.mp h
theorem dX12_text_0 : decode cX12_text 0 = .ok (.aload_n 0, 1) := by decide +kernel
theorem dX12_text_1 : decode cX12_text 1 = .ok (.aload_n 0, 1) := by decide +kernel
theorem dX12_text_2 : decode cX12_text 2 = .ok (.getfield 7, 3) := by decide +kernel
theorem dX12_text_5 : decode cX12_text 5 = .ok (.iconst 4, 1) := by decide +kernel
theorem dX12_text_6 : decode cX12_text 6 = .ok (.iaload, 1) := by decide +kernel
theorem dX12_text_7 : decode cX12_text 7 = .ok (.putfield 74, 3) := by decide +kernel
theorem w_1126 : (Cond.fieldLink "GooseBorderModel" (74 : Nat) "GooseBorderModel" "size" "I") ∈ gb_wA := gb_t5 166 rfl rfl
theorem dX12_text_10 : decode cX12_text 10 = .ok (.aload_n 0, 1) := by decide +kernel
theorem dX12_text_11 : decode cX12_text 11 = .ok (.getfield 7, 3) := by decide +kernel
theorem dX12_text_14 : decode cX12_text 14 = .ok (.iconst 4, 1) := by decide +kernel
theorem dX12_text_15 : decode cX12_text 15 = .ok (.iconst 0, 1) := by decide +kernel
theorem dX12_text_16 : decode cX12_text 16 = .ok (.iastore, 1) := by decide +kernel
theorem dX12_text_17 : decode cX12_text 17 = .ok (.aload_n 0, 1) := by decide +kernel
theorem dX12_text_18 : decode cX12_text 18 = .ok (.getfield 7, 3) := by decide +kernel
theorem dX12_text_21 : decode cX12_text 21 = .ok (.iconst 5, 1) := by decide +kernel
theorem dX12_text_22 : decode cX12_text 22 = .ok (.iconst 0, 1) := by decide +kernel
theorem dX12_text_23 : decode cX12_text 23 = .ok (.iastore, 1) := by decide +kernel
theorem dX12_text_24 : decode cX12_text 24 = .ok (.aload_n 0, 1) := by decide +kernel
theorem dX12_text_25 : decode cX12_text 25 = .ok (.getfield 7, 3) := by decide +kernel
theorem dX12_text_28 : decode cX12_text 28 = .ok (.bipush 6, 2) := by decide +kernel
theorem dX12_text_30 : decode cX12_text 30 = .ok (.iconst (-1), 1) := by decide +kernel
theorem dX12_text_31 : decode cX12_text 31 = .ok (.iastore, 1) := by decide +kernel
theorem dX12_text_32 : decode cX12_text 32 = .ok (.iload_n 1, 1) := by decide +kernel
theorem dX12_text_33 : decode cX12_text 33 = .ok (.iconst 0, 1) := by decide +kernel
theorem dX12_text_34 : decode cX12_text 34 = .ok (.iconst 3, 1) := by decide +kernel
theorem dX12_text_35 : decode cX12_text 35 = .ok (.invokestatic 129, 3) := by decide +kernel
set_option maxHeartbeats 4000000 in
set_option maxRecDepth 100000 in
theorem p_isIn (l : Launch) (D : va_G) (cT : Nat → ClassId) (tt : Nat → Nat) (b1 b : Nat) (hb1 : b1 ≤ b) (cs : List va_E) (p1 : Int32) (p2 : Int32) (p3 : Int32) : Met l yX12_isIn (.code yX12_isIn cX12_isIn 3 (some FieldType.boolean) :: gb_wA) ({ frames := 0, cells := 0, slots := 0, locals := 0 }) (gb_Pc D cT tt b1 [.int p1, .int p2, .int p3] (fun h => va_P D vwCl (gb_wl b cs) h)) (gb_Qi (fun r h => r = (if p1 < p2 then 0 else if p3 < p1 then 0 else 1) ∧ va_P D vwCl (gb_wl b cs) h) (gb_fr b cs.length)) 0 0 (gb_fr b cs.length) := by
  refine Met.ofW (cc := cX12_isIn) (maxL := 3) (ret := (some FieldType.boolean)) (by decide) rfl ?_
  intro p e s m args below meth c s₁ B hml hv
  obtain ⟨rfl, hSt, hP⟩ := hv
  have hx := B.exec
  have hb := B.bytes
  have hr := B.returns
  have hts := atoms_spec (ws := .code yX12_isIn cX12_isIn 3 (some FieldType.boolean) :: gb_wA) B.pre
  have hq : ∀ w ∈ gb_wA, w.before _ s = true := fun w h => hts w (List.mem_cons_of_mem _ h)
  have hown : s.vm.findClass RX12 = some m.cls := findClass_of_methodNamed B.named
  have hlocks := B.notSynchronized
  have hK := hSt.1
  have hS : va_S (gb_fr b cs.length) s.heap s.heap [] := va_S.rf
  have hl := lv_entry ([.int p1, .int p2, .int p3]) (n := 3) (Nat.le_of_ble_eq_true rfl)
  rw [lg_entry_eq]
  generalize (lg_sl ([.int p1, .int p2, .int p3]) ++ List.replicate (3 - (lg_sl ([.int p1, .int p2, .int p3])).length) Slot.unset).toArray = ls at hl ⊢
  have hl : lv_has ls 3 [(0, .int p1), (1, .int p2), (2, .int p3)] := hl
  refine lv_iload_n hx hb dX12_isIn_0 rfl (lv_at hl 0 rfl) ?_
  refine lv_iload_n hx hb dX12_isIn_1 rfl (lv_at hl 1 rfl) ?_
  refine lv_icmp_lt (tgt := 14) hx hb dX12_isIn_2 (by decide) (fun c_2 => ?_) (fun c_2 => ?_)
  · refine lv_iconst (v := 0) hx hb dX12_isIn_14 (by decide) ?_
    exact W.zret (v := 0) hx hb hr (by decide) (fun t ht hW => gb_ri ht ⟨(if_pos c_2).symm, hP⟩ hS) hS.2.2 dX12_isIn_15
  · refine lv_iload_n hx hb dX12_isIn_5 rfl (lv_at hl 0 rfl) ?_
    refine lv_iload_n hx hb dX12_isIn_6 rfl (lv_at hl 2 rfl) ?_
    refine lv_icmp_gt (tgt := 14) hx hb dX12_isIn_7 (by decide) (fun c_7 => ?_) (fun c_7 => ?_)
    · refine lv_iconst (v := 0) hx hb dX12_isIn_14 (by decide) ?_
      exact W.zret (v := 0) hx hb hr (by decide) (fun t ht hW => gb_ri ht ⟨by rw [if_neg c_2, if_pos c_7], hP⟩ hS) hS.2.2 dX12_isIn_15
    · refine lv_iconst (v := 1) hx hb dX12_isIn_10 (by decide) ?_
      refine lv_goto (tgt := 15) hx hb dX12_isIn_11 (by decide) ?_
      exact W.zret (v := 1) hx hb hr (by decide) (fun t ht hW => gb_ri ht ⟨by rw [if_neg c_2, if_neg c_7], hP⟩ hS) hS.2.2 dX12_isIn_15
theorem dX12_text_38 : decode cX12_text 38 = .ok (.ifCond .eq 30, 3) := by decide +kernel
theorem dX12_text_68 : decode cX12_text 68 = .ok (.bipush (-2), 2) := by decide +kernel
theorem dX12_text_70 : decode cX12_text 70 = .ok (.ireturn, 1) := by decide +kernel
theorem dX12_text_41 : decode cX12_text 41 = .ok (.iload_n 2, 1) := by decide +kernel
theorem dX12_text_42 : decode cX12_text 42 = .ok (.iconst (-1), 1) := by decide +kernel
theorem dX12_text_43 : decode cX12_text 43 = .ok (.if_icmp .ne 16, 3) := by decide +kernel
theorem dX12_text_59 : decode cX12_text 59 = .ok (.aload_n 0, 1) := by decide +kernel
theorem dX12_text_60 : decode cX12_text 60 = .ok (.iload_n 1, 1) := by decide +kernel
theorem dX12_text_61 : decode cX12_text 61 = .ok (.iload_n 2, 1) := by decide +kernel
theorem dX12_text_62 : decode cX12_text 62 = .ok (.invokevirtual 171, 3) := by decide +kernel
set_option maxHeartbeats 4000000 in
set_option maxRecDepth 100000 in
theorem t_X12_isOf_18 (l : Launch) (D : va_G) (cT : Nat → ClassId) (tt : Nat → Nat) (b1 b : Nat) (hb1 : b1 ≤ b) (p2 : Int32) : Met l yX12_isOf (.code yX12_isOf cX12_isOf 3 (some FieldType.boolean) :: gb_wA) ({ frames := 1, cells := 0, slots := 0, locals := 22 }) (gb_Pc D cT tt b1 [.ref (b + 0), .int 0, .int p2] (fun h => va_P D vwCl (gb_wl b [.inr (10, [.ref (b + 1), .ref (b + 2), .int 0, .int 0, .int 0, .int 0, .int 0, .int 0, .int 0, .int 0, .ref (b + 3), .int 0, .int 0, .ref (b + 4), .ref (b + 5), .ref (b + 6), .ref (b + 7), .ref (b + 8), .ref (b + 9), .ref (b + 10), .ref (b + 11), .ref (b + 12), .int 0, .int 0, .int 0, .int 0, .ref (b + 13), .ref (b + 14), .int 0, .int 0, .ref (b + 15), .ref (b + 16), .ref (b + 17), .long 0, .int 0, .int 0, .int 0, .ref (b + 18), .int 0, .ref (b + 19), .ref (b + 20), .int 0, .int 0, .ref (b + 21)]), .inl (cT 0, 3968, .inl (upd (upd (upd (upd (fun _ => 0) 6 (-1)) 4 0) 5 0) 6 (-1))), .inl (cT 2, 3, .inl (fun _ => 0)), .inl (cT 0, 97, .inl (fun _ => 0)), .inl (cT 0, 8, .inl (fun _ => 0)), .inl (cT 0, 8, .inl (fun _ => 0)), .inl (cT 0, 8, .inl (fun _ => 0)), .inl (cT 0, 8, .inl (fun _ => 0)), .inl (cT 2, 8, .inl (fun _ => 0)), .inl (cT 0, 40, .inl (fun _ => 0)), .inl (cT 0, 5, .inl (fun _ => 0)), .inl (cT 0, 5, .inl (fun _ => 0)), .inl (cT 0, 5, .inl (fun _ => 0)), .inl (cT 0, 40, .inl (fun _ => 0)), .inl (cT 0, 5, .inl (fun _ => 0)), .inl (cT 0, 5, .inl (fun _ => 0)), .inl (cT 0, 8, .inl (fun _ => 0)), .inl (cT 2, 8, .inl (fun _ => 0)), .inl (cT 0, 8, .inl (fun _ => 0)), .inl (cT 0, 5, .inl (fun _ => 0)), .inl (cT 0, 8, .inl (fun _ => 0)), .inl (cT 2, 256, .inl (fun _ => 0))]) h)) (gb_Qi (fun r h => r = 0 ∧ va_P D vwCl (gb_wl b [.inr (10, [.ref (b + 1), .ref (b + 2), .int 0, .int 0, .int 0, .int 0, .int 0, .int 0, .int 0, .int 0, .ref (b + 3), .int 0, .int 0, .ref (b + 4), .ref (b + 5), .ref (b + 6), .ref (b + 7), .ref (b + 8), .ref (b + 9), .ref (b + 10), .ref (b + 11), .ref (b + 12), .int 0, .int 0, .int 0, .int 0, .ref (b + 13), .ref (b + 14), .int 0, .int 0, .ref (b + 15), .ref (b + 16), .ref (b + 17), .long 0, .int 0, .int 0, .int 0, .ref (b + 18), .int 0, .ref (b + 19), .ref (b + 20), .int 0, .int 0, .ref (b + 21)]), .inl (cT 0, 3968, .inl (upd (upd (upd (upd (fun _ => 0) 6 (-1)) 4 0) 5 0) 6 (-1))), .inl (cT 2, 3, .inl (fun _ => 0)), .inl (cT 0, 97, .inl (fun _ => 0)), .inl (cT 0, 8, .inl (fun _ => 0)), .inl (cT 0, 8, .inl (fun _ => 0)), .inl (cT 0, 8, .inl (fun _ => 0)), .inl (cT 0, 8, .inl (fun _ => 0)), .inl (cT 2, 8, .inl (fun _ => 0)), .inl (cT 0, 40, .inl (fun _ => 0)), .inl (cT 0, 5, .inl (fun _ => 0)), .inl (cT 0, 5, .inl (fun _ => 0)), .inl (cT 0, 5, .inl (fun _ => 0)), .inl (cT 0, 40, .inl (fun _ => 0)), .inl (cT 0, 5, .inl (fun _ => 0)), .inl (cT 0, 5, .inl (fun _ => 0)), .inl (cT 0, 8, .inl (fun _ => 0)), .inl (cT 2, 8, .inl (fun _ => 0)), .inl (cT 0, 8, .inl (fun _ => 0)), .inl (cT 0, 5, .inl (fun _ => 0)), .inl (cT 0, 8, .inl (fun _ => 0)), .inl (cT 2, 256, .inl (fun _ => 0))]) h) (gb_fr b 22)) 0 0 (gb_fr b 22) := by
  refine Met.ofW (cc := cX12_isOf) (maxL := 3) (ret := (some FieldType.boolean)) (by decide) rfl ?_
  intro p e s m args below meth c s₁ B hml hv
  obtain ⟨rfl, hSt, hP⟩ := hv
  have hx := B.exec
  have hb := B.bytes
  have hr := B.returns
  have hts := atoms_spec (ws := .code yX12_isOf cX12_isOf 3 (some FieldType.boolean) :: gb_wA) B.pre
  have hq : ∀ w ∈ gb_wA, w.before _ s = true := fun w h => hts w (List.mem_cons_of_mem _ h)
  have hown : s.vm.findClass RX12 = some m.cls := findClass_of_methodNamed B.named
  have hlocks := B.notSynchronized
  have hK := hSt.1
  have hS : va_S (gb_fr b 22) s.heap s.heap [] := va_S.rf
  have hl := lv_entry ([.ref (b + 0), .int 0, .int p2]) (n := 3) (Nat.le_of_ble_eq_true rfl)
  rw [lg_entry_eq]
  generalize (lg_sl ([.ref (b + 0), .int 0, .int p2]) ++ List.replicate (3 - (lg_sl ([.ref (b + 0), .int 0, .int p2])).length) Slot.unset).toArray = ls at hl ⊢
  have hl : lv_has ls 3 [(0, .ref (b + 0)), (1, .int 0), (2, .int p2)] := hl
  refine lv_iload_n hx hb dX12_isOf_0 rfl (lv_at hl 2 rfl) ?_
  refine lv_iconst (v := 0) hx hb dX12_isOf_1 (by decide) ?_
  refine lv_aload_n hx hb dX12_isOf_2 rfl (lv_at hl 0 rfl) ?_
  refine va_get (ci := 10) (v := (.ref (b + 1))) (C := RX12) (T := TX12) (N := 44) hx hb hq i_X12 hown hK hP 0 (gb_at b rfl) rfl 0 (by decide) (hq _ w_1124) (fun _ h9 => h9) rfl dX12_isOf_3 ?_
  refine lv_iload_n hx hb dX12_isOf_6 rfl (lv_at hl 1 rfl) ?_
  refine gb_iald (v := 0) hx hb hK hP 1 0 (gb_at b rfl) rfl (gb_in rfl) rfl dX12_isOf_7 ?_
  refine lv_iconst (v := 1) hx hb dX12_isOf_8 (by decide) ?_
  refine lv_isub hx hb dX12_isOf_9 ?_
  refine W.eq (g2 := F0 m 10 ls [.int (-1), .int 0, .int p2]) (congrArg (fun v => F0 m 10 ls (Value.int v :: [.int 0, .int p2])) (show (0 : Int32) - 1 = (-1) by decide)) ?_
  refine gb_calli (va_runS (As := [.int p2, .int 0, .int (-1)]) (rest := []) ⟨hx, hb, hml, hown, hq⟩ (p_isIn l D cT tt b1 b hb1 [.inr (10, [.ref (b + 1), .ref (b + 2), .int 0, .int 0, .int 0, .int 0, .int 0, .int 0, .int 0, .int 0, .ref (b + 3), .int 0, .int 0, .ref (b + 4), .ref (b + 5), .ref (b + 6), .ref (b + 7), .ref (b + 8), .ref (b + 9), .ref (b + 10), .ref (b + 11), .ref (b + 12), .int 0, .int 0, .int 0, .int 0, .ref (b + 13), .ref (b + 14), .int 0, .int 0, .ref (b + 15), .ref (b + 16), .ref (b + 17), .long 0, .int 0, .int 0, .int 0, .ref (b + 18), .int 0, .ref (b + 19), .ref (b + 20), .int 0, .int 0, .ref (b + 21)]), .inl (cT 0, 3968, .inl (upd (upd (upd (upd (fun _ => 0) 6 (-1)) 4 0) 5 0) 6 (-1))), .inl (cT 2, 3, .inl (fun _ => 0)), .inl (cT 0, 97, .inl (fun _ => 0)), .inl (cT 0, 8, .inl (fun _ => 0)), .inl (cT 0, 8, .inl (fun _ => 0)), .inl (cT 0, 8, .inl (fun _ => 0)), .inl (cT 0, 8, .inl (fun _ => 0)), .inl (cT 2, 8, .inl (fun _ => 0)), .inl (cT 0, 40, .inl (fun _ => 0)), .inl (cT 0, 5, .inl (fun _ => 0)), .inl (cT 0, 5, .inl (fun _ => 0)), .inl (cT 0, 5, .inl (fun _ => 0)), .inl (cT 0, 40, .inl (fun _ => 0)), .inl (cT 0, 5, .inl (fun _ => 0)), .inl (cT 0, 5, .inl (fun _ => 0)), .inl (cT 0, 8, .inl (fun _ => 0)), .inl (cT 2, 8, .inl (fun _ => 0)), .inl (cT 0, 8, .inl (fun _ => 0)), .inl (cT 0, 5, .inl (fun _ => 0)), .inl (cT 0, 8, .inl (fun _ => 0)), .inl (cT 2, 256, .inl (fun _ => 0))] p2 0 (-1)) (va_cwS 3 hq (gb_gS w_1269 w_1270 w_14 w_1271) rfl rfl rfl (by decide +kernel) ⟨Nat.le_of_ble_eq_true rfl, Nat.le_of_ble_eq_true rfl⟩) (gb_preS hSt hS (fun q h => Nat.le_trans hb1 h.1) hP) rfl rfl hl.1 rfl (lv_room (Nat.le_of_ble_eq_true rfl)) dX12_isOf_10 ⟨Nat.le_of_ble_eq_true rfl, Nat.le_of_ble_eq_true rfl⟩) hS (fun _ h => h) (fun _ h => h) (fun r H locs hY hk hS => ?_)
  obtain ⟨hr9, hP⟩ := hY
  by_cases h_10_a : p2 < 0
  · rw [if_pos h_10_a] at hr9
    subst hr9
    exact W.zret (v := 0) hx hb hr (by decide) (fun t ht hW => gb_ri ht ⟨rfl, hP⟩ hS) hS.2.2 dX12_isOf_13
  by_cases h_10_b : (-1) < p2
  · rw [if_neg h_10_a, if_pos h_10_b] at hr9
    subst hr9
    exact W.zret (v := 0) hx hb hr (by decide) (fun t ht hW => gb_ri ht ⟨rfl, hP⟩ hS) hS.2.2 dX12_isOf_13
  exact absurd (Int32.le_trans (Int32.not_lt.mp h_10_a) (Int32.not_lt.mp h_10_b)) (by decide)
theorem dX12_text_65 : decode cX12_text 65 = .ok (.ifCond .ne 6, 3) := by decide +kernel
theorem dX12_text_46 : decode cX12_text 46 = .ok (.aload_n 0, 1) := by decide +kernel
theorem dX12_text_47 : decode cX12_text 47 = .ok (.getfield 7, 3) := by decide +kernel
theorem dX12_text_50 : decode cX12_text 50 = .ok (.iload_n 1, 1) := by decide +kernel
theorem dX12_text_51 : decode cX12_text 51 = .ok (.iaload, 1) := by decide +kernel
theorem dX12_text_52 : decode cX12_text 52 = .ok (.iconst 2, 1) := by decide +kernel
theorem dX12_text_53 : decode cX12_text 53 = .ok (.if_icmp .lt 18, 3) := by decide +kernel
theorem dX12_text_71 : decode cX12_text 71 = .ok (.aload_n 0, 1) := by decide +kernel
theorem dX12_text_72 : decode cX12_text 72 = .ok (.iconst 0, 1) := by decide +kernel
theorem dX12_text_73 : decode cX12_text 73 = .ok (.putfield 88, 3) := by decide +kernel
theorem w_1127 : (Cond.fieldLink "GooseBorderModel" (88 : Nat) "GooseBorderModel" "next" "I") ∈ gb_wA := gb_t5 167 rfl rfl
theorem dX12_text_76 : decode cX12_text 76 = .ok (.aload_n 0, 1) := by decide +kernel
theorem dX12_text_77 : decode cX12_text 77 = .ok (.iconst 0, 1) := by decide +kernel
theorem dX12_text_78 : decode cX12_text 78 = .ok (.putfield 122, 3) := by decide +kernel
theorem w_1132 : (Cond.fieldLink "GooseBorderModel" (122 : Nat) "GooseBorderModel" "wrong" "Z") ∈ gb_wA := gb_t5 172 rfl rfl
theorem dX12_text_81 : decode cX12_text 81 = .ok (.aload_n 0, 1) := by decide +kernel
theorem dX12_text_82 : decode cX12_text 82 = .ok (.iconst 0, 1) := by decide +kernel
theorem dX12_text_83 : decode cX12_text 83 = .ok (.putfield 168, 3) := by decide +kernel
theorem w_1133 : (Cond.fieldLink "GooseBorderModel" (168 : Nat) "GooseBorderModel" "twice" "Z") ∈ gb_wA := gb_t5 173 rfl rfl
theorem dX12_text_86 : decode cX12_text 86 = .ok (.iconst 0, 1) := by decide +kernel
theorem dX12_text_87 : decode cX12_text 87 = .ok (.istore_n 3, 1) := by decide +kernel
theorem dX12_text_88 : decode cX12_text 88 = .ok (.iload_n 3, 1) := by decide +kernel
theorem dX12_text_89 : decode cX12_text 89 = .ok (.bipush 97, 2) := by decide +kernel
theorem dX12_text_91 : decode cX12_text 91 = .ok (.if_icmp .ge 16, 3) := by decide +kernel
theorem dX12_text_94 : decode cX12_text 94 = .ok (.aload_n 0, 1) := by decide +kernel
theorem dX12_text_95 : decode cX12_text 95 = .ok (.getfield 17, 3) := by decide +kernel
theorem dX12_text_98 : decode cX12_text 98 = .ok (.iload_n 3, 1) := by decide +kernel
theorem dX12_text_99 : decode cX12_text 99 = .ok (.iconst 0, 1) := by decide +kernel
theorem dX12_text_100 : decode cX12_text 100 = .ok (.iastore, 1) := by decide +kernel
theorem dX12_text_101 : decode cX12_text 101 = .ok (.iinc 3 1, 3) := by decide +kernel
theorem dX12_text_104 : decode cX12_text 104 = .ok (.goto (-16), 3) := by decide +kernel
theorem dX12_text_107 : decode cX12_text 107 = .ok (.iload_n 1, 1) := by decide +kernel
theorem dX12_text_108 : decode cX12_text 108 = .ok (.ifCond .ne 10, 3) := by decide +kernel
theorem dX12_text_111 : decode cX12_text 111 = .ok (.aload_n 0, 1) := by decide +kernel
theorem dX12_text_112 : decode cX12_text 112 = .ok (.getfield 17, 3) := by decide +kernel
theorem dX12_text_115 : decode cX12_text 115 = .ok (.iconst 2, 1) := by decide +kernel
theorem dX12_text_116 : decode cX12_text 116 = .ok (.iconst (-1), 1) := by decide +kernel
theorem dX12_text_117 : decode cX12_text 117 = .ok (.iastore, 1) := by decide +kernel
theorem dX12_text_118 : decode cX12_text 118 = .ok (.aload_n 0, 1) := by decide +kernel
theorem dX12_text_119 : decode cX12_text 119 = .ok (.invokevirtual 137, 3) := by decide +kernel
theorem dX12_advance_0 : decode cX12_advance 0 = .ok (.aload_n 0, 1) := by decide +kernel
theorem dX12_advance_1 : decode cX12_advance 1 = .ok (.aload_n 0, 1) := by decide +kernel
theorem dX12_advance_2 : decode cX12_advance 2 = .ok (.getfield 88, 3) := by decide +kernel
theorem dX12_advance_5 : decode cX12_advance 5 = .ok (.invokevirtual 91, 3) := by decide +kernel
theorem dX12_byteAt_0 : decode cX12_byteAt 0 = .ok (.iload_n 1, 1) := by decide +kernel
theorem dX12_byteAt_1 : decode cX12_byteAt 1 = .ok (.aload_n 0, 1) := by decide +kernel
theorem dX12_byteAt_2 : decode cX12_byteAt 2 = .ok (.getfield 74, 3) := by decide +kernel
theorem dX12_byteAt_5 : decode cX12_byteAt 5 = .ok (.if_icmp .ge 15, 3) := by decide +kernel
theorem dX12_byteAt_20 : decode cX12_byteAt 20 = .ok (.iconst (-1), 1) := by decide +kernel
theorem dX12_byteAt_21 : decode cX12_byteAt 21 = .ok (.ireturn, 1) := by decide +kernel
set_option maxHeartbeats 4000000 in
set_option maxRecDepth 100000 in
theorem t_X12_byteAt_20 (l : Launch) (D : va_G) (cT : Nat → ClassId) (tt : Nat → Nat) (b1 b : Nat) (hb1 : b1 ≤ b) (R : Nat → Int32) : Met l yX12_byteAt (.code yX12_byteAt cX12_byteAt 2 (some FieldType.int) :: gb_wA) ({ frames := 0, cells := 0, slots := 0, locals := 0 }) (gb_Pc D cT tt b1 [.ref (b + 0), .int 0] (fun h => va_P D vwCl (gb_wl b [.inr (10, [.ref (b + 1), .ref (b + 2), .int 0, .int 0, .int 0, .int 0, .int 0, .int 0, .int 0, .int 0, .ref (b + 3), .int 0, .int 0, .ref (b + 4), .ref (b + 5), .ref (b + 6), .ref (b + 7), .ref (b + 8), .ref (b + 9), .ref (b + 10), .ref (b + 11), .ref (b + 12), .int 0, .int 0, .int 0, .int 0, .ref (b + 13), .ref (b + 14), .int 0, .int 0, .ref (b + 15), .ref (b + 16), .ref (b + 17), .long 0, .int 0, .int 0, .int 0, .ref (b + 18), .int 0, .ref (b + 19), .ref (b + 20), .int 0, .int 0, .ref (b + 21)]), .inl (cT 0, 3968, .inl (upd (upd (upd (upd (fun _ => 0) 6 (-1)) 4 0) 5 0) 6 (-1))), .inl (cT 2, 3, .inl (fun _ => 0)), .inl (cT 0, 97, .inl (upd R 2 (-1))), .inl (cT 0, 8, .inl (fun _ => 0)), .inl (cT 0, 8, .inl (fun _ => 0)), .inl (cT 0, 8, .inl (fun _ => 0)), .inl (cT 0, 8, .inl (fun _ => 0)), .inl (cT 2, 8, .inl (fun _ => 0)), .inl (cT 0, 40, .inl (fun _ => 0)), .inl (cT 0, 5, .inl (fun _ => 0)), .inl (cT 0, 5, .inl (fun _ => 0)), .inl (cT 0, 5, .inl (fun _ => 0)), .inl (cT 0, 40, .inl (fun _ => 0)), .inl (cT 0, 5, .inl (fun _ => 0)), .inl (cT 0, 5, .inl (fun _ => 0)), .inl (cT 0, 8, .inl (fun _ => 0)), .inl (cT 2, 8, .inl (fun _ => 0)), .inl (cT 0, 8, .inl (fun _ => 0)), .inl (cT 0, 5, .inl (fun _ => 0)), .inl (cT 0, 8, .inl (fun _ => 0)), .inl (cT 2, 256, .inl (fun _ => 0))]) h)) (gb_Qi (fun r h => r = (-1) ∧ va_P D vwCl (gb_wl b [.inr (10, [.ref (b + 1), .ref (b + 2), .int 0, .int 0, .int 0, .int 0, .int 0, .int 0, .int 0, .int 0, .ref (b + 3), .int 0, .int 0, .ref (b + 4), .ref (b + 5), .ref (b + 6), .ref (b + 7), .ref (b + 8), .ref (b + 9), .ref (b + 10), .ref (b + 11), .ref (b + 12), .int 0, .int 0, .int 0, .int 0, .ref (b + 13), .ref (b + 14), .int 0, .int 0, .ref (b + 15), .ref (b + 16), .ref (b + 17), .long 0, .int 0, .int 0, .int 0, .ref (b + 18), .int 0, .ref (b + 19), .ref (b + 20), .int 0, .int 0, .ref (b + 21)]), .inl (cT 0, 3968, .inl (upd (upd (upd (upd (fun _ => 0) 6 (-1)) 4 0) 5 0) 6 (-1))), .inl (cT 2, 3, .inl (fun _ => 0)), .inl (cT 0, 97, .inl (upd R 2 (-1))), .inl (cT 0, 8, .inl (fun _ => 0)), .inl (cT 0, 8, .inl (fun _ => 0)), .inl (cT 0, 8, .inl (fun _ => 0)), .inl (cT 0, 8, .inl (fun _ => 0)), .inl (cT 2, 8, .inl (fun _ => 0)), .inl (cT 0, 40, .inl (fun _ => 0)), .inl (cT 0, 5, .inl (fun _ => 0)), .inl (cT 0, 5, .inl (fun _ => 0)), .inl (cT 0, 5, .inl (fun _ => 0)), .inl (cT 0, 40, .inl (fun _ => 0)), .inl (cT 0, 5, .inl (fun _ => 0)), .inl (cT 0, 5, .inl (fun _ => 0)), .inl (cT 0, 8, .inl (fun _ => 0)), .inl (cT 2, 8, .inl (fun _ => 0)), .inl (cT 0, 8, .inl (fun _ => 0)), .inl (cT 0, 5, .inl (fun _ => 0)), .inl (cT 0, 8, .inl (fun _ => 0)), .inl (cT 2, 256, .inl (fun _ => 0))]) h) (gb_fr b 22)) 0 0 (gb_fr b 22) := by
  refine Met.ofW (cc := cX12_byteAt) (maxL := 2) (ret := (some FieldType.int)) (by decide) rfl ?_
  intro p e s m args below meth c s₁ B hml hv
  obtain ⟨rfl, hSt, hP⟩ := hv
  have hx := B.exec
  have hb := B.bytes
  have hr := B.returns
  have hts := atoms_spec (ws := .code yX12_byteAt cX12_byteAt 2 (some FieldType.int) :: gb_wA) B.pre
  have hq : ∀ w ∈ gb_wA, w.before _ s = true := fun w h => hts w (List.mem_cons_of_mem _ h)
  have hown : s.vm.findClass RX12 = some m.cls := findClass_of_methodNamed B.named
  have hlocks := B.notSynchronized
  have hK := hSt.1
  have hS : va_S (gb_fr b 22) s.heap s.heap [] := va_S.rf
  have hl := lv_entry ([.ref (b + 0), .int 0]) (n := 2) (Nat.le_of_ble_eq_true rfl)
  rw [lg_entry_eq]
  generalize (lg_sl ([.ref (b + 0), .int 0]) ++ List.replicate (2 - (lg_sl ([.ref (b + 0), .int 0])).length) Slot.unset).toArray = ls at hl ⊢
  have hl : lv_has ls 2 [(0, .ref (b + 0)), (1, .int 0)] := hl
  refine lv_iload_n hx hb dX12_byteAt_0 rfl (lv_at hl 1 rfl) ?_
  refine lv_aload_n hx hb dX12_byteAt_1 rfl (lv_at hl 0 rfl) ?_
  refine va_get (ci := 10) (v := (.int 0)) (C := RX12) (T := TX12) (N := 44) hx hb hq i_X12 hown hK hP 0 (gb_at b rfl) rfl 2 (by decide) (hq _ w_1126) (fun _ h9 => h9) rfl dX12_byteAt_2 ?_
  refine lv_icmp_ge (tgt := 20) hx hb dX12_byteAt_5 (by decide) (fun _ => ?_) (fun hc => absurd (by decide) hc)
  refine lv_iconst (v := (-1)) hx hb dX12_byteAt_20 (by decide) ?_
  exact W.iret (v := (-1)) hx hb hr (fun t ht hW => gb_ri ht ⟨rfl, hP⟩ hS) hS.2.2 dX12_byteAt_21
theorem w_1283 : (Cond.code ({ cls := "GooseBorderModel", name := "byteAt", desc := "(I)I" } : MethodName) prog_14_method_5_code (2 : Nat) (Option.some FieldType.int)) ∈ gb_wA := gb_t6 83 rfl rfl
theorem w_1280 : (Cond.methodLink "GooseBorderModel" (91 : Nat) ({ cls := "GooseBorderModel", name := "byteAt", desc := "(I)I" } : MethodName)) ∈ gb_wA := gb_t6 80 rfl rfl
theorem w_1282 : (Cond.instanceMethod ({ cls := "GooseBorderModel", name := "byteAt", desc := "(I)I" } : MethodName)) ∈ gb_wA := gb_t6 82 rfl rfl
theorem s_3_2 : Cond.selects "GooseBorderModel" (⟨"GooseBorderModel", "byteAt", "(I)I"⟩ : MethodName) (⟨"GooseBorderModel", "byteAt", "(I)I"⟩ : MethodName) ∈ gb_wA := gb_s3 2 rfl rfl
theorem dX12_advance_8 : decode cX12_advance 8 = .ok (.bipush 10, 2) := by decide +kernel
theorem dX12_advance_10 : decode cX12_advance 10 = .ok (.if_icmp .eq 16, 3) := by decide +kernel
theorem dX12_advance_13 : decode cX12_advance 13 = .ok (.aload_n 0, 1) := by decide +kernel
theorem dX12_advance_14 : decode cX12_advance 14 = .ok (.aload_n 0, 1) := by decide +kernel
theorem dX12_advance_15 : decode cX12_advance 15 = .ok (.getfield 88, 3) := by decide +kernel
theorem dX12_advance_18 : decode cX12_advance 18 = .ok (.invokevirtual 91, 3) := by decide +kernel
theorem dX12_advance_21 : decode cX12_advance 21 = .ok (.bipush 32, 2) := by decide +kernel
theorem dX12_advance_23 : decode cX12_advance 23 = .ok (.if_icmp .ne 16, 3) := by decide +kernel
theorem dX12_advance_39 : decode cX12_advance 39 = .ok (.aload_n 0, 1) := by decide +kernel
theorem dX12_advance_40 : decode cX12_advance 40 = .ok (.aload_n 0, 1) := by decide +kernel
theorem dX12_advance_41 : decode cX12_advance 41 = .ok (.getfield 88, 3) := by decide +kernel
theorem dX12_advance_44 : decode cX12_advance 44 = .ok (.putfield 95, 3) := by decide +kernel
theorem w_1128 : (Cond.fieldLink "GooseBorderModel" (95 : Nat) "GooseBorderModel" "where" "I") ∈ gb_wA := gb_t5 168 rfl rfl
theorem dX12_advance_47 : decode cX12_advance 47 = .ok (.aload_n 0, 1) := by decide +kernel
theorem dX12_advance_48 : decode cX12_advance 48 = .ok (.aload_n 0, 1) := by decide +kernel
theorem dX12_advance_49 : decode cX12_advance 49 = .ok (.getfield 88, 3) := by decide +kernel
theorem dX12_advance_52 : decode cX12_advance 52 = .ok (.invokevirtual 91, 3) := by decide +kernel
theorem dX12_advance_55 : decode cX12_advance 55 = .ok (.istore_n 1, 1) := by decide +kernel
theorem dX12_advance_56 : decode cX12_advance 56 = .ok (.iload_n 1, 1) := by decide +kernel
theorem dX12_advance_57 : decode cX12_advance 57 = .ok (.ifCond .ge 11, 3) := by decide +kernel
theorem dX12_advance_60 : decode cX12_advance 60 = .ok (.aload_n 0, 1) := by decide +kernel
theorem dX12_advance_61 : decode cX12_advance 61 = .ok (.iconst 0, 1) := by decide +kernel
theorem dX12_advance_62 : decode cX12_advance 62 = .ok (.putfield 98, 3) := by decide +kernel
theorem w_1129 : (Cond.fieldLink "GooseBorderModel" (98 : Nat) "GooseBorderModel" "token" "I") ∈ gb_wA := gb_t5 169 rfl rfl
theorem dX12_advance_65 : decode cX12_advance 65 = .ok (.goto 246, 3) := by decide +kernel
theorem dX12_advance_311 : decode cX12_advance 311 = .ok (.return_, 1) := by decide +kernel
set_option maxHeartbeats 4000000 in
set_option maxRecDepth 100000 in
theorem t_X12_advance_19 (l : Launch) (D : va_G) (cT : Nat → ClassId) (tt : Nat → Nat) (b1 b : Nat) (hb1 : b1 ≤ b) (R : Nat → Int32) : Met l yX12_advance (.code yX12_advance cX12_advance 4 none :: gb_wA) ({ frames := 1, cells := 0, slots := 0, locals := 21 }) (gb_Pc D cT tt b1 [.ref (b + 0)] (fun h => va_P D vwCl (gb_wl b [.inr (10, [.ref (b + 1), .ref (b + 2), .int 0, .int 0, .int 0, .int 0, .int 0, .int 0, .int 0, .int 0, .ref (b + 3), .int 0, .int 0, .ref (b + 4), .ref (b + 5), .ref (b + 6), .ref (b + 7), .ref (b + 8), .ref (b + 9), .ref (b + 10), .ref (b + 11), .ref (b + 12), .int 0, .int 0, .int 0, .int 0, .ref (b + 13), .ref (b + 14), .int 0, .int 0, .ref (b + 15), .ref (b + 16), .ref (b + 17), .long 0, .int 0, .int 0, .int 0, .ref (b + 18), .int 0, .ref (b + 19), .ref (b + 20), .int 0, .int 0, .ref (b + 21)]), .inl (cT 0, 3968, .inl (upd (upd (upd (upd (fun _ => 0) 6 (-1)) 4 0) 5 0) 6 (-1))), .inl (cT 2, 3, .inl (fun _ => 0)), .inl (cT 0, 97, .inl (upd R 2 (-1))), .inl (cT 0, 8, .inl (fun _ => 0)), .inl (cT 0, 8, .inl (fun _ => 0)), .inl (cT 0, 8, .inl (fun _ => 0)), .inl (cT 0, 8, .inl (fun _ => 0)), .inl (cT 2, 8, .inl (fun _ => 0)), .inl (cT 0, 40, .inl (fun _ => 0)), .inl (cT 0, 5, .inl (fun _ => 0)), .inl (cT 0, 5, .inl (fun _ => 0)), .inl (cT 0, 5, .inl (fun _ => 0)), .inl (cT 0, 40, .inl (fun _ => 0)), .inl (cT 0, 5, .inl (fun _ => 0)), .inl (cT 0, 5, .inl (fun _ => 0)), .inl (cT 0, 8, .inl (fun _ => 0)), .inl (cT 2, 8, .inl (fun _ => 0)), .inl (cT 0, 8, .inl (fun _ => 0)), .inl (cT 0, 5, .inl (fun _ => 0)), .inl (cT 0, 8, .inl (fun _ => 0)), .inl (cT 2, 256, .inl (fun _ => 0))]) h)) (gb_Qv (fun h => va_P D vwCl (gb_wl b [.inr (10, [.ref (b + 1), .ref (b + 2), .int 0, .int 0, .int 0, .int 0, .int 0, .int 0, .int 0, .int 0, .ref (b + 3), .int 0, .int 0, .ref (b + 4), .ref (b + 5), .ref (b + 6), .ref (b + 7), .ref (b + 8), .ref (b + 9), .ref (b + 10), .ref (b + 11), .ref (b + 12), .int 0, .int 0, .int 0, .int 0, .ref (b + 13), .ref (b + 14), .int 0, .int 0, .ref (b + 15), .ref (b + 16), .ref (b + 17), .long 0, .int 0, .int 0, .int 0, .ref (b + 18), .int 0, .ref (b + 19), .ref (b + 20), .int 0, .int 0, .ref (b + 21)]), .inl (cT 0, 3968, .inl (upd (upd (upd (upd (fun _ => 0) 6 (-1)) 4 0) 5 0) 6 (-1))), .inl (cT 2, 3, .inl (fun _ => 0)), .inl (cT 0, 97, .inl (upd R 2 (-1))), .inl (cT 0, 8, .inl (fun _ => 0)), .inl (cT 0, 8, .inl (fun _ => 0)), .inl (cT 0, 8, .inl (fun _ => 0)), .inl (cT 0, 8, .inl (fun _ => 0)), .inl (cT 2, 8, .inl (fun _ => 0)), .inl (cT 0, 40, .inl (fun _ => 0)), .inl (cT 0, 5, .inl (fun _ => 0)), .inl (cT 0, 5, .inl (fun _ => 0)), .inl (cT 0, 5, .inl (fun _ => 0)), .inl (cT 0, 40, .inl (fun _ => 0)), .inl (cT 0, 5, .inl (fun _ => 0)), .inl (cT 0, 5, .inl (fun _ => 0)), .inl (cT 0, 8, .inl (fun _ => 0)), .inl (cT 2, 8, .inl (fun _ => 0)), .inl (cT 0, 8, .inl (fun _ => 0)), .inl (cT 0, 5, .inl (fun _ => 0)), .inl (cT 0, 8, .inl (fun _ => 0)), .inl (cT 2, 256, .inl (fun _ => 0))]) h) (gb_fr b 22)) 0 0 (gb_fr b 22) := by
  refine Met.ofW (cc := cX12_advance) (maxL := 4) (ret := none) (by decide) rfl ?_
  intro p e s m args below meth c s₁ B hml hv
  obtain ⟨rfl, hSt, hP⟩ := hv
  have hx := B.exec
  have hb := B.bytes
  have hr := B.returns
  have hts := atoms_spec (ws := .code yX12_advance cX12_advance 4 none :: gb_wA) B.pre
  have hq : ∀ w ∈ gb_wA, w.before _ s = true := fun w h => hts w (List.mem_cons_of_mem _ h)
  have hown : s.vm.findClass RX12 = some m.cls := findClass_of_methodNamed B.named
  have hlocks := B.notSynchronized
  have hK := hSt.1
  have hS : va_S (gb_fr b 22) s.heap s.heap [] := va_S.rf
  have hl := lv_entry ([.ref (b + 0)]) (n := 4) (Nat.le_of_ble_eq_true rfl)
  rw [lg_entry_eq]
  generalize (lg_sl ([.ref (b + 0)]) ++ List.replicate (4 - (lg_sl ([.ref (b + 0)])).length) Slot.unset).toArray = ls at hl ⊢
  have hl : lv_has ls 4 [(0, .ref (b + 0))] := hl
  refine lv_aload_n hx hb dX12_advance_0 rfl (lv_at hl 0 rfl) ?_
  refine lv_aload_n hx hb dX12_advance_1 rfl (lv_at hl 0 rfl) ?_
  refine va_get (ci := 10) (v := (.int 0)) (C := RX12) (T := TX12) (N := 44) hx hb hq i_X12 hown hK hP 0 (gb_at b rfl) rfl 3 (by decide) (hq _ w_1127) (fun _ h9 => h9) rfl dX12_advance_2 ?_
  refine gb_calli (va_runV (C := RX12) (As := [.int 0]) (rest := []) ⟨hx, hb, hml, hown, hq⟩ (t_X12_byteAt_20 l D cT tt b1 b hb1 R) (cwV 1 hq (gb_gV w_1280 w_1282 s_3_2 w_14 w_1283) rfl rfl rfl (by decide +kernel) ⟨Nat.le_of_ble_eq_true rfl, Nat.le_of_ble_eq_true rfl⟩) (gb_preV (r := (RX12, TX12, 44)) (ci := 10) (q0 := 0) hSt hP rfl (gb_at b rfl) hS (fun q h => Nat.le_trans hb1 h.1) hP) rfl rfl hl.1 rfl (lv_room (Nat.le_of_ble_eq_true rfl)) dX12_advance_5 ⟨Nat.le_of_ble_eq_true rfl, Nat.le_of_ble_eq_true rfl⟩) hS (fun _ h => h) (fun _ h => h) (fun r H locs hY hk hS => ?_)
  obtain ⟨hr9, hP⟩ := hY
  subst hr9
  refine lv_bipush (v := 10) hx hb dX12_advance_8 (by decide) ?_
  refine lv_icmp_eq (tgt := 26) hx hb dX12_advance_10 (by decide) (fun hc => absurd hc (by decide)) (fun _ => ?_)
  refine lv_aload_n hx hb dX12_advance_13 rfl (lv_at hl 0 rfl) ?_
  refine lv_aload_n hx hb dX12_advance_14 rfl (lv_at hl 0 rfl) ?_
  refine va_get (ci := 10) (v := (.int 0)) (C := RX12) (T := TX12) (N := 44) hx hb hq i_X12 hown hK hP 0 (gb_at b rfl) rfl 3 (by decide) (hq _ w_1127) (fun _ h9 => h9) rfl dX12_advance_15 ?_
  refine gb_calli (va_runV (C := RX12) (As := [.int 0]) (rest := []) ⟨hx, hb, hml, hown, hq⟩ (t_X12_byteAt_20 l D cT tt b1 b hb1 R) (cwV 1 hq (gb_gV w_1280 w_1282 s_3_2 w_14 w_1283) rfl rfl rfl (by decide +kernel) ⟨Nat.le_of_ble_eq_true rfl, Nat.le_of_ble_eq_true rfl⟩) (gb_preV (r := (RX12, TX12, 44)) (ci := 10) (q0 := 0) hSt hP rfl (gb_at b rfl) hS (fun q h => Nat.le_trans hb1 h.1) hP) rfl rfl hl.1 rfl (lv_room (Nat.le_of_ble_eq_true rfl)) dX12_advance_18 ⟨Nat.le_of_ble_eq_true rfl, Nat.le_of_ble_eq_true rfl⟩) hS (fun _ h => h) (fun _ h => h) (fun r H locs hY hk hS => ?_)
  obtain ⟨hr9, hP⟩ := hY
  subst hr9
  refine lv_bipush (v := 32) hx hb dX12_advance_21 (by decide) ?_
  refine lv_icmp_ne (tgt := 39) hx hb dX12_advance_23 (by decide) (fun _ => ?_) (fun hc => absurd hc (by decide))
  refine lv_aload_n hx hb dX12_advance_39 rfl (lv_at hl 0 rfl) ?_
  refine lv_aload_n hx hb dX12_advance_40 rfl (lv_at hl 0 rfl) ?_
  refine va_get (ci := 10) (v := (.int 0)) (C := RX12) (T := TX12) (N := 44) hx hb hq i_X12 hown hK hP 0 (gb_at b rfl) rfl 3 (by decide) (hq _ w_1127) (fun _ h9 => h9) rfl dX12_advance_41 ?_
  refine gb_put (ci := 10) (v := (.int 0)) (ty := .int) (C := RX12) (T := TX12) (N := 44) hx hb hq i_X12 tyX12 tyX12_ok nmX12 hown hK hP (fun k h => ⟨Nat.le_add_right b k, Nat.add_lt_add_left h b⟩) hS rfl 0 rfl rfl 4 (by decide) (hq _ w_1128) (fun _ h9 => h9) rfl (by decide +kernel) rfl (by first | rfl | decide) (Nat.le_of_ble_eq_true rfl) dX12_advance_44 (fun H locs hP hz_ hS => ?_)
  have hP : va_P D vwCl (gb_wl b [.inr (10, [.ref (b + 1), .ref (b + 2), .int 0, .int 0, .int 0, .int 0, .int 0, .int 0, .int 0, .int 0, .ref (b + 3), .int 0, .int 0, .ref (b + 4), .ref (b + 5), .ref (b + 6), .ref (b + 7), .ref (b + 8), .ref (b + 9), .ref (b + 10), .ref (b + 11), .ref (b + 12), .int 0, .int 0, .int 0, .int 0, .ref (b + 13), .ref (b + 14), .int 0, .int 0, .ref (b + 15), .ref (b + 16), .ref (b + 17), .long 0, .int 0, .int 0, .int 0, .ref (b + 18), .int 0, .ref (b + 19), .ref (b + 20), .int 0, .int 0, .ref (b + 21)]), .inl (cT 0, 3968, .inl (upd (upd (upd (upd (fun _ => 0) 6 (-1)) 4 0) 5 0) 6 (-1))), .inl (cT 2, 3, .inl (fun _ => 0)), .inl (cT 0, 97, .inl (upd R 2 (-1))), .inl (cT 0, 8, .inl (fun _ => 0)), .inl (cT 0, 8, .inl (fun _ => 0)), .inl (cT 0, 8, .inl (fun _ => 0)), .inl (cT 0, 8, .inl (fun _ => 0)), .inl (cT 2, 8, .inl (fun _ => 0)), .inl (cT 0, 40, .inl (fun _ => 0)), .inl (cT 0, 5, .inl (fun _ => 0)), .inl (cT 0, 5, .inl (fun _ => 0)), .inl (cT 0, 5, .inl (fun _ => 0)), .inl (cT 0, 40, .inl (fun _ => 0)), .inl (cT 0, 5, .inl (fun _ => 0)), .inl (cT 0, 5, .inl (fun _ => 0)), .inl (cT 0, 8, .inl (fun _ => 0)), .inl (cT 2, 8, .inl (fun _ => 0)), .inl (cT 0, 8, .inl (fun _ => 0)), .inl (cT 0, 5, .inl (fun _ => 0)), .inl (cT 0, 8, .inl (fun _ => 0)), .inl (cT 2, 256, .inl (fun _ => 0))]) H := hP
  refine lv_aload_n hx hb dX12_advance_47 rfl (lv_at hl 0 rfl) ?_
  refine lv_aload_n hx hb dX12_advance_48 rfl (lv_at hl 0 rfl) ?_
  refine va_get (ci := 10) (v := (.int 0)) (C := RX12) (T := TX12) (N := 44) hx hb hq i_X12 hown hK hP 0 (gb_at b rfl) rfl 3 (by decide) (hq _ w_1127) (fun _ h9 => h9) rfl dX12_advance_49 ?_
  refine gb_calli (va_runV (C := RX12) (As := [.int 0]) (rest := []) ⟨hx, hb, hml, hown, hq⟩ (t_X12_byteAt_20 l D cT tt b1 b hb1 R) (cwV 1 hq (gb_gV w_1280 w_1282 s_3_2 w_14 w_1283) rfl rfl rfl (by decide +kernel) ⟨Nat.le_of_ble_eq_true rfl, Nat.le_of_ble_eq_true rfl⟩) (gb_preV (r := (RX12, TX12, 44)) (ci := 10) (q0 := 0) hSt hP rfl (gb_at b rfl) hS (fun q h => Nat.le_trans hb1 h.1) hP) rfl rfl hl.1 rfl (lv_room (Nat.le_of_ble_eq_true rfl)) dX12_advance_52 ⟨Nat.le_of_ble_eq_true rfl, Nat.le_of_ble_eq_true rfl⟩) hS (fun _ h => h) (fun _ h => h) (fun r H locs hY hk hS => ?_)
  obtain ⟨hr9, hP⟩ := hY
  subst hr9
  refine lv_istore_n (lv' := [(1, .int (-1)), (0, .ref (b + 0))]) hx hb dX12_advance_55 rfl hl (by decide) rfl (fun ls hl => ?_)
  refine lv_iload_n hx hb dX12_advance_56 rfl (lv_at hl 0 rfl) ?_
  refine lv_if_ge (tgt := 68) hx hb dX12_advance_57 (by decide) (fun hc => absurd hc (by decide)) (fun _ => ?_)
  refine lv_aload_n hx hb dX12_advance_60 rfl (lv_at hl 1 rfl) ?_
  refine lv_iconst (v := 0) hx hb dX12_advance_61 (by decide) ?_
  refine gb_put (ci := 10) (v := (.int 0)) (ty := .int) (C := RX12) (T := TX12) (N := 44) hx hb hq i_X12 tyX12 tyX12_ok nmX12 hown hK hP (fun k h => ⟨Nat.le_add_right b k, Nat.add_lt_add_left h b⟩) hS rfl 0 rfl rfl 5 (by decide) (hq _ w_1129) (fun _ h9 => h9) rfl (by decide +kernel) rfl (by first | rfl | decide) (Nat.le_of_ble_eq_true rfl) dX12_advance_62 (fun H locs hP hz_ hS => ?_)
  have hP : va_P D vwCl (gb_wl b [.inr (10, [.ref (b + 1), .ref (b + 2), .int 0, .int 0, .int 0, .int 0, .int 0, .int 0, .int 0, .int 0, .ref (b + 3), .int 0, .int 0, .ref (b + 4), .ref (b + 5), .ref (b + 6), .ref (b + 7), .ref (b + 8), .ref (b + 9), .ref (b + 10), .ref (b + 11), .ref (b + 12), .int 0, .int 0, .int 0, .int 0, .ref (b + 13), .ref (b + 14), .int 0, .int 0, .ref (b + 15), .ref (b + 16), .ref (b + 17), .long 0, .int 0, .int 0, .int 0, .ref (b + 18), .int 0, .ref (b + 19), .ref (b + 20), .int 0, .int 0, .ref (b + 21)]), .inl (cT 0, 3968, .inl (upd (upd (upd (upd (fun _ => 0) 6 (-1)) 4 0) 5 0) 6 (-1))), .inl (cT 2, 3, .inl (fun _ => 0)), .inl (cT 0, 97, .inl (upd R 2 (-1))), .inl (cT 0, 8, .inl (fun _ => 0)), .inl (cT 0, 8, .inl (fun _ => 0)), .inl (cT 0, 8, .inl (fun _ => 0)), .inl (cT 0, 8, .inl (fun _ => 0)), .inl (cT 2, 8, .inl (fun _ => 0)), .inl (cT 0, 40, .inl (fun _ => 0)), .inl (cT 0, 5, .inl (fun _ => 0)), .inl (cT 0, 5, .inl (fun _ => 0)), .inl (cT 0, 5, .inl (fun _ => 0)), .inl (cT 0, 40, .inl (fun _ => 0)), .inl (cT 0, 5, .inl (fun _ => 0)), .inl (cT 0, 5, .inl (fun _ => 0)), .inl (cT 0, 8, .inl (fun _ => 0)), .inl (cT 2, 8, .inl (fun _ => 0)), .inl (cT 0, 8, .inl (fun _ => 0)), .inl (cT 0, 5, .inl (fun _ => 0)), .inl (cT 0, 8, .inl (fun _ => 0)), .inl (cT 2, 256, .inl (fun _ => 0))]) H := hP
  refine lv_goto (tgt := 311) hx hb dX12_advance_65 (by decide) ?_
  exact W.vret hx hb hr (fun t ht hW => gb_rv ht hP hS) hS.2.2 dX12_advance_311
theorem w_1279 : (Cond.code ({ cls := "GooseBorderModel", name := "advance", desc := "()V" } : MethodName) prog_14_method_11_code (4 : Nat) (Option.none : Option FieldType)) ∈ gb_wA := gb_t6 79 rfl rfl
theorem w_1276 : (Cond.methodLink "GooseBorderModel" (137 : Nat) ({ cls := "GooseBorderModel", name := "advance", desc := "()V" } : MethodName)) ∈ gb_wA := gb_t6 76 rfl rfl
theorem w_1278 : (Cond.instanceMethod ({ cls := "GooseBorderModel", name := "advance", desc := "()V" } : MethodName)) ∈ gb_wA := gb_t6 78 rfl rfl
theorem s_3_1 : Cond.selects "GooseBorderModel" (⟨"GooseBorderModel", "advance", "()V"⟩ : MethodName) (⟨"GooseBorderModel", "advance", "()V"⟩ : MethodName) ∈ gb_wA := gb_s3 1 rfl rfl
theorem dX12_text_122 : decode cX12_text 122 = .ok (.aload_n 0, 1) := by decide +kernel
theorem dX12_text_123 : decode cX12_text 123 = .ok (.getfield 122, 3) := by decide +kernel
theorem dX12_text_126 : decode cX12_text 126 = .ok (.ifCond .ne 52, 3) := by decide +kernel
theorem dX12_text_129 : decode cX12_text 129 = .ok (.aload_n 0, 1) := by decide +kernel
theorem dX12_text_130 : decode cX12_text 130 = .ok (.getfield 98, 3) := by decide +kernel
theorem dX12_text_133 : decode cX12_text 133 = .ok (.ifCond .eq 45, 3) := by decide +kernel
theorem dX12_text_178 : decode cX12_text 178 = .ok (.aload_n 0, 1) := by decide +kernel
theorem dX12_text_179 : decode cX12_text 179 = .ok (.getfield 7, 3) := by decide +kernel
theorem dX12_text_182 : decode cX12_text 182 = .ok (.iconst 5, 1) := by decide +kernel
theorem dX12_text_183 : decode cX12_text 183 = .ok (.iaload, 1) := by decide +kernel
theorem dX12_text_184 : decode cX12_text 184 = .ok (.ifCond .ne 19, 3) := by decide +kernel
theorem dX12_text_187 : decode cX12_text 187 = .ok (.aload_n 0, 1) := by decide +kernel
theorem dX12_text_188 : decode cX12_text 188 = .ok (.getfield 168, 3) := by decide +kernel
theorem dX12_text_191 : decode cX12_text 191 = .ok (.ifCond .eq 12, 3) := by decide +kernel
theorem dX12_text_203 : decode cX12_text 203 = .ok (.aload_n 0, 1) := by decide +kernel
theorem dX12_text_204 : decode cX12_text 204 = .ok (.getfield 7, 3) := by decide +kernel
theorem dX12_text_207 : decode cX12_text 207 = .ok (.iconst 5, 1) := by decide +kernel
theorem dX12_text_208 : decode cX12_text 208 = .ok (.iaload, 1) := by decide +kernel
theorem dX12_text_209 : decode cX12_text 209 = .ok (.ifCond .eq 5, 3) := by decide +kernel
theorem dX12_text_214 : decode cX12_text 214 = .ok (.iload_n 2, 1) := by decide +kernel
theorem dX12_text_215 : decode cX12_text 215 = .ok (.iconst (-1), 1) := by decide +kernel
theorem dX12_text_216 : decode cX12_text 216 = .ok (.if_icmp .ne 12, 3) := by decide +kernel
theorem dX12_text_219 : decode cX12_text 219 = .ok (.aload_n 0, 1) := by decide +kernel
theorem dX12_text_220 : decode cX12_text 220 = .ok (.getfield 7, 3) := by decide +kernel
theorem dX12_text_223 : decode cX12_text 223 = .ok (.iload_n 1, 1) := by decide +kernel
theorem dX12_text_224 : decode cX12_text 224 = .ok (.iaload, 1) := by decide +kernel
theorem dX12_text_225 : decode cX12_text 225 = .ok (.goto 4, 3) := by decide +kernel
theorem dX12_text_229 : decode cX12_text 229 = .ok (.istore_n 3, 1) := by decide +kernel
theorem dX12_text_230 : decode cX12_text 230 = .ok (.iload_n 2, 1) := by decide +kernel
theorem dX12_text_231 : decode cX12_text 231 = .ok (.iconst (-1), 1) := by decide +kernel
theorem dX12_text_232 : decode cX12_text 232 = .ok (.if_icmp .ne 13, 3) := by decide +kernel
theorem dX12_text_235 : decode cX12_text 235 = .ok (.aload_n 0, 1) := by decide +kernel
theorem dX12_text_236 : decode cX12_text 236 = .ok (.getfield 7, 3) := by decide +kernel
theorem dX12_text_239 : decode cX12_text 239 = .ok (.iload_n 1, 1) := by decide +kernel
theorem dX12_text_240 : decode cX12_text 240 = .ok (.dup2, 1) := by decide +kernel
theorem dX12_text_241 : decode cX12_text 241 = .ok (.iaload, 1) := by decide +kernel
theorem dX12_text_242 : decode cX12_text 242 = .ok (.iconst 1, 1) := by decide +kernel
theorem dX12_text_243 : decode cX12_text 243 = .ok (.iadd, 1) := by decide +kernel
theorem dX12_text_244 : decode cX12_text 244 = .ok (.iastore, 1) := by decide +kernel
theorem dX12_text_245 : decode cX12_text 245 = .ok (.iconst 0, 1) := by decide +kernel
theorem dX12_text_246 : decode cX12_text 246 = .ok (.istore 4, 2) := by decide +kernel
theorem dX12_text_248 : decode cX12_text 248 = .ok (.iload 4, 2) := by decide +kernel
theorem dX12_text_250 : decode cX12_text 250 = .ok (.iload_n 1, 1) := by decide +kernel
theorem dX12_text_251 : decode cX12_text 251 = .ok (.invokestatic 187, 3) := by decide +kernel
theorem dX12_sizeOf_0 : decode cX12_sizeOf 0 = .ok (.iload_n 0, 1) := by decide +kernel
theorem dX12_sizeOf_1 : decode cX12_sizeOf 1 = .ok (.ifCond .ne 8, 3) := by decide +kernel
theorem dX12_sizeOf_4 : decode cX12_sizeOf 4 = .ok (.bipush 58, 2) := by decide +kernel
theorem dX12_sizeOf_6 : decode cX12_sizeOf 6 = .ok (.goto 25, 3) := by decide +kernel
theorem dX12_sizeOf_31 : decode cX12_sizeOf 31 = .ok (.ireturn, 1) := by decide +kernel
set_option maxHeartbeats 4000000 in
set_option maxRecDepth 100000 in
theorem p_X12_sizeOf_21 (l : Launch) (D : va_G) (cT : Nat → ClassId) (tt : Nat → Nat) (b1 b : Nat) (hb1 : b1 ≤ b) (cs : List va_E) : Met l yX12_sizeOf (.code yX12_sizeOf cX12_sizeOf 1 (some FieldType.int) :: gb_wA) ({ frames := 0, cells := 0, slots := 0, locals := 0 }) (gb_Pc D cT tt b1 [.int 0] (fun h => va_P D vwCl (gb_wl b cs) h)) (gb_Qi (fun r h => r = 58 ∧ va_P D vwCl (gb_wl b cs) h) (gb_fr b cs.length)) 0 0 (gb_fr b cs.length) := by
  refine Met.ofW (cc := cX12_sizeOf) (maxL := 1) (ret := (some FieldType.int)) (by decide) rfl ?_
  intro p e s m args below meth c s₁ B hml hv
  obtain ⟨rfl, hSt, hP⟩ := hv
  have hx := B.exec
  have hb := B.bytes
  have hr := B.returns
  have hts := atoms_spec (ws := .code yX12_sizeOf cX12_sizeOf 1 (some FieldType.int) :: gb_wA) B.pre
  have hq : ∀ w ∈ gb_wA, w.before _ s = true := fun w h => hts w (List.mem_cons_of_mem _ h)
  have hown : s.vm.findClass RX12 = some m.cls := findClass_of_methodNamed B.named
  have hlocks := B.notSynchronized
  have hK := hSt.1
  have hS : va_S (gb_fr b cs.length) s.heap s.heap [] := va_S.rf
  have hl := lv_entry ([.int 0]) (n := 1) (Nat.le_of_ble_eq_true rfl)
  rw [lg_entry_eq]
  generalize (lg_sl ([.int 0]) ++ List.replicate (1 - (lg_sl ([.int 0])).length) Slot.unset).toArray = ls at hl ⊢
  have hl : lv_has ls 1 [(0, .int 0)] := hl
  refine lv_iload_n hx hb dX12_sizeOf_0 rfl (lv_at hl 0 rfl) ?_
  refine lv_if_ne (tgt := 9) hx hb dX12_sizeOf_1 (by decide) (fun hc => absurd hc (by decide)) (fun _ => ?_)
  refine lv_bipush (v := 58) hx hb dX12_sizeOf_4 (by decide) ?_
  refine lv_goto (tgt := 31) hx hb dX12_sizeOf_6 (by decide) ?_
  exact W.iret (v := 58) hx hb hr (fun t ht hW => gb_ri ht ⟨rfl, hP⟩ hS) hS.2.2 dX12_sizeOf_31
theorem w_1360 : (Cond.code ({ cls := "GooseBorderModel", name := "sizeOf", desc := "(I)I" } : MethodName) prog_14_method_27_code (1 : Nat) (Option.some FieldType.int)) ∈ gb_wA := gb_t6 160 rfl rfl
theorem w_1358 : (Cond.methodLink "GooseBorderModel" (187 : Nat) ({ cls := "GooseBorderModel", name := "sizeOf", desc := "(I)I" } : MethodName)) ∈ gb_wA := gb_t6 158 rfl rfl
theorem w_1359 : (Cond.static ({ cls := "GooseBorderModel", name := "sizeOf", desc := "(I)I" } : MethodName)) ∈ gb_wA := gb_t6 159 rfl rfl
theorem dX12_text_254 : decode cX12_text 254 = .ok (.if_icmp .ge 29, 3) := by decide +kernel
theorem dX12_text_257 : decode cX12_text 257 = .ok (.aload_n 0, 1) := by decide +kernel
theorem dX12_text_258 : decode cX12_text 258 = .ok (.getfield 7, 3) := by decide +kernel
theorem dX12_text_261 : decode cX12_text 261 = .ok (.iload_n 1, 1) := by decide +kernel
theorem dX12_text_262 : decode cX12_text 262 = .ok (.iload_n 3, 1) := by decide +kernel
theorem dX12_text_263 : decode cX12_text 263 = .ok (.invokestatic 190, 3) := by decide +kernel
theorem dX12_placeOf_0 : decode cX12_placeOf 0 = .ok (.iload_n 0, 1) := by decide +kernel
theorem dX12_placeOf_1 : decode cX12_placeOf 1 = .ok (.ifCond .ne 14, 3) := by decide +kernel
theorem dX12_placeOf_4 : decode cX12_placeOf 4 = .ok (.sipush 610, 3) := by decide +kernel
theorem dX12_placeOf_7 : decode cX12_placeOf 7 = .ok (.bipush 58, 2) := by decide +kernel
theorem dX12_placeOf_9 : decode cX12_placeOf 9 = .ok (.iload_n 1, 1) := by decide +kernel
theorem dX12_placeOf_10 : decode cX12_placeOf 10 = .ok (.imul, 1) := by decide +kernel
theorem dX12_placeOf_11 : decode cX12_placeOf 11 = .ok (.iadd, 1) := by decide +kernel
theorem dX12_placeOf_12 : decode cX12_placeOf 12 = .ok (.goto 43, 3) := by decide +kernel
theorem dX12_placeOf_55 : decode cX12_placeOf 55 = .ok (.ireturn, 1) := by decide +kernel
set_option maxHeartbeats 4000000 in
set_option maxRecDepth 100000 in
theorem p_X12_placeOf_22 (l : Launch) (D : va_G) (cT : Nat → ClassId) (tt : Nat → Nat) (b1 b : Nat) (hb1 : b1 ≤ b) (cs : List va_E) : Met l yX12_placeOf (.code yX12_placeOf cX12_placeOf 2 (some FieldType.int) :: gb_wA) ({ frames := 0, cells := 0, slots := 0, locals := 0 }) (gb_Pc D cT tt b1 [.int 0, .int 0] (fun h => va_P D vwCl (gb_wl b cs) h)) (gb_Qi (fun r h => r = 610 ∧ va_P D vwCl (gb_wl b cs) h) (gb_fr b cs.length)) 0 0 (gb_fr b cs.length) := by
  refine Met.ofW (cc := cX12_placeOf) (maxL := 2) (ret := (some FieldType.int)) (by decide) rfl ?_
  intro p e s m args below meth c s₁ B hml hv
  obtain ⟨rfl, hSt, hP⟩ := hv
  have hx := B.exec
  have hb := B.bytes
  have hr := B.returns
  have hts := atoms_spec (ws := .code yX12_placeOf cX12_placeOf 2 (some FieldType.int) :: gb_wA) B.pre
  have hq : ∀ w ∈ gb_wA, w.before _ s = true := fun w h => hts w (List.mem_cons_of_mem _ h)
  have hown : s.vm.findClass RX12 = some m.cls := findClass_of_methodNamed B.named
  have hlocks := B.notSynchronized
  have hK := hSt.1
  have hS : va_S (gb_fr b cs.length) s.heap s.heap [] := va_S.rf
  have hl := lv_entry ([.int 0, .int 0]) (n := 2) (Nat.le_of_ble_eq_true rfl)
  rw [lg_entry_eq]
  generalize (lg_sl ([.int 0, .int 0]) ++ List.replicate (2 - (lg_sl ([.int 0, .int 0])).length) Slot.unset).toArray = ls at hl ⊢
  have hl : lv_has ls 2 [(0, .int 0), (1, .int 0)] := hl
  refine lv_iload_n hx hb dX12_placeOf_0 rfl (lv_at hl 0 rfl) ?_
  refine lv_if_ne (tgt := 15) hx hb dX12_placeOf_1 (by decide) (fun hc => absurd hc (by decide)) (fun _ => ?_)
  refine lv_sipush (v := 610) hx hb dX12_placeOf_4 (by decide) ?_
  refine lv_bipush (v := 58) hx hb dX12_placeOf_7 (by decide) ?_
  refine lv_iload_n hx hb dX12_placeOf_9 rfl (lv_at hl 1 rfl) ?_
  refine lv_imul hx hb dX12_placeOf_10 ?_
  refine W.eq (g2 := F0 m 11 ls [.int 0, .int 610]) (congrArg (fun v => F0 m 11 ls (Value.int v :: [.int 610])) (show (58 : Int32) * 0 = 0 by decide)) ?_
  refine lv_iadd hx hb dX12_placeOf_11 ?_
  refine W.eq (g2 := F0 m 12 ls [.int 610]) (congrArg (fun v => F0 m 12 ls (Value.int v :: [])) (show (610 : Int32) + 0 = 610 by decide)) ?_
  refine lv_goto (tgt := 55) hx hb dX12_placeOf_12 (by decide) ?_
  exact W.iret (v := 610) hx hb hr (fun t ht hW => gb_ri ht ⟨rfl, hP⟩ hS) hS.2.2 dX12_placeOf_55
theorem w_1363 : (Cond.code ({ cls := "GooseBorderModel", name := "placeOf", desc := "(II)I" } : MethodName) prog_14_method_26_code (2 : Nat) (Option.some FieldType.int)) ∈ gb_wA := gb_t6 163 rfl rfl
theorem w_1361 : (Cond.methodLink "GooseBorderModel" (190 : Nat) ({ cls := "GooseBorderModel", name := "placeOf", desc := "(II)I" } : MethodName)) ∈ gb_wA := gb_t6 161 rfl rfl
theorem w_1362 : (Cond.static ({ cls := "GooseBorderModel", name := "placeOf", desc := "(II)I" } : MethodName)) ∈ gb_wA := gb_t6 162 rfl rfl
theorem dX12_text_266 : decode cX12_text 266 = .ok (.iload 4, 2) := by decide +kernel
theorem dX12_text_268 : decode cX12_text 268 = .ok (.iadd, 1) := by decide +kernel
theorem dX12_text_269 : decode cX12_text 269 = .ok (.aload_n 0, 1) := by decide +kernel
theorem dX12_text_270 : decode cX12_text 270 = .ok (.getfield 17, 3) := by decide +kernel
theorem dX12_text_273 : decode cX12_text 273 = .ok (.iload 4, 2) := by decide +kernel
theorem dX12_text_275 : decode cX12_text 275 = .ok (.iaload, 1) := by decide +kernel
theorem dX12_text_276 : decode cX12_text 276 = .ok (.iastore, 1) := by decide +kernel
theorem dX12_text_277 : decode cX12_text 277 = .ok (.iinc 4 1, 3) := by decide +kernel
theorem dX12_text_280 : decode cX12_text 280 = .ok (.goto (-32), 3) := by decide +kernel
theorem dX12_text_283 : decode cX12_text 283 = .ok (.iload_n 3, 1) := by decide +kernel
theorem dX12_text_284 : decode cX12_text 284 = .ok (.ireturn, 1) := by decide +kernel
set_option maxHeartbeats 4000000 in
set_option maxRecDepth 100000 in
theorem t_X12_isOf_23 (l : Launch) (D : va_G) (cT : Nat → ClassId) (tt : Nat → Nat) (b1 b : Nat) (hb1 : b1 ≤ b) (p2 : Int32) : Met l yX12_isOf (.code yX12_isOf cX12_isOf 3 (some FieldType.boolean) :: gb_wA) ({ frames := 1, cells := 0, slots := 0, locals := 22 }) (gb_Pc D cT tt b1 [.ref (b + 0), .int 1, .int p2] (fun h => va_P D vwCl (gb_wl b [.inr (10, [.ref (b + 1), .ref (b + 2), .int 0, .int 0, .int 0, .int 0, .int 0, .int 0, .int 0, .int 0, .ref (b + 3), .int 0, .int 0, .ref (b + 4), .ref (b + 5), .ref (b + 6), .ref (b + 7), .ref (b + 8), .ref (b + 9), .ref (b + 10), .ref (b + 11), .ref (b + 12), .int 0, .int 0, .int 0, .int 0, .ref (b + 13), .ref (b + 14), .int 0, .int 0, .ref (b + 15), .ref (b + 16), .ref (b + 17), .long 0, .int 0, .int 0, .int 0, .ref (b + 18), .int 0, .ref (b + 19), .ref (b + 20), .int 0, .int 0, .ref (b + 21)]), .inl (cT 0, 3968, .inl (upd (upd (upd (upd (fun _ => 0) 6 (-1)) 4 0) 5 0) 6 (-1))), .inl (cT 2, 3, .inl (fun _ => 0)), .inl (cT 0, 97, .inl (fun _ => 0)), .inl (cT 0, 8, .inl (fun _ => 0)), .inl (cT 0, 8, .inl (fun _ => 0)), .inl (cT 0, 8, .inl (fun _ => 0)), .inl (cT 0, 8, .inl (fun _ => 0)), .inl (cT 2, 8, .inl (fun _ => 0)), .inl (cT 0, 40, .inl (fun _ => 0)), .inl (cT 0, 5, .inl (fun _ => 0)), .inl (cT 0, 5, .inl (fun _ => 0)), .inl (cT 0, 5, .inl (fun _ => 0)), .inl (cT 0, 40, .inl (fun _ => 0)), .inl (cT 0, 5, .inl (fun _ => 0)), .inl (cT 0, 5, .inl (fun _ => 0)), .inl (cT 0, 8, .inl (fun _ => 0)), .inl (cT 2, 8, .inl (fun _ => 0)), .inl (cT 0, 8, .inl (fun _ => 0)), .inl (cT 0, 5, .inl (fun _ => 0)), .inl (cT 0, 8, .inl (fun _ => 0)), .inl (cT 2, 256, .inl (fun _ => 0))]) h)) (gb_Qi (fun r h => r = 0 ∧ va_P D vwCl (gb_wl b [.inr (10, [.ref (b + 1), .ref (b + 2), .int 0, .int 0, .int 0, .int 0, .int 0, .int 0, .int 0, .int 0, .ref (b + 3), .int 0, .int 0, .ref (b + 4), .ref (b + 5), .ref (b + 6), .ref (b + 7), .ref (b + 8), .ref (b + 9), .ref (b + 10), .ref (b + 11), .ref (b + 12), .int 0, .int 0, .int 0, .int 0, .ref (b + 13), .ref (b + 14), .int 0, .int 0, .ref (b + 15), .ref (b + 16), .ref (b + 17), .long 0, .int 0, .int 0, .int 0, .ref (b + 18), .int 0, .ref (b + 19), .ref (b + 20), .int 0, .int 0, .ref (b + 21)]), .inl (cT 0, 3968, .inl (upd (upd (upd (upd (fun _ => 0) 6 (-1)) 4 0) 5 0) 6 (-1))), .inl (cT 2, 3, .inl (fun _ => 0)), .inl (cT 0, 97, .inl (fun _ => 0)), .inl (cT 0, 8, .inl (fun _ => 0)), .inl (cT 0, 8, .inl (fun _ => 0)), .inl (cT 0, 8, .inl (fun _ => 0)), .inl (cT 0, 8, .inl (fun _ => 0)), .inl (cT 2, 8, .inl (fun _ => 0)), .inl (cT 0, 40, .inl (fun _ => 0)), .inl (cT 0, 5, .inl (fun _ => 0)), .inl (cT 0, 5, .inl (fun _ => 0)), .inl (cT 0, 5, .inl (fun _ => 0)), .inl (cT 0, 40, .inl (fun _ => 0)), .inl (cT 0, 5, .inl (fun _ => 0)), .inl (cT 0, 5, .inl (fun _ => 0)), .inl (cT 0, 8, .inl (fun _ => 0)), .inl (cT 2, 8, .inl (fun _ => 0)), .inl (cT 0, 8, .inl (fun _ => 0)), .inl (cT 0, 5, .inl (fun _ => 0)), .inl (cT 0, 8, .inl (fun _ => 0)), .inl (cT 2, 256, .inl (fun _ => 0))]) h) (gb_fr b 22)) 0 0 (gb_fr b 22) := by
  refine Met.ofW (cc := cX12_isOf) (maxL := 3) (ret := (some FieldType.boolean)) (by decide) rfl ?_
  intro p e s m args below meth c s₁ B hml hv
  obtain ⟨rfl, hSt, hP⟩ := hv
  have hx := B.exec
  have hb := B.bytes
  have hr := B.returns
  have hts := atoms_spec (ws := .code yX12_isOf cX12_isOf 3 (some FieldType.boolean) :: gb_wA) B.pre
  have hq : ∀ w ∈ gb_wA, w.before _ s = true := fun w h => hts w (List.mem_cons_of_mem _ h)
  have hown : s.vm.findClass RX12 = some m.cls := findClass_of_methodNamed B.named
  have hlocks := B.notSynchronized
  have hK := hSt.1
  have hS : va_S (gb_fr b 22) s.heap s.heap [] := va_S.rf
  have hl := lv_entry ([.ref (b + 0), .int 1, .int p2]) (n := 3) (Nat.le_of_ble_eq_true rfl)
  rw [lg_entry_eq]
  generalize (lg_sl ([.ref (b + 0), .int 1, .int p2]) ++ List.replicate (3 - (lg_sl ([.ref (b + 0), .int 1, .int p2])).length) Slot.unset).toArray = ls at hl ⊢
  have hl : lv_has ls 3 [(0, .ref (b + 0)), (1, .int 1), (2, .int p2)] := hl
  refine lv_iload_n hx hb dX12_isOf_0 rfl (lv_at hl 2 rfl) ?_
  refine lv_iconst (v := 0) hx hb dX12_isOf_1 (by decide) ?_
  refine lv_aload_n hx hb dX12_isOf_2 rfl (lv_at hl 0 rfl) ?_
  refine va_get (ci := 10) (v := (.ref (b + 1))) (C := RX12) (T := TX12) (N := 44) hx hb hq i_X12 hown hK hP 0 (gb_at b rfl) rfl 0 (by decide) (hq _ w_1124) (fun _ h9 => h9) rfl dX12_isOf_3 ?_
  refine lv_iload_n hx hb dX12_isOf_6 rfl (lv_at hl 1 rfl) ?_
  refine gb_iald (v := 0) hx hb hK hP 1 0 (gb_at b rfl) rfl (gb_in rfl) rfl dX12_isOf_7 ?_
  refine lv_iconst (v := 1) hx hb dX12_isOf_8 (by decide) ?_
  refine lv_isub hx hb dX12_isOf_9 ?_
  refine W.eq (g2 := F0 m 10 ls [.int (-1), .int 0, .int p2]) (congrArg (fun v => F0 m 10 ls (Value.int v :: [.int 0, .int p2])) (show (0 : Int32) - 1 = (-1) by decide)) ?_
  refine gb_calli (va_runS (As := [.int p2, .int 0, .int (-1)]) (rest := []) ⟨hx, hb, hml, hown, hq⟩ (p_isIn l D cT tt b1 b hb1 [.inr (10, [.ref (b + 1), .ref (b + 2), .int 0, .int 0, .int 0, .int 0, .int 0, .int 0, .int 0, .int 0, .ref (b + 3), .int 0, .int 0, .ref (b + 4), .ref (b + 5), .ref (b + 6), .ref (b + 7), .ref (b + 8), .ref (b + 9), .ref (b + 10), .ref (b + 11), .ref (b + 12), .int 0, .int 0, .int 0, .int 0, .ref (b + 13), .ref (b + 14), .int 0, .int 0, .ref (b + 15), .ref (b + 16), .ref (b + 17), .long 0, .int 0, .int 0, .int 0, .ref (b + 18), .int 0, .ref (b + 19), .ref (b + 20), .int 0, .int 0, .ref (b + 21)]), .inl (cT 0, 3968, .inl (upd (upd (upd (upd (fun _ => 0) 6 (-1)) 4 0) 5 0) 6 (-1))), .inl (cT 2, 3, .inl (fun _ => 0)), .inl (cT 0, 97, .inl (fun _ => 0)), .inl (cT 0, 8, .inl (fun _ => 0)), .inl (cT 0, 8, .inl (fun _ => 0)), .inl (cT 0, 8, .inl (fun _ => 0)), .inl (cT 0, 8, .inl (fun _ => 0)), .inl (cT 2, 8, .inl (fun _ => 0)), .inl (cT 0, 40, .inl (fun _ => 0)), .inl (cT 0, 5, .inl (fun _ => 0)), .inl (cT 0, 5, .inl (fun _ => 0)), .inl (cT 0, 5, .inl (fun _ => 0)), .inl (cT 0, 40, .inl (fun _ => 0)), .inl (cT 0, 5, .inl (fun _ => 0)), .inl (cT 0, 5, .inl (fun _ => 0)), .inl (cT 0, 8, .inl (fun _ => 0)), .inl (cT 2, 8, .inl (fun _ => 0)), .inl (cT 0, 8, .inl (fun _ => 0)), .inl (cT 0, 5, .inl (fun _ => 0)), .inl (cT 0, 8, .inl (fun _ => 0)), .inl (cT 2, 256, .inl (fun _ => 0))] p2 0 (-1)) (va_cwS 3 hq (gb_gS w_1269 w_1270 w_14 w_1271) rfl rfl rfl (by decide +kernel) ⟨Nat.le_of_ble_eq_true rfl, Nat.le_of_ble_eq_true rfl⟩) (gb_preS hSt hS (fun q h => Nat.le_trans hb1 h.1) hP) rfl rfl hl.1 rfl (lv_room (Nat.le_of_ble_eq_true rfl)) dX12_isOf_10 ⟨Nat.le_of_ble_eq_true rfl, Nat.le_of_ble_eq_true rfl⟩) hS (fun _ h => h) (fun _ h => h) (fun r H locs hY hk hS => ?_)
  obtain ⟨hr9, hP⟩ := hY
  by_cases h_10_a : p2 < 0
  · rw [if_pos h_10_a] at hr9
    subst hr9
    exact W.zret (v := 0) hx hb hr (by decide) (fun t ht hW => gb_ri ht ⟨rfl, hP⟩ hS) hS.2.2 dX12_isOf_13
  by_cases h_10_b : (-1) < p2
  · rw [if_neg h_10_a, if_pos h_10_b] at hr9
    subst hr9
    exact W.zret (v := 0) hx hb hr (by decide) (fun t ht hW => gb_ri ht ⟨rfl, hP⟩ hS) hS.2.2 dX12_isOf_13
  exact absurd (Int32.le_trans (Int32.not_lt.mp h_10_a) (Int32.not_lt.mp h_10_b)) (by decide)
set_option maxHeartbeats 4000000 in
set_option maxRecDepth 100000 in
theorem t_X12_byteAt_25 (l : Launch) (D : va_G) (cT : Nat → ClassId) (tt : Nat → Nat) (b1 b : Nat) (hb1 : b1 ≤ b) (R : Nat → Int32) : Met l yX12_byteAt (.code yX12_byteAt cX12_byteAt 2 (some FieldType.int) :: gb_wA) ({ frames := 0, cells := 0, slots := 0, locals := 0 }) (gb_Pc D cT tt b1 [.ref (b + 0), .int 0] (fun h => va_P D vwCl (gb_wl b [.inr (10, [.ref (b + 1), .ref (b + 2), .int 0, .int 0, .int 0, .int 0, .int 0, .int 0, .int 0, .int 0, .ref (b + 3), .int 0, .int 0, .ref (b + 4), .ref (b + 5), .ref (b + 6), .ref (b + 7), .ref (b + 8), .ref (b + 9), .ref (b + 10), .ref (b + 11), .ref (b + 12), .int 0, .int 0, .int 0, .int 0, .ref (b + 13), .ref (b + 14), .int 0, .int 0, .ref (b + 15), .ref (b + 16), .ref (b + 17), .long 0, .int 0, .int 0, .int 0, .ref (b + 18), .int 0, .ref (b + 19), .ref (b + 20), .int 0, .int 0, .ref (b + 21)]), .inl (cT 0, 3968, .inl (upd (upd (upd (upd (fun _ => 0) 6 (-1)) 4 0) 5 0) 6 (-1))), .inl (cT 2, 3, .inl (fun _ => 0)), .inl (cT 0, 97, .inl R), .inl (cT 0, 8, .inl (fun _ => 0)), .inl (cT 0, 8, .inl (fun _ => 0)), .inl (cT 0, 8, .inl (fun _ => 0)), .inl (cT 0, 8, .inl (fun _ => 0)), .inl (cT 2, 8, .inl (fun _ => 0)), .inl (cT 0, 40, .inl (fun _ => 0)), .inl (cT 0, 5, .inl (fun _ => 0)), .inl (cT 0, 5, .inl (fun _ => 0)), .inl (cT 0, 5, .inl (fun _ => 0)), .inl (cT 0, 40, .inl (fun _ => 0)), .inl (cT 0, 5, .inl (fun _ => 0)), .inl (cT 0, 5, .inl (fun _ => 0)), .inl (cT 0, 8, .inl (fun _ => 0)), .inl (cT 2, 8, .inl (fun _ => 0)), .inl (cT 0, 8, .inl (fun _ => 0)), .inl (cT 0, 5, .inl (fun _ => 0)), .inl (cT 0, 8, .inl (fun _ => 0)), .inl (cT 2, 256, .inl (fun _ => 0))]) h)) (gb_Qi (fun r h => r = (-1) ∧ va_P D vwCl (gb_wl b [.inr (10, [.ref (b + 1), .ref (b + 2), .int 0, .int 0, .int 0, .int 0, .int 0, .int 0, .int 0, .int 0, .ref (b + 3), .int 0, .int 0, .ref (b + 4), .ref (b + 5), .ref (b + 6), .ref (b + 7), .ref (b + 8), .ref (b + 9), .ref (b + 10), .ref (b + 11), .ref (b + 12), .int 0, .int 0, .int 0, .int 0, .ref (b + 13), .ref (b + 14), .int 0, .int 0, .ref (b + 15), .ref (b + 16), .ref (b + 17), .long 0, .int 0, .int 0, .int 0, .ref (b + 18), .int 0, .ref (b + 19), .ref (b + 20), .int 0, .int 0, .ref (b + 21)]), .inl (cT 0, 3968, .inl (upd (upd (upd (upd (fun _ => 0) 6 (-1)) 4 0) 5 0) 6 (-1))), .inl (cT 2, 3, .inl (fun _ => 0)), .inl (cT 0, 97, .inl R), .inl (cT 0, 8, .inl (fun _ => 0)), .inl (cT 0, 8, .inl (fun _ => 0)), .inl (cT 0, 8, .inl (fun _ => 0)), .inl (cT 0, 8, .inl (fun _ => 0)), .inl (cT 2, 8, .inl (fun _ => 0)), .inl (cT 0, 40, .inl (fun _ => 0)), .inl (cT 0, 5, .inl (fun _ => 0)), .inl (cT 0, 5, .inl (fun _ => 0)), .inl (cT 0, 5, .inl (fun _ => 0)), .inl (cT 0, 40, .inl (fun _ => 0)), .inl (cT 0, 5, .inl (fun _ => 0)), .inl (cT 0, 5, .inl (fun _ => 0)), .inl (cT 0, 8, .inl (fun _ => 0)), .inl (cT 2, 8, .inl (fun _ => 0)), .inl (cT 0, 8, .inl (fun _ => 0)), .inl (cT 0, 5, .inl (fun _ => 0)), .inl (cT 0, 8, .inl (fun _ => 0)), .inl (cT 2, 256, .inl (fun _ => 0))]) h) (gb_fr b 22)) 0 0 (gb_fr b 22) := by
  refine Met.ofW (cc := cX12_byteAt) (maxL := 2) (ret := (some FieldType.int)) (by decide) rfl ?_
  intro p e s m args below meth c s₁ B hml hv
  obtain ⟨rfl, hSt, hP⟩ := hv
  have hx := B.exec
  have hb := B.bytes
  have hr := B.returns
  have hts := atoms_spec (ws := .code yX12_byteAt cX12_byteAt 2 (some FieldType.int) :: gb_wA) B.pre
  have hq : ∀ w ∈ gb_wA, w.before _ s = true := fun w h => hts w (List.mem_cons_of_mem _ h)
  have hown : s.vm.findClass RX12 = some m.cls := findClass_of_methodNamed B.named
  have hlocks := B.notSynchronized
  have hK := hSt.1
  have hS : va_S (gb_fr b 22) s.heap s.heap [] := va_S.rf
  have hl := lv_entry ([.ref (b + 0), .int 0]) (n := 2) (Nat.le_of_ble_eq_true rfl)
  rw [lg_entry_eq]
  generalize (lg_sl ([.ref (b + 0), .int 0]) ++ List.replicate (2 - (lg_sl ([.ref (b + 0), .int 0])).length) Slot.unset).toArray = ls at hl ⊢
  have hl : lv_has ls 2 [(0, .ref (b + 0)), (1, .int 0)] := hl
  refine lv_iload_n hx hb dX12_byteAt_0 rfl (lv_at hl 1 rfl) ?_
  refine lv_aload_n hx hb dX12_byteAt_1 rfl (lv_at hl 0 rfl) ?_
  refine va_get (ci := 10) (v := (.int 0)) (C := RX12) (T := TX12) (N := 44) hx hb hq i_X12 hown hK hP 0 (gb_at b rfl) rfl 2 (by decide) (hq _ w_1126) (fun _ h9 => h9) rfl dX12_byteAt_2 ?_
  refine lv_icmp_ge (tgt := 20) hx hb dX12_byteAt_5 (by decide) (fun _ => ?_) (fun hc => absurd (by decide) hc)
  refine lv_iconst (v := (-1)) hx hb dX12_byteAt_20 (by decide) ?_
  exact W.iret (v := (-1)) hx hb hr (fun t ht hW => gb_ri ht ⟨rfl, hP⟩ hS) hS.2.2 dX12_byteAt_21
set_option maxHeartbeats 4000000 in
set_option maxRecDepth 100000 in
theorem t_X12_advance_24 (l : Launch) (D : va_G) (cT : Nat → ClassId) (tt : Nat → Nat) (b1 b : Nat) (hb1 : b1 ≤ b) (R : Nat → Int32) : Met l yX12_advance (.code yX12_advance cX12_advance 4 none :: gb_wA) ({ frames := 1, cells := 0, slots := 0, locals := 21 }) (gb_Pc D cT tt b1 [.ref (b + 0)] (fun h => va_P D vwCl (gb_wl b [.inr (10, [.ref (b + 1), .ref (b + 2), .int 0, .int 0, .int 0, .int 0, .int 0, .int 0, .int 0, .int 0, .ref (b + 3), .int 0, .int 0, .ref (b + 4), .ref (b + 5), .ref (b + 6), .ref (b + 7), .ref (b + 8), .ref (b + 9), .ref (b + 10), .ref (b + 11), .ref (b + 12), .int 0, .int 0, .int 0, .int 0, .ref (b + 13), .ref (b + 14), .int 0, .int 0, .ref (b + 15), .ref (b + 16), .ref (b + 17), .long 0, .int 0, .int 0, .int 0, .ref (b + 18), .int 0, .ref (b + 19), .ref (b + 20), .int 0, .int 0, .ref (b + 21)]), .inl (cT 0, 3968, .inl (upd (upd (upd (upd (fun _ => 0) 6 (-1)) 4 0) 5 0) 6 (-1))), .inl (cT 2, 3, .inl (fun _ => 0)), .inl (cT 0, 97, .inl R), .inl (cT 0, 8, .inl (fun _ => 0)), .inl (cT 0, 8, .inl (fun _ => 0)), .inl (cT 0, 8, .inl (fun _ => 0)), .inl (cT 0, 8, .inl (fun _ => 0)), .inl (cT 2, 8, .inl (fun _ => 0)), .inl (cT 0, 40, .inl (fun _ => 0)), .inl (cT 0, 5, .inl (fun _ => 0)), .inl (cT 0, 5, .inl (fun _ => 0)), .inl (cT 0, 5, .inl (fun _ => 0)), .inl (cT 0, 40, .inl (fun _ => 0)), .inl (cT 0, 5, .inl (fun _ => 0)), .inl (cT 0, 5, .inl (fun _ => 0)), .inl (cT 0, 8, .inl (fun _ => 0)), .inl (cT 2, 8, .inl (fun _ => 0)), .inl (cT 0, 8, .inl (fun _ => 0)), .inl (cT 0, 5, .inl (fun _ => 0)), .inl (cT 0, 8, .inl (fun _ => 0)), .inl (cT 2, 256, .inl (fun _ => 0))]) h)) (gb_Qv (fun h => va_P D vwCl (gb_wl b [.inr (10, [.ref (b + 1), .ref (b + 2), .int 0, .int 0, .int 0, .int 0, .int 0, .int 0, .int 0, .int 0, .ref (b + 3), .int 0, .int 0, .ref (b + 4), .ref (b + 5), .ref (b + 6), .ref (b + 7), .ref (b + 8), .ref (b + 9), .ref (b + 10), .ref (b + 11), .ref (b + 12), .int 0, .int 0, .int 0, .int 0, .ref (b + 13), .ref (b + 14), .int 0, .int 0, .ref (b + 15), .ref (b + 16), .ref (b + 17), .long 0, .int 0, .int 0, .int 0, .ref (b + 18), .int 0, .ref (b + 19), .ref (b + 20), .int 0, .int 0, .ref (b + 21)]), .inl (cT 0, 3968, .inl (upd (upd (upd (upd (fun _ => 0) 6 (-1)) 4 0) 5 0) 6 (-1))), .inl (cT 2, 3, .inl (fun _ => 0)), .inl (cT 0, 97, .inl R), .inl (cT 0, 8, .inl (fun _ => 0)), .inl (cT 0, 8, .inl (fun _ => 0)), .inl (cT 0, 8, .inl (fun _ => 0)), .inl (cT 0, 8, .inl (fun _ => 0)), .inl (cT 2, 8, .inl (fun _ => 0)), .inl (cT 0, 40, .inl (fun _ => 0)), .inl (cT 0, 5, .inl (fun _ => 0)), .inl (cT 0, 5, .inl (fun _ => 0)), .inl (cT 0, 5, .inl (fun _ => 0)), .inl (cT 0, 40, .inl (fun _ => 0)), .inl (cT 0, 5, .inl (fun _ => 0)), .inl (cT 0, 5, .inl (fun _ => 0)), .inl (cT 0, 8, .inl (fun _ => 0)), .inl (cT 2, 8, .inl (fun _ => 0)), .inl (cT 0, 8, .inl (fun _ => 0)), .inl (cT 0, 5, .inl (fun _ => 0)), .inl (cT 0, 8, .inl (fun _ => 0)), .inl (cT 2, 256, .inl (fun _ => 0))]) h) (gb_fr b 22)) 0 0 (gb_fr b 22) := by
  refine Met.ofW (cc := cX12_advance) (maxL := 4) (ret := none) (by decide) rfl ?_
  intro p e s m args below meth c s₁ B hml hv
  obtain ⟨rfl, hSt, hP⟩ := hv
  have hx := B.exec
  have hb := B.bytes
  have hr := B.returns
  have hts := atoms_spec (ws := .code yX12_advance cX12_advance 4 none :: gb_wA) B.pre
  have hq : ∀ w ∈ gb_wA, w.before _ s = true := fun w h => hts w (List.mem_cons_of_mem _ h)
  have hown : s.vm.findClass RX12 = some m.cls := findClass_of_methodNamed B.named
  have hlocks := B.notSynchronized
  have hK := hSt.1
  have hS : va_S (gb_fr b 22) s.heap s.heap [] := va_S.rf
  have hl := lv_entry ([.ref (b + 0)]) (n := 4) (Nat.le_of_ble_eq_true rfl)
  rw [lg_entry_eq]
  generalize (lg_sl ([.ref (b + 0)]) ++ List.replicate (4 - (lg_sl ([.ref (b + 0)])).length) Slot.unset).toArray = ls at hl ⊢
  have hl : lv_has ls 4 [(0, .ref (b + 0))] := hl
  refine lv_aload_n hx hb dX12_advance_0 rfl (lv_at hl 0 rfl) ?_
  refine lv_aload_n hx hb dX12_advance_1 rfl (lv_at hl 0 rfl) ?_
  refine va_get (ci := 10) (v := (.int 0)) (C := RX12) (T := TX12) (N := 44) hx hb hq i_X12 hown hK hP 0 (gb_at b rfl) rfl 3 (by decide) (hq _ w_1127) (fun _ h9 => h9) rfl dX12_advance_2 ?_
  refine gb_calli (va_runV (C := RX12) (As := [.int 0]) (rest := []) ⟨hx, hb, hml, hown, hq⟩ (t_X12_byteAt_25 l D cT tt b1 b hb1 R) (cwV 1 hq (gb_gV w_1280 w_1282 s_3_2 w_14 w_1283) rfl rfl rfl (by decide +kernel) ⟨Nat.le_of_ble_eq_true rfl, Nat.le_of_ble_eq_true rfl⟩) (gb_preV (r := (RX12, TX12, 44)) (ci := 10) (q0 := 0) hSt hP rfl (gb_at b rfl) hS (fun q h => Nat.le_trans hb1 h.1) hP) rfl rfl hl.1 rfl (lv_room (Nat.le_of_ble_eq_true rfl)) dX12_advance_5 ⟨Nat.le_of_ble_eq_true rfl, Nat.le_of_ble_eq_true rfl⟩) hS (fun _ h => h) (fun _ h => h) (fun r H locs hY hk hS => ?_)
  obtain ⟨hr9, hP⟩ := hY
  subst hr9
  refine lv_bipush (v := 10) hx hb dX12_advance_8 (by decide) ?_
  refine lv_icmp_eq (tgt := 26) hx hb dX12_advance_10 (by decide) (fun hc => absurd hc (by decide)) (fun _ => ?_)
  refine lv_aload_n hx hb dX12_advance_13 rfl (lv_at hl 0 rfl) ?_
  refine lv_aload_n hx hb dX12_advance_14 rfl (lv_at hl 0 rfl) ?_
  refine va_get (ci := 10) (v := (.int 0)) (C := RX12) (T := TX12) (N := 44) hx hb hq i_X12 hown hK hP 0 (gb_at b rfl) rfl 3 (by decide) (hq _ w_1127) (fun _ h9 => h9) rfl dX12_advance_15 ?_
  refine gb_calli (va_runV (C := RX12) (As := [.int 0]) (rest := []) ⟨hx, hb, hml, hown, hq⟩ (t_X12_byteAt_25 l D cT tt b1 b hb1 R) (cwV 1 hq (gb_gV w_1280 w_1282 s_3_2 w_14 w_1283) rfl rfl rfl (by decide +kernel) ⟨Nat.le_of_ble_eq_true rfl, Nat.le_of_ble_eq_true rfl⟩) (gb_preV (r := (RX12, TX12, 44)) (ci := 10) (q0 := 0) hSt hP rfl (gb_at b rfl) hS (fun q h => Nat.le_trans hb1 h.1) hP) rfl rfl hl.1 rfl (lv_room (Nat.le_of_ble_eq_true rfl)) dX12_advance_18 ⟨Nat.le_of_ble_eq_true rfl, Nat.le_of_ble_eq_true rfl⟩) hS (fun _ h => h) (fun _ h => h) (fun r H locs hY hk hS => ?_)
  obtain ⟨hr9, hP⟩ := hY
  subst hr9
  refine lv_bipush (v := 32) hx hb dX12_advance_21 (by decide) ?_
  refine lv_icmp_ne (tgt := 39) hx hb dX12_advance_23 (by decide) (fun _ => ?_) (fun hc => absurd hc (by decide))
  refine lv_aload_n hx hb dX12_advance_39 rfl (lv_at hl 0 rfl) ?_
  refine lv_aload_n hx hb dX12_advance_40 rfl (lv_at hl 0 rfl) ?_
  refine va_get (ci := 10) (v := (.int 0)) (C := RX12) (T := TX12) (N := 44) hx hb hq i_X12 hown hK hP 0 (gb_at b rfl) rfl 3 (by decide) (hq _ w_1127) (fun _ h9 => h9) rfl dX12_advance_41 ?_
  refine gb_put (ci := 10) (v := (.int 0)) (ty := .int) (C := RX12) (T := TX12) (N := 44) hx hb hq i_X12 tyX12 tyX12_ok nmX12 hown hK hP (fun k h => ⟨Nat.le_add_right b k, Nat.add_lt_add_left h b⟩) hS rfl 0 rfl rfl 4 (by decide) (hq _ w_1128) (fun _ h9 => h9) rfl (by decide +kernel) rfl (by first | rfl | decide) (Nat.le_of_ble_eq_true rfl) dX12_advance_44 (fun H locs hP hz_ hS => ?_)
  have hP : va_P D vwCl (gb_wl b [.inr (10, [.ref (b + 1), .ref (b + 2), .int 0, .int 0, .int 0, .int 0, .int 0, .int 0, .int 0, .int 0, .ref (b + 3), .int 0, .int 0, .ref (b + 4), .ref (b + 5), .ref (b + 6), .ref (b + 7), .ref (b + 8), .ref (b + 9), .ref (b + 10), .ref (b + 11), .ref (b + 12), .int 0, .int 0, .int 0, .int 0, .ref (b + 13), .ref (b + 14), .int 0, .int 0, .ref (b + 15), .ref (b + 16), .ref (b + 17), .long 0, .int 0, .int 0, .int 0, .ref (b + 18), .int 0, .ref (b + 19), .ref (b + 20), .int 0, .int 0, .ref (b + 21)]), .inl (cT 0, 3968, .inl (upd (upd (upd (upd (fun _ => 0) 6 (-1)) 4 0) 5 0) 6 (-1))), .inl (cT 2, 3, .inl (fun _ => 0)), .inl (cT 0, 97, .inl R), .inl (cT 0, 8, .inl (fun _ => 0)), .inl (cT 0, 8, .inl (fun _ => 0)), .inl (cT 0, 8, .inl (fun _ => 0)), .inl (cT 0, 8, .inl (fun _ => 0)), .inl (cT 2, 8, .inl (fun _ => 0)), .inl (cT 0, 40, .inl (fun _ => 0)), .inl (cT 0, 5, .inl (fun _ => 0)), .inl (cT 0, 5, .inl (fun _ => 0)), .inl (cT 0, 5, .inl (fun _ => 0)), .inl (cT 0, 40, .inl (fun _ => 0)), .inl (cT 0, 5, .inl (fun _ => 0)), .inl (cT 0, 5, .inl (fun _ => 0)), .inl (cT 0, 8, .inl (fun _ => 0)), .inl (cT 2, 8, .inl (fun _ => 0)), .inl (cT 0, 8, .inl (fun _ => 0)), .inl (cT 0, 5, .inl (fun _ => 0)), .inl (cT 0, 8, .inl (fun _ => 0)), .inl (cT 2, 256, .inl (fun _ => 0))]) H := hP
  refine lv_aload_n hx hb dX12_advance_47 rfl (lv_at hl 0 rfl) ?_
  refine lv_aload_n hx hb dX12_advance_48 rfl (lv_at hl 0 rfl) ?_
  refine va_get (ci := 10) (v := (.int 0)) (C := RX12) (T := TX12) (N := 44) hx hb hq i_X12 hown hK hP 0 (gb_at b rfl) rfl 3 (by decide) (hq _ w_1127) (fun _ h9 => h9) rfl dX12_advance_49 ?_
  refine gb_calli (va_runV (C := RX12) (As := [.int 0]) (rest := []) ⟨hx, hb, hml, hown, hq⟩ (t_X12_byteAt_25 l D cT tt b1 b hb1 R) (cwV 1 hq (gb_gV w_1280 w_1282 s_3_2 w_14 w_1283) rfl rfl rfl (by decide +kernel) ⟨Nat.le_of_ble_eq_true rfl, Nat.le_of_ble_eq_true rfl⟩) (gb_preV (r := (RX12, TX12, 44)) (ci := 10) (q0 := 0) hSt hP rfl (gb_at b rfl) hS (fun q h => Nat.le_trans hb1 h.1) hP) rfl rfl hl.1 rfl (lv_room (Nat.le_of_ble_eq_true rfl)) dX12_advance_52 ⟨Nat.le_of_ble_eq_true rfl, Nat.le_of_ble_eq_true rfl⟩) hS (fun _ h => h) (fun _ h => h) (fun r H locs hY hk hS => ?_)
  obtain ⟨hr9, hP⟩ := hY
  subst hr9
  refine lv_istore_n (lv' := [(1, .int (-1)), (0, .ref (b + 0))]) hx hb dX12_advance_55 rfl hl (by decide) rfl (fun ls hl => ?_)
  refine lv_iload_n hx hb dX12_advance_56 rfl (lv_at hl 0 rfl) ?_
  refine lv_if_ge (tgt := 68) hx hb dX12_advance_57 (by decide) (fun hc => absurd hc (by decide)) (fun _ => ?_)
  refine lv_aload_n hx hb dX12_advance_60 rfl (lv_at hl 1 rfl) ?_
  refine lv_iconst (v := 0) hx hb dX12_advance_61 (by decide) ?_
  refine gb_put (ci := 10) (v := (.int 0)) (ty := .int) (C := RX12) (T := TX12) (N := 44) hx hb hq i_X12 tyX12 tyX12_ok nmX12 hown hK hP (fun k h => ⟨Nat.le_add_right b k, Nat.add_lt_add_left h b⟩) hS rfl 0 rfl rfl 5 (by decide) (hq _ w_1129) (fun _ h9 => h9) rfl (by decide +kernel) rfl (by first | rfl | decide) (Nat.le_of_ble_eq_true rfl) dX12_advance_62 (fun H locs hP hz_ hS => ?_)
  have hP : va_P D vwCl (gb_wl b [.inr (10, [.ref (b + 1), .ref (b + 2), .int 0, .int 0, .int 0, .int 0, .int 0, .int 0, .int 0, .int 0, .ref (b + 3), .int 0, .int 0, .ref (b + 4), .ref (b + 5), .ref (b + 6), .ref (b + 7), .ref (b + 8), .ref (b + 9), .ref (b + 10), .ref (b + 11), .ref (b + 12), .int 0, .int 0, .int 0, .int 0, .ref (b + 13), .ref (b + 14), .int 0, .int 0, .ref (b + 15), .ref (b + 16), .ref (b + 17), .long 0, .int 0, .int 0, .int 0, .ref (b + 18), .int 0, .ref (b + 19), .ref (b + 20), .int 0, .int 0, .ref (b + 21)]), .inl (cT 0, 3968, .inl (upd (upd (upd (upd (fun _ => 0) 6 (-1)) 4 0) 5 0) 6 (-1))), .inl (cT 2, 3, .inl (fun _ => 0)), .inl (cT 0, 97, .inl R), .inl (cT 0, 8, .inl (fun _ => 0)), .inl (cT 0, 8, .inl (fun _ => 0)), .inl (cT 0, 8, .inl (fun _ => 0)), .inl (cT 0, 8, .inl (fun _ => 0)), .inl (cT 2, 8, .inl (fun _ => 0)), .inl (cT 0, 40, .inl (fun _ => 0)), .inl (cT 0, 5, .inl (fun _ => 0)), .inl (cT 0, 5, .inl (fun _ => 0)), .inl (cT 0, 5, .inl (fun _ => 0)), .inl (cT 0, 40, .inl (fun _ => 0)), .inl (cT 0, 5, .inl (fun _ => 0)), .inl (cT 0, 5, .inl (fun _ => 0)), .inl (cT 0, 8, .inl (fun _ => 0)), .inl (cT 2, 8, .inl (fun _ => 0)), .inl (cT 0, 8, .inl (fun _ => 0)), .inl (cT 0, 5, .inl (fun _ => 0)), .inl (cT 0, 8, .inl (fun _ => 0)), .inl (cT 2, 256, .inl (fun _ => 0))]) H := hP
  refine lv_goto (tgt := 311) hx hb dX12_advance_65 (by decide) ?_
  exact W.vret hx hb hr (fun t ht hW => gb_rv ht hP hS) hS.2.2 dX12_advance_311
theorem dX12_sizeOf_9 : decode cX12_sizeOf 9 = .ok (.iload_n 0, 1) := by decide +kernel
theorem dX12_sizeOf_10 : decode cX12_sizeOf 10 = .ok (.iconst 1, 1) := by decide +kernel
theorem dX12_sizeOf_11 : decode cX12_sizeOf 11 = .ok (.if_icmp .ne 8, 3) := by decide +kernel
theorem dX12_sizeOf_14 : decode cX12_sizeOf 14 = .ok (.bipush 97, 2) := by decide +kernel
theorem dX12_sizeOf_16 : decode cX12_sizeOf 16 = .ok (.goto 15, 3) := by decide +kernel
set_option maxHeartbeats 4000000 in
set_option maxRecDepth 100000 in
theorem p_X12_sizeOf_26 (l : Launch) (D : va_G) (cT : Nat → ClassId) (tt : Nat → Nat) (b1 b : Nat) (hb1 : b1 ≤ b) (cs : List va_E) : Met l yX12_sizeOf (.code yX12_sizeOf cX12_sizeOf 1 (some FieldType.int) :: gb_wA) ({ frames := 0, cells := 0, slots := 0, locals := 0 }) (gb_Pc D cT tt b1 [.int 1] (fun h => va_P D vwCl (gb_wl b cs) h)) (gb_Qi (fun r h => r = 97 ∧ va_P D vwCl (gb_wl b cs) h) (gb_fr b cs.length)) 0 0 (gb_fr b cs.length) := by
  refine Met.ofW (cc := cX12_sizeOf) (maxL := 1) (ret := (some FieldType.int)) (by decide) rfl ?_
  intro p e s m args below meth c s₁ B hml hv
  obtain ⟨rfl, hSt, hP⟩ := hv
  have hx := B.exec
  have hb := B.bytes
  have hr := B.returns
  have hts := atoms_spec (ws := .code yX12_sizeOf cX12_sizeOf 1 (some FieldType.int) :: gb_wA) B.pre
  have hq : ∀ w ∈ gb_wA, w.before _ s = true := fun w h => hts w (List.mem_cons_of_mem _ h)
  have hown : s.vm.findClass RX12 = some m.cls := findClass_of_methodNamed B.named
  have hlocks := B.notSynchronized
  have hK := hSt.1
  have hS : va_S (gb_fr b cs.length) s.heap s.heap [] := va_S.rf
  have hl := lv_entry ([.int 1]) (n := 1) (Nat.le_of_ble_eq_true rfl)
  rw [lg_entry_eq]
  generalize (lg_sl ([.int 1]) ++ List.replicate (1 - (lg_sl ([.int 1])).length) Slot.unset).toArray = ls at hl ⊢
  have hl : lv_has ls 1 [(0, .int 1)] := hl
  refine lv_iload_n hx hb dX12_sizeOf_0 rfl (lv_at hl 0 rfl) ?_
  refine lv_if_ne (tgt := 9) hx hb dX12_sizeOf_1 (by decide) (fun _ => ?_) (fun hc => absurd hc (by decide))
  refine lv_iload_n hx hb dX12_sizeOf_9 rfl (lv_at hl 0 rfl) ?_
  refine lv_iconst (v := 1) hx hb dX12_sizeOf_10 (by decide) ?_
  refine lv_icmp_ne (tgt := 19) hx hb dX12_sizeOf_11 (by decide) (fun hc => absurd hc (by decide)) (fun _ => ?_)
  refine lv_bipush (v := 97) hx hb dX12_sizeOf_14 (by decide) ?_
  refine lv_goto (tgt := 31) hx hb dX12_sizeOf_16 (by decide) ?_
  exact W.iret (v := 97) hx hb hr (fun t ht hW => gb_ri ht ⟨rfl, hP⟩ hS) hS.2.2 dX12_sizeOf_31
theorem dX12_placeOf_15 : decode cX12_placeOf 15 = .ok (.iload_n 0, 1) := by decide +kernel
theorem dX12_placeOf_16 : decode cX12_placeOf 16 = .ok (.iconst 1, 1) := by decide +kernel
theorem dX12_placeOf_17 : decode cX12_placeOf 17 = .ok (.if_icmp .ne 14, 3) := by decide +kernel
theorem dX12_placeOf_20 : decode cX12_placeOf 20 = .ok (.sipush 726, 3) := by decide +kernel
theorem dX12_placeOf_23 : decode cX12_placeOf 23 = .ok (.bipush 97, 2) := by decide +kernel
theorem dX12_placeOf_25 : decode cX12_placeOf 25 = .ok (.iload_n 1, 1) := by decide +kernel
theorem dX12_placeOf_26 : decode cX12_placeOf 26 = .ok (.imul, 1) := by decide +kernel
theorem dX12_placeOf_27 : decode cX12_placeOf 27 = .ok (.iadd, 1) := by decide +kernel
theorem dX12_placeOf_28 : decode cX12_placeOf 28 = .ok (.goto 27, 3) := by decide +kernel
set_option maxHeartbeats 4000000 in
set_option maxRecDepth 100000 in
theorem p_X12_placeOf_27 (l : Launch) (D : va_G) (cT : Nat → ClassId) (tt : Nat → Nat) (b1 b : Nat) (hb1 : b1 ≤ b) (cs : List va_E) : Met l yX12_placeOf (.code yX12_placeOf cX12_placeOf 2 (some FieldType.int) :: gb_wA) ({ frames := 0, cells := 0, slots := 0, locals := 0 }) (gb_Pc D cT tt b1 [.int 1, .int 0] (fun h => va_P D vwCl (gb_wl b cs) h)) (gb_Qi (fun r h => r = 726 ∧ va_P D vwCl (gb_wl b cs) h) (gb_fr b cs.length)) 0 0 (gb_fr b cs.length) := by
  refine Met.ofW (cc := cX12_placeOf) (maxL := 2) (ret := (some FieldType.int)) (by decide) rfl ?_
  intro p e s m args below meth c s₁ B hml hv
  obtain ⟨rfl, hSt, hP⟩ := hv
  have hx := B.exec
  have hb := B.bytes
  have hr := B.returns
  have hts := atoms_spec (ws := .code yX12_placeOf cX12_placeOf 2 (some FieldType.int) :: gb_wA) B.pre
  have hq : ∀ w ∈ gb_wA, w.before _ s = true := fun w h => hts w (List.mem_cons_of_mem _ h)
  have hown : s.vm.findClass RX12 = some m.cls := findClass_of_methodNamed B.named
  have hlocks := B.notSynchronized
  have hK := hSt.1
  have hS : va_S (gb_fr b cs.length) s.heap s.heap [] := va_S.rf
  have hl := lv_entry ([.int 1, .int 0]) (n := 2) (Nat.le_of_ble_eq_true rfl)
  rw [lg_entry_eq]
  generalize (lg_sl ([.int 1, .int 0]) ++ List.replicate (2 - (lg_sl ([.int 1, .int 0])).length) Slot.unset).toArray = ls at hl ⊢
  have hl : lv_has ls 2 [(0, .int 1), (1, .int 0)] := hl
  refine lv_iload_n hx hb dX12_placeOf_0 rfl (lv_at hl 0 rfl) ?_
  refine lv_if_ne (tgt := 15) hx hb dX12_placeOf_1 (by decide) (fun _ => ?_) (fun hc => absurd hc (by decide))
  refine lv_iload_n hx hb dX12_placeOf_15 rfl (lv_at hl 0 rfl) ?_
  refine lv_iconst (v := 1) hx hb dX12_placeOf_16 (by decide) ?_
  refine lv_icmp_ne (tgt := 31) hx hb dX12_placeOf_17 (by decide) (fun hc => absurd hc (by decide)) (fun _ => ?_)
  refine lv_sipush (v := 726) hx hb dX12_placeOf_20 (by decide) ?_
  refine lv_bipush (v := 97) hx hb dX12_placeOf_23 (by decide) ?_
  refine lv_iload_n hx hb dX12_placeOf_25 rfl (lv_at hl 1 rfl) ?_
  refine lv_imul hx hb dX12_placeOf_26 ?_
  refine W.eq (g2 := F0 m 27 ls [.int 0, .int 726]) (congrArg (fun v => F0 m 27 ls (Value.int v :: [.int 726])) (show (97 : Int32) * 0 = 0 by decide)) ?_
  refine lv_iadd hx hb dX12_placeOf_27 ?_
  refine W.eq (g2 := F0 m 28 ls [.int 726]) (congrArg (fun v => F0 m 28 ls (Value.int v :: [])) (show (726 : Int32) + 0 = 726 by decide)) ?_
  refine lv_goto (tgt := 55) hx hb dX12_placeOf_28 (by decide) ?_
  exact W.iret (v := 726) hx hb hr (fun t ht hW => gb_ri ht ⟨rfl, hP⟩ hS) hS.2.2 dX12_placeOf_55
set_option maxHeartbeats 4000000 in
set_option maxRecDepth 100000 in
theorem t_X12_isOf_28 (l : Launch) (D : va_G) (cT : Nat → ClassId) (tt : Nat → Nat) (b1 b : Nat) (hb1 : b1 ≤ b) (p2 : Int32) : Met l yX12_isOf (.code yX12_isOf cX12_isOf 3 (some FieldType.boolean) :: gb_wA) ({ frames := 1, cells := 0, slots := 0, locals := 22 }) (gb_Pc D cT tt b1 [.ref (b + 0), .int 2, .int p2] (fun h => va_P D vwCl (gb_wl b [.inr (10, [.ref (b + 1), .ref (b + 2), .int 0, .int 0, .int 0, .int 0, .int 0, .int 0, .int 0, .int 0, .ref (b + 3), .int 0, .int 0, .ref (b + 4), .ref (b + 5), .ref (b + 6), .ref (b + 7), .ref (b + 8), .ref (b + 9), .ref (b + 10), .ref (b + 11), .ref (b + 12), .int 0, .int 0, .int 0, .int 0, .ref (b + 13), .ref (b + 14), .int 0, .int 0, .ref (b + 15), .ref (b + 16), .ref (b + 17), .long 0, .int 0, .int 0, .int 0, .ref (b + 18), .int 0, .ref (b + 19), .ref (b + 20), .int 0, .int 0, .ref (b + 21)]), .inl (cT 0, 3968, .inl (upd (upd (upd (upd (fun _ => 0) 6 (-1)) 4 0) 5 0) 6 (-1))), .inl (cT 2, 3, .inl (fun _ => 0)), .inl (cT 0, 97, .inl (fun _ => 0)), .inl (cT 0, 8, .inl (fun _ => 0)), .inl (cT 0, 8, .inl (fun _ => 0)), .inl (cT 0, 8, .inl (fun _ => 0)), .inl (cT 0, 8, .inl (fun _ => 0)), .inl (cT 2, 8, .inl (fun _ => 0)), .inl (cT 0, 40, .inl (fun _ => 0)), .inl (cT 0, 5, .inl (fun _ => 0)), .inl (cT 0, 5, .inl (fun _ => 0)), .inl (cT 0, 5, .inl (fun _ => 0)), .inl (cT 0, 40, .inl (fun _ => 0)), .inl (cT 0, 5, .inl (fun _ => 0)), .inl (cT 0, 5, .inl (fun _ => 0)), .inl (cT 0, 8, .inl (fun _ => 0)), .inl (cT 2, 8, .inl (fun _ => 0)), .inl (cT 0, 8, .inl (fun _ => 0)), .inl (cT 0, 5, .inl (fun _ => 0)), .inl (cT 0, 8, .inl (fun _ => 0)), .inl (cT 2, 256, .inl (fun _ => 0))]) h)) (gb_Qi (fun r h => r = 0 ∧ va_P D vwCl (gb_wl b [.inr (10, [.ref (b + 1), .ref (b + 2), .int 0, .int 0, .int 0, .int 0, .int 0, .int 0, .int 0, .int 0, .ref (b + 3), .int 0, .int 0, .ref (b + 4), .ref (b + 5), .ref (b + 6), .ref (b + 7), .ref (b + 8), .ref (b + 9), .ref (b + 10), .ref (b + 11), .ref (b + 12), .int 0, .int 0, .int 0, .int 0, .ref (b + 13), .ref (b + 14), .int 0, .int 0, .ref (b + 15), .ref (b + 16), .ref (b + 17), .long 0, .int 0, .int 0, .int 0, .ref (b + 18), .int 0, .ref (b + 19), .ref (b + 20), .int 0, .int 0, .ref (b + 21)]), .inl (cT 0, 3968, .inl (upd (upd (upd (upd (fun _ => 0) 6 (-1)) 4 0) 5 0) 6 (-1))), .inl (cT 2, 3, .inl (fun _ => 0)), .inl (cT 0, 97, .inl (fun _ => 0)), .inl (cT 0, 8, .inl (fun _ => 0)), .inl (cT 0, 8, .inl (fun _ => 0)), .inl (cT 0, 8, .inl (fun _ => 0)), .inl (cT 0, 8, .inl (fun _ => 0)), .inl (cT 2, 8, .inl (fun _ => 0)), .inl (cT 0, 40, .inl (fun _ => 0)), .inl (cT 0, 5, .inl (fun _ => 0)), .inl (cT 0, 5, .inl (fun _ => 0)), .inl (cT 0, 5, .inl (fun _ => 0)), .inl (cT 0, 40, .inl (fun _ => 0)), .inl (cT 0, 5, .inl (fun _ => 0)), .inl (cT 0, 5, .inl (fun _ => 0)), .inl (cT 0, 8, .inl (fun _ => 0)), .inl (cT 2, 8, .inl (fun _ => 0)), .inl (cT 0, 8, .inl (fun _ => 0)), .inl (cT 0, 5, .inl (fun _ => 0)), .inl (cT 0, 8, .inl (fun _ => 0)), .inl (cT 2, 256, .inl (fun _ => 0))]) h) (gb_fr b 22)) 0 0 (gb_fr b 22) := by
  refine Met.ofW (cc := cX12_isOf) (maxL := 3) (ret := (some FieldType.boolean)) (by decide) rfl ?_
  intro p e s m args below meth c s₁ B hml hv
  obtain ⟨rfl, hSt, hP⟩ := hv
  have hx := B.exec
  have hb := B.bytes
  have hr := B.returns
  have hts := atoms_spec (ws := .code yX12_isOf cX12_isOf 3 (some FieldType.boolean) :: gb_wA) B.pre
  have hq : ∀ w ∈ gb_wA, w.before _ s = true := fun w h => hts w (List.mem_cons_of_mem _ h)
  have hown : s.vm.findClass RX12 = some m.cls := findClass_of_methodNamed B.named
  have hlocks := B.notSynchronized
  have hK := hSt.1
  have hS : va_S (gb_fr b 22) s.heap s.heap [] := va_S.rf
  have hl := lv_entry ([.ref (b + 0), .int 2, .int p2]) (n := 3) (Nat.le_of_ble_eq_true rfl)
  rw [lg_entry_eq]
  generalize (lg_sl ([.ref (b + 0), .int 2, .int p2]) ++ List.replicate (3 - (lg_sl ([.ref (b + 0), .int 2, .int p2])).length) Slot.unset).toArray = ls at hl ⊢
  have hl : lv_has ls 3 [(0, .ref (b + 0)), (1, .int 2), (2, .int p2)] := hl
  refine lv_iload_n hx hb dX12_isOf_0 rfl (lv_at hl 2 rfl) ?_
  refine lv_iconst (v := 0) hx hb dX12_isOf_1 (by decide) ?_
  refine lv_aload_n hx hb dX12_isOf_2 rfl (lv_at hl 0 rfl) ?_
  refine va_get (ci := 10) (v := (.ref (b + 1))) (C := RX12) (T := TX12) (N := 44) hx hb hq i_X12 hown hK hP 0 (gb_at b rfl) rfl 0 (by decide) (hq _ w_1124) (fun _ h9 => h9) rfl dX12_isOf_3 ?_
  refine lv_iload_n hx hb dX12_isOf_6 rfl (lv_at hl 1 rfl) ?_
  refine gb_iald (v := 0) hx hb hK hP 1 0 (gb_at b rfl) rfl (gb_in rfl) rfl dX12_isOf_7 ?_
  refine lv_iconst (v := 1) hx hb dX12_isOf_8 (by decide) ?_
  refine lv_isub hx hb dX12_isOf_9 ?_
  refine W.eq (g2 := F0 m 10 ls [.int (-1), .int 0, .int p2]) (congrArg (fun v => F0 m 10 ls (Value.int v :: [.int 0, .int p2])) (show (0 : Int32) - 1 = (-1) by decide)) ?_
  refine gb_calli (va_runS (As := [.int p2, .int 0, .int (-1)]) (rest := []) ⟨hx, hb, hml, hown, hq⟩ (p_isIn l D cT tt b1 b hb1 [.inr (10, [.ref (b + 1), .ref (b + 2), .int 0, .int 0, .int 0, .int 0, .int 0, .int 0, .int 0, .int 0, .ref (b + 3), .int 0, .int 0, .ref (b + 4), .ref (b + 5), .ref (b + 6), .ref (b + 7), .ref (b + 8), .ref (b + 9), .ref (b + 10), .ref (b + 11), .ref (b + 12), .int 0, .int 0, .int 0, .int 0, .ref (b + 13), .ref (b + 14), .int 0, .int 0, .ref (b + 15), .ref (b + 16), .ref (b + 17), .long 0, .int 0, .int 0, .int 0, .ref (b + 18), .int 0, .ref (b + 19), .ref (b + 20), .int 0, .int 0, .ref (b + 21)]), .inl (cT 0, 3968, .inl (upd (upd (upd (upd (fun _ => 0) 6 (-1)) 4 0) 5 0) 6 (-1))), .inl (cT 2, 3, .inl (fun _ => 0)), .inl (cT 0, 97, .inl (fun _ => 0)), .inl (cT 0, 8, .inl (fun _ => 0)), .inl (cT 0, 8, .inl (fun _ => 0)), .inl (cT 0, 8, .inl (fun _ => 0)), .inl (cT 0, 8, .inl (fun _ => 0)), .inl (cT 2, 8, .inl (fun _ => 0)), .inl (cT 0, 40, .inl (fun _ => 0)), .inl (cT 0, 5, .inl (fun _ => 0)), .inl (cT 0, 5, .inl (fun _ => 0)), .inl (cT 0, 5, .inl (fun _ => 0)), .inl (cT 0, 40, .inl (fun _ => 0)), .inl (cT 0, 5, .inl (fun _ => 0)), .inl (cT 0, 5, .inl (fun _ => 0)), .inl (cT 0, 8, .inl (fun _ => 0)), .inl (cT 2, 8, .inl (fun _ => 0)), .inl (cT 0, 8, .inl (fun _ => 0)), .inl (cT 0, 5, .inl (fun _ => 0)), .inl (cT 0, 8, .inl (fun _ => 0)), .inl (cT 2, 256, .inl (fun _ => 0))] p2 0 (-1)) (va_cwS 3 hq (gb_gS w_1269 w_1270 w_14 w_1271) rfl rfl rfl (by decide +kernel) ⟨Nat.le_of_ble_eq_true rfl, Nat.le_of_ble_eq_true rfl⟩) (gb_preS hSt hS (fun q h => Nat.le_trans hb1 h.1) hP) rfl rfl hl.1 rfl (lv_room (Nat.le_of_ble_eq_true rfl)) dX12_isOf_10 ⟨Nat.le_of_ble_eq_true rfl, Nat.le_of_ble_eq_true rfl⟩) hS (fun _ h => h) (fun _ h => h) (fun r H locs hY hk hS => ?_)
  obtain ⟨hr9, hP⟩ := hY
  by_cases h_10_a : p2 < 0
  · rw [if_pos h_10_a] at hr9
    subst hr9
    exact W.zret (v := 0) hx hb hr (by decide) (fun t ht hW => gb_ri ht ⟨rfl, hP⟩ hS) hS.2.2 dX12_isOf_13
  by_cases h_10_b : (-1) < p2
  · rw [if_neg h_10_a, if_pos h_10_b] at hr9
    subst hr9
    exact W.zret (v := 0) hx hb hr (by decide) (fun t ht hW => gb_ri ht ⟨rfl, hP⟩ hS) hS.2.2 dX12_isOf_13
  exact absurd (Int32.le_trans (Int32.not_lt.mp h_10_a) (Int32.not_lt.mp h_10_b)) (by decide)
theorem dX12_sizeOf_19 : decode cX12_sizeOf 19 = .ok (.iload_n 0, 1) := by decide +kernel
theorem dX12_sizeOf_20 : decode cX12_sizeOf 20 = .ok (.iconst 2, 1) := by decide +kernel
theorem dX12_sizeOf_21 : decode cX12_sizeOf 21 = .ok (.if_icmp .ne 8, 3) := by decide +kernel
theorem dX12_sizeOf_24 : decode cX12_sizeOf 24 = .ok (.bipush 25, 2) := by decide +kernel
theorem dX12_sizeOf_26 : decode cX12_sizeOf 26 = .ok (.goto 5, 3) := by decide +kernel
set_option maxHeartbeats 4000000 in
set_option maxRecDepth 100000 in
theorem p_X12_sizeOf_29 (l : Launch) (D : va_G) (cT : Nat → ClassId) (tt : Nat → Nat) (b1 b : Nat) (hb1 : b1 ≤ b) (cs : List va_E) : Met l yX12_sizeOf (.code yX12_sizeOf cX12_sizeOf 1 (some FieldType.int) :: gb_wA) ({ frames := 0, cells := 0, slots := 0, locals := 0 }) (gb_Pc D cT tt b1 [.int 2] (fun h => va_P D vwCl (gb_wl b cs) h)) (gb_Qi (fun r h => r = 25 ∧ va_P D vwCl (gb_wl b cs) h) (gb_fr b cs.length)) 0 0 (gb_fr b cs.length) := by
  refine Met.ofW (cc := cX12_sizeOf) (maxL := 1) (ret := (some FieldType.int)) (by decide) rfl ?_
  intro p e s m args below meth c s₁ B hml hv
  obtain ⟨rfl, hSt, hP⟩ := hv
  have hx := B.exec
  have hb := B.bytes
  have hr := B.returns
  have hts := atoms_spec (ws := .code yX12_sizeOf cX12_sizeOf 1 (some FieldType.int) :: gb_wA) B.pre
  have hq : ∀ w ∈ gb_wA, w.before _ s = true := fun w h => hts w (List.mem_cons_of_mem _ h)
  have hown : s.vm.findClass RX12 = some m.cls := findClass_of_methodNamed B.named
  have hlocks := B.notSynchronized
  have hK := hSt.1
  have hS : va_S (gb_fr b cs.length) s.heap s.heap [] := va_S.rf
  have hl := lv_entry ([.int 2]) (n := 1) (Nat.le_of_ble_eq_true rfl)
  rw [lg_entry_eq]
  generalize (lg_sl ([.int 2]) ++ List.replicate (1 - (lg_sl ([.int 2])).length) Slot.unset).toArray = ls at hl ⊢
  have hl : lv_has ls 1 [(0, .int 2)] := hl
  refine lv_iload_n hx hb dX12_sizeOf_0 rfl (lv_at hl 0 rfl) ?_
  refine lv_if_ne (tgt := 9) hx hb dX12_sizeOf_1 (by decide) (fun _ => ?_) (fun hc => absurd hc (by decide))
  refine lv_iload_n hx hb dX12_sizeOf_9 rfl (lv_at hl 0 rfl) ?_
  refine lv_iconst (v := 1) hx hb dX12_sizeOf_10 (by decide) ?_
  refine lv_icmp_ne (tgt := 19) hx hb dX12_sizeOf_11 (by decide) (fun _ => ?_) (fun hc => absurd hc (by decide))
  refine lv_iload_n hx hb dX12_sizeOf_19 rfl (lv_at hl 0 rfl) ?_
  refine lv_iconst (v := 2) hx hb dX12_sizeOf_20 (by decide) ?_
  refine lv_icmp_ne (tgt := 29) hx hb dX12_sizeOf_21 (by decide) (fun hc => absurd hc (by decide)) (fun _ => ?_)
  refine lv_bipush (v := 25) hx hb dX12_sizeOf_24 (by decide) ?_
  refine lv_goto (tgt := 31) hx hb dX12_sizeOf_26 (by decide) ?_
  exact W.iret (v := 25) hx hb hr (fun t ht hW => gb_ri ht ⟨rfl, hP⟩ hS) hS.2.2 dX12_sizeOf_31
theorem dX12_placeOf_31 : decode cX12_placeOf 31 = .ok (.iload_n 0, 1) := by decide +kernel
theorem dX12_placeOf_32 : decode cX12_placeOf 32 = .ok (.iconst 2, 1) := by decide +kernel
theorem dX12_placeOf_33 : decode cX12_placeOf 33 = .ok (.if_icmp .ne 14, 3) := by decide +kernel
theorem dX12_placeOf_36 : decode cX12_placeOf 36 = .ok (.sipush 920, 3) := by decide +kernel
theorem dX12_placeOf_39 : decode cX12_placeOf 39 = .ok (.bipush 25, 2) := by decide +kernel
theorem dX12_placeOf_41 : decode cX12_placeOf 41 = .ok (.iload_n 1, 1) := by decide +kernel
theorem dX12_placeOf_42 : decode cX12_placeOf 42 = .ok (.imul, 1) := by decide +kernel
theorem dX12_placeOf_43 : decode cX12_placeOf 43 = .ok (.iadd, 1) := by decide +kernel
theorem dX12_placeOf_44 : decode cX12_placeOf 44 = .ok (.goto 11, 3) := by decide +kernel
set_option maxHeartbeats 4000000 in
set_option maxRecDepth 100000 in
theorem p_X12_placeOf_30 (l : Launch) (D : va_G) (cT : Nat → ClassId) (tt : Nat → Nat) (b1 b : Nat) (hb1 : b1 ≤ b) (cs : List va_E) : Met l yX12_placeOf (.code yX12_placeOf cX12_placeOf 2 (some FieldType.int) :: gb_wA) ({ frames := 0, cells := 0, slots := 0, locals := 0 }) (gb_Pc D cT tt b1 [.int 2, .int 0] (fun h => va_P D vwCl (gb_wl b cs) h)) (gb_Qi (fun r h => r = 920 ∧ va_P D vwCl (gb_wl b cs) h) (gb_fr b cs.length)) 0 0 (gb_fr b cs.length) := by
  refine Met.ofW (cc := cX12_placeOf) (maxL := 2) (ret := (some FieldType.int)) (by decide) rfl ?_
  intro p e s m args below meth c s₁ B hml hv
  obtain ⟨rfl, hSt, hP⟩ := hv
  have hx := B.exec
  have hb := B.bytes
  have hr := B.returns
  have hts := atoms_spec (ws := .code yX12_placeOf cX12_placeOf 2 (some FieldType.int) :: gb_wA) B.pre
  have hq : ∀ w ∈ gb_wA, w.before _ s = true := fun w h => hts w (List.mem_cons_of_mem _ h)
  have hown : s.vm.findClass RX12 = some m.cls := findClass_of_methodNamed B.named
  have hlocks := B.notSynchronized
  have hK := hSt.1
  have hS : va_S (gb_fr b cs.length) s.heap s.heap [] := va_S.rf
  have hl := lv_entry ([.int 2, .int 0]) (n := 2) (Nat.le_of_ble_eq_true rfl)
  rw [lg_entry_eq]
  generalize (lg_sl ([.int 2, .int 0]) ++ List.replicate (2 - (lg_sl ([.int 2, .int 0])).length) Slot.unset).toArray = ls at hl ⊢
  have hl : lv_has ls 2 [(0, .int 2), (1, .int 0)] := hl
  refine lv_iload_n hx hb dX12_placeOf_0 rfl (lv_at hl 0 rfl) ?_
  refine lv_if_ne (tgt := 15) hx hb dX12_placeOf_1 (by decide) (fun _ => ?_) (fun hc => absurd hc (by decide))
  refine lv_iload_n hx hb dX12_placeOf_15 rfl (lv_at hl 0 rfl) ?_
  refine lv_iconst (v := 1) hx hb dX12_placeOf_16 (by decide) ?_
  refine lv_icmp_ne (tgt := 31) hx hb dX12_placeOf_17 (by decide) (fun _ => ?_) (fun hc => absurd hc (by decide))
  refine lv_iload_n hx hb dX12_placeOf_31 rfl (lv_at hl 0 rfl) ?_
  refine lv_iconst (v := 2) hx hb dX12_placeOf_32 (by decide) ?_
  refine lv_icmp_ne (tgt := 47) hx hb dX12_placeOf_33 (by decide) (fun hc => absurd hc (by decide)) (fun _ => ?_)
  refine lv_sipush (v := 920) hx hb dX12_placeOf_36 (by decide) ?_
  refine lv_bipush (v := 25) hx hb dX12_placeOf_39 (by decide) ?_
  refine lv_iload_n hx hb dX12_placeOf_41 rfl (lv_at hl 1 rfl) ?_
  refine lv_imul hx hb dX12_placeOf_42 ?_
  refine W.eq (g2 := F0 m 43 ls [.int 0, .int 920]) (congrArg (fun v => F0 m 43 ls (Value.int v :: [.int 920])) (show (25 : Int32) * 0 = 0 by decide)) ?_
  refine lv_iadd hx hb dX12_placeOf_43 ?_
  refine W.eq (g2 := F0 m 44 ls [.int 920]) (congrArg (fun v => F0 m 44 ls (Value.int v :: [])) (show (920 : Int32) + 0 = 920 by decide)) ?_
  refine lv_goto (tgt := 55) hx hb dX12_placeOf_44 (by decide) ?_
  exact W.iret (v := 920) hx hb hr (fun t ht hW => gb_ri ht ⟨rfl, hP⟩ hS) hS.2.2 dX12_placeOf_55
set_option maxHeartbeats 4000000 in
set_option maxRecDepth 100000 in
theorem t_X12_isOf_31 (l : Launch) (D : va_G) (cT : Nat → ClassId) (tt : Nat → Nat) (b1 b : Nat) (hb1 : b1 ≤ b) (p2 : Int32) : Met l yX12_isOf (.code yX12_isOf cX12_isOf 3 (some FieldType.boolean) :: gb_wA) ({ frames := 1, cells := 0, slots := 0, locals := 22 }) (gb_Pc D cT tt b1 [.ref (b + 0), .int 3, .int p2] (fun h => va_P D vwCl (gb_wl b [.inr (10, [.ref (b + 1), .ref (b + 2), .int 0, .int 0, .int 0, .int 0, .int 0, .int 0, .int 0, .int 0, .ref (b + 3), .int 0, .int 0, .ref (b + 4), .ref (b + 5), .ref (b + 6), .ref (b + 7), .ref (b + 8), .ref (b + 9), .ref (b + 10), .ref (b + 11), .ref (b + 12), .int 0, .int 0, .int 0, .int 0, .ref (b + 13), .ref (b + 14), .int 0, .int 0, .ref (b + 15), .ref (b + 16), .ref (b + 17), .long 0, .int 0, .int 0, .int 0, .ref (b + 18), .int 0, .ref (b + 19), .ref (b + 20), .int 0, .int 0, .ref (b + 21)]), .inl (cT 0, 3968, .inl (upd (upd (upd (upd (fun _ => 0) 6 (-1)) 4 0) 5 0) 6 (-1))), .inl (cT 2, 3, .inl (fun _ => 0)), .inl (cT 0, 97, .inl (fun _ => 0)), .inl (cT 0, 8, .inl (fun _ => 0)), .inl (cT 0, 8, .inl (fun _ => 0)), .inl (cT 0, 8, .inl (fun _ => 0)), .inl (cT 0, 8, .inl (fun _ => 0)), .inl (cT 2, 8, .inl (fun _ => 0)), .inl (cT 0, 40, .inl (fun _ => 0)), .inl (cT 0, 5, .inl (fun _ => 0)), .inl (cT 0, 5, .inl (fun _ => 0)), .inl (cT 0, 5, .inl (fun _ => 0)), .inl (cT 0, 40, .inl (fun _ => 0)), .inl (cT 0, 5, .inl (fun _ => 0)), .inl (cT 0, 5, .inl (fun _ => 0)), .inl (cT 0, 8, .inl (fun _ => 0)), .inl (cT 2, 8, .inl (fun _ => 0)), .inl (cT 0, 8, .inl (fun _ => 0)), .inl (cT 0, 5, .inl (fun _ => 0)), .inl (cT 0, 8, .inl (fun _ => 0)), .inl (cT 2, 256, .inl (fun _ => 0))]) h)) (gb_Qi (fun r h => r = 0 ∧ va_P D vwCl (gb_wl b [.inr (10, [.ref (b + 1), .ref (b + 2), .int 0, .int 0, .int 0, .int 0, .int 0, .int 0, .int 0, .int 0, .ref (b + 3), .int 0, .int 0, .ref (b + 4), .ref (b + 5), .ref (b + 6), .ref (b + 7), .ref (b + 8), .ref (b + 9), .ref (b + 10), .ref (b + 11), .ref (b + 12), .int 0, .int 0, .int 0, .int 0, .ref (b + 13), .ref (b + 14), .int 0, .int 0, .ref (b + 15), .ref (b + 16), .ref (b + 17), .long 0, .int 0, .int 0, .int 0, .ref (b + 18), .int 0, .ref (b + 19), .ref (b + 20), .int 0, .int 0, .ref (b + 21)]), .inl (cT 0, 3968, .inl (upd (upd (upd (upd (fun _ => 0) 6 (-1)) 4 0) 5 0) 6 (-1))), .inl (cT 2, 3, .inl (fun _ => 0)), .inl (cT 0, 97, .inl (fun _ => 0)), .inl (cT 0, 8, .inl (fun _ => 0)), .inl (cT 0, 8, .inl (fun _ => 0)), .inl (cT 0, 8, .inl (fun _ => 0)), .inl (cT 0, 8, .inl (fun _ => 0)), .inl (cT 2, 8, .inl (fun _ => 0)), .inl (cT 0, 40, .inl (fun _ => 0)), .inl (cT 0, 5, .inl (fun _ => 0)), .inl (cT 0, 5, .inl (fun _ => 0)), .inl (cT 0, 5, .inl (fun _ => 0)), .inl (cT 0, 40, .inl (fun _ => 0)), .inl (cT 0, 5, .inl (fun _ => 0)), .inl (cT 0, 5, .inl (fun _ => 0)), .inl (cT 0, 8, .inl (fun _ => 0)), .inl (cT 2, 8, .inl (fun _ => 0)), .inl (cT 0, 8, .inl (fun _ => 0)), .inl (cT 0, 5, .inl (fun _ => 0)), .inl (cT 0, 8, .inl (fun _ => 0)), .inl (cT 2, 256, .inl (fun _ => 0))]) h) (gb_fr b 22)) 0 0 (gb_fr b 22) := by
  refine Met.ofW (cc := cX12_isOf) (maxL := 3) (ret := (some FieldType.boolean)) (by decide) rfl ?_
  intro p e s m args below meth c s₁ B hml hv
  obtain ⟨rfl, hSt, hP⟩ := hv
  have hx := B.exec
  have hb := B.bytes
  have hr := B.returns
  have hts := atoms_spec (ws := .code yX12_isOf cX12_isOf 3 (some FieldType.boolean) :: gb_wA) B.pre
  have hq : ∀ w ∈ gb_wA, w.before _ s = true := fun w h => hts w (List.mem_cons_of_mem _ h)
  have hown : s.vm.findClass RX12 = some m.cls := findClass_of_methodNamed B.named
  have hlocks := B.notSynchronized
  have hK := hSt.1
  have hS : va_S (gb_fr b 22) s.heap s.heap [] := va_S.rf
  have hl := lv_entry ([.ref (b + 0), .int 3, .int p2]) (n := 3) (Nat.le_of_ble_eq_true rfl)
  rw [lg_entry_eq]
  generalize (lg_sl ([.ref (b + 0), .int 3, .int p2]) ++ List.replicate (3 - (lg_sl ([.ref (b + 0), .int 3, .int p2])).length) Slot.unset).toArray = ls at hl ⊢
  have hl : lv_has ls 3 [(0, .ref (b + 0)), (1, .int 3), (2, .int p2)] := hl
  refine lv_iload_n hx hb dX12_isOf_0 rfl (lv_at hl 2 rfl) ?_
  refine lv_iconst (v := 0) hx hb dX12_isOf_1 (by decide) ?_
  refine lv_aload_n hx hb dX12_isOf_2 rfl (lv_at hl 0 rfl) ?_
  refine va_get (ci := 10) (v := (.ref (b + 1))) (C := RX12) (T := TX12) (N := 44) hx hb hq i_X12 hown hK hP 0 (gb_at b rfl) rfl 0 (by decide) (hq _ w_1124) (fun _ h9 => h9) rfl dX12_isOf_3 ?_
  refine lv_iload_n hx hb dX12_isOf_6 rfl (lv_at hl 1 rfl) ?_
  refine gb_iald (v := 0) hx hb hK hP 1 0 (gb_at b rfl) rfl (gb_in rfl) rfl dX12_isOf_7 ?_
  refine lv_iconst (v := 1) hx hb dX12_isOf_8 (by decide) ?_
  refine lv_isub hx hb dX12_isOf_9 ?_
  refine W.eq (g2 := F0 m 10 ls [.int (-1), .int 0, .int p2]) (congrArg (fun v => F0 m 10 ls (Value.int v :: [.int 0, .int p2])) (show (0 : Int32) - 1 = (-1) by decide)) ?_
  refine gb_calli (va_runS (As := [.int p2, .int 0, .int (-1)]) (rest := []) ⟨hx, hb, hml, hown, hq⟩ (p_isIn l D cT tt b1 b hb1 [.inr (10, [.ref (b + 1), .ref (b + 2), .int 0, .int 0, .int 0, .int 0, .int 0, .int 0, .int 0, .int 0, .ref (b + 3), .int 0, .int 0, .ref (b + 4), .ref (b + 5), .ref (b + 6), .ref (b + 7), .ref (b + 8), .ref (b + 9), .ref (b + 10), .ref (b + 11), .ref (b + 12), .int 0, .int 0, .int 0, .int 0, .ref (b + 13), .ref (b + 14), .int 0, .int 0, .ref (b + 15), .ref (b + 16), .ref (b + 17), .long 0, .int 0, .int 0, .int 0, .ref (b + 18), .int 0, .ref (b + 19), .ref (b + 20), .int 0, .int 0, .ref (b + 21)]), .inl (cT 0, 3968, .inl (upd (upd (upd (upd (fun _ => 0) 6 (-1)) 4 0) 5 0) 6 (-1))), .inl (cT 2, 3, .inl (fun _ => 0)), .inl (cT 0, 97, .inl (fun _ => 0)), .inl (cT 0, 8, .inl (fun _ => 0)), .inl (cT 0, 8, .inl (fun _ => 0)), .inl (cT 0, 8, .inl (fun _ => 0)), .inl (cT 0, 8, .inl (fun _ => 0)), .inl (cT 2, 8, .inl (fun _ => 0)), .inl (cT 0, 40, .inl (fun _ => 0)), .inl (cT 0, 5, .inl (fun _ => 0)), .inl (cT 0, 5, .inl (fun _ => 0)), .inl (cT 0, 5, .inl (fun _ => 0)), .inl (cT 0, 40, .inl (fun _ => 0)), .inl (cT 0, 5, .inl (fun _ => 0)), .inl (cT 0, 5, .inl (fun _ => 0)), .inl (cT 0, 8, .inl (fun _ => 0)), .inl (cT 2, 8, .inl (fun _ => 0)), .inl (cT 0, 8, .inl (fun _ => 0)), .inl (cT 0, 5, .inl (fun _ => 0)), .inl (cT 0, 8, .inl (fun _ => 0)), .inl (cT 2, 256, .inl (fun _ => 0))] p2 0 (-1)) (va_cwS 3 hq (gb_gS w_1269 w_1270 w_14 w_1271) rfl rfl rfl (by decide +kernel) ⟨Nat.le_of_ble_eq_true rfl, Nat.le_of_ble_eq_true rfl⟩) (gb_preS hSt hS (fun q h => Nat.le_trans hb1 h.1) hP) rfl rfl hl.1 rfl (lv_room (Nat.le_of_ble_eq_true rfl)) dX12_isOf_10 ⟨Nat.le_of_ble_eq_true rfl, Nat.le_of_ble_eq_true rfl⟩) hS (fun _ h => h) (fun _ h => h) (fun r H locs hY hk hS => ?_)
  obtain ⟨hr9, hP⟩ := hY
  by_cases h_10_a : p2 < 0
  · rw [if_pos h_10_a] at hr9
    subst hr9
    exact W.zret (v := 0) hx hb hr (by decide) (fun t ht hW => gb_ri ht ⟨rfl, hP⟩ hS) hS.2.2 dX12_isOf_13
  by_cases h_10_b : (-1) < p2
  · rw [if_neg h_10_a, if_pos h_10_b] at hr9
    subst hr9
    exact W.zret (v := 0) hx hb hr (by decide) (fun t ht hW => gb_ri ht ⟨rfl, hP⟩ hS) hS.2.2 dX12_isOf_13
  exact absurd (Int32.le_trans (Int32.not_lt.mp h_10_a) (Int32.not_lt.mp h_10_b)) (by decide)
theorem dX12_sizeOf_29 : decode cX12_sizeOf 29 = .ok (.bipush 11, 2) := by decide +kernel
set_option maxHeartbeats 4000000 in
set_option maxRecDepth 100000 in
theorem p_X12_sizeOf_32 (l : Launch) (D : va_G) (cT : Nat → ClassId) (tt : Nat → Nat) (b1 b : Nat) (hb1 : b1 ≤ b) (cs : List va_E) : Met l yX12_sizeOf (.code yX12_sizeOf cX12_sizeOf 1 (some FieldType.int) :: gb_wA) ({ frames := 0, cells := 0, slots := 0, locals := 0 }) (gb_Pc D cT tt b1 [.int 3] (fun h => va_P D vwCl (gb_wl b cs) h)) (gb_Qi (fun r h => r = 11 ∧ va_P D vwCl (gb_wl b cs) h) (gb_fr b cs.length)) 0 0 (gb_fr b cs.length) := by
  refine Met.ofW (cc := cX12_sizeOf) (maxL := 1) (ret := (some FieldType.int)) (by decide) rfl ?_
  intro p e s m args below meth c s₁ B hml hv
  obtain ⟨rfl, hSt, hP⟩ := hv
  have hx := B.exec
  have hb := B.bytes
  have hr := B.returns
  have hts := atoms_spec (ws := .code yX12_sizeOf cX12_sizeOf 1 (some FieldType.int) :: gb_wA) B.pre
  have hq : ∀ w ∈ gb_wA, w.before _ s = true := fun w h => hts w (List.mem_cons_of_mem _ h)
  have hown : s.vm.findClass RX12 = some m.cls := findClass_of_methodNamed B.named
  have hlocks := B.notSynchronized
  have hK := hSt.1
  have hS : va_S (gb_fr b cs.length) s.heap s.heap [] := va_S.rf
  have hl := lv_entry ([.int 3]) (n := 1) (Nat.le_of_ble_eq_true rfl)
  rw [lg_entry_eq]
  generalize (lg_sl ([.int 3]) ++ List.replicate (1 - (lg_sl ([.int 3])).length) Slot.unset).toArray = ls at hl ⊢
  have hl : lv_has ls 1 [(0, .int 3)] := hl
  refine lv_iload_n hx hb dX12_sizeOf_0 rfl (lv_at hl 0 rfl) ?_
  refine lv_if_ne (tgt := 9) hx hb dX12_sizeOf_1 (by decide) (fun _ => ?_) (fun hc => absurd hc (by decide))
  refine lv_iload_n hx hb dX12_sizeOf_9 rfl (lv_at hl 0 rfl) ?_
  refine lv_iconst (v := 1) hx hb dX12_sizeOf_10 (by decide) ?_
  refine lv_icmp_ne (tgt := 19) hx hb dX12_sizeOf_11 (by decide) (fun _ => ?_) (fun hc => absurd hc (by decide))
  refine lv_iload_n hx hb dX12_sizeOf_19 rfl (lv_at hl 0 rfl) ?_
  refine lv_iconst (v := 2) hx hb dX12_sizeOf_20 (by decide) ?_
  refine lv_icmp_ne (tgt := 29) hx hb dX12_sizeOf_21 (by decide) (fun _ => ?_) (fun hc => absurd hc (by decide))
  refine lv_bipush (v := 11) hx hb dX12_sizeOf_29 (by decide) ?_
  exact W.iret (v := 11) hx hb hr (fun t ht hW => gb_ri ht ⟨rfl, hP⟩ hS) hS.2.2 dX12_sizeOf_31
theorem dX12_placeOf_47 : decode cX12_placeOf 47 = .ok (.sipush 970, 3) := by decide +kernel
theorem dX12_placeOf_50 : decode cX12_placeOf 50 = .ok (.bipush 11, 2) := by decide +kernel
theorem dX12_placeOf_52 : decode cX12_placeOf 52 = .ok (.iload_n 1, 1) := by decide +kernel
theorem dX12_placeOf_53 : decode cX12_placeOf 53 = .ok (.imul, 1) := by decide +kernel
theorem dX12_placeOf_54 : decode cX12_placeOf 54 = .ok (.iadd, 1) := by decide +kernel
set_option maxHeartbeats 4000000 in
set_option maxRecDepth 100000 in
theorem p_X12_placeOf_33 (l : Launch) (D : va_G) (cT : Nat → ClassId) (tt : Nat → Nat) (b1 b : Nat) (hb1 : b1 ≤ b) (cs : List va_E) : Met l yX12_placeOf (.code yX12_placeOf cX12_placeOf 2 (some FieldType.int) :: gb_wA) ({ frames := 0, cells := 0, slots := 0, locals := 0 }) (gb_Pc D cT tt b1 [.int 3, .int 0] (fun h => va_P D vwCl (gb_wl b cs) h)) (gb_Qi (fun r h => r = 970 ∧ va_P D vwCl (gb_wl b cs) h) (gb_fr b cs.length)) 0 0 (gb_fr b cs.length) := by
  refine Met.ofW (cc := cX12_placeOf) (maxL := 2) (ret := (some FieldType.int)) (by decide) rfl ?_
  intro p e s m args below meth c s₁ B hml hv
  obtain ⟨rfl, hSt, hP⟩ := hv
  have hx := B.exec
  have hb := B.bytes
  have hr := B.returns
  have hts := atoms_spec (ws := .code yX12_placeOf cX12_placeOf 2 (some FieldType.int) :: gb_wA) B.pre
  have hq : ∀ w ∈ gb_wA, w.before _ s = true := fun w h => hts w (List.mem_cons_of_mem _ h)
  have hown : s.vm.findClass RX12 = some m.cls := findClass_of_methodNamed B.named
  have hlocks := B.notSynchronized
  have hK := hSt.1
  have hS : va_S (gb_fr b cs.length) s.heap s.heap [] := va_S.rf
  have hl := lv_entry ([.int 3, .int 0]) (n := 2) (Nat.le_of_ble_eq_true rfl)
  rw [lg_entry_eq]
  generalize (lg_sl ([.int 3, .int 0]) ++ List.replicate (2 - (lg_sl ([.int 3, .int 0])).length) Slot.unset).toArray = ls at hl ⊢
  have hl : lv_has ls 2 [(0, .int 3), (1, .int 0)] := hl
  refine lv_iload_n hx hb dX12_placeOf_0 rfl (lv_at hl 0 rfl) ?_
  refine lv_if_ne (tgt := 15) hx hb dX12_placeOf_1 (by decide) (fun _ => ?_) (fun hc => absurd hc (by decide))
  refine lv_iload_n hx hb dX12_placeOf_15 rfl (lv_at hl 0 rfl) ?_
  refine lv_iconst (v := 1) hx hb dX12_placeOf_16 (by decide) ?_
  refine lv_icmp_ne (tgt := 31) hx hb dX12_placeOf_17 (by decide) (fun _ => ?_) (fun hc => absurd hc (by decide))
  refine lv_iload_n hx hb dX12_placeOf_31 rfl (lv_at hl 0 rfl) ?_
  refine lv_iconst (v := 2) hx hb dX12_placeOf_32 (by decide) ?_
  refine lv_icmp_ne (tgt := 47) hx hb dX12_placeOf_33 (by decide) (fun _ => ?_) (fun hc => absurd hc (by decide))
  refine lv_sipush (v := 970) hx hb dX12_placeOf_47 (by decide) ?_
  refine lv_bipush (v := 11) hx hb dX12_placeOf_50 (by decide) ?_
  refine lv_iload_n hx hb dX12_placeOf_52 rfl (lv_at hl 1 rfl) ?_
  refine lv_imul hx hb dX12_placeOf_53 ?_
  refine W.eq (g2 := F0 m 54 ls [.int 0, .int 970]) (congrArg (fun v => F0 m 54 ls (Value.int v :: [.int 970])) (show (11 : Int32) * 0 = 0 by decide)) ?_
  refine lv_iadd hx hb dX12_placeOf_54 ?_
  refine W.eq (g2 := F0 m 55 ls [.int 970]) (congrArg (fun v => F0 m 55 ls (Value.int v :: [])) (show (970 : Int32) + 0 = 970 by decide)) ?_
  exact W.iret (v := 970) hx hb hr (fun t ht hW => gb_ri ht ⟨rfl, hP⟩ hS) hS.2.2 dX12_placeOf_55
set_option maxHeartbeats 4000000 in
set_option maxRecDepth 100000 in
theorem a_X12_text (l : Launch) (D : va_G) (cT : Nat → ClassId) (tt : Nat → Nat) (b1 b : Nat) (hb1 : b1 ≤ b) (p1 : Int32) (p2 : Int32) : Met l yX12_text (.code yX12_text cX12_text 5 (some FieldType.int) :: gb_wA) ({ frames := 2, cells := 0, slots := 0, locals := 44 }) (gb_Pc D cT tt b1 [.ref (b + 0), .int p1, .int p2] (fun h => va_P D vwCl (gb_wl b (gb_M cT b)) h)) (gb_Qi (fun r _ => r = (if p1 < 0 then (-2) else if p1 < 4 then (if p2 = (-1) then 0 else (-2)) else (-2))) (gb_fr b 22)) 0 0 (gb_fr b 22) := by
  refine Met.ofW (cc := cX12_text) (maxL := 5) (ret := (some FieldType.int)) (by decide) rfl ?_
  intro p e s m args below meth c s₁ B hml hv
  obtain ⟨rfl, hSt, hP⟩ := hv
  have hx := B.exec
  have hb := B.bytes
  have hr := B.returns
  have hts := atoms_spec (ws := .code yX12_text cX12_text 5 (some FieldType.int) :: gb_wA) B.pre
  have hq : ∀ w ∈ gb_wA, w.before _ s = true := fun w h => hts w (List.mem_cons_of_mem _ h)
  have hown : s.vm.findClass RX12 = some m.cls := findClass_of_methodNamed B.named
  have hlocks := B.notSynchronized
  have hK := hSt.1
  have hS : va_S (gb_fr b 22) s.heap s.heap [] := va_S.rf
  have hl := lv_entry ([.ref (b + 0), .int p1, .int p2]) (n := 5) (Nat.le_of_ble_eq_true rfl)
  rw [lg_entry_eq]
  generalize (lg_sl ([.ref (b + 0), .int p1, .int p2]) ++ List.replicate (5 - (lg_sl ([.ref (b + 0), .int p1, .int p2])).length) Slot.unset).toArray = ls at hl ⊢
  have hl : lv_has ls 5 [(0, .ref (b + 0)), (1, .int p1), (2, .int p2)] := hl
  refine lv_aload_n hx hb dX12_text_0 rfl (lv_at hl 0 rfl) ?_
  refine lv_aload_n hx hb dX12_text_1 rfl (lv_at hl 0 rfl) ?_
  refine va_get (ci := 10) (v := (.ref (b + 1))) (C := RX12) (T := TX12) (N := 44) hx hb hq i_X12 hown hK hP 0 (gb_at b rfl) rfl 0 (by decide) (hq _ w_1124) (fun _ h9 => h9) rfl dX12_text_2 ?_
  refine lv_iconst (v := 4) hx hb dX12_text_5 (by decide) ?_
  refine gb_iald (v := 0) hx hb hK hP 1 0 (gb_at b rfl) rfl (gb_in rfl) rfl dX12_text_6 ?_
  refine gb_put (ci := 10) (v := (.int 0)) (ty := .int) (C := RX12) (T := TX12) (N := 44) hx hb hq i_X12 tyX12 tyX12_ok nmX12 hown hK hP (fun k h => ⟨Nat.le_add_right b k, Nat.add_lt_add_left h b⟩) hS rfl 0 rfl rfl 2 (by decide) (hq _ w_1126) (fun _ h9 => h9) rfl (by decide +kernel) rfl (by first | rfl | decide) (Nat.le_of_ble_eq_true rfl) dX12_text_7 (fun H locs hP hz_ hS => ?_)
  have hP : va_P D vwCl (gb_wl b (gb_M cT b)) H := hP
  refine lv_aload_n hx hb dX12_text_10 rfl (lv_at hl 0 rfl) ?_
  refine va_get (ci := 10) (v := (.ref (b + 1))) (C := RX12) (T := TX12) (N := 44) hx hb hq i_X12 hown hK hP 0 (gb_at b rfl) rfl 0 (by decide) (hq _ w_1124) (fun _ h9 => h9) rfl dX12_text_11 ?_
  refine lv_iconst (v := 4) hx hb dX12_text_14 (by decide) ?_
  refine lv_iconst (v := 0) hx hb dX12_text_15 (by decide) ?_
  refine gb_iast (x := 0) hx hb hK hP (fun k h => ⟨Nat.le_add_right b k, Nat.add_lt_add_left h b⟩) hS rfl 1 0 rfl rfl (gb_in rfl) dX12_text_16 (fun H locs hP hz_ hS => ?_)
  have hP : va_P D vwCl (gb_wl b [.inr (10, [.ref (b + 1), .ref (b + 2), .int 0, .int 0, .int 0, .int 0, .int 0, .int 0, .int 0, .int 0, .ref (b + 3), .int 0, .int 0, .ref (b + 4), .ref (b + 5), .ref (b + 6), .ref (b + 7), .ref (b + 8), .ref (b + 9), .ref (b + 10), .ref (b + 11), .ref (b + 12), .int 0, .int 0, .int 0, .int 0, .ref (b + 13), .ref (b + 14), .int 0, .int 0, .ref (b + 15), .ref (b + 16), .ref (b + 17), .long 0, .int 0, .int 0, .int 0, .ref (b + 18), .int 0, .ref (b + 19), .ref (b + 20), .int 0, .int 0, .ref (b + 21)]), .inl (cT 0, 3968, .inl (upd (upd (fun _ => 0) 6 (-1)) 4 0)), .inl (cT 2, 3, .inl (fun _ => 0)), .inl (cT 0, 97, .inl (fun _ => 0)), .inl (cT 0, 8, .inl (fun _ => 0)), .inl (cT 0, 8, .inl (fun _ => 0)), .inl (cT 0, 8, .inl (fun _ => 0)), .inl (cT 0, 8, .inl (fun _ => 0)), .inl (cT 2, 8, .inl (fun _ => 0)), .inl (cT 0, 40, .inl (fun _ => 0)), .inl (cT 0, 5, .inl (fun _ => 0)), .inl (cT 0, 5, .inl (fun _ => 0)), .inl (cT 0, 5, .inl (fun _ => 0)), .inl (cT 0, 40, .inl (fun _ => 0)), .inl (cT 0, 5, .inl (fun _ => 0)), .inl (cT 0, 5, .inl (fun _ => 0)), .inl (cT 0, 8, .inl (fun _ => 0)), .inl (cT 2, 8, .inl (fun _ => 0)), .inl (cT 0, 8, .inl (fun _ => 0)), .inl (cT 0, 5, .inl (fun _ => 0)), .inl (cT 0, 8, .inl (fun _ => 0)), .inl (cT 2, 256, .inl (fun _ => 0))]) H := hP
  refine lv_aload_n hx hb dX12_text_17 rfl (lv_at hl 0 rfl) ?_
  refine va_get (ci := 10) (v := (.ref (b + 1))) (C := RX12) (T := TX12) (N := 44) hx hb hq i_X12 hown hK hP 0 (gb_at b rfl) rfl 0 (by decide) (hq _ w_1124) (fun _ h9 => h9) rfl dX12_text_18 ?_
  refine lv_iconst (v := 5) hx hb dX12_text_21 (by decide) ?_
  refine lv_iconst (v := 0) hx hb dX12_text_22 (by decide) ?_
  refine gb_iast (x := 0) hx hb hK hP (fun k h => ⟨Nat.le_add_right b k, Nat.add_lt_add_left h b⟩) hS rfl 1 0 rfl rfl (gb_in rfl) dX12_text_23 (fun H locs hP hz_ hS => ?_)
  have hP : va_P D vwCl (gb_wl b [.inr (10, [.ref (b + 1), .ref (b + 2), .int 0, .int 0, .int 0, .int 0, .int 0, .int 0, .int 0, .int 0, .ref (b + 3), .int 0, .int 0, .ref (b + 4), .ref (b + 5), .ref (b + 6), .ref (b + 7), .ref (b + 8), .ref (b + 9), .ref (b + 10), .ref (b + 11), .ref (b + 12), .int 0, .int 0, .int 0, .int 0, .ref (b + 13), .ref (b + 14), .int 0, .int 0, .ref (b + 15), .ref (b + 16), .ref (b + 17), .long 0, .int 0, .int 0, .int 0, .ref (b + 18), .int 0, .ref (b + 19), .ref (b + 20), .int 0, .int 0, .ref (b + 21)]), .inl (cT 0, 3968, .inl (upd (upd (upd (fun _ => 0) 6 (-1)) 4 0) 5 0)), .inl (cT 2, 3, .inl (fun _ => 0)), .inl (cT 0, 97, .inl (fun _ => 0)), .inl (cT 0, 8, .inl (fun _ => 0)), .inl (cT 0, 8, .inl (fun _ => 0)), .inl (cT 0, 8, .inl (fun _ => 0)), .inl (cT 0, 8, .inl (fun _ => 0)), .inl (cT 2, 8, .inl (fun _ => 0)), .inl (cT 0, 40, .inl (fun _ => 0)), .inl (cT 0, 5, .inl (fun _ => 0)), .inl (cT 0, 5, .inl (fun _ => 0)), .inl (cT 0, 5, .inl (fun _ => 0)), .inl (cT 0, 40, .inl (fun _ => 0)), .inl (cT 0, 5, .inl (fun _ => 0)), .inl (cT 0, 5, .inl (fun _ => 0)), .inl (cT 0, 8, .inl (fun _ => 0)), .inl (cT 2, 8, .inl (fun _ => 0)), .inl (cT 0, 8, .inl (fun _ => 0)), .inl (cT 0, 5, .inl (fun _ => 0)), .inl (cT 0, 8, .inl (fun _ => 0)), .inl (cT 2, 256, .inl (fun _ => 0))]) H := hP
  refine lv_aload_n hx hb dX12_text_24 rfl (lv_at hl 0 rfl) ?_
  refine va_get (ci := 10) (v := (.ref (b + 1))) (C := RX12) (T := TX12) (N := 44) hx hb hq i_X12 hown hK hP 0 (gb_at b rfl) rfl 0 (by decide) (hq _ w_1124) (fun _ h9 => h9) rfl dX12_text_25 ?_
  refine lv_bipush (v := 6) hx hb dX12_text_28 (by decide) ?_
  refine lv_iconst (v := (-1)) hx hb dX12_text_30 (by decide) ?_
  refine gb_iast (x := (-1)) hx hb hK hP (fun k h => ⟨Nat.le_add_right b k, Nat.add_lt_add_left h b⟩) hS rfl 1 0 rfl rfl (gb_in rfl) dX12_text_31 (fun H locs hP hz_ hS => ?_)
  have hP : va_P D vwCl (gb_wl b [.inr (10, [.ref (b + 1), .ref (b + 2), .int 0, .int 0, .int 0, .int 0, .int 0, .int 0, .int 0, .int 0, .ref (b + 3), .int 0, .int 0, .ref (b + 4), .ref (b + 5), .ref (b + 6), .ref (b + 7), .ref (b + 8), .ref (b + 9), .ref (b + 10), .ref (b + 11), .ref (b + 12), .int 0, .int 0, .int 0, .int 0, .ref (b + 13), .ref (b + 14), .int 0, .int 0, .ref (b + 15), .ref (b + 16), .ref (b + 17), .long 0, .int 0, .int 0, .int 0, .ref (b + 18), .int 0, .ref (b + 19), .ref (b + 20), .int 0, .int 0, .ref (b + 21)]), .inl (cT 0, 3968, .inl (upd (upd (upd (upd (fun _ => 0) 6 (-1)) 4 0) 5 0) 6 (-1))), .inl (cT 2, 3, .inl (fun _ => 0)), .inl (cT 0, 97, .inl (fun _ => 0)), .inl (cT 0, 8, .inl (fun _ => 0)), .inl (cT 0, 8, .inl (fun _ => 0)), .inl (cT 0, 8, .inl (fun _ => 0)), .inl (cT 0, 8, .inl (fun _ => 0)), .inl (cT 2, 8, .inl (fun _ => 0)), .inl (cT 0, 40, .inl (fun _ => 0)), .inl (cT 0, 5, .inl (fun _ => 0)), .inl (cT 0, 5, .inl (fun _ => 0)), .inl (cT 0, 5, .inl (fun _ => 0)), .inl (cT 0, 40, .inl (fun _ => 0)), .inl (cT 0, 5, .inl (fun _ => 0)), .inl (cT 0, 5, .inl (fun _ => 0)), .inl (cT 0, 8, .inl (fun _ => 0)), .inl (cT 2, 8, .inl (fun _ => 0)), .inl (cT 0, 8, .inl (fun _ => 0)), .inl (cT 0, 5, .inl (fun _ => 0)), .inl (cT 0, 8, .inl (fun _ => 0)), .inl (cT 2, 256, .inl (fun _ => 0))]) H := hP
  refine lv_iload_n hx hb dX12_text_32 rfl (lv_at hl 1 rfl) ?_
  refine lv_iconst (v := 0) hx hb dX12_text_33 (by decide) ?_
  refine lv_iconst (v := 3) hx hb dX12_text_34 (by decide) ?_
  refine gb_calli (va_runS (As := [.int p1, .int 0, .int 3]) (rest := []) ⟨hx, hb, hml, hown, hq⟩ (p_isIn l D cT tt b1 b hb1 [.inr (10, [.ref (b + 1), .ref (b + 2), .int 0, .int 0, .int 0, .int 0, .int 0, .int 0, .int 0, .int 0, .ref (b + 3), .int 0, .int 0, .ref (b + 4), .ref (b + 5), .ref (b + 6), .ref (b + 7), .ref (b + 8), .ref (b + 9), .ref (b + 10), .ref (b + 11), .ref (b + 12), .int 0, .int 0, .int 0, .int 0, .ref (b + 13), .ref (b + 14), .int 0, .int 0, .ref (b + 15), .ref (b + 16), .ref (b + 17), .long 0, .int 0, .int 0, .int 0, .ref (b + 18), .int 0, .ref (b + 19), .ref (b + 20), .int 0, .int 0, .ref (b + 21)]), .inl (cT 0, 3968, .inl (upd (upd (upd (upd (fun _ => 0) 6 (-1)) 4 0) 5 0) 6 (-1))), .inl (cT 2, 3, .inl (fun _ => 0)), .inl (cT 0, 97, .inl (fun _ => 0)), .inl (cT 0, 8, .inl (fun _ => 0)), .inl (cT 0, 8, .inl (fun _ => 0)), .inl (cT 0, 8, .inl (fun _ => 0)), .inl (cT 0, 8, .inl (fun _ => 0)), .inl (cT 2, 8, .inl (fun _ => 0)), .inl (cT 0, 40, .inl (fun _ => 0)), .inl (cT 0, 5, .inl (fun _ => 0)), .inl (cT 0, 5, .inl (fun _ => 0)), .inl (cT 0, 5, .inl (fun _ => 0)), .inl (cT 0, 40, .inl (fun _ => 0)), .inl (cT 0, 5, .inl (fun _ => 0)), .inl (cT 0, 5, .inl (fun _ => 0)), .inl (cT 0, 8, .inl (fun _ => 0)), .inl (cT 2, 8, .inl (fun _ => 0)), .inl (cT 0, 8, .inl (fun _ => 0)), .inl (cT 0, 5, .inl (fun _ => 0)), .inl (cT 0, 8, .inl (fun _ => 0)), .inl (cT 2, 256, .inl (fun _ => 0))] p1 0 3) (va_cwS 3 hq (gb_gS w_1269 w_1270 w_14 w_1271) rfl rfl rfl (by decide +kernel) ⟨Nat.le_of_ble_eq_true rfl, Nat.le_of_ble_eq_true rfl⟩) (gb_preS hSt hS (fun q h => Nat.le_trans hb1 h.1) hP) rfl rfl hl.1 rfl (lv_room (Nat.le_of_ble_eq_true rfl)) dX12_text_35 ⟨Nat.le_of_ble_eq_true rfl, Nat.le_of_ble_eq_true rfl⟩) hS (fun _ h => h) (fun _ h => h) (fun r H locs hY hk hS => ?_)
  obtain ⟨hr9, hP⟩ := hY
  by_cases h_35_a : p1 < 0
  · rw [if_pos h_35_a] at hr9
    subst hr9
    refine lv_if_eq (tgt := 68) hx hb dX12_text_38 (by decide) (fun _ => ?_) (fun hc => absurd (by decide) hc)
    refine lv_bipush (v := (-2)) hx hb dX12_text_68 (by decide) ?_
    exact W.iret (v := (-2)) hx hb hr (fun t ht hW => gb_ri ht (if_pos h_35_a).symm hS) hS.2.2 dX12_text_70
  by_cases h_35_b : 3 < p1
  · rw [if_neg h_35_a, if_pos h_35_b] at hr9
    subst hr9
    refine lv_if_eq (tgt := 68) hx hb dX12_text_38 (by decide) (fun _ => ?_) (fun hc => absurd (by decide) hc)
    refine lv_bipush (v := (-2)) hx hb dX12_text_68 (by decide) ?_
    exact W.iret (v := (-2)) hx hb hr (fun t ht hW => gb_ri ht (by rw [if_neg h_35_a, if_neg (gb_34n h_35_b)]) hS) hS.2.2 dX12_text_70
  rw [if_neg h_35_a, if_neg h_35_b] at hr9
  subst hr9
  rcases gb_4c h_35_a h_35_b with h9 | h9 | h9 | h9
  · subst h9
    refine lv_if_eq (tgt := 68) hx hb dX12_text_38 (by decide) (fun hc => absurd hc (by decide)) (fun _ => ?_)
    refine lv_iload_n hx hb dX12_text_41 rfl (lv_at hl 2 rfl) ?_
    refine lv_iconst (v := (-1)) hx hb dX12_text_42 (by decide) ?_
    refine lv_icmp_ne (tgt := 59) hx hb dX12_text_43 (by decide) (fun c_43 => ?_) (fun c_43 => ?_)
    · refine lv_aload_n hx hb dX12_text_59 rfl (lv_at hl 0 rfl) ?_
      refine lv_iload_n hx hb dX12_text_60 rfl (lv_at hl 1 rfl) ?_
      refine lv_iload_n hx hb dX12_text_61 rfl (lv_at hl 2 rfl) ?_
      refine gb_calli (va_runV (C := RX12) (As := [.int 0, .int p2]) (rest := []) ⟨hx, hb, hml, hown, hq⟩ (t_X12_isOf_18 l D cT tt b1 b hb1 p2) (cwV 2 hq (gb_gV w_1272 w_1274 s_3_0 w_14 w_1275) rfl rfl rfl (by decide +kernel) ⟨Nat.le_of_ble_eq_true rfl, Nat.le_of_ble_eq_true rfl⟩) (gb_preV (r := (RX12, TX12, 44)) (ci := 10) (q0 := 0) hSt hP rfl (gb_at b rfl) hS (fun q h => Nat.le_trans hb1 h.1) hP) rfl rfl hl.1 rfl (lv_room (Nat.le_of_ble_eq_true rfl)) dX12_text_62 ⟨Nat.le_of_ble_eq_true rfl, Nat.le_of_ble_eq_true rfl⟩) hS (fun _ h => h) (fun _ h => h) (fun r H locs hY hk hS => ?_)
      obtain ⟨hr9, hP⟩ := hY
      subst hr9
      refine lv_if_ne (tgt := 71) hx hb dX12_text_65 (by decide) (fun hc => absurd hc (by decide)) (fun _ => ?_)
      refine lv_bipush (v := (-2)) hx hb dX12_text_68 (by decide) ?_
      exact W.iret (v := (-2)) hx hb hr (fun t ht hW => gb_ri ht (by rw [if_neg h_35_a, if_pos (gb_34p h_35_b), if_neg c_43]) hS) hS.2.2 dX12_text_70
    · refine lv_aload_n hx hb dX12_text_46 rfl (lv_at hl 0 rfl) ?_
      refine va_get (ci := 10) (v := (.ref (b + 1))) (C := RX12) (T := TX12) (N := 44) hx hb hq i_X12 hown hK hP 0 (gb_at b rfl) rfl 0 (by decide) (hq _ w_1124) (fun _ h9 => h9) rfl dX12_text_47 ?_
      refine lv_iload_n hx hb dX12_text_50 rfl (lv_at hl 1 rfl) ?_
      refine gb_iald (v := 0) hx hb hK hP 1 0 (gb_at b rfl) rfl (gb_in rfl) rfl dX12_text_51 ?_
      refine lv_iconst (v := 2) hx hb dX12_text_52 (by decide) ?_
      refine lv_icmp_lt (tgt := 71) hx hb dX12_text_53 (by decide) (fun _ => ?_) (fun hc => absurd (by decide) hc)
      refine lv_aload_n hx hb dX12_text_71 rfl (lv_at hl 0 rfl) ?_
      refine lv_iconst (v := 0) hx hb dX12_text_72 (by decide) ?_
      refine gb_put (ci := 10) (v := (.int 0)) (ty := .int) (C := RX12) (T := TX12) (N := 44) hx hb hq i_X12 tyX12 tyX12_ok nmX12 hown hK hP (fun k h => ⟨Nat.le_add_right b k, Nat.add_lt_add_left h b⟩) hS rfl 0 rfl rfl 3 (by decide) (hq _ w_1127) (fun _ h9 => h9) rfl (by decide +kernel) rfl (by first | rfl | decide) (Nat.le_of_ble_eq_true rfl) dX12_text_73 (fun H locs hP hz_ hS => ?_)
      have hP : va_P D vwCl (gb_wl b [.inr (10, [.ref (b + 1), .ref (b + 2), .int 0, .int 0, .int 0, .int 0, .int 0, .int 0, .int 0, .int 0, .ref (b + 3), .int 0, .int 0, .ref (b + 4), .ref (b + 5), .ref (b + 6), .ref (b + 7), .ref (b + 8), .ref (b + 9), .ref (b + 10), .ref (b + 11), .ref (b + 12), .int 0, .int 0, .int 0, .int 0, .ref (b + 13), .ref (b + 14), .int 0, .int 0, .ref (b + 15), .ref (b + 16), .ref (b + 17), .long 0, .int 0, .int 0, .int 0, .ref (b + 18), .int 0, .ref (b + 19), .ref (b + 20), .int 0, .int 0, .ref (b + 21)]), .inl (cT 0, 3968, .inl (upd (upd (upd (upd (fun _ => 0) 6 (-1)) 4 0) 5 0) 6 (-1))), .inl (cT 2, 3, .inl (fun _ => 0)), .inl (cT 0, 97, .inl (fun _ => 0)), .inl (cT 0, 8, .inl (fun _ => 0)), .inl (cT 0, 8, .inl (fun _ => 0)), .inl (cT 0, 8, .inl (fun _ => 0)), .inl (cT 0, 8, .inl (fun _ => 0)), .inl (cT 2, 8, .inl (fun _ => 0)), .inl (cT 0, 40, .inl (fun _ => 0)), .inl (cT 0, 5, .inl (fun _ => 0)), .inl (cT 0, 5, .inl (fun _ => 0)), .inl (cT 0, 5, .inl (fun _ => 0)), .inl (cT 0, 40, .inl (fun _ => 0)), .inl (cT 0, 5, .inl (fun _ => 0)), .inl (cT 0, 5, .inl (fun _ => 0)), .inl (cT 0, 8, .inl (fun _ => 0)), .inl (cT 2, 8, .inl (fun _ => 0)), .inl (cT 0, 8, .inl (fun _ => 0)), .inl (cT 0, 5, .inl (fun _ => 0)), .inl (cT 0, 8, .inl (fun _ => 0)), .inl (cT 2, 256, .inl (fun _ => 0))]) H := hP
      refine lv_aload_n hx hb dX12_text_76 rfl (lv_at hl 0 rfl) ?_
      refine lv_iconst (v := 0) hx hb dX12_text_77 (by decide) ?_
      refine gb_put (ci := 10) (v := (.int 0)) (ty := .boolean) (C := RX12) (T := TX12) (N := 44) hx hb hq i_X12 tyX12 tyX12_ok nmX12 hown hK hP (fun k h => ⟨Nat.le_add_right b k, Nat.add_lt_add_left h b⟩) hS rfl 0 rfl rfl 8 (by decide) (hq _ w_1132) (fun _ h9 => h9) rfl (by decide +kernel) rfl (by decide) (Nat.le_of_ble_eq_true rfl) dX12_text_78 (fun H locs hP hz_ hS => ?_)
      have hP : va_P D vwCl (gb_wl b [.inr (10, [.ref (b + 1), .ref (b + 2), .int 0, .int 0, .int 0, .int 0, .int 0, .int 0, .int 0, .int 0, .ref (b + 3), .int 0, .int 0, .ref (b + 4), .ref (b + 5), .ref (b + 6), .ref (b + 7), .ref (b + 8), .ref (b + 9), .ref (b + 10), .ref (b + 11), .ref (b + 12), .int 0, .int 0, .int 0, .int 0, .ref (b + 13), .ref (b + 14), .int 0, .int 0, .ref (b + 15), .ref (b + 16), .ref (b + 17), .long 0, .int 0, .int 0, .int 0, .ref (b + 18), .int 0, .ref (b + 19), .ref (b + 20), .int 0, .int 0, .ref (b + 21)]), .inl (cT 0, 3968, .inl (upd (upd (upd (upd (fun _ => 0) 6 (-1)) 4 0) 5 0) 6 (-1))), .inl (cT 2, 3, .inl (fun _ => 0)), .inl (cT 0, 97, .inl (fun _ => 0)), .inl (cT 0, 8, .inl (fun _ => 0)), .inl (cT 0, 8, .inl (fun _ => 0)), .inl (cT 0, 8, .inl (fun _ => 0)), .inl (cT 0, 8, .inl (fun _ => 0)), .inl (cT 2, 8, .inl (fun _ => 0)), .inl (cT 0, 40, .inl (fun _ => 0)), .inl (cT 0, 5, .inl (fun _ => 0)), .inl (cT 0, 5, .inl (fun _ => 0)), .inl (cT 0, 5, .inl (fun _ => 0)), .inl (cT 0, 40, .inl (fun _ => 0)), .inl (cT 0, 5, .inl (fun _ => 0)), .inl (cT 0, 5, .inl (fun _ => 0)), .inl (cT 0, 8, .inl (fun _ => 0)), .inl (cT 2, 8, .inl (fun _ => 0)), .inl (cT 0, 8, .inl (fun _ => 0)), .inl (cT 0, 5, .inl (fun _ => 0)), .inl (cT 0, 8, .inl (fun _ => 0)), .inl (cT 2, 256, .inl (fun _ => 0))]) H := hP
      refine lv_aload_n hx hb dX12_text_81 rfl (lv_at hl 0 rfl) ?_
      refine lv_iconst (v := 0) hx hb dX12_text_82 (by decide) ?_
      refine gb_put (ci := 10) (v := (.int 0)) (ty := .boolean) (C := RX12) (T := TX12) (N := 44) hx hb hq i_X12 tyX12 tyX12_ok nmX12 hown hK hP (fun k h => ⟨Nat.le_add_right b k, Nat.add_lt_add_left h b⟩) hS rfl 0 rfl rfl 9 (by decide) (hq _ w_1133) (fun _ h9 => h9) rfl (by decide +kernel) rfl (by decide) (Nat.le_of_ble_eq_true rfl) dX12_text_83 (fun H locs hP hz_ hS => ?_)
      have hP : va_P D vwCl (gb_wl b [.inr (10, [.ref (b + 1), .ref (b + 2), .int 0, .int 0, .int 0, .int 0, .int 0, .int 0, .int 0, .int 0, .ref (b + 3), .int 0, .int 0, .ref (b + 4), .ref (b + 5), .ref (b + 6), .ref (b + 7), .ref (b + 8), .ref (b + 9), .ref (b + 10), .ref (b + 11), .ref (b + 12), .int 0, .int 0, .int 0, .int 0, .ref (b + 13), .ref (b + 14), .int 0, .int 0, .ref (b + 15), .ref (b + 16), .ref (b + 17), .long 0, .int 0, .int 0, .int 0, .ref (b + 18), .int 0, .ref (b + 19), .ref (b + 20), .int 0, .int 0, .ref (b + 21)]), .inl (cT 0, 3968, .inl (upd (upd (upd (upd (fun _ => 0) 6 (-1)) 4 0) 5 0) 6 (-1))), .inl (cT 2, 3, .inl (fun _ => 0)), .inl (cT 0, 97, .inl (fun _ => 0)), .inl (cT 0, 8, .inl (fun _ => 0)), .inl (cT 0, 8, .inl (fun _ => 0)), .inl (cT 0, 8, .inl (fun _ => 0)), .inl (cT 0, 8, .inl (fun _ => 0)), .inl (cT 2, 8, .inl (fun _ => 0)), .inl (cT 0, 40, .inl (fun _ => 0)), .inl (cT 0, 5, .inl (fun _ => 0)), .inl (cT 0, 5, .inl (fun _ => 0)), .inl (cT 0, 5, .inl (fun _ => 0)), .inl (cT 0, 40, .inl (fun _ => 0)), .inl (cT 0, 5, .inl (fun _ => 0)), .inl (cT 0, 5, .inl (fun _ => 0)), .inl (cT 0, 8, .inl (fun _ => 0)), .inl (cT 2, 8, .inl (fun _ => 0)), .inl (cT 0, 8, .inl (fun _ => 0)), .inl (cT 0, 5, .inl (fun _ => 0)), .inl (cT 0, 8, .inl (fun _ => 0)), .inl (cT 2, 256, .inl (fun _ => 0))]) H := hP
      refine lv_iconst (v := 0) hx hb dX12_text_86 (by decide) ?_
      refine lv_istore_n (lv' := [(3, .int 0), (0, .ref (b + 0)), (1, .int 0), (2, .int p2)]) hx hb dX12_text_87 rfl hl (by decide) rfl (fun ls hl => ?_)
      refine gb_loop (I := fun i H locs ls => ∃ R : Nat → Int32, va_P D vwCl (gb_wl b [.inr (10, [.ref (b + 1), .ref (b + 2), .int 0, .int 0, .int 0, .int 0, .int 0, .int 0, .int 0, .int 0, .ref (b + 3), .int 0, .int 0, .ref (b + 4), .ref (b + 5), .ref (b + 6), .ref (b + 7), .ref (b + 8), .ref (b + 9), .ref (b + 10), .ref (b + 11), .ref (b + 12), .int 0, .int 0, .int 0, .int 0, .ref (b + 13), .ref (b + 14), .int 0, .int 0, .ref (b + 15), .ref (b + 16), .ref (b + 17), .long 0, .int 0, .int 0, .int 0, .ref (b + 18), .int 0, .ref (b + 19), .ref (b + 20), .int 0, .int 0, .ref (b + 21)]), .inl (cT 0, 3968, .inl (upd (upd (upd (upd (fun _ => 0) 6 (-1)) 4 0) 5 0) 6 (-1))), .inl (cT 2, 3, .inl (fun _ => 0)), .inl (cT 0, 97, .inl R), .inl (cT 0, 8, .inl (fun _ => 0)), .inl (cT 0, 8, .inl (fun _ => 0)), .inl (cT 0, 8, .inl (fun _ => 0)), .inl (cT 0, 8, .inl (fun _ => 0)), .inl (cT 2, 8, .inl (fun _ => 0)), .inl (cT 0, 40, .inl (fun _ => 0)), .inl (cT 0, 5, .inl (fun _ => 0)), .inl (cT 0, 5, .inl (fun _ => 0)), .inl (cT 0, 5, .inl (fun _ => 0)), .inl (cT 0, 40, .inl (fun _ => 0)), .inl (cT 0, 5, .inl (fun _ => 0)), .inl (cT 0, 5, .inl (fun _ => 0)), .inl (cT 0, 8, .inl (fun _ => 0)), .inl (cT 2, 8, .inl (fun _ => 0)), .inl (cT 0, 8, .inl (fun _ => 0)), .inl (cT 0, 5, .inl (fun _ => 0)), .inl (cT 0, 8, .inl (fun _ => 0)), .inl (cT 2, 256, .inl (fun _ => 0))]) H ∧ va_S (gb_fr b 22) s.heap H locs ∧ lv_has ls 5 [(3, .int (nI i)), (0, .ref (b + 0)), (1, .int 0), (2, .int p2)]) 97 ?_ ?_ 0 _ _ _ (by decide) ⟨_, hP, hS, hl⟩
      · intro i H locs ls hi hI ih
        obtain ⟨R, hP, hS, hl⟩ := hI
        refine lv_iload_n hx hb dX12_text_88 rfl (lv_at hl 0 rfl) ?_
        refine lv_bipush (v := 97) hx hb dX12_text_89 (by decide) ?_
        refine lv_icmp_ge (tgt := 107) hx hb dX12_text_91 (by decide) (fun c_91 => absurd c_91 (nI_ge hi (by decide))) (fun c_91 => ?_)
        refine lv_aload_n hx hb dX12_text_94 rfl (lv_at hl 1 rfl) ?_
        refine va_get (ci := 10) (v := (.ref (b + 3))) (C := RX12) (T := TX12) (N := 44) hx hb hq i_X12 hown hK hP 0 (gb_at b rfl) rfl 10 (by decide) (hq _ w_1134) (fun _ h9 => h9) rfl dX12_text_95 ?_
        refine lv_iload_n hx hb dX12_text_98 rfl (lv_at hl 0 rfl) ?_
        refine lv_iconst (v := 0) hx hb dX12_text_99 (by decide) ?_
        refine gb_iast (x := 0) hx hb hK hP (fun k h => ⟨Nat.le_add_right b k, Nat.add_lt_add_left h b⟩) hS rfl 3 0 rfl rfl (vp_in_nI (by omega) (by decide)) dX12_text_100 (fun H locs hP hz_ hS => ?_)
        have hP : va_P D vwCl (gb_wl b [.inr (10, [.ref (b + 1), .ref (b + 2), .int 0, .int 0, .int 0, .int 0, .int 0, .int 0, .int 0, .int 0, .ref (b + 3), .int 0, .int 0, .ref (b + 4), .ref (b + 5), .ref (b + 6), .ref (b + 7), .ref (b + 8), .ref (b + 9), .ref (b + 10), .ref (b + 11), .ref (b + 12), .int 0, .int 0, .int 0, .int 0, .ref (b + 13), .ref (b + 14), .int 0, .int 0, .ref (b + 15), .ref (b + 16), .ref (b + 17), .long 0, .int 0, .int 0, .int 0, .ref (b + 18), .int 0, .ref (b + 19), .ref (b + 20), .int 0, .int 0, .ref (b + 21)]), .inl (cT 0, 3968, .inl (upd (upd (upd (upd (fun _ => 0) 6 (-1)) 4 0) 5 0) 6 (-1))), .inl (cT 2, 3, .inl (fun _ => 0)), .inl (cT 0, 97, .inl (upd R ((nI i)).toNatClampNeg 0)), .inl (cT 0, 8, .inl (fun _ => 0)), .inl (cT 0, 8, .inl (fun _ => 0)), .inl (cT 0, 8, .inl (fun _ => 0)), .inl (cT 0, 8, .inl (fun _ => 0)), .inl (cT 2, 8, .inl (fun _ => 0)), .inl (cT 0, 40, .inl (fun _ => 0)), .inl (cT 0, 5, .inl (fun _ => 0)), .inl (cT 0, 5, .inl (fun _ => 0)), .inl (cT 0, 5, .inl (fun _ => 0)), .inl (cT 0, 40, .inl (fun _ => 0)), .inl (cT 0, 5, .inl (fun _ => 0)), .inl (cT 0, 5, .inl (fun _ => 0)), .inl (cT 0, 8, .inl (fun _ => 0)), .inl (cT 2, 8, .inl (fun _ => 0)), .inl (cT 0, 8, .inl (fun _ => 0)), .inl (cT 0, 5, .inl (fun _ => 0)), .inl (cT 0, 8, .inl (fun _ => 0)), .inl (cT 2, 256, .inl (fun _ => 0))]) H := hP
        refine lv_iinc (v := (nI (i + 1))) (lv' := [(3, .int (nI (i + 1))), (0, .ref (b + 0)), (1, .int 0), (2, .int p2)]) hx hb dX12_text_101 hl (k := 0) rfl (nI_succ i).symm (by decide) rfl (fun ls hl => ?_)
        refine lv_goto (tgt := 88) hx hb dX12_text_104 (by decide) ?_
        exact ih _ _ _ ⟨_, hP, hS, lv_sub hl [0, 1, 2, 3] rfl⟩
      · intro H locs ls hI
        obtain ⟨R, hP, hS, hl⟩ := hI
        refine lv_iload_n hx hb dX12_text_88 rfl (lv_at hl 0 rfl) ?_
        refine lv_bipush (v := 97) hx hb dX12_text_89 (by decide) ?_
        refine lv_icmp_ge (tgt := 107) hx hb dX12_text_91 (by decide) (fun _ => ?_) (fun hc => absurd (by decide) hc)
        refine lv_iload_n hx hb dX12_text_107 rfl (lv_at hl 2 rfl) ?_
        refine lv_if_ne (tgt := 118) hx hb dX12_text_108 (by decide) (fun hc => absurd hc (by decide)) (fun _ => ?_)
        refine lv_aload_n hx hb dX12_text_111 rfl (lv_at hl 1 rfl) ?_
        refine va_get (ci := 10) (v := (.ref (b + 3))) (C := RX12) (T := TX12) (N := 44) hx hb hq i_X12 hown hK hP 0 (gb_at b rfl) rfl 10 (by decide) (hq _ w_1134) (fun _ h9 => h9) rfl dX12_text_112 ?_
        refine lv_iconst (v := 2) hx hb dX12_text_115 (by decide) ?_
        refine lv_iconst (v := (-1)) hx hb dX12_text_116 (by decide) ?_
        refine gb_iast (x := (-1)) hx hb hK hP (fun k h => ⟨Nat.le_add_right b k, Nat.add_lt_add_left h b⟩) hS rfl 3 0 rfl rfl (gb_in rfl) dX12_text_117 (fun H locs hP hz_ hS => ?_)
        have hP : va_P D vwCl (gb_wl b [.inr (10, [.ref (b + 1), .ref (b + 2), .int 0, .int 0, .int 0, .int 0, .int 0, .int 0, .int 0, .int 0, .ref (b + 3), .int 0, .int 0, .ref (b + 4), .ref (b + 5), .ref (b + 6), .ref (b + 7), .ref (b + 8), .ref (b + 9), .ref (b + 10), .ref (b + 11), .ref (b + 12), .int 0, .int 0, .int 0, .int 0, .ref (b + 13), .ref (b + 14), .int 0, .int 0, .ref (b + 15), .ref (b + 16), .ref (b + 17), .long 0, .int 0, .int 0, .int 0, .ref (b + 18), .int 0, .ref (b + 19), .ref (b + 20), .int 0, .int 0, .ref (b + 21)]), .inl (cT 0, 3968, .inl (upd (upd (upd (upd (fun _ => 0) 6 (-1)) 4 0) 5 0) 6 (-1))), .inl (cT 2, 3, .inl (fun _ => 0)), .inl (cT 0, 97, .inl (upd R 2 (-1))), .inl (cT 0, 8, .inl (fun _ => 0)), .inl (cT 0, 8, .inl (fun _ => 0)), .inl (cT 0, 8, .inl (fun _ => 0)), .inl (cT 0, 8, .inl (fun _ => 0)), .inl (cT 2, 8, .inl (fun _ => 0)), .inl (cT 0, 40, .inl (fun _ => 0)), .inl (cT 0, 5, .inl (fun _ => 0)), .inl (cT 0, 5, .inl (fun _ => 0)), .inl (cT 0, 5, .inl (fun _ => 0)), .inl (cT 0, 40, .inl (fun _ => 0)), .inl (cT 0, 5, .inl (fun _ => 0)), .inl (cT 0, 5, .inl (fun _ => 0)), .inl (cT 0, 8, .inl (fun _ => 0)), .inl (cT 2, 8, .inl (fun _ => 0)), .inl (cT 0, 8, .inl (fun _ => 0)), .inl (cT 0, 5, .inl (fun _ => 0)), .inl (cT 0, 8, .inl (fun _ => 0)), .inl (cT 2, 256, .inl (fun _ => 0))]) H := hP
        refine lv_aload_n hx hb dX12_text_118 rfl (lv_at hl 1 rfl) ?_
        refine gb_callv (va_runV (C := RX12) (As := []) (rest := []) ⟨hx, hb, hml, hown, hq⟩ (t_X12_advance_19 l D cT tt b1 b hb1 R) (cwV 0 hq (gb_gV w_1276 w_1278 s_3_1 w_14 w_1279) rfl rfl rfl (by decide +kernel) ⟨Nat.le_of_ble_eq_true rfl, Nat.le_of_ble_eq_true rfl⟩) (gb_preV (r := (RX12, TX12, 44)) (ci := 10) (q0 := 0) hSt hP rfl (gb_at b rfl) hS (fun q h => Nat.le_trans hb1 h.1) hP) rfl rfl hl.1 rfl (lv_room (Nat.le_of_ble_eq_true rfl)) dX12_text_119 ⟨Nat.le_of_ble_eq_true rfl, Nat.le_of_ble_eq_true rfl⟩) hS (fun _ h => h) (fun _ h => h) (fun H locs hY hk hS => ?_)
        have hP : va_P D vwCl (gb_wl b [.inr (10, [.ref (b + 1), .ref (b + 2), .int 0, .int 0, .int 0, .int 0, .int 0, .int 0, .int 0, .int 0, .ref (b + 3), .int 0, .int 0, .ref (b + 4), .ref (b + 5), .ref (b + 6), .ref (b + 7), .ref (b + 8), .ref (b + 9), .ref (b + 10), .ref (b + 11), .ref (b + 12), .int 0, .int 0, .int 0, .int 0, .ref (b + 13), .ref (b + 14), .int 0, .int 0, .ref (b + 15), .ref (b + 16), .ref (b + 17), .long 0, .int 0, .int 0, .int 0, .ref (b + 18), .int 0, .ref (b + 19), .ref (b + 20), .int 0, .int 0, .ref (b + 21)]), .inl (cT 0, 3968, .inl (upd (upd (upd (upd (fun _ => 0) 6 (-1)) 4 0) 5 0) 6 (-1))), .inl (cT 2, 3, .inl (fun _ => 0)), .inl (cT 0, 97, .inl (upd R 2 (-1))), .inl (cT 0, 8, .inl (fun _ => 0)), .inl (cT 0, 8, .inl (fun _ => 0)), .inl (cT 0, 8, .inl (fun _ => 0)), .inl (cT 0, 8, .inl (fun _ => 0)), .inl (cT 2, 8, .inl (fun _ => 0)), .inl (cT 0, 40, .inl (fun _ => 0)), .inl (cT 0, 5, .inl (fun _ => 0)), .inl (cT 0, 5, .inl (fun _ => 0)), .inl (cT 0, 5, .inl (fun _ => 0)), .inl (cT 0, 40, .inl (fun _ => 0)), .inl (cT 0, 5, .inl (fun _ => 0)), .inl (cT 0, 5, .inl (fun _ => 0)), .inl (cT 0, 8, .inl (fun _ => 0)), .inl (cT 2, 8, .inl (fun _ => 0)), .inl (cT 0, 8, .inl (fun _ => 0)), .inl (cT 0, 5, .inl (fun _ => 0)), .inl (cT 0, 8, .inl (fun _ => 0)), .inl (cT 2, 256, .inl (fun _ => 0))]) H := hY
        refine lv_aload_n hx hb dX12_text_122 rfl (lv_at hl 1 rfl) ?_
        refine va_get (ci := 10) (v := (.int 0)) (C := RX12) (T := TX12) (N := 44) hx hb hq i_X12 hown hK hP 0 (gb_at b rfl) rfl 8 (by decide) (hq _ w_1132) (fun _ h9 => h9) rfl dX12_text_123 ?_
        refine lv_if_ne (tgt := 178) hx hb dX12_text_126 (by decide) (fun hc => absurd hc (by decide)) (fun _ => ?_)
        refine lv_aload_n hx hb dX12_text_129 rfl (lv_at hl 1 rfl) ?_
        refine va_get (ci := 10) (v := (.int 0)) (C := RX12) (T := TX12) (N := 44) hx hb hq i_X12 hown hK hP 0 (gb_at b rfl) rfl 5 (by decide) (hq _ w_1129) (fun _ h9 => h9) rfl dX12_text_130 ?_
        refine lv_if_eq (tgt := 178) hx hb dX12_text_133 (by decide) (fun _ => ?_) (fun hc => absurd (by decide) hc)
        refine lv_aload_n hx hb dX12_text_178 rfl (lv_at hl 1 rfl) ?_
        refine va_get (ci := 10) (v := (.ref (b + 1))) (C := RX12) (T := TX12) (N := 44) hx hb hq i_X12 hown hK hP 0 (gb_at b rfl) rfl 0 (by decide) (hq _ w_1124) (fun _ h9 => h9) rfl dX12_text_179 ?_
        refine lv_iconst (v := 5) hx hb dX12_text_182 (by decide) ?_
        refine gb_iald (v := 0) hx hb hK hP 1 0 (gb_at b rfl) rfl (gb_in rfl) rfl dX12_text_183 ?_
        refine lv_if_ne (tgt := 203) hx hb dX12_text_184 (by decide) (fun hc => absurd hc (by decide)) (fun _ => ?_)
        refine lv_aload_n hx hb dX12_text_187 rfl (lv_at hl 1 rfl) ?_
        refine va_get (ci := 10) (v := (.int 0)) (C := RX12) (T := TX12) (N := 44) hx hb hq i_X12 hown hK hP 0 (gb_at b rfl) rfl 9 (by decide) (hq _ w_1133) (fun _ h9 => h9) rfl dX12_text_188 ?_
        refine lv_if_eq (tgt := 203) hx hb dX12_text_191 (by decide) (fun _ => ?_) (fun hc => absurd (by decide) hc)
        refine lv_aload_n hx hb dX12_text_203 rfl (lv_at hl 1 rfl) ?_
        refine va_get (ci := 10) (v := (.ref (b + 1))) (C := RX12) (T := TX12) (N := 44) hx hb hq i_X12 hown hK hP 0 (gb_at b rfl) rfl 0 (by decide) (hq _ w_1124) (fun _ h9 => h9) rfl dX12_text_204 ?_
        refine lv_iconst (v := 5) hx hb dX12_text_207 (by decide) ?_
        refine gb_iald (v := 0) hx hb hK hP 1 0 (gb_at b rfl) rfl (gb_in rfl) rfl dX12_text_208 ?_
        refine lv_if_eq (tgt := 214) hx hb dX12_text_209 (by decide) (fun _ => ?_) (fun hc => absurd (by decide) hc)
        refine lv_iload_n hx hb dX12_text_214 rfl (lv_at hl 3 rfl) ?_
        refine lv_iconst (v := (-1)) hx hb dX12_text_215 (by decide) ?_
        refine lv_icmp_ne (tgt := 228) hx hb dX12_text_216 (by decide) (fun c_216 => absurd c_43 c_216) (fun c_216 => ?_)
        refine lv_aload_n hx hb dX12_text_219 rfl (lv_at hl 1 rfl) ?_
        refine va_get (ci := 10) (v := (.ref (b + 1))) (C := RX12) (T := TX12) (N := 44) hx hb hq i_X12 hown hK hP 0 (gb_at b rfl) rfl 0 (by decide) (hq _ w_1124) (fun _ h9 => h9) rfl dX12_text_220 ?_
        refine lv_iload_n hx hb dX12_text_223 rfl (lv_at hl 2 rfl) ?_
        refine gb_iald (v := 0) hx hb hK hP 1 0 (gb_at b rfl) rfl (gb_in rfl) rfl dX12_text_224 ?_
        refine lv_goto (tgt := 229) hx hb dX12_text_225 (by decide) ?_
        refine lv_istore_n (lv' := [(3, .int 0), (0, .ref (b + 0)), (1, .int 0), (2, .int p2)]) hx hb dX12_text_229 rfl hl (by decide) rfl (fun ls hl => ?_)
        refine lv_iload_n hx hb dX12_text_230 rfl (lv_at hl 3 rfl) ?_
        refine lv_iconst (v := (-1)) hx hb dX12_text_231 (by decide) ?_
        refine lv_icmp_ne (tgt := 245) hx hb dX12_text_232 (by decide) (fun c_232 => absurd c_43 c_232) (fun c_232 => ?_)
        refine lv_aload_n hx hb dX12_text_235 rfl (lv_at hl 1 rfl) ?_
        refine va_get (ci := 10) (v := (.ref (b + 1))) (C := RX12) (T := TX12) (N := 44) hx hb hq i_X12 hown hK hP 0 (gb_at b rfl) rfl 0 (by decide) (hq _ w_1124) (fun _ h9 => h9) rfl dX12_text_236 ?_
        refine lv_iload_n hx hb dX12_text_239 rfl (lv_at hl 2 rfl) ?_
        refine lv_dup2_11 hx hb dX12_text_240 rfl rfl ?_
        refine gb_iald (v := 0) hx hb hK hP 1 0 (gb_at b rfl) rfl (gb_in rfl) rfl dX12_text_241 ?_
        refine lv_iconst (v := 1) hx hb dX12_text_242 (by decide) ?_
        refine lv_iadd hx hb dX12_text_243 ?_
        refine W.eq (g2 := F0 m 244 ls [.int 1, .int 0, .ref (b + 1)]) (congrArg (fun v => F0 m 244 ls (Value.int v :: [.int 0, .ref (b + 1)])) (show (0 : Int32) + 1 = 1 by decide)) ?_
        refine gb_iast (x := 1) hx hb hK hP (fun k h => ⟨Nat.le_add_right b k, Nat.add_lt_add_left h b⟩) hS rfl 1 0 rfl rfl (gb_in rfl) dX12_text_244 (fun H locs hP hz_ hS => ?_)
        have hP : va_P D vwCl (gb_wl b [.inr (10, [.ref (b + 1), .ref (b + 2), .int 0, .int 0, .int 0, .int 0, .int 0, .int 0, .int 0, .int 0, .ref (b + 3), .int 0, .int 0, .ref (b + 4), .ref (b + 5), .ref (b + 6), .ref (b + 7), .ref (b + 8), .ref (b + 9), .ref (b + 10), .ref (b + 11), .ref (b + 12), .int 0, .int 0, .int 0, .int 0, .ref (b + 13), .ref (b + 14), .int 0, .int 0, .ref (b + 15), .ref (b + 16), .ref (b + 17), .long 0, .int 0, .int 0, .int 0, .ref (b + 18), .int 0, .ref (b + 19), .ref (b + 20), .int 0, .int 0, .ref (b + 21)]), .inl (cT 0, 3968, .inl (upd (upd (upd (upd (upd (fun _ => 0) 6 (-1)) 4 0) 5 0) 6 (-1)) 0 1)), .inl (cT 2, 3, .inl (fun _ => 0)), .inl (cT 0, 97, .inl (upd R 2 (-1))), .inl (cT 0, 8, .inl (fun _ => 0)), .inl (cT 0, 8, .inl (fun _ => 0)), .inl (cT 0, 8, .inl (fun _ => 0)), .inl (cT 0, 8, .inl (fun _ => 0)), .inl (cT 2, 8, .inl (fun _ => 0)), .inl (cT 0, 40, .inl (fun _ => 0)), .inl (cT 0, 5, .inl (fun _ => 0)), .inl (cT 0, 5, .inl (fun _ => 0)), .inl (cT 0, 5, .inl (fun _ => 0)), .inl (cT 0, 40, .inl (fun _ => 0)), .inl (cT 0, 5, .inl (fun _ => 0)), .inl (cT 0, 5, .inl (fun _ => 0)), .inl (cT 0, 8, .inl (fun _ => 0)), .inl (cT 2, 8, .inl (fun _ => 0)), .inl (cT 0, 8, .inl (fun _ => 0)), .inl (cT 0, 5, .inl (fun _ => 0)), .inl (cT 0, 8, .inl (fun _ => 0)), .inl (cT 2, 256, .inl (fun _ => 0))]) H := hP
        refine lv_iconst (v := 0) hx hb dX12_text_245 (by decide) ?_
        refine lv_istore (lv' := [(4, .int 0), (3, .int 0), (0, .ref (b + 0)), (1, .int 0), (2, .int p2)]) hx hb dX12_text_246 hl (by decide) rfl (fun ls hl => ?_)
        refine gb_loop (I := fun i H locs ls => ∃ F : Nat → Int32, va_P D vwCl (gb_wl b [.inr (10, [.ref (b + 1), .ref (b + 2), .int 0, .int 0, .int 0, .int 0, .int 0, .int 0, .int 0, .int 0, .ref (b + 3), .int 0, .int 0, .ref (b + 4), .ref (b + 5), .ref (b + 6), .ref (b + 7), .ref (b + 8), .ref (b + 9), .ref (b + 10), .ref (b + 11), .ref (b + 12), .int 0, .int 0, .int 0, .int 0, .ref (b + 13), .ref (b + 14), .int 0, .int 0, .ref (b + 15), .ref (b + 16), .ref (b + 17), .long 0, .int 0, .int 0, .int 0, .ref (b + 18), .int 0, .ref (b + 19), .ref (b + 20), .int 0, .int 0, .ref (b + 21)]), .inl (cT 0, 3968, .inl F), .inl (cT 2, 3, .inl (fun _ => 0)), .inl (cT 0, 97, .inl (upd R 2 (-1))), .inl (cT 0, 8, .inl (fun _ => 0)), .inl (cT 0, 8, .inl (fun _ => 0)), .inl (cT 0, 8, .inl (fun _ => 0)), .inl (cT 0, 8, .inl (fun _ => 0)), .inl (cT 2, 8, .inl (fun _ => 0)), .inl (cT 0, 40, .inl (fun _ => 0)), .inl (cT 0, 5, .inl (fun _ => 0)), .inl (cT 0, 5, .inl (fun _ => 0)), .inl (cT 0, 5, .inl (fun _ => 0)), .inl (cT 0, 40, .inl (fun _ => 0)), .inl (cT 0, 5, .inl (fun _ => 0)), .inl (cT 0, 5, .inl (fun _ => 0)), .inl (cT 0, 8, .inl (fun _ => 0)), .inl (cT 2, 8, .inl (fun _ => 0)), .inl (cT 0, 8, .inl (fun _ => 0)), .inl (cT 0, 5, .inl (fun _ => 0)), .inl (cT 0, 8, .inl (fun _ => 0)), .inl (cT 2, 256, .inl (fun _ => 0))]) H ∧ va_S (gb_fr b 22) s.heap H locs ∧ lv_has ls 5 [(4, .int (nI i)), (3, .int 0), (0, .ref (b + 0)), (1, .int 0), (2, .int p2)]) 58 ?_ ?_ 0 _ _ _ (by decide) ⟨_, hP, hS, hl⟩
        · intro i H locs ls hi hI ih
          obtain ⟨F, hP, hS, hl⟩ := hI
          refine lv_iload hx hb dX12_text_248 (lv_at hl 0 rfl) ?_
          refine lv_iload_n hx hb dX12_text_250 rfl (lv_at hl 3 rfl) ?_
          refine gb_calli (va_runS (As := [.int 0]) (rest := [.int (nI i)]) ⟨hx, hb, hml, hown, hq⟩ (p_X12_sizeOf_21 l D cT tt b1 b hb1 [.inr (10, [.ref (b + 1), .ref (b + 2), .int 0, .int 0, .int 0, .int 0, .int 0, .int 0, .int 0, .int 0, .ref (b + 3), .int 0, .int 0, .ref (b + 4), .ref (b + 5), .ref (b + 6), .ref (b + 7), .ref (b + 8), .ref (b + 9), .ref (b + 10), .ref (b + 11), .ref (b + 12), .int 0, .int 0, .int 0, .int 0, .ref (b + 13), .ref (b + 14), .int 0, .int 0, .ref (b + 15), .ref (b + 16), .ref (b + 17), .long 0, .int 0, .int 0, .int 0, .ref (b + 18), .int 0, .ref (b + 19), .ref (b + 20), .int 0, .int 0, .ref (b + 21)]), .inl (cT 0, 3968, .inl F), .inl (cT 2, 3, .inl (fun _ => 0)), .inl (cT 0, 97, .inl (upd R 2 (-1))), .inl (cT 0, 8, .inl (fun _ => 0)), .inl (cT 0, 8, .inl (fun _ => 0)), .inl (cT 0, 8, .inl (fun _ => 0)), .inl (cT 0, 8, .inl (fun _ => 0)), .inl (cT 2, 8, .inl (fun _ => 0)), .inl (cT 0, 40, .inl (fun _ => 0)), .inl (cT 0, 5, .inl (fun _ => 0)), .inl (cT 0, 5, .inl (fun _ => 0)), .inl (cT 0, 5, .inl (fun _ => 0)), .inl (cT 0, 40, .inl (fun _ => 0)), .inl (cT 0, 5, .inl (fun _ => 0)), .inl (cT 0, 5, .inl (fun _ => 0)), .inl (cT 0, 8, .inl (fun _ => 0)), .inl (cT 2, 8, .inl (fun _ => 0)), .inl (cT 0, 8, .inl (fun _ => 0)), .inl (cT 0, 5, .inl (fun _ => 0)), .inl (cT 0, 8, .inl (fun _ => 0)), .inl (cT 2, 256, .inl (fun _ => 0))]) (va_cwS 1 hq (gb_gS w_1358 w_1359 w_14 w_1360) rfl rfl rfl (by decide +kernel) ⟨Nat.le_of_ble_eq_true rfl, Nat.le_of_ble_eq_true rfl⟩) (gb_preS hSt hS (fun q h => Nat.le_trans hb1 h.1) hP) rfl rfl hl.1 rfl (lv_room (Nat.le_of_ble_eq_true rfl)) dX12_text_251 ⟨Nat.le_of_ble_eq_true rfl, Nat.le_of_ble_eq_true rfl⟩) hS (fun _ h => h) (fun _ h => h) (fun r H locs hY hk hS => ?_)
          obtain ⟨hr9, hP⟩ := hY
          subst hr9
          refine lv_icmp_ge (tgt := 283) hx hb dX12_text_254 (by decide) (fun c_254 => absurd c_254 (nI_ge hi (by decide))) (fun c_254 => ?_)
          refine lv_aload_n hx hb dX12_text_257 rfl (lv_at hl 2 rfl) ?_
          refine va_get (ci := 10) (v := (.ref (b + 1))) (C := RX12) (T := TX12) (N := 44) hx hb hq i_X12 hown hK hP 0 (gb_at b rfl) rfl 0 (by decide) (hq _ w_1124) (fun _ h9 => h9) rfl dX12_text_258 ?_
          refine lv_iload_n hx hb dX12_text_261 rfl (lv_at hl 3 rfl) ?_
          refine lv_iload_n hx hb dX12_text_262 rfl (lv_at hl 1 rfl) ?_
          refine gb_calli (va_runS (As := [.int 0, .int 0]) (rest := [.ref (b + 1)]) ⟨hx, hb, hml, hown, hq⟩ (p_X12_placeOf_22 l D cT tt b1 b hb1 [.inr (10, [.ref (b + 1), .ref (b + 2), .int 0, .int 0, .int 0, .int 0, .int 0, .int 0, .int 0, .int 0, .ref (b + 3), .int 0, .int 0, .ref (b + 4), .ref (b + 5), .ref (b + 6), .ref (b + 7), .ref (b + 8), .ref (b + 9), .ref (b + 10), .ref (b + 11), .ref (b + 12), .int 0, .int 0, .int 0, .int 0, .ref (b + 13), .ref (b + 14), .int 0, .int 0, .ref (b + 15), .ref (b + 16), .ref (b + 17), .long 0, .int 0, .int 0, .int 0, .ref (b + 18), .int 0, .ref (b + 19), .ref (b + 20), .int 0, .int 0, .ref (b + 21)]), .inl (cT 0, 3968, .inl F), .inl (cT 2, 3, .inl (fun _ => 0)), .inl (cT 0, 97, .inl (upd R 2 (-1))), .inl (cT 0, 8, .inl (fun _ => 0)), .inl (cT 0, 8, .inl (fun _ => 0)), .inl (cT 0, 8, .inl (fun _ => 0)), .inl (cT 0, 8, .inl (fun _ => 0)), .inl (cT 2, 8, .inl (fun _ => 0)), .inl (cT 0, 40, .inl (fun _ => 0)), .inl (cT 0, 5, .inl (fun _ => 0)), .inl (cT 0, 5, .inl (fun _ => 0)), .inl (cT 0, 5, .inl (fun _ => 0)), .inl (cT 0, 40, .inl (fun _ => 0)), .inl (cT 0, 5, .inl (fun _ => 0)), .inl (cT 0, 5, .inl (fun _ => 0)), .inl (cT 0, 8, .inl (fun _ => 0)), .inl (cT 2, 8, .inl (fun _ => 0)), .inl (cT 0, 8, .inl (fun _ => 0)), .inl (cT 0, 5, .inl (fun _ => 0)), .inl (cT 0, 8, .inl (fun _ => 0)), .inl (cT 2, 256, .inl (fun _ => 0))]) (va_cwS 2 hq (gb_gS w_1361 w_1362 w_14 w_1363) rfl rfl rfl (by decide +kernel) ⟨Nat.le_of_ble_eq_true rfl, Nat.le_of_ble_eq_true rfl⟩) (gb_preS hSt hS (fun q h => Nat.le_trans hb1 h.1) hP) rfl rfl hl.1 rfl (lv_room (Nat.le_of_ble_eq_true rfl)) dX12_text_263 ⟨Nat.le_of_ble_eq_true rfl, Nat.le_of_ble_eq_true rfl⟩) hS (fun _ h => h) (fun _ h => h) (fun r H locs hY hk hS => ?_)
          obtain ⟨hr9, hP⟩ := hY
          subst hr9
          refine lv_iload hx hb dX12_text_266 (lv_at hl 0 rfl) ?_
          refine lv_iadd hx hb dX12_text_268 ?_
          refine W.eq (g2 := F0 m 269 ls [.int (nI (610 + i)), .ref (b + 1)]) (congrArg (fun v => F0 m 269 ls (Value.int v :: [.ref (b + 1)])) (nI_add 610 i)) ?_
          refine lv_aload_n hx hb dX12_text_269 rfl (lv_at hl 2 rfl) ?_
          refine va_get (ci := 10) (v := (.ref (b + 3))) (C := RX12) (T := TX12) (N := 44) hx hb hq i_X12 hown hK hP 0 (gb_at b rfl) rfl 10 (by decide) (hq _ w_1134) (fun _ h9 => h9) rfl dX12_text_270 ?_
          refine lv_iload hx hb dX12_text_273 (lv_at hl 0 rfl) ?_
          refine gb_iald (v := ((upd R 2 (-1)) ((nI i)).toNatClampNeg)) hx hb hK hP 3 0 (gb_at b rfl) rfl (vp_in_nI (by omega) (by decide)) rfl dX12_text_275 ?_
          refine lv_topi (fun x_1 ex_1 => ?_)
          refine gb_iast (x := x_1) hx hb hK hP (fun k h => ⟨Nat.le_add_right b k, Nat.add_lt_add_left h b⟩) hS rfl 1 0 rfl rfl (vp_in_nI (by omega) (by decide)) dX12_text_276 (fun H locs hP hz_ hS => ?_)
          have hP : va_P D vwCl (gb_wl b [.inr (10, [.ref (b + 1), .ref (b + 2), .int 0, .int 0, .int 0, .int 0, .int 0, .int 0, .int 0, .int 0, .ref (b + 3), .int 0, .int 0, .ref (b + 4), .ref (b + 5), .ref (b + 6), .ref (b + 7), .ref (b + 8), .ref (b + 9), .ref (b + 10), .ref (b + 11), .ref (b + 12), .int 0, .int 0, .int 0, .int 0, .ref (b + 13), .ref (b + 14), .int 0, .int 0, .ref (b + 15), .ref (b + 16), .ref (b + 17), .long 0, .int 0, .int 0, .int 0, .ref (b + 18), .int 0, .ref (b + 19), .ref (b + 20), .int 0, .int 0, .ref (b + 21)]), .inl (cT 0, 3968, .inl (upd F ((nI (610 + i))).toNatClampNeg x_1)), .inl (cT 2, 3, .inl (fun _ => 0)), .inl (cT 0, 97, .inl (upd R 2 (-1))), .inl (cT 0, 8, .inl (fun _ => 0)), .inl (cT 0, 8, .inl (fun _ => 0)), .inl (cT 0, 8, .inl (fun _ => 0)), .inl (cT 0, 8, .inl (fun _ => 0)), .inl (cT 2, 8, .inl (fun _ => 0)), .inl (cT 0, 40, .inl (fun _ => 0)), .inl (cT 0, 5, .inl (fun _ => 0)), .inl (cT 0, 5, .inl (fun _ => 0)), .inl (cT 0, 5, .inl (fun _ => 0)), .inl (cT 0, 40, .inl (fun _ => 0)), .inl (cT 0, 5, .inl (fun _ => 0)), .inl (cT 0, 5, .inl (fun _ => 0)), .inl (cT 0, 8, .inl (fun _ => 0)), .inl (cT 2, 8, .inl (fun _ => 0)), .inl (cT 0, 8, .inl (fun _ => 0)), .inl (cT 0, 5, .inl (fun _ => 0)), .inl (cT 0, 8, .inl (fun _ => 0)), .inl (cT 2, 256, .inl (fun _ => 0))]) H := hP
          refine lv_iinc (v := (nI (i + 1))) (lv' := [(4, .int (nI (i + 1))), (3, .int 0), (0, .ref (b + 0)), (1, .int 0), (2, .int p2)]) hx hb dX12_text_277 hl (k := 0) rfl (nI_succ i).symm (by decide) rfl (fun ls hl => ?_)
          refine lv_goto (tgt := 248) hx hb dX12_text_280 (by decide) ?_
          exact ih _ _ _ ⟨_, hP, hS, lv_sub hl [0, 1, 2, 3, 4] rfl⟩
        · intro H locs ls hI
          obtain ⟨F, hP, hS, hl⟩ := hI
          refine lv_iload hx hb dX12_text_248 (lv_at hl 0 rfl) ?_
          refine lv_iload_n hx hb dX12_text_250 rfl (lv_at hl 3 rfl) ?_
          refine gb_calli (va_runS (As := [.int 0]) (rest := [.int (nI 58)]) ⟨hx, hb, hml, hown, hq⟩ (p_X12_sizeOf_21 l D cT tt b1 b hb1 [.inr (10, [.ref (b + 1), .ref (b + 2), .int 0, .int 0, .int 0, .int 0, .int 0, .int 0, .int 0, .int 0, .ref (b + 3), .int 0, .int 0, .ref (b + 4), .ref (b + 5), .ref (b + 6), .ref (b + 7), .ref (b + 8), .ref (b + 9), .ref (b + 10), .ref (b + 11), .ref (b + 12), .int 0, .int 0, .int 0, .int 0, .ref (b + 13), .ref (b + 14), .int 0, .int 0, .ref (b + 15), .ref (b + 16), .ref (b + 17), .long 0, .int 0, .int 0, .int 0, .ref (b + 18), .int 0, .ref (b + 19), .ref (b + 20), .int 0, .int 0, .ref (b + 21)]), .inl (cT 0, 3968, .inl F), .inl (cT 2, 3, .inl (fun _ => 0)), .inl (cT 0, 97, .inl (upd R 2 (-1))), .inl (cT 0, 8, .inl (fun _ => 0)), .inl (cT 0, 8, .inl (fun _ => 0)), .inl (cT 0, 8, .inl (fun _ => 0)), .inl (cT 0, 8, .inl (fun _ => 0)), .inl (cT 2, 8, .inl (fun _ => 0)), .inl (cT 0, 40, .inl (fun _ => 0)), .inl (cT 0, 5, .inl (fun _ => 0)), .inl (cT 0, 5, .inl (fun _ => 0)), .inl (cT 0, 5, .inl (fun _ => 0)), .inl (cT 0, 40, .inl (fun _ => 0)), .inl (cT 0, 5, .inl (fun _ => 0)), .inl (cT 0, 5, .inl (fun _ => 0)), .inl (cT 0, 8, .inl (fun _ => 0)), .inl (cT 2, 8, .inl (fun _ => 0)), .inl (cT 0, 8, .inl (fun _ => 0)), .inl (cT 0, 5, .inl (fun _ => 0)), .inl (cT 0, 8, .inl (fun _ => 0)), .inl (cT 2, 256, .inl (fun _ => 0))]) (va_cwS 1 hq (gb_gS w_1358 w_1359 w_14 w_1360) rfl rfl rfl (by decide +kernel) ⟨Nat.le_of_ble_eq_true rfl, Nat.le_of_ble_eq_true rfl⟩) (gb_preS hSt hS (fun q h => Nat.le_trans hb1 h.1) hP) rfl rfl hl.1 rfl (lv_room (Nat.le_of_ble_eq_true rfl)) dX12_text_251 ⟨Nat.le_of_ble_eq_true rfl, Nat.le_of_ble_eq_true rfl⟩) hS (fun _ h => h) (fun _ h => h) (fun r H locs hY hk hS => ?_)
          obtain ⟨hr9, hP⟩ := hY
          subst hr9
          refine lv_icmp_ge (tgt := 283) hx hb dX12_text_254 (by decide) (fun _ => ?_) (fun hc => absurd (by decide) hc)
          refine lv_iload_n hx hb dX12_text_283 rfl (lv_at hl 1 rfl) ?_
          exact W.iret (v := 0) hx hb hr (fun t ht hW => gb_ri ht (by rw [if_neg h_35_a, if_pos (gb_34p h_35_b), if_pos c_43]) hS) hS.2.2 dX12_text_284
  · subst h9
    refine lv_if_eq (tgt := 68) hx hb dX12_text_38 (by decide) (fun hc => absurd hc (by decide)) (fun _ => ?_)
    refine lv_iload_n hx hb dX12_text_41 rfl (lv_at hl 2 rfl) ?_
    refine lv_iconst (v := (-1)) hx hb dX12_text_42 (by decide) ?_
    refine lv_icmp_ne (tgt := 59) hx hb dX12_text_43 (by decide) (fun c_43 => ?_) (fun c_43 => ?_)
    · refine lv_aload_n hx hb dX12_text_59 rfl (lv_at hl 0 rfl) ?_
      refine lv_iload_n hx hb dX12_text_60 rfl (lv_at hl 1 rfl) ?_
      refine lv_iload_n hx hb dX12_text_61 rfl (lv_at hl 2 rfl) ?_
      refine gb_calli (va_runV (C := RX12) (As := [.int 1, .int p2]) (rest := []) ⟨hx, hb, hml, hown, hq⟩ (t_X12_isOf_23 l D cT tt b1 b hb1 p2) (cwV 2 hq (gb_gV w_1272 w_1274 s_3_0 w_14 w_1275) rfl rfl rfl (by decide +kernel) ⟨Nat.le_of_ble_eq_true rfl, Nat.le_of_ble_eq_true rfl⟩) (gb_preV (r := (RX12, TX12, 44)) (ci := 10) (q0 := 0) hSt hP rfl (gb_at b rfl) hS (fun q h => Nat.le_trans hb1 h.1) hP) rfl rfl hl.1 rfl (lv_room (Nat.le_of_ble_eq_true rfl)) dX12_text_62 ⟨Nat.le_of_ble_eq_true rfl, Nat.le_of_ble_eq_true rfl⟩) hS (fun _ h => h) (fun _ h => h) (fun r H locs hY hk hS => ?_)
      obtain ⟨hr9, hP⟩ := hY
      subst hr9
      refine lv_if_ne (tgt := 71) hx hb dX12_text_65 (by decide) (fun hc => absurd hc (by decide)) (fun _ => ?_)
      refine lv_bipush (v := (-2)) hx hb dX12_text_68 (by decide) ?_
      exact W.iret (v := (-2)) hx hb hr (fun t ht hW => gb_ri ht (by rw [if_neg h_35_a, if_pos (gb_34p h_35_b), if_neg c_43]) hS) hS.2.2 dX12_text_70
    · refine lv_aload_n hx hb dX12_text_46 rfl (lv_at hl 0 rfl) ?_
      refine va_get (ci := 10) (v := (.ref (b + 1))) (C := RX12) (T := TX12) (N := 44) hx hb hq i_X12 hown hK hP 0 (gb_at b rfl) rfl 0 (by decide) (hq _ w_1124) (fun _ h9 => h9) rfl dX12_text_47 ?_
      refine lv_iload_n hx hb dX12_text_50 rfl (lv_at hl 1 rfl) ?_
      refine gb_iald (v := 0) hx hb hK hP 1 0 (gb_at b rfl) rfl (gb_in rfl) rfl dX12_text_51 ?_
      refine lv_iconst (v := 2) hx hb dX12_text_52 (by decide) ?_
      refine lv_icmp_lt (tgt := 71) hx hb dX12_text_53 (by decide) (fun _ => ?_) (fun hc => absurd (by decide) hc)
      refine lv_aload_n hx hb dX12_text_71 rfl (lv_at hl 0 rfl) ?_
      refine lv_iconst (v := 0) hx hb dX12_text_72 (by decide) ?_
      refine gb_put (ci := 10) (v := (.int 0)) (ty := .int) (C := RX12) (T := TX12) (N := 44) hx hb hq i_X12 tyX12 tyX12_ok nmX12 hown hK hP (fun k h => ⟨Nat.le_add_right b k, Nat.add_lt_add_left h b⟩) hS rfl 0 rfl rfl 3 (by decide) (hq _ w_1127) (fun _ h9 => h9) rfl (by decide +kernel) rfl (by first | rfl | decide) (Nat.le_of_ble_eq_true rfl) dX12_text_73 (fun H locs hP hz_ hS => ?_)
      have hP : va_P D vwCl (gb_wl b [.inr (10, [.ref (b + 1), .ref (b + 2), .int 0, .int 0, .int 0, .int 0, .int 0, .int 0, .int 0, .int 0, .ref (b + 3), .int 0, .int 0, .ref (b + 4), .ref (b + 5), .ref (b + 6), .ref (b + 7), .ref (b + 8), .ref (b + 9), .ref (b + 10), .ref (b + 11), .ref (b + 12), .int 0, .int 0, .int 0, .int 0, .ref (b + 13), .ref (b + 14), .int 0, .int 0, .ref (b + 15), .ref (b + 16), .ref (b + 17), .long 0, .int 0, .int 0, .int 0, .ref (b + 18), .int 0, .ref (b + 19), .ref (b + 20), .int 0, .int 0, .ref (b + 21)]), .inl (cT 0, 3968, .inl (upd (upd (upd (upd (fun _ => 0) 6 (-1)) 4 0) 5 0) 6 (-1))), .inl (cT 2, 3, .inl (fun _ => 0)), .inl (cT 0, 97, .inl (fun _ => 0)), .inl (cT 0, 8, .inl (fun _ => 0)), .inl (cT 0, 8, .inl (fun _ => 0)), .inl (cT 0, 8, .inl (fun _ => 0)), .inl (cT 0, 8, .inl (fun _ => 0)), .inl (cT 2, 8, .inl (fun _ => 0)), .inl (cT 0, 40, .inl (fun _ => 0)), .inl (cT 0, 5, .inl (fun _ => 0)), .inl (cT 0, 5, .inl (fun _ => 0)), .inl (cT 0, 5, .inl (fun _ => 0)), .inl (cT 0, 40, .inl (fun _ => 0)), .inl (cT 0, 5, .inl (fun _ => 0)), .inl (cT 0, 5, .inl (fun _ => 0)), .inl (cT 0, 8, .inl (fun _ => 0)), .inl (cT 2, 8, .inl (fun _ => 0)), .inl (cT 0, 8, .inl (fun _ => 0)), .inl (cT 0, 5, .inl (fun _ => 0)), .inl (cT 0, 8, .inl (fun _ => 0)), .inl (cT 2, 256, .inl (fun _ => 0))]) H := hP
      refine lv_aload_n hx hb dX12_text_76 rfl (lv_at hl 0 rfl) ?_
      refine lv_iconst (v := 0) hx hb dX12_text_77 (by decide) ?_
      refine gb_put (ci := 10) (v := (.int 0)) (ty := .boolean) (C := RX12) (T := TX12) (N := 44) hx hb hq i_X12 tyX12 tyX12_ok nmX12 hown hK hP (fun k h => ⟨Nat.le_add_right b k, Nat.add_lt_add_left h b⟩) hS rfl 0 rfl rfl 8 (by decide) (hq _ w_1132) (fun _ h9 => h9) rfl (by decide +kernel) rfl (by decide) (Nat.le_of_ble_eq_true rfl) dX12_text_78 (fun H locs hP hz_ hS => ?_)
      have hP : va_P D vwCl (gb_wl b [.inr (10, [.ref (b + 1), .ref (b + 2), .int 0, .int 0, .int 0, .int 0, .int 0, .int 0, .int 0, .int 0, .ref (b + 3), .int 0, .int 0, .ref (b + 4), .ref (b + 5), .ref (b + 6), .ref (b + 7), .ref (b + 8), .ref (b + 9), .ref (b + 10), .ref (b + 11), .ref (b + 12), .int 0, .int 0, .int 0, .int 0, .ref (b + 13), .ref (b + 14), .int 0, .int 0, .ref (b + 15), .ref (b + 16), .ref (b + 17), .long 0, .int 0, .int 0, .int 0, .ref (b + 18), .int 0, .ref (b + 19), .ref (b + 20), .int 0, .int 0, .ref (b + 21)]), .inl (cT 0, 3968, .inl (upd (upd (upd (upd (fun _ => 0) 6 (-1)) 4 0) 5 0) 6 (-1))), .inl (cT 2, 3, .inl (fun _ => 0)), .inl (cT 0, 97, .inl (fun _ => 0)), .inl (cT 0, 8, .inl (fun _ => 0)), .inl (cT 0, 8, .inl (fun _ => 0)), .inl (cT 0, 8, .inl (fun _ => 0)), .inl (cT 0, 8, .inl (fun _ => 0)), .inl (cT 2, 8, .inl (fun _ => 0)), .inl (cT 0, 40, .inl (fun _ => 0)), .inl (cT 0, 5, .inl (fun _ => 0)), .inl (cT 0, 5, .inl (fun _ => 0)), .inl (cT 0, 5, .inl (fun _ => 0)), .inl (cT 0, 40, .inl (fun _ => 0)), .inl (cT 0, 5, .inl (fun _ => 0)), .inl (cT 0, 5, .inl (fun _ => 0)), .inl (cT 0, 8, .inl (fun _ => 0)), .inl (cT 2, 8, .inl (fun _ => 0)), .inl (cT 0, 8, .inl (fun _ => 0)), .inl (cT 0, 5, .inl (fun _ => 0)), .inl (cT 0, 8, .inl (fun _ => 0)), .inl (cT 2, 256, .inl (fun _ => 0))]) H := hP
      refine lv_aload_n hx hb dX12_text_81 rfl (lv_at hl 0 rfl) ?_
      refine lv_iconst (v := 0) hx hb dX12_text_82 (by decide) ?_
      refine gb_put (ci := 10) (v := (.int 0)) (ty := .boolean) (C := RX12) (T := TX12) (N := 44) hx hb hq i_X12 tyX12 tyX12_ok nmX12 hown hK hP (fun k h => ⟨Nat.le_add_right b k, Nat.add_lt_add_left h b⟩) hS rfl 0 rfl rfl 9 (by decide) (hq _ w_1133) (fun _ h9 => h9) rfl (by decide +kernel) rfl (by decide) (Nat.le_of_ble_eq_true rfl) dX12_text_83 (fun H locs hP hz_ hS => ?_)
      have hP : va_P D vwCl (gb_wl b [.inr (10, [.ref (b + 1), .ref (b + 2), .int 0, .int 0, .int 0, .int 0, .int 0, .int 0, .int 0, .int 0, .ref (b + 3), .int 0, .int 0, .ref (b + 4), .ref (b + 5), .ref (b + 6), .ref (b + 7), .ref (b + 8), .ref (b + 9), .ref (b + 10), .ref (b + 11), .ref (b + 12), .int 0, .int 0, .int 0, .int 0, .ref (b + 13), .ref (b + 14), .int 0, .int 0, .ref (b + 15), .ref (b + 16), .ref (b + 17), .long 0, .int 0, .int 0, .int 0, .ref (b + 18), .int 0, .ref (b + 19), .ref (b + 20), .int 0, .int 0, .ref (b + 21)]), .inl (cT 0, 3968, .inl (upd (upd (upd (upd (fun _ => 0) 6 (-1)) 4 0) 5 0) 6 (-1))), .inl (cT 2, 3, .inl (fun _ => 0)), .inl (cT 0, 97, .inl (fun _ => 0)), .inl (cT 0, 8, .inl (fun _ => 0)), .inl (cT 0, 8, .inl (fun _ => 0)), .inl (cT 0, 8, .inl (fun _ => 0)), .inl (cT 0, 8, .inl (fun _ => 0)), .inl (cT 2, 8, .inl (fun _ => 0)), .inl (cT 0, 40, .inl (fun _ => 0)), .inl (cT 0, 5, .inl (fun _ => 0)), .inl (cT 0, 5, .inl (fun _ => 0)), .inl (cT 0, 5, .inl (fun _ => 0)), .inl (cT 0, 40, .inl (fun _ => 0)), .inl (cT 0, 5, .inl (fun _ => 0)), .inl (cT 0, 5, .inl (fun _ => 0)), .inl (cT 0, 8, .inl (fun _ => 0)), .inl (cT 2, 8, .inl (fun _ => 0)), .inl (cT 0, 8, .inl (fun _ => 0)), .inl (cT 0, 5, .inl (fun _ => 0)), .inl (cT 0, 8, .inl (fun _ => 0)), .inl (cT 2, 256, .inl (fun _ => 0))]) H := hP
      refine lv_iconst (v := 0) hx hb dX12_text_86 (by decide) ?_
      refine lv_istore_n (lv' := [(3, .int 0), (0, .ref (b + 0)), (1, .int 1), (2, .int p2)]) hx hb dX12_text_87 rfl hl (by decide) rfl (fun ls hl => ?_)
      refine gb_loop (I := fun i H locs ls => ∃ R : Nat → Int32, va_P D vwCl (gb_wl b [.inr (10, [.ref (b + 1), .ref (b + 2), .int 0, .int 0, .int 0, .int 0, .int 0, .int 0, .int 0, .int 0, .ref (b + 3), .int 0, .int 0, .ref (b + 4), .ref (b + 5), .ref (b + 6), .ref (b + 7), .ref (b + 8), .ref (b + 9), .ref (b + 10), .ref (b + 11), .ref (b + 12), .int 0, .int 0, .int 0, .int 0, .ref (b + 13), .ref (b + 14), .int 0, .int 0, .ref (b + 15), .ref (b + 16), .ref (b + 17), .long 0, .int 0, .int 0, .int 0, .ref (b + 18), .int 0, .ref (b + 19), .ref (b + 20), .int 0, .int 0, .ref (b + 21)]), .inl (cT 0, 3968, .inl (upd (upd (upd (upd (fun _ => 0) 6 (-1)) 4 0) 5 0) 6 (-1))), .inl (cT 2, 3, .inl (fun _ => 0)), .inl (cT 0, 97, .inl R), .inl (cT 0, 8, .inl (fun _ => 0)), .inl (cT 0, 8, .inl (fun _ => 0)), .inl (cT 0, 8, .inl (fun _ => 0)), .inl (cT 0, 8, .inl (fun _ => 0)), .inl (cT 2, 8, .inl (fun _ => 0)), .inl (cT 0, 40, .inl (fun _ => 0)), .inl (cT 0, 5, .inl (fun _ => 0)), .inl (cT 0, 5, .inl (fun _ => 0)), .inl (cT 0, 5, .inl (fun _ => 0)), .inl (cT 0, 40, .inl (fun _ => 0)), .inl (cT 0, 5, .inl (fun _ => 0)), .inl (cT 0, 5, .inl (fun _ => 0)), .inl (cT 0, 8, .inl (fun _ => 0)), .inl (cT 2, 8, .inl (fun _ => 0)), .inl (cT 0, 8, .inl (fun _ => 0)), .inl (cT 0, 5, .inl (fun _ => 0)), .inl (cT 0, 8, .inl (fun _ => 0)), .inl (cT 2, 256, .inl (fun _ => 0))]) H ∧ va_S (gb_fr b 22) s.heap H locs ∧ lv_has ls 5 [(3, .int (nI i)), (0, .ref (b + 0)), (1, .int 1), (2, .int p2)]) 97 ?_ ?_ 0 _ _ _ (by decide) ⟨_, hP, hS, hl⟩
      · intro i H locs ls hi hI ih
        obtain ⟨R, hP, hS, hl⟩ := hI
        refine lv_iload_n hx hb dX12_text_88 rfl (lv_at hl 0 rfl) ?_
        refine lv_bipush (v := 97) hx hb dX12_text_89 (by decide) ?_
        refine lv_icmp_ge (tgt := 107) hx hb dX12_text_91 (by decide) (fun c_91 => absurd c_91 (nI_ge hi (by decide))) (fun c_91 => ?_)
        refine lv_aload_n hx hb dX12_text_94 rfl (lv_at hl 1 rfl) ?_
        refine va_get (ci := 10) (v := (.ref (b + 3))) (C := RX12) (T := TX12) (N := 44) hx hb hq i_X12 hown hK hP 0 (gb_at b rfl) rfl 10 (by decide) (hq _ w_1134) (fun _ h9 => h9) rfl dX12_text_95 ?_
        refine lv_iload_n hx hb dX12_text_98 rfl (lv_at hl 0 rfl) ?_
        refine lv_iconst (v := 0) hx hb dX12_text_99 (by decide) ?_
        refine gb_iast (x := 0) hx hb hK hP (fun k h => ⟨Nat.le_add_right b k, Nat.add_lt_add_left h b⟩) hS rfl 3 0 rfl rfl (vp_in_nI (by omega) (by decide)) dX12_text_100 (fun H locs hP hz_ hS => ?_)
        have hP : va_P D vwCl (gb_wl b [.inr (10, [.ref (b + 1), .ref (b + 2), .int 0, .int 0, .int 0, .int 0, .int 0, .int 0, .int 0, .int 0, .ref (b + 3), .int 0, .int 0, .ref (b + 4), .ref (b + 5), .ref (b + 6), .ref (b + 7), .ref (b + 8), .ref (b + 9), .ref (b + 10), .ref (b + 11), .ref (b + 12), .int 0, .int 0, .int 0, .int 0, .ref (b + 13), .ref (b + 14), .int 0, .int 0, .ref (b + 15), .ref (b + 16), .ref (b + 17), .long 0, .int 0, .int 0, .int 0, .ref (b + 18), .int 0, .ref (b + 19), .ref (b + 20), .int 0, .int 0, .ref (b + 21)]), .inl (cT 0, 3968, .inl (upd (upd (upd (upd (fun _ => 0) 6 (-1)) 4 0) 5 0) 6 (-1))), .inl (cT 2, 3, .inl (fun _ => 0)), .inl (cT 0, 97, .inl (upd R ((nI i)).toNatClampNeg 0)), .inl (cT 0, 8, .inl (fun _ => 0)), .inl (cT 0, 8, .inl (fun _ => 0)), .inl (cT 0, 8, .inl (fun _ => 0)), .inl (cT 0, 8, .inl (fun _ => 0)), .inl (cT 2, 8, .inl (fun _ => 0)), .inl (cT 0, 40, .inl (fun _ => 0)), .inl (cT 0, 5, .inl (fun _ => 0)), .inl (cT 0, 5, .inl (fun _ => 0)), .inl (cT 0, 5, .inl (fun _ => 0)), .inl (cT 0, 40, .inl (fun _ => 0)), .inl (cT 0, 5, .inl (fun _ => 0)), .inl (cT 0, 5, .inl (fun _ => 0)), .inl (cT 0, 8, .inl (fun _ => 0)), .inl (cT 2, 8, .inl (fun _ => 0)), .inl (cT 0, 8, .inl (fun _ => 0)), .inl (cT 0, 5, .inl (fun _ => 0)), .inl (cT 0, 8, .inl (fun _ => 0)), .inl (cT 2, 256, .inl (fun _ => 0))]) H := hP
        refine lv_iinc (v := (nI (i + 1))) (lv' := [(3, .int (nI (i + 1))), (0, .ref (b + 0)), (1, .int 1), (2, .int p2)]) hx hb dX12_text_101 hl (k := 0) rfl (nI_succ i).symm (by decide) rfl (fun ls hl => ?_)
        refine lv_goto (tgt := 88) hx hb dX12_text_104 (by decide) ?_
        exact ih _ _ _ ⟨_, hP, hS, lv_sub hl [0, 1, 2, 3] rfl⟩
      · intro H locs ls hI
        obtain ⟨R, hP, hS, hl⟩ := hI
        refine lv_iload_n hx hb dX12_text_88 rfl (lv_at hl 0 rfl) ?_
        refine lv_bipush (v := 97) hx hb dX12_text_89 (by decide) ?_
        refine lv_icmp_ge (tgt := 107) hx hb dX12_text_91 (by decide) (fun _ => ?_) (fun hc => absurd (by decide) hc)
        refine lv_iload_n hx hb dX12_text_107 rfl (lv_at hl 2 rfl) ?_
        refine lv_if_ne (tgt := 118) hx hb dX12_text_108 (by decide) (fun _ => ?_) (fun hc => absurd hc (by decide))
        refine lv_aload_n hx hb dX12_text_118 rfl (lv_at hl 1 rfl) ?_
        refine gb_callv (va_runV (C := RX12) (As := []) (rest := []) ⟨hx, hb, hml, hown, hq⟩ (t_X12_advance_24 l D cT tt b1 b hb1 R) (cwV 0 hq (gb_gV w_1276 w_1278 s_3_1 w_14 w_1279) rfl rfl rfl (by decide +kernel) ⟨Nat.le_of_ble_eq_true rfl, Nat.le_of_ble_eq_true rfl⟩) (gb_preV (r := (RX12, TX12, 44)) (ci := 10) (q0 := 0) hSt hP rfl (gb_at b rfl) hS (fun q h => Nat.le_trans hb1 h.1) hP) rfl rfl hl.1 rfl (lv_room (Nat.le_of_ble_eq_true rfl)) dX12_text_119 ⟨Nat.le_of_ble_eq_true rfl, Nat.le_of_ble_eq_true rfl⟩) hS (fun _ h => h) (fun _ h => h) (fun H locs hY hk hS => ?_)
        have hP : va_P D vwCl (gb_wl b [.inr (10, [.ref (b + 1), .ref (b + 2), .int 0, .int 0, .int 0, .int 0, .int 0, .int 0, .int 0, .int 0, .ref (b + 3), .int 0, .int 0, .ref (b + 4), .ref (b + 5), .ref (b + 6), .ref (b + 7), .ref (b + 8), .ref (b + 9), .ref (b + 10), .ref (b + 11), .ref (b + 12), .int 0, .int 0, .int 0, .int 0, .ref (b + 13), .ref (b + 14), .int 0, .int 0, .ref (b + 15), .ref (b + 16), .ref (b + 17), .long 0, .int 0, .int 0, .int 0, .ref (b + 18), .int 0, .ref (b + 19), .ref (b + 20), .int 0, .int 0, .ref (b + 21)]), .inl (cT 0, 3968, .inl (upd (upd (upd (upd (fun _ => 0) 6 (-1)) 4 0) 5 0) 6 (-1))), .inl (cT 2, 3, .inl (fun _ => 0)), .inl (cT 0, 97, .inl R), .inl (cT 0, 8, .inl (fun _ => 0)), .inl (cT 0, 8, .inl (fun _ => 0)), .inl (cT 0, 8, .inl (fun _ => 0)), .inl (cT 0, 8, .inl (fun _ => 0)), .inl (cT 2, 8, .inl (fun _ => 0)), .inl (cT 0, 40, .inl (fun _ => 0)), .inl (cT 0, 5, .inl (fun _ => 0)), .inl (cT 0, 5, .inl (fun _ => 0)), .inl (cT 0, 5, .inl (fun _ => 0)), .inl (cT 0, 40, .inl (fun _ => 0)), .inl (cT 0, 5, .inl (fun _ => 0)), .inl (cT 0, 5, .inl (fun _ => 0)), .inl (cT 0, 8, .inl (fun _ => 0)), .inl (cT 2, 8, .inl (fun _ => 0)), .inl (cT 0, 8, .inl (fun _ => 0)), .inl (cT 0, 5, .inl (fun _ => 0)), .inl (cT 0, 8, .inl (fun _ => 0)), .inl (cT 2, 256, .inl (fun _ => 0))]) H := hY
        refine lv_aload_n hx hb dX12_text_122 rfl (lv_at hl 1 rfl) ?_
        refine va_get (ci := 10) (v := (.int 0)) (C := RX12) (T := TX12) (N := 44) hx hb hq i_X12 hown hK hP 0 (gb_at b rfl) rfl 8 (by decide) (hq _ w_1132) (fun _ h9 => h9) rfl dX12_text_123 ?_
        refine lv_if_ne (tgt := 178) hx hb dX12_text_126 (by decide) (fun hc => absurd hc (by decide)) (fun _ => ?_)
        refine lv_aload_n hx hb dX12_text_129 rfl (lv_at hl 1 rfl) ?_
        refine va_get (ci := 10) (v := (.int 0)) (C := RX12) (T := TX12) (N := 44) hx hb hq i_X12 hown hK hP 0 (gb_at b rfl) rfl 5 (by decide) (hq _ w_1129) (fun _ h9 => h9) rfl dX12_text_130 ?_
        refine lv_if_eq (tgt := 178) hx hb dX12_text_133 (by decide) (fun _ => ?_) (fun hc => absurd (by decide) hc)
        refine lv_aload_n hx hb dX12_text_178 rfl (lv_at hl 1 rfl) ?_
        refine va_get (ci := 10) (v := (.ref (b + 1))) (C := RX12) (T := TX12) (N := 44) hx hb hq i_X12 hown hK hP 0 (gb_at b rfl) rfl 0 (by decide) (hq _ w_1124) (fun _ h9 => h9) rfl dX12_text_179 ?_
        refine lv_iconst (v := 5) hx hb dX12_text_182 (by decide) ?_
        refine gb_iald (v := 0) hx hb hK hP 1 0 (gb_at b rfl) rfl (gb_in rfl) rfl dX12_text_183 ?_
        refine lv_if_ne (tgt := 203) hx hb dX12_text_184 (by decide) (fun hc => absurd hc (by decide)) (fun _ => ?_)
        refine lv_aload_n hx hb dX12_text_187 rfl (lv_at hl 1 rfl) ?_
        refine va_get (ci := 10) (v := (.int 0)) (C := RX12) (T := TX12) (N := 44) hx hb hq i_X12 hown hK hP 0 (gb_at b rfl) rfl 9 (by decide) (hq _ w_1133) (fun _ h9 => h9) rfl dX12_text_188 ?_
        refine lv_if_eq (tgt := 203) hx hb dX12_text_191 (by decide) (fun _ => ?_) (fun hc => absurd (by decide) hc)
        refine lv_aload_n hx hb dX12_text_203 rfl (lv_at hl 1 rfl) ?_
        refine va_get (ci := 10) (v := (.ref (b + 1))) (C := RX12) (T := TX12) (N := 44) hx hb hq i_X12 hown hK hP 0 (gb_at b rfl) rfl 0 (by decide) (hq _ w_1124) (fun _ h9 => h9) rfl dX12_text_204 ?_
        refine lv_iconst (v := 5) hx hb dX12_text_207 (by decide) ?_
        refine gb_iald (v := 0) hx hb hK hP 1 0 (gb_at b rfl) rfl (gb_in rfl) rfl dX12_text_208 ?_
        refine lv_if_eq (tgt := 214) hx hb dX12_text_209 (by decide) (fun _ => ?_) (fun hc => absurd (by decide) hc)
        refine lv_iload_n hx hb dX12_text_214 rfl (lv_at hl 3 rfl) ?_
        refine lv_iconst (v := (-1)) hx hb dX12_text_215 (by decide) ?_
        refine lv_icmp_ne (tgt := 228) hx hb dX12_text_216 (by decide) (fun c_216 => absurd c_43 c_216) (fun c_216 => ?_)
        refine lv_aload_n hx hb dX12_text_219 rfl (lv_at hl 1 rfl) ?_
        refine va_get (ci := 10) (v := (.ref (b + 1))) (C := RX12) (T := TX12) (N := 44) hx hb hq i_X12 hown hK hP 0 (gb_at b rfl) rfl 0 (by decide) (hq _ w_1124) (fun _ h9 => h9) rfl dX12_text_220 ?_
        refine lv_iload_n hx hb dX12_text_223 rfl (lv_at hl 2 rfl) ?_
        refine gb_iald (v := 0) hx hb hK hP 1 0 (gb_at b rfl) rfl (gb_in rfl) rfl dX12_text_224 ?_
        refine lv_goto (tgt := 229) hx hb dX12_text_225 (by decide) ?_
        refine lv_istore_n (lv' := [(3, .int 0), (0, .ref (b + 0)), (1, .int 1), (2, .int p2)]) hx hb dX12_text_229 rfl hl (by decide) rfl (fun ls hl => ?_)
        refine lv_iload_n hx hb dX12_text_230 rfl (lv_at hl 3 rfl) ?_
        refine lv_iconst (v := (-1)) hx hb dX12_text_231 (by decide) ?_
        refine lv_icmp_ne (tgt := 245) hx hb dX12_text_232 (by decide) (fun c_232 => absurd c_43 c_232) (fun c_232 => ?_)
        refine lv_aload_n hx hb dX12_text_235 rfl (lv_at hl 1 rfl) ?_
        refine va_get (ci := 10) (v := (.ref (b + 1))) (C := RX12) (T := TX12) (N := 44) hx hb hq i_X12 hown hK hP 0 (gb_at b rfl) rfl 0 (by decide) (hq _ w_1124) (fun _ h9 => h9) rfl dX12_text_236 ?_
        refine lv_iload_n hx hb dX12_text_239 rfl (lv_at hl 2 rfl) ?_
        refine lv_dup2_11 hx hb dX12_text_240 rfl rfl ?_
        refine gb_iald (v := 0) hx hb hK hP 1 0 (gb_at b rfl) rfl (gb_in rfl) rfl dX12_text_241 ?_
        refine lv_iconst (v := 1) hx hb dX12_text_242 (by decide) ?_
        refine lv_iadd hx hb dX12_text_243 ?_
        refine W.eq (g2 := F0 m 244 ls [.int 1, .int 1, .ref (b + 1)]) (congrArg (fun v => F0 m 244 ls (Value.int v :: [.int 1, .ref (b + 1)])) (show (0 : Int32) + 1 = 1 by decide)) ?_
        refine gb_iast (x := 1) hx hb hK hP (fun k h => ⟨Nat.le_add_right b k, Nat.add_lt_add_left h b⟩) hS rfl 1 0 rfl rfl (gb_in rfl) dX12_text_244 (fun H locs hP hz_ hS => ?_)
        have hP : va_P D vwCl (gb_wl b [.inr (10, [.ref (b + 1), .ref (b + 2), .int 0, .int 0, .int 0, .int 0, .int 0, .int 0, .int 0, .int 0, .ref (b + 3), .int 0, .int 0, .ref (b + 4), .ref (b + 5), .ref (b + 6), .ref (b + 7), .ref (b + 8), .ref (b + 9), .ref (b + 10), .ref (b + 11), .ref (b + 12), .int 0, .int 0, .int 0, .int 0, .ref (b + 13), .ref (b + 14), .int 0, .int 0, .ref (b + 15), .ref (b + 16), .ref (b + 17), .long 0, .int 0, .int 0, .int 0, .ref (b + 18), .int 0, .ref (b + 19), .ref (b + 20), .int 0, .int 0, .ref (b + 21)]), .inl (cT 0, 3968, .inl (upd (upd (upd (upd (upd (fun _ => 0) 6 (-1)) 4 0) 5 0) 6 (-1)) 1 1)), .inl (cT 2, 3, .inl (fun _ => 0)), .inl (cT 0, 97, .inl R), .inl (cT 0, 8, .inl (fun _ => 0)), .inl (cT 0, 8, .inl (fun _ => 0)), .inl (cT 0, 8, .inl (fun _ => 0)), .inl (cT 0, 8, .inl (fun _ => 0)), .inl (cT 2, 8, .inl (fun _ => 0)), .inl (cT 0, 40, .inl (fun _ => 0)), .inl (cT 0, 5, .inl (fun _ => 0)), .inl (cT 0, 5, .inl (fun _ => 0)), .inl (cT 0, 5, .inl (fun _ => 0)), .inl (cT 0, 40, .inl (fun _ => 0)), .inl (cT 0, 5, .inl (fun _ => 0)), .inl (cT 0, 5, .inl (fun _ => 0)), .inl (cT 0, 8, .inl (fun _ => 0)), .inl (cT 2, 8, .inl (fun _ => 0)), .inl (cT 0, 8, .inl (fun _ => 0)), .inl (cT 0, 5, .inl (fun _ => 0)), .inl (cT 0, 8, .inl (fun _ => 0)), .inl (cT 2, 256, .inl (fun _ => 0))]) H := hP
        refine lv_iconst (v := 0) hx hb dX12_text_245 (by decide) ?_
        refine lv_istore (lv' := [(4, .int 0), (3, .int 0), (0, .ref (b + 0)), (1, .int 1), (2, .int p2)]) hx hb dX12_text_246 hl (by decide) rfl (fun ls hl => ?_)
        refine gb_loop (I := fun i H locs ls => ∃ F : Nat → Int32, va_P D vwCl (gb_wl b [.inr (10, [.ref (b + 1), .ref (b + 2), .int 0, .int 0, .int 0, .int 0, .int 0, .int 0, .int 0, .int 0, .ref (b + 3), .int 0, .int 0, .ref (b + 4), .ref (b + 5), .ref (b + 6), .ref (b + 7), .ref (b + 8), .ref (b + 9), .ref (b + 10), .ref (b + 11), .ref (b + 12), .int 0, .int 0, .int 0, .int 0, .ref (b + 13), .ref (b + 14), .int 0, .int 0, .ref (b + 15), .ref (b + 16), .ref (b + 17), .long 0, .int 0, .int 0, .int 0, .ref (b + 18), .int 0, .ref (b + 19), .ref (b + 20), .int 0, .int 0, .ref (b + 21)]), .inl (cT 0, 3968, .inl F), .inl (cT 2, 3, .inl (fun _ => 0)), .inl (cT 0, 97, .inl R), .inl (cT 0, 8, .inl (fun _ => 0)), .inl (cT 0, 8, .inl (fun _ => 0)), .inl (cT 0, 8, .inl (fun _ => 0)), .inl (cT 0, 8, .inl (fun _ => 0)), .inl (cT 2, 8, .inl (fun _ => 0)), .inl (cT 0, 40, .inl (fun _ => 0)), .inl (cT 0, 5, .inl (fun _ => 0)), .inl (cT 0, 5, .inl (fun _ => 0)), .inl (cT 0, 5, .inl (fun _ => 0)), .inl (cT 0, 40, .inl (fun _ => 0)), .inl (cT 0, 5, .inl (fun _ => 0)), .inl (cT 0, 5, .inl (fun _ => 0)), .inl (cT 0, 8, .inl (fun _ => 0)), .inl (cT 2, 8, .inl (fun _ => 0)), .inl (cT 0, 8, .inl (fun _ => 0)), .inl (cT 0, 5, .inl (fun _ => 0)), .inl (cT 0, 8, .inl (fun _ => 0)), .inl (cT 2, 256, .inl (fun _ => 0))]) H ∧ va_S (gb_fr b 22) s.heap H locs ∧ lv_has ls 5 [(4, .int (nI i)), (3, .int 0), (0, .ref (b + 0)), (1, .int 1), (2, .int p2)]) 97 ?_ ?_ 0 _ _ _ (by decide) ⟨_, hP, hS, hl⟩
        · intro i H locs ls hi hI ih
          obtain ⟨F, hP, hS, hl⟩ := hI
          refine lv_iload hx hb dX12_text_248 (lv_at hl 0 rfl) ?_
          refine lv_iload_n hx hb dX12_text_250 rfl (lv_at hl 3 rfl) ?_
          refine gb_calli (va_runS (As := [.int 1]) (rest := [.int (nI i)]) ⟨hx, hb, hml, hown, hq⟩ (p_X12_sizeOf_26 l D cT tt b1 b hb1 [.inr (10, [.ref (b + 1), .ref (b + 2), .int 0, .int 0, .int 0, .int 0, .int 0, .int 0, .int 0, .int 0, .ref (b + 3), .int 0, .int 0, .ref (b + 4), .ref (b + 5), .ref (b + 6), .ref (b + 7), .ref (b + 8), .ref (b + 9), .ref (b + 10), .ref (b + 11), .ref (b + 12), .int 0, .int 0, .int 0, .int 0, .ref (b + 13), .ref (b + 14), .int 0, .int 0, .ref (b + 15), .ref (b + 16), .ref (b + 17), .long 0, .int 0, .int 0, .int 0, .ref (b + 18), .int 0, .ref (b + 19), .ref (b + 20), .int 0, .int 0, .ref (b + 21)]), .inl (cT 0, 3968, .inl F), .inl (cT 2, 3, .inl (fun _ => 0)), .inl (cT 0, 97, .inl R), .inl (cT 0, 8, .inl (fun _ => 0)), .inl (cT 0, 8, .inl (fun _ => 0)), .inl (cT 0, 8, .inl (fun _ => 0)), .inl (cT 0, 8, .inl (fun _ => 0)), .inl (cT 2, 8, .inl (fun _ => 0)), .inl (cT 0, 40, .inl (fun _ => 0)), .inl (cT 0, 5, .inl (fun _ => 0)), .inl (cT 0, 5, .inl (fun _ => 0)), .inl (cT 0, 5, .inl (fun _ => 0)), .inl (cT 0, 40, .inl (fun _ => 0)), .inl (cT 0, 5, .inl (fun _ => 0)), .inl (cT 0, 5, .inl (fun _ => 0)), .inl (cT 0, 8, .inl (fun _ => 0)), .inl (cT 2, 8, .inl (fun _ => 0)), .inl (cT 0, 8, .inl (fun _ => 0)), .inl (cT 0, 5, .inl (fun _ => 0)), .inl (cT 0, 8, .inl (fun _ => 0)), .inl (cT 2, 256, .inl (fun _ => 0))]) (va_cwS 1 hq (gb_gS w_1358 w_1359 w_14 w_1360) rfl rfl rfl (by decide +kernel) ⟨Nat.le_of_ble_eq_true rfl, Nat.le_of_ble_eq_true rfl⟩) (gb_preS hSt hS (fun q h => Nat.le_trans hb1 h.1) hP) rfl rfl hl.1 rfl (lv_room (Nat.le_of_ble_eq_true rfl)) dX12_text_251 ⟨Nat.le_of_ble_eq_true rfl, Nat.le_of_ble_eq_true rfl⟩) hS (fun _ h => h) (fun _ h => h) (fun r H locs hY hk hS => ?_)
          obtain ⟨hr9, hP⟩ := hY
          subst hr9
          refine lv_icmp_ge (tgt := 283) hx hb dX12_text_254 (by decide) (fun c_254 => absurd c_254 (nI_ge hi (by decide))) (fun c_254 => ?_)
          refine lv_aload_n hx hb dX12_text_257 rfl (lv_at hl 2 rfl) ?_
          refine va_get (ci := 10) (v := (.ref (b + 1))) (C := RX12) (T := TX12) (N := 44) hx hb hq i_X12 hown hK hP 0 (gb_at b rfl) rfl 0 (by decide) (hq _ w_1124) (fun _ h9 => h9) rfl dX12_text_258 ?_
          refine lv_iload_n hx hb dX12_text_261 rfl (lv_at hl 3 rfl) ?_
          refine lv_iload_n hx hb dX12_text_262 rfl (lv_at hl 1 rfl) ?_
          refine gb_calli (va_runS (As := [.int 1, .int 0]) (rest := [.ref (b + 1)]) ⟨hx, hb, hml, hown, hq⟩ (p_X12_placeOf_27 l D cT tt b1 b hb1 [.inr (10, [.ref (b + 1), .ref (b + 2), .int 0, .int 0, .int 0, .int 0, .int 0, .int 0, .int 0, .int 0, .ref (b + 3), .int 0, .int 0, .ref (b + 4), .ref (b + 5), .ref (b + 6), .ref (b + 7), .ref (b + 8), .ref (b + 9), .ref (b + 10), .ref (b + 11), .ref (b + 12), .int 0, .int 0, .int 0, .int 0, .ref (b + 13), .ref (b + 14), .int 0, .int 0, .ref (b + 15), .ref (b + 16), .ref (b + 17), .long 0, .int 0, .int 0, .int 0, .ref (b + 18), .int 0, .ref (b + 19), .ref (b + 20), .int 0, .int 0, .ref (b + 21)]), .inl (cT 0, 3968, .inl F), .inl (cT 2, 3, .inl (fun _ => 0)), .inl (cT 0, 97, .inl R), .inl (cT 0, 8, .inl (fun _ => 0)), .inl (cT 0, 8, .inl (fun _ => 0)), .inl (cT 0, 8, .inl (fun _ => 0)), .inl (cT 0, 8, .inl (fun _ => 0)), .inl (cT 2, 8, .inl (fun _ => 0)), .inl (cT 0, 40, .inl (fun _ => 0)), .inl (cT 0, 5, .inl (fun _ => 0)), .inl (cT 0, 5, .inl (fun _ => 0)), .inl (cT 0, 5, .inl (fun _ => 0)), .inl (cT 0, 40, .inl (fun _ => 0)), .inl (cT 0, 5, .inl (fun _ => 0)), .inl (cT 0, 5, .inl (fun _ => 0)), .inl (cT 0, 8, .inl (fun _ => 0)), .inl (cT 2, 8, .inl (fun _ => 0)), .inl (cT 0, 8, .inl (fun _ => 0)), .inl (cT 0, 5, .inl (fun _ => 0)), .inl (cT 0, 8, .inl (fun _ => 0)), .inl (cT 2, 256, .inl (fun _ => 0))]) (va_cwS 2 hq (gb_gS w_1361 w_1362 w_14 w_1363) rfl rfl rfl (by decide +kernel) ⟨Nat.le_of_ble_eq_true rfl, Nat.le_of_ble_eq_true rfl⟩) (gb_preS hSt hS (fun q h => Nat.le_trans hb1 h.1) hP) rfl rfl hl.1 rfl (lv_room (Nat.le_of_ble_eq_true rfl)) dX12_text_263 ⟨Nat.le_of_ble_eq_true rfl, Nat.le_of_ble_eq_true rfl⟩) hS (fun _ h => h) (fun _ h => h) (fun r H locs hY hk hS => ?_)
          obtain ⟨hr9, hP⟩ := hY
          subst hr9
          refine lv_iload hx hb dX12_text_266 (lv_at hl 0 rfl) ?_
          refine lv_iadd hx hb dX12_text_268 ?_
          refine W.eq (g2 := F0 m 269 ls [.int (nI (726 + i)), .ref (b + 1)]) (congrArg (fun v => F0 m 269 ls (Value.int v :: [.ref (b + 1)])) (nI_add 726 i)) ?_
          refine lv_aload_n hx hb dX12_text_269 rfl (lv_at hl 2 rfl) ?_
          refine va_get (ci := 10) (v := (.ref (b + 3))) (C := RX12) (T := TX12) (N := 44) hx hb hq i_X12 hown hK hP 0 (gb_at b rfl) rfl 10 (by decide) (hq _ w_1134) (fun _ h9 => h9) rfl dX12_text_270 ?_
          refine lv_iload hx hb dX12_text_273 (lv_at hl 0 rfl) ?_
          refine gb_iald (v := (R ((nI i)).toNatClampNeg)) hx hb hK hP 3 0 (gb_at b rfl) rfl (vp_in_nI (by omega) (by decide)) rfl dX12_text_275 ?_
          refine lv_topi (fun x_2 ex_2 => ?_)
          refine gb_iast (x := x_2) hx hb hK hP (fun k h => ⟨Nat.le_add_right b k, Nat.add_lt_add_left h b⟩) hS rfl 1 0 rfl rfl (vp_in_nI (by omega) (by decide)) dX12_text_276 (fun H locs hP hz_ hS => ?_)
          have hP : va_P D vwCl (gb_wl b [.inr (10, [.ref (b + 1), .ref (b + 2), .int 0, .int 0, .int 0, .int 0, .int 0, .int 0, .int 0, .int 0, .ref (b + 3), .int 0, .int 0, .ref (b + 4), .ref (b + 5), .ref (b + 6), .ref (b + 7), .ref (b + 8), .ref (b + 9), .ref (b + 10), .ref (b + 11), .ref (b + 12), .int 0, .int 0, .int 0, .int 0, .ref (b + 13), .ref (b + 14), .int 0, .int 0, .ref (b + 15), .ref (b + 16), .ref (b + 17), .long 0, .int 0, .int 0, .int 0, .ref (b + 18), .int 0, .ref (b + 19), .ref (b + 20), .int 0, .int 0, .ref (b + 21)]), .inl (cT 0, 3968, .inl (upd F ((nI (726 + i))).toNatClampNeg x_2)), .inl (cT 2, 3, .inl (fun _ => 0)), .inl (cT 0, 97, .inl R), .inl (cT 0, 8, .inl (fun _ => 0)), .inl (cT 0, 8, .inl (fun _ => 0)), .inl (cT 0, 8, .inl (fun _ => 0)), .inl (cT 0, 8, .inl (fun _ => 0)), .inl (cT 2, 8, .inl (fun _ => 0)), .inl (cT 0, 40, .inl (fun _ => 0)), .inl (cT 0, 5, .inl (fun _ => 0)), .inl (cT 0, 5, .inl (fun _ => 0)), .inl (cT 0, 5, .inl (fun _ => 0)), .inl (cT 0, 40, .inl (fun _ => 0)), .inl (cT 0, 5, .inl (fun _ => 0)), .inl (cT 0, 5, .inl (fun _ => 0)), .inl (cT 0, 8, .inl (fun _ => 0)), .inl (cT 2, 8, .inl (fun _ => 0)), .inl (cT 0, 8, .inl (fun _ => 0)), .inl (cT 0, 5, .inl (fun _ => 0)), .inl (cT 0, 8, .inl (fun _ => 0)), .inl (cT 2, 256, .inl (fun _ => 0))]) H := hP
          refine lv_iinc (v := (nI (i + 1))) (lv' := [(4, .int (nI (i + 1))), (3, .int 0), (0, .ref (b + 0)), (1, .int 1), (2, .int p2)]) hx hb dX12_text_277 hl (k := 0) rfl (nI_succ i).symm (by decide) rfl (fun ls hl => ?_)
          refine lv_goto (tgt := 248) hx hb dX12_text_280 (by decide) ?_
          exact ih _ _ _ ⟨_, hP, hS, lv_sub hl [0, 1, 2, 3, 4] rfl⟩
        · intro H locs ls hI
          obtain ⟨F, hP, hS, hl⟩ := hI
          refine lv_iload hx hb dX12_text_248 (lv_at hl 0 rfl) ?_
          refine lv_iload_n hx hb dX12_text_250 rfl (lv_at hl 3 rfl) ?_
          refine gb_calli (va_runS (As := [.int 1]) (rest := [.int (nI 97)]) ⟨hx, hb, hml, hown, hq⟩ (p_X12_sizeOf_26 l D cT tt b1 b hb1 [.inr (10, [.ref (b + 1), .ref (b + 2), .int 0, .int 0, .int 0, .int 0, .int 0, .int 0, .int 0, .int 0, .ref (b + 3), .int 0, .int 0, .ref (b + 4), .ref (b + 5), .ref (b + 6), .ref (b + 7), .ref (b + 8), .ref (b + 9), .ref (b + 10), .ref (b + 11), .ref (b + 12), .int 0, .int 0, .int 0, .int 0, .ref (b + 13), .ref (b + 14), .int 0, .int 0, .ref (b + 15), .ref (b + 16), .ref (b + 17), .long 0, .int 0, .int 0, .int 0, .ref (b + 18), .int 0, .ref (b + 19), .ref (b + 20), .int 0, .int 0, .ref (b + 21)]), .inl (cT 0, 3968, .inl F), .inl (cT 2, 3, .inl (fun _ => 0)), .inl (cT 0, 97, .inl R), .inl (cT 0, 8, .inl (fun _ => 0)), .inl (cT 0, 8, .inl (fun _ => 0)), .inl (cT 0, 8, .inl (fun _ => 0)), .inl (cT 0, 8, .inl (fun _ => 0)), .inl (cT 2, 8, .inl (fun _ => 0)), .inl (cT 0, 40, .inl (fun _ => 0)), .inl (cT 0, 5, .inl (fun _ => 0)), .inl (cT 0, 5, .inl (fun _ => 0)), .inl (cT 0, 5, .inl (fun _ => 0)), .inl (cT 0, 40, .inl (fun _ => 0)), .inl (cT 0, 5, .inl (fun _ => 0)), .inl (cT 0, 5, .inl (fun _ => 0)), .inl (cT 0, 8, .inl (fun _ => 0)), .inl (cT 2, 8, .inl (fun _ => 0)), .inl (cT 0, 8, .inl (fun _ => 0)), .inl (cT 0, 5, .inl (fun _ => 0)), .inl (cT 0, 8, .inl (fun _ => 0)), .inl (cT 2, 256, .inl (fun _ => 0))]) (va_cwS 1 hq (gb_gS w_1358 w_1359 w_14 w_1360) rfl rfl rfl (by decide +kernel) ⟨Nat.le_of_ble_eq_true rfl, Nat.le_of_ble_eq_true rfl⟩) (gb_preS hSt hS (fun q h => Nat.le_trans hb1 h.1) hP) rfl rfl hl.1 rfl (lv_room (Nat.le_of_ble_eq_true rfl)) dX12_text_251 ⟨Nat.le_of_ble_eq_true rfl, Nat.le_of_ble_eq_true rfl⟩) hS (fun _ h => h) (fun _ h => h) (fun r H locs hY hk hS => ?_)
          obtain ⟨hr9, hP⟩ := hY
          subst hr9
          refine lv_icmp_ge (tgt := 283) hx hb dX12_text_254 (by decide) (fun _ => ?_) (fun hc => absurd (by decide) hc)
          refine lv_iload_n hx hb dX12_text_283 rfl (lv_at hl 1 rfl) ?_
          exact W.iret (v := 0) hx hb hr (fun t ht hW => gb_ri ht (by rw [if_neg h_35_a, if_pos (gb_34p h_35_b), if_pos c_43]) hS) hS.2.2 dX12_text_284
  · subst h9
    refine lv_if_eq (tgt := 68) hx hb dX12_text_38 (by decide) (fun hc => absurd hc (by decide)) (fun _ => ?_)
    refine lv_iload_n hx hb dX12_text_41 rfl (lv_at hl 2 rfl) ?_
    refine lv_iconst (v := (-1)) hx hb dX12_text_42 (by decide) ?_
    refine lv_icmp_ne (tgt := 59) hx hb dX12_text_43 (by decide) (fun c_43 => ?_) (fun c_43 => ?_)
    · refine lv_aload_n hx hb dX12_text_59 rfl (lv_at hl 0 rfl) ?_
      refine lv_iload_n hx hb dX12_text_60 rfl (lv_at hl 1 rfl) ?_
      refine lv_iload_n hx hb dX12_text_61 rfl (lv_at hl 2 rfl) ?_
      refine gb_calli (va_runV (C := RX12) (As := [.int 2, .int p2]) (rest := []) ⟨hx, hb, hml, hown, hq⟩ (t_X12_isOf_28 l D cT tt b1 b hb1 p2) (cwV 2 hq (gb_gV w_1272 w_1274 s_3_0 w_14 w_1275) rfl rfl rfl (by decide +kernel) ⟨Nat.le_of_ble_eq_true rfl, Nat.le_of_ble_eq_true rfl⟩) (gb_preV (r := (RX12, TX12, 44)) (ci := 10) (q0 := 0) hSt hP rfl (gb_at b rfl) hS (fun q h => Nat.le_trans hb1 h.1) hP) rfl rfl hl.1 rfl (lv_room (Nat.le_of_ble_eq_true rfl)) dX12_text_62 ⟨Nat.le_of_ble_eq_true rfl, Nat.le_of_ble_eq_true rfl⟩) hS (fun _ h => h) (fun _ h => h) (fun r H locs hY hk hS => ?_)
      obtain ⟨hr9, hP⟩ := hY
      subst hr9
      refine lv_if_ne (tgt := 71) hx hb dX12_text_65 (by decide) (fun hc => absurd hc (by decide)) (fun _ => ?_)
      refine lv_bipush (v := (-2)) hx hb dX12_text_68 (by decide) ?_
      exact W.iret (v := (-2)) hx hb hr (fun t ht hW => gb_ri ht (by rw [if_neg h_35_a, if_pos (gb_34p h_35_b), if_neg c_43]) hS) hS.2.2 dX12_text_70
    · refine lv_aload_n hx hb dX12_text_46 rfl (lv_at hl 0 rfl) ?_
      refine va_get (ci := 10) (v := (.ref (b + 1))) (C := RX12) (T := TX12) (N := 44) hx hb hq i_X12 hown hK hP 0 (gb_at b rfl) rfl 0 (by decide) (hq _ w_1124) (fun _ h9 => h9) rfl dX12_text_47 ?_
      refine lv_iload_n hx hb dX12_text_50 rfl (lv_at hl 1 rfl) ?_
      refine gb_iald (v := 0) hx hb hK hP 1 0 (gb_at b rfl) rfl (gb_in rfl) rfl dX12_text_51 ?_
      refine lv_iconst (v := 2) hx hb dX12_text_52 (by decide) ?_
      refine lv_icmp_lt (tgt := 71) hx hb dX12_text_53 (by decide) (fun _ => ?_) (fun hc => absurd (by decide) hc)
      refine lv_aload_n hx hb dX12_text_71 rfl (lv_at hl 0 rfl) ?_
      refine lv_iconst (v := 0) hx hb dX12_text_72 (by decide) ?_
      refine gb_put (ci := 10) (v := (.int 0)) (ty := .int) (C := RX12) (T := TX12) (N := 44) hx hb hq i_X12 tyX12 tyX12_ok nmX12 hown hK hP (fun k h => ⟨Nat.le_add_right b k, Nat.add_lt_add_left h b⟩) hS rfl 0 rfl rfl 3 (by decide) (hq _ w_1127) (fun _ h9 => h9) rfl (by decide +kernel) rfl (by first | rfl | decide) (Nat.le_of_ble_eq_true rfl) dX12_text_73 (fun H locs hP hz_ hS => ?_)
      have hP : va_P D vwCl (gb_wl b [.inr (10, [.ref (b + 1), .ref (b + 2), .int 0, .int 0, .int 0, .int 0, .int 0, .int 0, .int 0, .int 0, .ref (b + 3), .int 0, .int 0, .ref (b + 4), .ref (b + 5), .ref (b + 6), .ref (b + 7), .ref (b + 8), .ref (b + 9), .ref (b + 10), .ref (b + 11), .ref (b + 12), .int 0, .int 0, .int 0, .int 0, .ref (b + 13), .ref (b + 14), .int 0, .int 0, .ref (b + 15), .ref (b + 16), .ref (b + 17), .long 0, .int 0, .int 0, .int 0, .ref (b + 18), .int 0, .ref (b + 19), .ref (b + 20), .int 0, .int 0, .ref (b + 21)]), .inl (cT 0, 3968, .inl (upd (upd (upd (upd (fun _ => 0) 6 (-1)) 4 0) 5 0) 6 (-1))), .inl (cT 2, 3, .inl (fun _ => 0)), .inl (cT 0, 97, .inl (fun _ => 0)), .inl (cT 0, 8, .inl (fun _ => 0)), .inl (cT 0, 8, .inl (fun _ => 0)), .inl (cT 0, 8, .inl (fun _ => 0)), .inl (cT 0, 8, .inl (fun _ => 0)), .inl (cT 2, 8, .inl (fun _ => 0)), .inl (cT 0, 40, .inl (fun _ => 0)), .inl (cT 0, 5, .inl (fun _ => 0)), .inl (cT 0, 5, .inl (fun _ => 0)), .inl (cT 0, 5, .inl (fun _ => 0)), .inl (cT 0, 40, .inl (fun _ => 0)), .inl (cT 0, 5, .inl (fun _ => 0)), .inl (cT 0, 5, .inl (fun _ => 0)), .inl (cT 0, 8, .inl (fun _ => 0)), .inl (cT 2, 8, .inl (fun _ => 0)), .inl (cT 0, 8, .inl (fun _ => 0)), .inl (cT 0, 5, .inl (fun _ => 0)), .inl (cT 0, 8, .inl (fun _ => 0)), .inl (cT 2, 256, .inl (fun _ => 0))]) H := hP
      refine lv_aload_n hx hb dX12_text_76 rfl (lv_at hl 0 rfl) ?_
      refine lv_iconst (v := 0) hx hb dX12_text_77 (by decide) ?_
      refine gb_put (ci := 10) (v := (.int 0)) (ty := .boolean) (C := RX12) (T := TX12) (N := 44) hx hb hq i_X12 tyX12 tyX12_ok nmX12 hown hK hP (fun k h => ⟨Nat.le_add_right b k, Nat.add_lt_add_left h b⟩) hS rfl 0 rfl rfl 8 (by decide) (hq _ w_1132) (fun _ h9 => h9) rfl (by decide +kernel) rfl (by decide) (Nat.le_of_ble_eq_true rfl) dX12_text_78 (fun H locs hP hz_ hS => ?_)
      have hP : va_P D vwCl (gb_wl b [.inr (10, [.ref (b + 1), .ref (b + 2), .int 0, .int 0, .int 0, .int 0, .int 0, .int 0, .int 0, .int 0, .ref (b + 3), .int 0, .int 0, .ref (b + 4), .ref (b + 5), .ref (b + 6), .ref (b + 7), .ref (b + 8), .ref (b + 9), .ref (b + 10), .ref (b + 11), .ref (b + 12), .int 0, .int 0, .int 0, .int 0, .ref (b + 13), .ref (b + 14), .int 0, .int 0, .ref (b + 15), .ref (b + 16), .ref (b + 17), .long 0, .int 0, .int 0, .int 0, .ref (b + 18), .int 0, .ref (b + 19), .ref (b + 20), .int 0, .int 0, .ref (b + 21)]), .inl (cT 0, 3968, .inl (upd (upd (upd (upd (fun _ => 0) 6 (-1)) 4 0) 5 0) 6 (-1))), .inl (cT 2, 3, .inl (fun _ => 0)), .inl (cT 0, 97, .inl (fun _ => 0)), .inl (cT 0, 8, .inl (fun _ => 0)), .inl (cT 0, 8, .inl (fun _ => 0)), .inl (cT 0, 8, .inl (fun _ => 0)), .inl (cT 0, 8, .inl (fun _ => 0)), .inl (cT 2, 8, .inl (fun _ => 0)), .inl (cT 0, 40, .inl (fun _ => 0)), .inl (cT 0, 5, .inl (fun _ => 0)), .inl (cT 0, 5, .inl (fun _ => 0)), .inl (cT 0, 5, .inl (fun _ => 0)), .inl (cT 0, 40, .inl (fun _ => 0)), .inl (cT 0, 5, .inl (fun _ => 0)), .inl (cT 0, 5, .inl (fun _ => 0)), .inl (cT 0, 8, .inl (fun _ => 0)), .inl (cT 2, 8, .inl (fun _ => 0)), .inl (cT 0, 8, .inl (fun _ => 0)), .inl (cT 0, 5, .inl (fun _ => 0)), .inl (cT 0, 8, .inl (fun _ => 0)), .inl (cT 2, 256, .inl (fun _ => 0))]) H := hP
      refine lv_aload_n hx hb dX12_text_81 rfl (lv_at hl 0 rfl) ?_
      refine lv_iconst (v := 0) hx hb dX12_text_82 (by decide) ?_
      refine gb_put (ci := 10) (v := (.int 0)) (ty := .boolean) (C := RX12) (T := TX12) (N := 44) hx hb hq i_X12 tyX12 tyX12_ok nmX12 hown hK hP (fun k h => ⟨Nat.le_add_right b k, Nat.add_lt_add_left h b⟩) hS rfl 0 rfl rfl 9 (by decide) (hq _ w_1133) (fun _ h9 => h9) rfl (by decide +kernel) rfl (by decide) (Nat.le_of_ble_eq_true rfl) dX12_text_83 (fun H locs hP hz_ hS => ?_)
      have hP : va_P D vwCl (gb_wl b [.inr (10, [.ref (b + 1), .ref (b + 2), .int 0, .int 0, .int 0, .int 0, .int 0, .int 0, .int 0, .int 0, .ref (b + 3), .int 0, .int 0, .ref (b + 4), .ref (b + 5), .ref (b + 6), .ref (b + 7), .ref (b + 8), .ref (b + 9), .ref (b + 10), .ref (b + 11), .ref (b + 12), .int 0, .int 0, .int 0, .int 0, .ref (b + 13), .ref (b + 14), .int 0, .int 0, .ref (b + 15), .ref (b + 16), .ref (b + 17), .long 0, .int 0, .int 0, .int 0, .ref (b + 18), .int 0, .ref (b + 19), .ref (b + 20), .int 0, .int 0, .ref (b + 21)]), .inl (cT 0, 3968, .inl (upd (upd (upd (upd (fun _ => 0) 6 (-1)) 4 0) 5 0) 6 (-1))), .inl (cT 2, 3, .inl (fun _ => 0)), .inl (cT 0, 97, .inl (fun _ => 0)), .inl (cT 0, 8, .inl (fun _ => 0)), .inl (cT 0, 8, .inl (fun _ => 0)), .inl (cT 0, 8, .inl (fun _ => 0)), .inl (cT 0, 8, .inl (fun _ => 0)), .inl (cT 2, 8, .inl (fun _ => 0)), .inl (cT 0, 40, .inl (fun _ => 0)), .inl (cT 0, 5, .inl (fun _ => 0)), .inl (cT 0, 5, .inl (fun _ => 0)), .inl (cT 0, 5, .inl (fun _ => 0)), .inl (cT 0, 40, .inl (fun _ => 0)), .inl (cT 0, 5, .inl (fun _ => 0)), .inl (cT 0, 5, .inl (fun _ => 0)), .inl (cT 0, 8, .inl (fun _ => 0)), .inl (cT 2, 8, .inl (fun _ => 0)), .inl (cT 0, 8, .inl (fun _ => 0)), .inl (cT 0, 5, .inl (fun _ => 0)), .inl (cT 0, 8, .inl (fun _ => 0)), .inl (cT 2, 256, .inl (fun _ => 0))]) H := hP
      refine lv_iconst (v := 0) hx hb dX12_text_86 (by decide) ?_
      refine lv_istore_n (lv' := [(3, .int 0), (0, .ref (b + 0)), (1, .int 2), (2, .int p2)]) hx hb dX12_text_87 rfl hl (by decide) rfl (fun ls hl => ?_)
      refine gb_loop (I := fun i H locs ls => ∃ R : Nat → Int32, va_P D vwCl (gb_wl b [.inr (10, [.ref (b + 1), .ref (b + 2), .int 0, .int 0, .int 0, .int 0, .int 0, .int 0, .int 0, .int 0, .ref (b + 3), .int 0, .int 0, .ref (b + 4), .ref (b + 5), .ref (b + 6), .ref (b + 7), .ref (b + 8), .ref (b + 9), .ref (b + 10), .ref (b + 11), .ref (b + 12), .int 0, .int 0, .int 0, .int 0, .ref (b + 13), .ref (b + 14), .int 0, .int 0, .ref (b + 15), .ref (b + 16), .ref (b + 17), .long 0, .int 0, .int 0, .int 0, .ref (b + 18), .int 0, .ref (b + 19), .ref (b + 20), .int 0, .int 0, .ref (b + 21)]), .inl (cT 0, 3968, .inl (upd (upd (upd (upd (fun _ => 0) 6 (-1)) 4 0) 5 0) 6 (-1))), .inl (cT 2, 3, .inl (fun _ => 0)), .inl (cT 0, 97, .inl R), .inl (cT 0, 8, .inl (fun _ => 0)), .inl (cT 0, 8, .inl (fun _ => 0)), .inl (cT 0, 8, .inl (fun _ => 0)), .inl (cT 0, 8, .inl (fun _ => 0)), .inl (cT 2, 8, .inl (fun _ => 0)), .inl (cT 0, 40, .inl (fun _ => 0)), .inl (cT 0, 5, .inl (fun _ => 0)), .inl (cT 0, 5, .inl (fun _ => 0)), .inl (cT 0, 5, .inl (fun _ => 0)), .inl (cT 0, 40, .inl (fun _ => 0)), .inl (cT 0, 5, .inl (fun _ => 0)), .inl (cT 0, 5, .inl (fun _ => 0)), .inl (cT 0, 8, .inl (fun _ => 0)), .inl (cT 2, 8, .inl (fun _ => 0)), .inl (cT 0, 8, .inl (fun _ => 0)), .inl (cT 0, 5, .inl (fun _ => 0)), .inl (cT 0, 8, .inl (fun _ => 0)), .inl (cT 2, 256, .inl (fun _ => 0))]) H ∧ va_S (gb_fr b 22) s.heap H locs ∧ lv_has ls 5 [(3, .int (nI i)), (0, .ref (b + 0)), (1, .int 2), (2, .int p2)]) 97 ?_ ?_ 0 _ _ _ (by decide) ⟨_, hP, hS, hl⟩
      · intro i H locs ls hi hI ih
        obtain ⟨R, hP, hS, hl⟩ := hI
        refine lv_iload_n hx hb dX12_text_88 rfl (lv_at hl 0 rfl) ?_
        refine lv_bipush (v := 97) hx hb dX12_text_89 (by decide) ?_
        refine lv_icmp_ge (tgt := 107) hx hb dX12_text_91 (by decide) (fun c_91 => absurd c_91 (nI_ge hi (by decide))) (fun c_91 => ?_)
        refine lv_aload_n hx hb dX12_text_94 rfl (lv_at hl 1 rfl) ?_
        refine va_get (ci := 10) (v := (.ref (b + 3))) (C := RX12) (T := TX12) (N := 44) hx hb hq i_X12 hown hK hP 0 (gb_at b rfl) rfl 10 (by decide) (hq _ w_1134) (fun _ h9 => h9) rfl dX12_text_95 ?_
        refine lv_iload_n hx hb dX12_text_98 rfl (lv_at hl 0 rfl) ?_
        refine lv_iconst (v := 0) hx hb dX12_text_99 (by decide) ?_
        refine gb_iast (x := 0) hx hb hK hP (fun k h => ⟨Nat.le_add_right b k, Nat.add_lt_add_left h b⟩) hS rfl 3 0 rfl rfl (vp_in_nI (by omega) (by decide)) dX12_text_100 (fun H locs hP hz_ hS => ?_)
        have hP : va_P D vwCl (gb_wl b [.inr (10, [.ref (b + 1), .ref (b + 2), .int 0, .int 0, .int 0, .int 0, .int 0, .int 0, .int 0, .int 0, .ref (b + 3), .int 0, .int 0, .ref (b + 4), .ref (b + 5), .ref (b + 6), .ref (b + 7), .ref (b + 8), .ref (b + 9), .ref (b + 10), .ref (b + 11), .ref (b + 12), .int 0, .int 0, .int 0, .int 0, .ref (b + 13), .ref (b + 14), .int 0, .int 0, .ref (b + 15), .ref (b + 16), .ref (b + 17), .long 0, .int 0, .int 0, .int 0, .ref (b + 18), .int 0, .ref (b + 19), .ref (b + 20), .int 0, .int 0, .ref (b + 21)]), .inl (cT 0, 3968, .inl (upd (upd (upd (upd (fun _ => 0) 6 (-1)) 4 0) 5 0) 6 (-1))), .inl (cT 2, 3, .inl (fun _ => 0)), .inl (cT 0, 97, .inl (upd R ((nI i)).toNatClampNeg 0)), .inl (cT 0, 8, .inl (fun _ => 0)), .inl (cT 0, 8, .inl (fun _ => 0)), .inl (cT 0, 8, .inl (fun _ => 0)), .inl (cT 0, 8, .inl (fun _ => 0)), .inl (cT 2, 8, .inl (fun _ => 0)), .inl (cT 0, 40, .inl (fun _ => 0)), .inl (cT 0, 5, .inl (fun _ => 0)), .inl (cT 0, 5, .inl (fun _ => 0)), .inl (cT 0, 5, .inl (fun _ => 0)), .inl (cT 0, 40, .inl (fun _ => 0)), .inl (cT 0, 5, .inl (fun _ => 0)), .inl (cT 0, 5, .inl (fun _ => 0)), .inl (cT 0, 8, .inl (fun _ => 0)), .inl (cT 2, 8, .inl (fun _ => 0)), .inl (cT 0, 8, .inl (fun _ => 0)), .inl (cT 0, 5, .inl (fun _ => 0)), .inl (cT 0, 8, .inl (fun _ => 0)), .inl (cT 2, 256, .inl (fun _ => 0))]) H := hP
        refine lv_iinc (v := (nI (i + 1))) (lv' := [(3, .int (nI (i + 1))), (0, .ref (b + 0)), (1, .int 2), (2, .int p2)]) hx hb dX12_text_101 hl (k := 0) rfl (nI_succ i).symm (by decide) rfl (fun ls hl => ?_)
        refine lv_goto (tgt := 88) hx hb dX12_text_104 (by decide) ?_
        exact ih _ _ _ ⟨_, hP, hS, lv_sub hl [0, 1, 2, 3] rfl⟩
      · intro H locs ls hI
        obtain ⟨R, hP, hS, hl⟩ := hI
        refine lv_iload_n hx hb dX12_text_88 rfl (lv_at hl 0 rfl) ?_
        refine lv_bipush (v := 97) hx hb dX12_text_89 (by decide) ?_
        refine lv_icmp_ge (tgt := 107) hx hb dX12_text_91 (by decide) (fun _ => ?_) (fun hc => absurd (by decide) hc)
        refine lv_iload_n hx hb dX12_text_107 rfl (lv_at hl 2 rfl) ?_
        refine lv_if_ne (tgt := 118) hx hb dX12_text_108 (by decide) (fun _ => ?_) (fun hc => absurd hc (by decide))
        refine lv_aload_n hx hb dX12_text_118 rfl (lv_at hl 1 rfl) ?_
        refine gb_callv (va_runV (C := RX12) (As := []) (rest := []) ⟨hx, hb, hml, hown, hq⟩ (t_X12_advance_24 l D cT tt b1 b hb1 R) (cwV 0 hq (gb_gV w_1276 w_1278 s_3_1 w_14 w_1279) rfl rfl rfl (by decide +kernel) ⟨Nat.le_of_ble_eq_true rfl, Nat.le_of_ble_eq_true rfl⟩) (gb_preV (r := (RX12, TX12, 44)) (ci := 10) (q0 := 0) hSt hP rfl (gb_at b rfl) hS (fun q h => Nat.le_trans hb1 h.1) hP) rfl rfl hl.1 rfl (lv_room (Nat.le_of_ble_eq_true rfl)) dX12_text_119 ⟨Nat.le_of_ble_eq_true rfl, Nat.le_of_ble_eq_true rfl⟩) hS (fun _ h => h) (fun _ h => h) (fun H locs hY hk hS => ?_)
        have hP : va_P D vwCl (gb_wl b [.inr (10, [.ref (b + 1), .ref (b + 2), .int 0, .int 0, .int 0, .int 0, .int 0, .int 0, .int 0, .int 0, .ref (b + 3), .int 0, .int 0, .ref (b + 4), .ref (b + 5), .ref (b + 6), .ref (b + 7), .ref (b + 8), .ref (b + 9), .ref (b + 10), .ref (b + 11), .ref (b + 12), .int 0, .int 0, .int 0, .int 0, .ref (b + 13), .ref (b + 14), .int 0, .int 0, .ref (b + 15), .ref (b + 16), .ref (b + 17), .long 0, .int 0, .int 0, .int 0, .ref (b + 18), .int 0, .ref (b + 19), .ref (b + 20), .int 0, .int 0, .ref (b + 21)]), .inl (cT 0, 3968, .inl (upd (upd (upd (upd (fun _ => 0) 6 (-1)) 4 0) 5 0) 6 (-1))), .inl (cT 2, 3, .inl (fun _ => 0)), .inl (cT 0, 97, .inl R), .inl (cT 0, 8, .inl (fun _ => 0)), .inl (cT 0, 8, .inl (fun _ => 0)), .inl (cT 0, 8, .inl (fun _ => 0)), .inl (cT 0, 8, .inl (fun _ => 0)), .inl (cT 2, 8, .inl (fun _ => 0)), .inl (cT 0, 40, .inl (fun _ => 0)), .inl (cT 0, 5, .inl (fun _ => 0)), .inl (cT 0, 5, .inl (fun _ => 0)), .inl (cT 0, 5, .inl (fun _ => 0)), .inl (cT 0, 40, .inl (fun _ => 0)), .inl (cT 0, 5, .inl (fun _ => 0)), .inl (cT 0, 5, .inl (fun _ => 0)), .inl (cT 0, 8, .inl (fun _ => 0)), .inl (cT 2, 8, .inl (fun _ => 0)), .inl (cT 0, 8, .inl (fun _ => 0)), .inl (cT 0, 5, .inl (fun _ => 0)), .inl (cT 0, 8, .inl (fun _ => 0)), .inl (cT 2, 256, .inl (fun _ => 0))]) H := hY
        refine lv_aload_n hx hb dX12_text_122 rfl (lv_at hl 1 rfl) ?_
        refine va_get (ci := 10) (v := (.int 0)) (C := RX12) (T := TX12) (N := 44) hx hb hq i_X12 hown hK hP 0 (gb_at b rfl) rfl 8 (by decide) (hq _ w_1132) (fun _ h9 => h9) rfl dX12_text_123 ?_
        refine lv_if_ne (tgt := 178) hx hb dX12_text_126 (by decide) (fun hc => absurd hc (by decide)) (fun _ => ?_)
        refine lv_aload_n hx hb dX12_text_129 rfl (lv_at hl 1 rfl) ?_
        refine va_get (ci := 10) (v := (.int 0)) (C := RX12) (T := TX12) (N := 44) hx hb hq i_X12 hown hK hP 0 (gb_at b rfl) rfl 5 (by decide) (hq _ w_1129) (fun _ h9 => h9) rfl dX12_text_130 ?_
        refine lv_if_eq (tgt := 178) hx hb dX12_text_133 (by decide) (fun _ => ?_) (fun hc => absurd (by decide) hc)
        refine lv_aload_n hx hb dX12_text_178 rfl (lv_at hl 1 rfl) ?_
        refine va_get (ci := 10) (v := (.ref (b + 1))) (C := RX12) (T := TX12) (N := 44) hx hb hq i_X12 hown hK hP 0 (gb_at b rfl) rfl 0 (by decide) (hq _ w_1124) (fun _ h9 => h9) rfl dX12_text_179 ?_
        refine lv_iconst (v := 5) hx hb dX12_text_182 (by decide) ?_
        refine gb_iald (v := 0) hx hb hK hP 1 0 (gb_at b rfl) rfl (gb_in rfl) rfl dX12_text_183 ?_
        refine lv_if_ne (tgt := 203) hx hb dX12_text_184 (by decide) (fun hc => absurd hc (by decide)) (fun _ => ?_)
        refine lv_aload_n hx hb dX12_text_187 rfl (lv_at hl 1 rfl) ?_
        refine va_get (ci := 10) (v := (.int 0)) (C := RX12) (T := TX12) (N := 44) hx hb hq i_X12 hown hK hP 0 (gb_at b rfl) rfl 9 (by decide) (hq _ w_1133) (fun _ h9 => h9) rfl dX12_text_188 ?_
        refine lv_if_eq (tgt := 203) hx hb dX12_text_191 (by decide) (fun _ => ?_) (fun hc => absurd (by decide) hc)
        refine lv_aload_n hx hb dX12_text_203 rfl (lv_at hl 1 rfl) ?_
        refine va_get (ci := 10) (v := (.ref (b + 1))) (C := RX12) (T := TX12) (N := 44) hx hb hq i_X12 hown hK hP 0 (gb_at b rfl) rfl 0 (by decide) (hq _ w_1124) (fun _ h9 => h9) rfl dX12_text_204 ?_
        refine lv_iconst (v := 5) hx hb dX12_text_207 (by decide) ?_
        refine gb_iald (v := 0) hx hb hK hP 1 0 (gb_at b rfl) rfl (gb_in rfl) rfl dX12_text_208 ?_
        refine lv_if_eq (tgt := 214) hx hb dX12_text_209 (by decide) (fun _ => ?_) (fun hc => absurd (by decide) hc)
        refine lv_iload_n hx hb dX12_text_214 rfl (lv_at hl 3 rfl) ?_
        refine lv_iconst (v := (-1)) hx hb dX12_text_215 (by decide) ?_
        refine lv_icmp_ne (tgt := 228) hx hb dX12_text_216 (by decide) (fun c_216 => absurd c_43 c_216) (fun c_216 => ?_)
        refine lv_aload_n hx hb dX12_text_219 rfl (lv_at hl 1 rfl) ?_
        refine va_get (ci := 10) (v := (.ref (b + 1))) (C := RX12) (T := TX12) (N := 44) hx hb hq i_X12 hown hK hP 0 (gb_at b rfl) rfl 0 (by decide) (hq _ w_1124) (fun _ h9 => h9) rfl dX12_text_220 ?_
        refine lv_iload_n hx hb dX12_text_223 rfl (lv_at hl 2 rfl) ?_
        refine gb_iald (v := 0) hx hb hK hP 1 0 (gb_at b rfl) rfl (gb_in rfl) rfl dX12_text_224 ?_
        refine lv_goto (tgt := 229) hx hb dX12_text_225 (by decide) ?_
        refine lv_istore_n (lv' := [(3, .int 0), (0, .ref (b + 0)), (1, .int 2), (2, .int p2)]) hx hb dX12_text_229 rfl hl (by decide) rfl (fun ls hl => ?_)
        refine lv_iload_n hx hb dX12_text_230 rfl (lv_at hl 3 rfl) ?_
        refine lv_iconst (v := (-1)) hx hb dX12_text_231 (by decide) ?_
        refine lv_icmp_ne (tgt := 245) hx hb dX12_text_232 (by decide) (fun c_232 => absurd c_43 c_232) (fun c_232 => ?_)
        refine lv_aload_n hx hb dX12_text_235 rfl (lv_at hl 1 rfl) ?_
        refine va_get (ci := 10) (v := (.ref (b + 1))) (C := RX12) (T := TX12) (N := 44) hx hb hq i_X12 hown hK hP 0 (gb_at b rfl) rfl 0 (by decide) (hq _ w_1124) (fun _ h9 => h9) rfl dX12_text_236 ?_
        refine lv_iload_n hx hb dX12_text_239 rfl (lv_at hl 2 rfl) ?_
        refine lv_dup2_11 hx hb dX12_text_240 rfl rfl ?_
        refine gb_iald (v := 0) hx hb hK hP 1 0 (gb_at b rfl) rfl (gb_in rfl) rfl dX12_text_241 ?_
        refine lv_iconst (v := 1) hx hb dX12_text_242 (by decide) ?_
        refine lv_iadd hx hb dX12_text_243 ?_
        refine W.eq (g2 := F0 m 244 ls [.int 1, .int 2, .ref (b + 1)]) (congrArg (fun v => F0 m 244 ls (Value.int v :: [.int 2, .ref (b + 1)])) (show (0 : Int32) + 1 = 1 by decide)) ?_
        refine gb_iast (x := 1) hx hb hK hP (fun k h => ⟨Nat.le_add_right b k, Nat.add_lt_add_left h b⟩) hS rfl 1 0 rfl rfl (gb_in rfl) dX12_text_244 (fun H locs hP hz_ hS => ?_)
        have hP : va_P D vwCl (gb_wl b [.inr (10, [.ref (b + 1), .ref (b + 2), .int 0, .int 0, .int 0, .int 0, .int 0, .int 0, .int 0, .int 0, .ref (b + 3), .int 0, .int 0, .ref (b + 4), .ref (b + 5), .ref (b + 6), .ref (b + 7), .ref (b + 8), .ref (b + 9), .ref (b + 10), .ref (b + 11), .ref (b + 12), .int 0, .int 0, .int 0, .int 0, .ref (b + 13), .ref (b + 14), .int 0, .int 0, .ref (b + 15), .ref (b + 16), .ref (b + 17), .long 0, .int 0, .int 0, .int 0, .ref (b + 18), .int 0, .ref (b + 19), .ref (b + 20), .int 0, .int 0, .ref (b + 21)]), .inl (cT 0, 3968, .inl (upd (upd (upd (upd (upd (fun _ => 0) 6 (-1)) 4 0) 5 0) 6 (-1)) 2 1)), .inl (cT 2, 3, .inl (fun _ => 0)), .inl (cT 0, 97, .inl R), .inl (cT 0, 8, .inl (fun _ => 0)), .inl (cT 0, 8, .inl (fun _ => 0)), .inl (cT 0, 8, .inl (fun _ => 0)), .inl (cT 0, 8, .inl (fun _ => 0)), .inl (cT 2, 8, .inl (fun _ => 0)), .inl (cT 0, 40, .inl (fun _ => 0)), .inl (cT 0, 5, .inl (fun _ => 0)), .inl (cT 0, 5, .inl (fun _ => 0)), .inl (cT 0, 5, .inl (fun _ => 0)), .inl (cT 0, 40, .inl (fun _ => 0)), .inl (cT 0, 5, .inl (fun _ => 0)), .inl (cT 0, 5, .inl (fun _ => 0)), .inl (cT 0, 8, .inl (fun _ => 0)), .inl (cT 2, 8, .inl (fun _ => 0)), .inl (cT 0, 8, .inl (fun _ => 0)), .inl (cT 0, 5, .inl (fun _ => 0)), .inl (cT 0, 8, .inl (fun _ => 0)), .inl (cT 2, 256, .inl (fun _ => 0))]) H := hP
        refine lv_iconst (v := 0) hx hb dX12_text_245 (by decide) ?_
        refine lv_istore (lv' := [(4, .int 0), (3, .int 0), (0, .ref (b + 0)), (1, .int 2), (2, .int p2)]) hx hb dX12_text_246 hl (by decide) rfl (fun ls hl => ?_)
        refine gb_loop (I := fun i H locs ls => ∃ F : Nat → Int32, va_P D vwCl (gb_wl b [.inr (10, [.ref (b + 1), .ref (b + 2), .int 0, .int 0, .int 0, .int 0, .int 0, .int 0, .int 0, .int 0, .ref (b + 3), .int 0, .int 0, .ref (b + 4), .ref (b + 5), .ref (b + 6), .ref (b + 7), .ref (b + 8), .ref (b + 9), .ref (b + 10), .ref (b + 11), .ref (b + 12), .int 0, .int 0, .int 0, .int 0, .ref (b + 13), .ref (b + 14), .int 0, .int 0, .ref (b + 15), .ref (b + 16), .ref (b + 17), .long 0, .int 0, .int 0, .int 0, .ref (b + 18), .int 0, .ref (b + 19), .ref (b + 20), .int 0, .int 0, .ref (b + 21)]), .inl (cT 0, 3968, .inl F), .inl (cT 2, 3, .inl (fun _ => 0)), .inl (cT 0, 97, .inl R), .inl (cT 0, 8, .inl (fun _ => 0)), .inl (cT 0, 8, .inl (fun _ => 0)), .inl (cT 0, 8, .inl (fun _ => 0)), .inl (cT 0, 8, .inl (fun _ => 0)), .inl (cT 2, 8, .inl (fun _ => 0)), .inl (cT 0, 40, .inl (fun _ => 0)), .inl (cT 0, 5, .inl (fun _ => 0)), .inl (cT 0, 5, .inl (fun _ => 0)), .inl (cT 0, 5, .inl (fun _ => 0)), .inl (cT 0, 40, .inl (fun _ => 0)), .inl (cT 0, 5, .inl (fun _ => 0)), .inl (cT 0, 5, .inl (fun _ => 0)), .inl (cT 0, 8, .inl (fun _ => 0)), .inl (cT 2, 8, .inl (fun _ => 0)), .inl (cT 0, 8, .inl (fun _ => 0)), .inl (cT 0, 5, .inl (fun _ => 0)), .inl (cT 0, 8, .inl (fun _ => 0)), .inl (cT 2, 256, .inl (fun _ => 0))]) H ∧ va_S (gb_fr b 22) s.heap H locs ∧ lv_has ls 5 [(4, .int (nI i)), (3, .int 0), (0, .ref (b + 0)), (1, .int 2), (2, .int p2)]) 25 ?_ ?_ 0 _ _ _ (by decide) ⟨_, hP, hS, hl⟩
        · intro i H locs ls hi hI ih
          obtain ⟨F, hP, hS, hl⟩ := hI
          refine lv_iload hx hb dX12_text_248 (lv_at hl 0 rfl) ?_
          refine lv_iload_n hx hb dX12_text_250 rfl (lv_at hl 3 rfl) ?_
          refine gb_calli (va_runS (As := [.int 2]) (rest := [.int (nI i)]) ⟨hx, hb, hml, hown, hq⟩ (p_X12_sizeOf_29 l D cT tt b1 b hb1 [.inr (10, [.ref (b + 1), .ref (b + 2), .int 0, .int 0, .int 0, .int 0, .int 0, .int 0, .int 0, .int 0, .ref (b + 3), .int 0, .int 0, .ref (b + 4), .ref (b + 5), .ref (b + 6), .ref (b + 7), .ref (b + 8), .ref (b + 9), .ref (b + 10), .ref (b + 11), .ref (b + 12), .int 0, .int 0, .int 0, .int 0, .ref (b + 13), .ref (b + 14), .int 0, .int 0, .ref (b + 15), .ref (b + 16), .ref (b + 17), .long 0, .int 0, .int 0, .int 0, .ref (b + 18), .int 0, .ref (b + 19), .ref (b + 20), .int 0, .int 0, .ref (b + 21)]), .inl (cT 0, 3968, .inl F), .inl (cT 2, 3, .inl (fun _ => 0)), .inl (cT 0, 97, .inl R), .inl (cT 0, 8, .inl (fun _ => 0)), .inl (cT 0, 8, .inl (fun _ => 0)), .inl (cT 0, 8, .inl (fun _ => 0)), .inl (cT 0, 8, .inl (fun _ => 0)), .inl (cT 2, 8, .inl (fun _ => 0)), .inl (cT 0, 40, .inl (fun _ => 0)), .inl (cT 0, 5, .inl (fun _ => 0)), .inl (cT 0, 5, .inl (fun _ => 0)), .inl (cT 0, 5, .inl (fun _ => 0)), .inl (cT 0, 40, .inl (fun _ => 0)), .inl (cT 0, 5, .inl (fun _ => 0)), .inl (cT 0, 5, .inl (fun _ => 0)), .inl (cT 0, 8, .inl (fun _ => 0)), .inl (cT 2, 8, .inl (fun _ => 0)), .inl (cT 0, 8, .inl (fun _ => 0)), .inl (cT 0, 5, .inl (fun _ => 0)), .inl (cT 0, 8, .inl (fun _ => 0)), .inl (cT 2, 256, .inl (fun _ => 0))]) (va_cwS 1 hq (gb_gS w_1358 w_1359 w_14 w_1360) rfl rfl rfl (by decide +kernel) ⟨Nat.le_of_ble_eq_true rfl, Nat.le_of_ble_eq_true rfl⟩) (gb_preS hSt hS (fun q h => Nat.le_trans hb1 h.1) hP) rfl rfl hl.1 rfl (lv_room (Nat.le_of_ble_eq_true rfl)) dX12_text_251 ⟨Nat.le_of_ble_eq_true rfl, Nat.le_of_ble_eq_true rfl⟩) hS (fun _ h => h) (fun _ h => h) (fun r H locs hY hk hS => ?_)
          obtain ⟨hr9, hP⟩ := hY
          subst hr9
          refine lv_icmp_ge (tgt := 283) hx hb dX12_text_254 (by decide) (fun c_254 => absurd c_254 (nI_ge hi (by decide))) (fun c_254 => ?_)
          refine lv_aload_n hx hb dX12_text_257 rfl (lv_at hl 2 rfl) ?_
          refine va_get (ci := 10) (v := (.ref (b + 1))) (C := RX12) (T := TX12) (N := 44) hx hb hq i_X12 hown hK hP 0 (gb_at b rfl) rfl 0 (by decide) (hq _ w_1124) (fun _ h9 => h9) rfl dX12_text_258 ?_
          refine lv_iload_n hx hb dX12_text_261 rfl (lv_at hl 3 rfl) ?_
          refine lv_iload_n hx hb dX12_text_262 rfl (lv_at hl 1 rfl) ?_
          refine gb_calli (va_runS (As := [.int 2, .int 0]) (rest := [.ref (b + 1)]) ⟨hx, hb, hml, hown, hq⟩ (p_X12_placeOf_30 l D cT tt b1 b hb1 [.inr (10, [.ref (b + 1), .ref (b + 2), .int 0, .int 0, .int 0, .int 0, .int 0, .int 0, .int 0, .int 0, .ref (b + 3), .int 0, .int 0, .ref (b + 4), .ref (b + 5), .ref (b + 6), .ref (b + 7), .ref (b + 8), .ref (b + 9), .ref (b + 10), .ref (b + 11), .ref (b + 12), .int 0, .int 0, .int 0, .int 0, .ref (b + 13), .ref (b + 14), .int 0, .int 0, .ref (b + 15), .ref (b + 16), .ref (b + 17), .long 0, .int 0, .int 0, .int 0, .ref (b + 18), .int 0, .ref (b + 19), .ref (b + 20), .int 0, .int 0, .ref (b + 21)]), .inl (cT 0, 3968, .inl F), .inl (cT 2, 3, .inl (fun _ => 0)), .inl (cT 0, 97, .inl R), .inl (cT 0, 8, .inl (fun _ => 0)), .inl (cT 0, 8, .inl (fun _ => 0)), .inl (cT 0, 8, .inl (fun _ => 0)), .inl (cT 0, 8, .inl (fun _ => 0)), .inl (cT 2, 8, .inl (fun _ => 0)), .inl (cT 0, 40, .inl (fun _ => 0)), .inl (cT 0, 5, .inl (fun _ => 0)), .inl (cT 0, 5, .inl (fun _ => 0)), .inl (cT 0, 5, .inl (fun _ => 0)), .inl (cT 0, 40, .inl (fun _ => 0)), .inl (cT 0, 5, .inl (fun _ => 0)), .inl (cT 0, 5, .inl (fun _ => 0)), .inl (cT 0, 8, .inl (fun _ => 0)), .inl (cT 2, 8, .inl (fun _ => 0)), .inl (cT 0, 8, .inl (fun _ => 0)), .inl (cT 0, 5, .inl (fun _ => 0)), .inl (cT 0, 8, .inl (fun _ => 0)), .inl (cT 2, 256, .inl (fun _ => 0))]) (va_cwS 2 hq (gb_gS w_1361 w_1362 w_14 w_1363) rfl rfl rfl (by decide +kernel) ⟨Nat.le_of_ble_eq_true rfl, Nat.le_of_ble_eq_true rfl⟩) (gb_preS hSt hS (fun q h => Nat.le_trans hb1 h.1) hP) rfl rfl hl.1 rfl (lv_room (Nat.le_of_ble_eq_true rfl)) dX12_text_263 ⟨Nat.le_of_ble_eq_true rfl, Nat.le_of_ble_eq_true rfl⟩) hS (fun _ h => h) (fun _ h => h) (fun r H locs hY hk hS => ?_)
          obtain ⟨hr9, hP⟩ := hY
          subst hr9
          refine lv_iload hx hb dX12_text_266 (lv_at hl 0 rfl) ?_
          refine lv_iadd hx hb dX12_text_268 ?_
          refine W.eq (g2 := F0 m 269 ls [.int (nI (920 + i)), .ref (b + 1)]) (congrArg (fun v => F0 m 269 ls (Value.int v :: [.ref (b + 1)])) (nI_add 920 i)) ?_
          refine lv_aload_n hx hb dX12_text_269 rfl (lv_at hl 2 rfl) ?_
          refine va_get (ci := 10) (v := (.ref (b + 3))) (C := RX12) (T := TX12) (N := 44) hx hb hq i_X12 hown hK hP 0 (gb_at b rfl) rfl 10 (by decide) (hq _ w_1134) (fun _ h9 => h9) rfl dX12_text_270 ?_
          refine lv_iload hx hb dX12_text_273 (lv_at hl 0 rfl) ?_
          refine gb_iald (v := (R ((nI i)).toNatClampNeg)) hx hb hK hP 3 0 (gb_at b rfl) rfl (vp_in_nI (by omega) (by decide)) rfl dX12_text_275 ?_
          refine lv_topi (fun x_3 ex_3 => ?_)
          refine gb_iast (x := x_3) hx hb hK hP (fun k h => ⟨Nat.le_add_right b k, Nat.add_lt_add_left h b⟩) hS rfl 1 0 rfl rfl (vp_in_nI (by omega) (by decide)) dX12_text_276 (fun H locs hP hz_ hS => ?_)
          have hP : va_P D vwCl (gb_wl b [.inr (10, [.ref (b + 1), .ref (b + 2), .int 0, .int 0, .int 0, .int 0, .int 0, .int 0, .int 0, .int 0, .ref (b + 3), .int 0, .int 0, .ref (b + 4), .ref (b + 5), .ref (b + 6), .ref (b + 7), .ref (b + 8), .ref (b + 9), .ref (b + 10), .ref (b + 11), .ref (b + 12), .int 0, .int 0, .int 0, .int 0, .ref (b + 13), .ref (b + 14), .int 0, .int 0, .ref (b + 15), .ref (b + 16), .ref (b + 17), .long 0, .int 0, .int 0, .int 0, .ref (b + 18), .int 0, .ref (b + 19), .ref (b + 20), .int 0, .int 0, .ref (b + 21)]), .inl (cT 0, 3968, .inl (upd F ((nI (920 + i))).toNatClampNeg x_3)), .inl (cT 2, 3, .inl (fun _ => 0)), .inl (cT 0, 97, .inl R), .inl (cT 0, 8, .inl (fun _ => 0)), .inl (cT 0, 8, .inl (fun _ => 0)), .inl (cT 0, 8, .inl (fun _ => 0)), .inl (cT 0, 8, .inl (fun _ => 0)), .inl (cT 2, 8, .inl (fun _ => 0)), .inl (cT 0, 40, .inl (fun _ => 0)), .inl (cT 0, 5, .inl (fun _ => 0)), .inl (cT 0, 5, .inl (fun _ => 0)), .inl (cT 0, 5, .inl (fun _ => 0)), .inl (cT 0, 40, .inl (fun _ => 0)), .inl (cT 0, 5, .inl (fun _ => 0)), .inl (cT 0, 5, .inl (fun _ => 0)), .inl (cT 0, 8, .inl (fun _ => 0)), .inl (cT 2, 8, .inl (fun _ => 0)), .inl (cT 0, 8, .inl (fun _ => 0)), .inl (cT 0, 5, .inl (fun _ => 0)), .inl (cT 0, 8, .inl (fun _ => 0)), .inl (cT 2, 256, .inl (fun _ => 0))]) H := hP
          refine lv_iinc (v := (nI (i + 1))) (lv' := [(4, .int (nI (i + 1))), (3, .int 0), (0, .ref (b + 0)), (1, .int 2), (2, .int p2)]) hx hb dX12_text_277 hl (k := 0) rfl (nI_succ i).symm (by decide) rfl (fun ls hl => ?_)
          refine lv_goto (tgt := 248) hx hb dX12_text_280 (by decide) ?_
          exact ih _ _ _ ⟨_, hP, hS, lv_sub hl [0, 1, 2, 3, 4] rfl⟩
        · intro H locs ls hI
          obtain ⟨F, hP, hS, hl⟩ := hI
          refine lv_iload hx hb dX12_text_248 (lv_at hl 0 rfl) ?_
          refine lv_iload_n hx hb dX12_text_250 rfl (lv_at hl 3 rfl) ?_
          refine gb_calli (va_runS (As := [.int 2]) (rest := [.int (nI 25)]) ⟨hx, hb, hml, hown, hq⟩ (p_X12_sizeOf_29 l D cT tt b1 b hb1 [.inr (10, [.ref (b + 1), .ref (b + 2), .int 0, .int 0, .int 0, .int 0, .int 0, .int 0, .int 0, .int 0, .ref (b + 3), .int 0, .int 0, .ref (b + 4), .ref (b + 5), .ref (b + 6), .ref (b + 7), .ref (b + 8), .ref (b + 9), .ref (b + 10), .ref (b + 11), .ref (b + 12), .int 0, .int 0, .int 0, .int 0, .ref (b + 13), .ref (b + 14), .int 0, .int 0, .ref (b + 15), .ref (b + 16), .ref (b + 17), .long 0, .int 0, .int 0, .int 0, .ref (b + 18), .int 0, .ref (b + 19), .ref (b + 20), .int 0, .int 0, .ref (b + 21)]), .inl (cT 0, 3968, .inl F), .inl (cT 2, 3, .inl (fun _ => 0)), .inl (cT 0, 97, .inl R), .inl (cT 0, 8, .inl (fun _ => 0)), .inl (cT 0, 8, .inl (fun _ => 0)), .inl (cT 0, 8, .inl (fun _ => 0)), .inl (cT 0, 8, .inl (fun _ => 0)), .inl (cT 2, 8, .inl (fun _ => 0)), .inl (cT 0, 40, .inl (fun _ => 0)), .inl (cT 0, 5, .inl (fun _ => 0)), .inl (cT 0, 5, .inl (fun _ => 0)), .inl (cT 0, 5, .inl (fun _ => 0)), .inl (cT 0, 40, .inl (fun _ => 0)), .inl (cT 0, 5, .inl (fun _ => 0)), .inl (cT 0, 5, .inl (fun _ => 0)), .inl (cT 0, 8, .inl (fun _ => 0)), .inl (cT 2, 8, .inl (fun _ => 0)), .inl (cT 0, 8, .inl (fun _ => 0)), .inl (cT 0, 5, .inl (fun _ => 0)), .inl (cT 0, 8, .inl (fun _ => 0)), .inl (cT 2, 256, .inl (fun _ => 0))]) (va_cwS 1 hq (gb_gS w_1358 w_1359 w_14 w_1360) rfl rfl rfl (by decide +kernel) ⟨Nat.le_of_ble_eq_true rfl, Nat.le_of_ble_eq_true rfl⟩) (gb_preS hSt hS (fun q h => Nat.le_trans hb1 h.1) hP) rfl rfl hl.1 rfl (lv_room (Nat.le_of_ble_eq_true rfl)) dX12_text_251 ⟨Nat.le_of_ble_eq_true rfl, Nat.le_of_ble_eq_true rfl⟩) hS (fun _ h => h) (fun _ h => h) (fun r H locs hY hk hS => ?_)
          obtain ⟨hr9, hP⟩ := hY
          subst hr9
          refine lv_icmp_ge (tgt := 283) hx hb dX12_text_254 (by decide) (fun _ => ?_) (fun hc => absurd (by decide) hc)
          refine lv_iload_n hx hb dX12_text_283 rfl (lv_at hl 1 rfl) ?_
          exact W.iret (v := 0) hx hb hr (fun t ht hW => gb_ri ht (by rw [if_neg h_35_a, if_pos (gb_34p h_35_b), if_pos c_43]) hS) hS.2.2 dX12_text_284
  · subst h9
    refine lv_if_eq (tgt := 68) hx hb dX12_text_38 (by decide) (fun hc => absurd hc (by decide)) (fun _ => ?_)
    refine lv_iload_n hx hb dX12_text_41 rfl (lv_at hl 2 rfl) ?_
    refine lv_iconst (v := (-1)) hx hb dX12_text_42 (by decide) ?_
    refine lv_icmp_ne (tgt := 59) hx hb dX12_text_43 (by decide) (fun c_43 => ?_) (fun c_43 => ?_)
    · refine lv_aload_n hx hb dX12_text_59 rfl (lv_at hl 0 rfl) ?_
      refine lv_iload_n hx hb dX12_text_60 rfl (lv_at hl 1 rfl) ?_
      refine lv_iload_n hx hb dX12_text_61 rfl (lv_at hl 2 rfl) ?_
      refine gb_calli (va_runV (C := RX12) (As := [.int 3, .int p2]) (rest := []) ⟨hx, hb, hml, hown, hq⟩ (t_X12_isOf_31 l D cT tt b1 b hb1 p2) (cwV 2 hq (gb_gV w_1272 w_1274 s_3_0 w_14 w_1275) rfl rfl rfl (by decide +kernel) ⟨Nat.le_of_ble_eq_true rfl, Nat.le_of_ble_eq_true rfl⟩) (gb_preV (r := (RX12, TX12, 44)) (ci := 10) (q0 := 0) hSt hP rfl (gb_at b rfl) hS (fun q h => Nat.le_trans hb1 h.1) hP) rfl rfl hl.1 rfl (lv_room (Nat.le_of_ble_eq_true rfl)) dX12_text_62 ⟨Nat.le_of_ble_eq_true rfl, Nat.le_of_ble_eq_true rfl⟩) hS (fun _ h => h) (fun _ h => h) (fun r H locs hY hk hS => ?_)
      obtain ⟨hr9, hP⟩ := hY
      subst hr9
      refine lv_if_ne (tgt := 71) hx hb dX12_text_65 (by decide) (fun hc => absurd hc (by decide)) (fun _ => ?_)
      refine lv_bipush (v := (-2)) hx hb dX12_text_68 (by decide) ?_
      exact W.iret (v := (-2)) hx hb hr (fun t ht hW => gb_ri ht (by rw [if_neg h_35_a, if_pos (gb_34p h_35_b), if_neg c_43]) hS) hS.2.2 dX12_text_70
    · refine lv_aload_n hx hb dX12_text_46 rfl (lv_at hl 0 rfl) ?_
      refine va_get (ci := 10) (v := (.ref (b + 1))) (C := RX12) (T := TX12) (N := 44) hx hb hq i_X12 hown hK hP 0 (gb_at b rfl) rfl 0 (by decide) (hq _ w_1124) (fun _ h9 => h9) rfl dX12_text_47 ?_
      refine lv_iload_n hx hb dX12_text_50 rfl (lv_at hl 1 rfl) ?_
      refine gb_iald (v := 0) hx hb hK hP 1 0 (gb_at b rfl) rfl (gb_in rfl) rfl dX12_text_51 ?_
      refine lv_iconst (v := 2) hx hb dX12_text_52 (by decide) ?_
      refine lv_icmp_lt (tgt := 71) hx hb dX12_text_53 (by decide) (fun _ => ?_) (fun hc => absurd (by decide) hc)
      refine lv_aload_n hx hb dX12_text_71 rfl (lv_at hl 0 rfl) ?_
      refine lv_iconst (v := 0) hx hb dX12_text_72 (by decide) ?_
      refine gb_put (ci := 10) (v := (.int 0)) (ty := .int) (C := RX12) (T := TX12) (N := 44) hx hb hq i_X12 tyX12 tyX12_ok nmX12 hown hK hP (fun k h => ⟨Nat.le_add_right b k, Nat.add_lt_add_left h b⟩) hS rfl 0 rfl rfl 3 (by decide) (hq _ w_1127) (fun _ h9 => h9) rfl (by decide +kernel) rfl (by first | rfl | decide) (Nat.le_of_ble_eq_true rfl) dX12_text_73 (fun H locs hP hz_ hS => ?_)
      have hP : va_P D vwCl (gb_wl b [.inr (10, [.ref (b + 1), .ref (b + 2), .int 0, .int 0, .int 0, .int 0, .int 0, .int 0, .int 0, .int 0, .ref (b + 3), .int 0, .int 0, .ref (b + 4), .ref (b + 5), .ref (b + 6), .ref (b + 7), .ref (b + 8), .ref (b + 9), .ref (b + 10), .ref (b + 11), .ref (b + 12), .int 0, .int 0, .int 0, .int 0, .ref (b + 13), .ref (b + 14), .int 0, .int 0, .ref (b + 15), .ref (b + 16), .ref (b + 17), .long 0, .int 0, .int 0, .int 0, .ref (b + 18), .int 0, .ref (b + 19), .ref (b + 20), .int 0, .int 0, .ref (b + 21)]), .inl (cT 0, 3968, .inl (upd (upd (upd (upd (fun _ => 0) 6 (-1)) 4 0) 5 0) 6 (-1))), .inl (cT 2, 3, .inl (fun _ => 0)), .inl (cT 0, 97, .inl (fun _ => 0)), .inl (cT 0, 8, .inl (fun _ => 0)), .inl (cT 0, 8, .inl (fun _ => 0)), .inl (cT 0, 8, .inl (fun _ => 0)), .inl (cT 0, 8, .inl (fun _ => 0)), .inl (cT 2, 8, .inl (fun _ => 0)), .inl (cT 0, 40, .inl (fun _ => 0)), .inl (cT 0, 5, .inl (fun _ => 0)), .inl (cT 0, 5, .inl (fun _ => 0)), .inl (cT 0, 5, .inl (fun _ => 0)), .inl (cT 0, 40, .inl (fun _ => 0)), .inl (cT 0, 5, .inl (fun _ => 0)), .inl (cT 0, 5, .inl (fun _ => 0)), .inl (cT 0, 8, .inl (fun _ => 0)), .inl (cT 2, 8, .inl (fun _ => 0)), .inl (cT 0, 8, .inl (fun _ => 0)), .inl (cT 0, 5, .inl (fun _ => 0)), .inl (cT 0, 8, .inl (fun _ => 0)), .inl (cT 2, 256, .inl (fun _ => 0))]) H := hP
      refine lv_aload_n hx hb dX12_text_76 rfl (lv_at hl 0 rfl) ?_
      refine lv_iconst (v := 0) hx hb dX12_text_77 (by decide) ?_
      refine gb_put (ci := 10) (v := (.int 0)) (ty := .boolean) (C := RX12) (T := TX12) (N := 44) hx hb hq i_X12 tyX12 tyX12_ok nmX12 hown hK hP (fun k h => ⟨Nat.le_add_right b k, Nat.add_lt_add_left h b⟩) hS rfl 0 rfl rfl 8 (by decide) (hq _ w_1132) (fun _ h9 => h9) rfl (by decide +kernel) rfl (by decide) (Nat.le_of_ble_eq_true rfl) dX12_text_78 (fun H locs hP hz_ hS => ?_)
      have hP : va_P D vwCl (gb_wl b [.inr (10, [.ref (b + 1), .ref (b + 2), .int 0, .int 0, .int 0, .int 0, .int 0, .int 0, .int 0, .int 0, .ref (b + 3), .int 0, .int 0, .ref (b + 4), .ref (b + 5), .ref (b + 6), .ref (b + 7), .ref (b + 8), .ref (b + 9), .ref (b + 10), .ref (b + 11), .ref (b + 12), .int 0, .int 0, .int 0, .int 0, .ref (b + 13), .ref (b + 14), .int 0, .int 0, .ref (b + 15), .ref (b + 16), .ref (b + 17), .long 0, .int 0, .int 0, .int 0, .ref (b + 18), .int 0, .ref (b + 19), .ref (b + 20), .int 0, .int 0, .ref (b + 21)]), .inl (cT 0, 3968, .inl (upd (upd (upd (upd (fun _ => 0) 6 (-1)) 4 0) 5 0) 6 (-1))), .inl (cT 2, 3, .inl (fun _ => 0)), .inl (cT 0, 97, .inl (fun _ => 0)), .inl (cT 0, 8, .inl (fun _ => 0)), .inl (cT 0, 8, .inl (fun _ => 0)), .inl (cT 0, 8, .inl (fun _ => 0)), .inl (cT 0, 8, .inl (fun _ => 0)), .inl (cT 2, 8, .inl (fun _ => 0)), .inl (cT 0, 40, .inl (fun _ => 0)), .inl (cT 0, 5, .inl (fun _ => 0)), .inl (cT 0, 5, .inl (fun _ => 0)), .inl (cT 0, 5, .inl (fun _ => 0)), .inl (cT 0, 40, .inl (fun _ => 0)), .inl (cT 0, 5, .inl (fun _ => 0)), .inl (cT 0, 5, .inl (fun _ => 0)), .inl (cT 0, 8, .inl (fun _ => 0)), .inl (cT 2, 8, .inl (fun _ => 0)), .inl (cT 0, 8, .inl (fun _ => 0)), .inl (cT 0, 5, .inl (fun _ => 0)), .inl (cT 0, 8, .inl (fun _ => 0)), .inl (cT 2, 256, .inl (fun _ => 0))]) H := hP
      refine lv_aload_n hx hb dX12_text_81 rfl (lv_at hl 0 rfl) ?_
      refine lv_iconst (v := 0) hx hb dX12_text_82 (by decide) ?_
      refine gb_put (ci := 10) (v := (.int 0)) (ty := .boolean) (C := RX12) (T := TX12) (N := 44) hx hb hq i_X12 tyX12 tyX12_ok nmX12 hown hK hP (fun k h => ⟨Nat.le_add_right b k, Nat.add_lt_add_left h b⟩) hS rfl 0 rfl rfl 9 (by decide) (hq _ w_1133) (fun _ h9 => h9) rfl (by decide +kernel) rfl (by decide) (Nat.le_of_ble_eq_true rfl) dX12_text_83 (fun H locs hP hz_ hS => ?_)
      have hP : va_P D vwCl (gb_wl b [.inr (10, [.ref (b + 1), .ref (b + 2), .int 0, .int 0, .int 0, .int 0, .int 0, .int 0, .int 0, .int 0, .ref (b + 3), .int 0, .int 0, .ref (b + 4), .ref (b + 5), .ref (b + 6), .ref (b + 7), .ref (b + 8), .ref (b + 9), .ref (b + 10), .ref (b + 11), .ref (b + 12), .int 0, .int 0, .int 0, .int 0, .ref (b + 13), .ref (b + 14), .int 0, .int 0, .ref (b + 15), .ref (b + 16), .ref (b + 17), .long 0, .int 0, .int 0, .int 0, .ref (b + 18), .int 0, .ref (b + 19), .ref (b + 20), .int 0, .int 0, .ref (b + 21)]), .inl (cT 0, 3968, .inl (upd (upd (upd (upd (fun _ => 0) 6 (-1)) 4 0) 5 0) 6 (-1))), .inl (cT 2, 3, .inl (fun _ => 0)), .inl (cT 0, 97, .inl (fun _ => 0)), .inl (cT 0, 8, .inl (fun _ => 0)), .inl (cT 0, 8, .inl (fun _ => 0)), .inl (cT 0, 8, .inl (fun _ => 0)), .inl (cT 0, 8, .inl (fun _ => 0)), .inl (cT 2, 8, .inl (fun _ => 0)), .inl (cT 0, 40, .inl (fun _ => 0)), .inl (cT 0, 5, .inl (fun _ => 0)), .inl (cT 0, 5, .inl (fun _ => 0)), .inl (cT 0, 5, .inl (fun _ => 0)), .inl (cT 0, 40, .inl (fun _ => 0)), .inl (cT 0, 5, .inl (fun _ => 0)), .inl (cT 0, 5, .inl (fun _ => 0)), .inl (cT 0, 8, .inl (fun _ => 0)), .inl (cT 2, 8, .inl (fun _ => 0)), .inl (cT 0, 8, .inl (fun _ => 0)), .inl (cT 0, 5, .inl (fun _ => 0)), .inl (cT 0, 8, .inl (fun _ => 0)), .inl (cT 2, 256, .inl (fun _ => 0))]) H := hP
      refine lv_iconst (v := 0) hx hb dX12_text_86 (by decide) ?_
      refine lv_istore_n (lv' := [(3, .int 0), (0, .ref (b + 0)), (1, .int 3), (2, .int p2)]) hx hb dX12_text_87 rfl hl (by decide) rfl (fun ls hl => ?_)
      refine gb_loop (I := fun i H locs ls => ∃ R : Nat → Int32, va_P D vwCl (gb_wl b [.inr (10, [.ref (b + 1), .ref (b + 2), .int 0, .int 0, .int 0, .int 0, .int 0, .int 0, .int 0, .int 0, .ref (b + 3), .int 0, .int 0, .ref (b + 4), .ref (b + 5), .ref (b + 6), .ref (b + 7), .ref (b + 8), .ref (b + 9), .ref (b + 10), .ref (b + 11), .ref (b + 12), .int 0, .int 0, .int 0, .int 0, .ref (b + 13), .ref (b + 14), .int 0, .int 0, .ref (b + 15), .ref (b + 16), .ref (b + 17), .long 0, .int 0, .int 0, .int 0, .ref (b + 18), .int 0, .ref (b + 19), .ref (b + 20), .int 0, .int 0, .ref (b + 21)]), .inl (cT 0, 3968, .inl (upd (upd (upd (upd (fun _ => 0) 6 (-1)) 4 0) 5 0) 6 (-1))), .inl (cT 2, 3, .inl (fun _ => 0)), .inl (cT 0, 97, .inl R), .inl (cT 0, 8, .inl (fun _ => 0)), .inl (cT 0, 8, .inl (fun _ => 0)), .inl (cT 0, 8, .inl (fun _ => 0)), .inl (cT 0, 8, .inl (fun _ => 0)), .inl (cT 2, 8, .inl (fun _ => 0)), .inl (cT 0, 40, .inl (fun _ => 0)), .inl (cT 0, 5, .inl (fun _ => 0)), .inl (cT 0, 5, .inl (fun _ => 0)), .inl (cT 0, 5, .inl (fun _ => 0)), .inl (cT 0, 40, .inl (fun _ => 0)), .inl (cT 0, 5, .inl (fun _ => 0)), .inl (cT 0, 5, .inl (fun _ => 0)), .inl (cT 0, 8, .inl (fun _ => 0)), .inl (cT 2, 8, .inl (fun _ => 0)), .inl (cT 0, 8, .inl (fun _ => 0)), .inl (cT 0, 5, .inl (fun _ => 0)), .inl (cT 0, 8, .inl (fun _ => 0)), .inl (cT 2, 256, .inl (fun _ => 0))]) H ∧ va_S (gb_fr b 22) s.heap H locs ∧ lv_has ls 5 [(3, .int (nI i)), (0, .ref (b + 0)), (1, .int 3), (2, .int p2)]) 97 ?_ ?_ 0 _ _ _ (by decide) ⟨_, hP, hS, hl⟩
      · intro i H locs ls hi hI ih
        obtain ⟨R, hP, hS, hl⟩ := hI
        refine lv_iload_n hx hb dX12_text_88 rfl (lv_at hl 0 rfl) ?_
        refine lv_bipush (v := 97) hx hb dX12_text_89 (by decide) ?_
        refine lv_icmp_ge (tgt := 107) hx hb dX12_text_91 (by decide) (fun c_91 => absurd c_91 (nI_ge hi (by decide))) (fun c_91 => ?_)
        refine lv_aload_n hx hb dX12_text_94 rfl (lv_at hl 1 rfl) ?_
        refine va_get (ci := 10) (v := (.ref (b + 3))) (C := RX12) (T := TX12) (N := 44) hx hb hq i_X12 hown hK hP 0 (gb_at b rfl) rfl 10 (by decide) (hq _ w_1134) (fun _ h9 => h9) rfl dX12_text_95 ?_
        refine lv_iload_n hx hb dX12_text_98 rfl (lv_at hl 0 rfl) ?_
        refine lv_iconst (v := 0) hx hb dX12_text_99 (by decide) ?_
        refine gb_iast (x := 0) hx hb hK hP (fun k h => ⟨Nat.le_add_right b k, Nat.add_lt_add_left h b⟩) hS rfl 3 0 rfl rfl (vp_in_nI (by omega) (by decide)) dX12_text_100 (fun H locs hP hz_ hS => ?_)
        have hP : va_P D vwCl (gb_wl b [.inr (10, [.ref (b + 1), .ref (b + 2), .int 0, .int 0, .int 0, .int 0, .int 0, .int 0, .int 0, .int 0, .ref (b + 3), .int 0, .int 0, .ref (b + 4), .ref (b + 5), .ref (b + 6), .ref (b + 7), .ref (b + 8), .ref (b + 9), .ref (b + 10), .ref (b + 11), .ref (b + 12), .int 0, .int 0, .int 0, .int 0, .ref (b + 13), .ref (b + 14), .int 0, .int 0, .ref (b + 15), .ref (b + 16), .ref (b + 17), .long 0, .int 0, .int 0, .int 0, .ref (b + 18), .int 0, .ref (b + 19), .ref (b + 20), .int 0, .int 0, .ref (b + 21)]), .inl (cT 0, 3968, .inl (upd (upd (upd (upd (fun _ => 0) 6 (-1)) 4 0) 5 0) 6 (-1))), .inl (cT 2, 3, .inl (fun _ => 0)), .inl (cT 0, 97, .inl (upd R ((nI i)).toNatClampNeg 0)), .inl (cT 0, 8, .inl (fun _ => 0)), .inl (cT 0, 8, .inl (fun _ => 0)), .inl (cT 0, 8, .inl (fun _ => 0)), .inl (cT 0, 8, .inl (fun _ => 0)), .inl (cT 2, 8, .inl (fun _ => 0)), .inl (cT 0, 40, .inl (fun _ => 0)), .inl (cT 0, 5, .inl (fun _ => 0)), .inl (cT 0, 5, .inl (fun _ => 0)), .inl (cT 0, 5, .inl (fun _ => 0)), .inl (cT 0, 40, .inl (fun _ => 0)), .inl (cT 0, 5, .inl (fun _ => 0)), .inl (cT 0, 5, .inl (fun _ => 0)), .inl (cT 0, 8, .inl (fun _ => 0)), .inl (cT 2, 8, .inl (fun _ => 0)), .inl (cT 0, 8, .inl (fun _ => 0)), .inl (cT 0, 5, .inl (fun _ => 0)), .inl (cT 0, 8, .inl (fun _ => 0)), .inl (cT 2, 256, .inl (fun _ => 0))]) H := hP
        refine lv_iinc (v := (nI (i + 1))) (lv' := [(3, .int (nI (i + 1))), (0, .ref (b + 0)), (1, .int 3), (2, .int p2)]) hx hb dX12_text_101 hl (k := 0) rfl (nI_succ i).symm (by decide) rfl (fun ls hl => ?_)
        refine lv_goto (tgt := 88) hx hb dX12_text_104 (by decide) ?_
        exact ih _ _ _ ⟨_, hP, hS, lv_sub hl [0, 1, 2, 3] rfl⟩
      · intro H locs ls hI
        obtain ⟨R, hP, hS, hl⟩ := hI
        refine lv_iload_n hx hb dX12_text_88 rfl (lv_at hl 0 rfl) ?_
        refine lv_bipush (v := 97) hx hb dX12_text_89 (by decide) ?_
        refine lv_icmp_ge (tgt := 107) hx hb dX12_text_91 (by decide) (fun _ => ?_) (fun hc => absurd (by decide) hc)
        refine lv_iload_n hx hb dX12_text_107 rfl (lv_at hl 2 rfl) ?_
        refine lv_if_ne (tgt := 118) hx hb dX12_text_108 (by decide) (fun _ => ?_) (fun hc => absurd hc (by decide))
        refine lv_aload_n hx hb dX12_text_118 rfl (lv_at hl 1 rfl) ?_
        refine gb_callv (va_runV (C := RX12) (As := []) (rest := []) ⟨hx, hb, hml, hown, hq⟩ (t_X12_advance_24 l D cT tt b1 b hb1 R) (cwV 0 hq (gb_gV w_1276 w_1278 s_3_1 w_14 w_1279) rfl rfl rfl (by decide +kernel) ⟨Nat.le_of_ble_eq_true rfl, Nat.le_of_ble_eq_true rfl⟩) (gb_preV (r := (RX12, TX12, 44)) (ci := 10) (q0 := 0) hSt hP rfl (gb_at b rfl) hS (fun q h => Nat.le_trans hb1 h.1) hP) rfl rfl hl.1 rfl (lv_room (Nat.le_of_ble_eq_true rfl)) dX12_text_119 ⟨Nat.le_of_ble_eq_true rfl, Nat.le_of_ble_eq_true rfl⟩) hS (fun _ h => h) (fun _ h => h) (fun H locs hY hk hS => ?_)
        have hP : va_P D vwCl (gb_wl b [.inr (10, [.ref (b + 1), .ref (b + 2), .int 0, .int 0, .int 0, .int 0, .int 0, .int 0, .int 0, .int 0, .ref (b + 3), .int 0, .int 0, .ref (b + 4), .ref (b + 5), .ref (b + 6), .ref (b + 7), .ref (b + 8), .ref (b + 9), .ref (b + 10), .ref (b + 11), .ref (b + 12), .int 0, .int 0, .int 0, .int 0, .ref (b + 13), .ref (b + 14), .int 0, .int 0, .ref (b + 15), .ref (b + 16), .ref (b + 17), .long 0, .int 0, .int 0, .int 0, .ref (b + 18), .int 0, .ref (b + 19), .ref (b + 20), .int 0, .int 0, .ref (b + 21)]), .inl (cT 0, 3968, .inl (upd (upd (upd (upd (fun _ => 0) 6 (-1)) 4 0) 5 0) 6 (-1))), .inl (cT 2, 3, .inl (fun _ => 0)), .inl (cT 0, 97, .inl R), .inl (cT 0, 8, .inl (fun _ => 0)), .inl (cT 0, 8, .inl (fun _ => 0)), .inl (cT 0, 8, .inl (fun _ => 0)), .inl (cT 0, 8, .inl (fun _ => 0)), .inl (cT 2, 8, .inl (fun _ => 0)), .inl (cT 0, 40, .inl (fun _ => 0)), .inl (cT 0, 5, .inl (fun _ => 0)), .inl (cT 0, 5, .inl (fun _ => 0)), .inl (cT 0, 5, .inl (fun _ => 0)), .inl (cT 0, 40, .inl (fun _ => 0)), .inl (cT 0, 5, .inl (fun _ => 0)), .inl (cT 0, 5, .inl (fun _ => 0)), .inl (cT 0, 8, .inl (fun _ => 0)), .inl (cT 2, 8, .inl (fun _ => 0)), .inl (cT 0, 8, .inl (fun _ => 0)), .inl (cT 0, 5, .inl (fun _ => 0)), .inl (cT 0, 8, .inl (fun _ => 0)), .inl (cT 2, 256, .inl (fun _ => 0))]) H := hY
        refine lv_aload_n hx hb dX12_text_122 rfl (lv_at hl 1 rfl) ?_
        refine va_get (ci := 10) (v := (.int 0)) (C := RX12) (T := TX12) (N := 44) hx hb hq i_X12 hown hK hP 0 (gb_at b rfl) rfl 8 (by decide) (hq _ w_1132) (fun _ h9 => h9) rfl dX12_text_123 ?_
        refine lv_if_ne (tgt := 178) hx hb dX12_text_126 (by decide) (fun hc => absurd hc (by decide)) (fun _ => ?_)
        refine lv_aload_n hx hb dX12_text_129 rfl (lv_at hl 1 rfl) ?_
        refine va_get (ci := 10) (v := (.int 0)) (C := RX12) (T := TX12) (N := 44) hx hb hq i_X12 hown hK hP 0 (gb_at b rfl) rfl 5 (by decide) (hq _ w_1129) (fun _ h9 => h9) rfl dX12_text_130 ?_
        refine lv_if_eq (tgt := 178) hx hb dX12_text_133 (by decide) (fun _ => ?_) (fun hc => absurd (by decide) hc)
        refine lv_aload_n hx hb dX12_text_178 rfl (lv_at hl 1 rfl) ?_
        refine va_get (ci := 10) (v := (.ref (b + 1))) (C := RX12) (T := TX12) (N := 44) hx hb hq i_X12 hown hK hP 0 (gb_at b rfl) rfl 0 (by decide) (hq _ w_1124) (fun _ h9 => h9) rfl dX12_text_179 ?_
        refine lv_iconst (v := 5) hx hb dX12_text_182 (by decide) ?_
        refine gb_iald (v := 0) hx hb hK hP 1 0 (gb_at b rfl) rfl (gb_in rfl) rfl dX12_text_183 ?_
        refine lv_if_ne (tgt := 203) hx hb dX12_text_184 (by decide) (fun hc => absurd hc (by decide)) (fun _ => ?_)
        refine lv_aload_n hx hb dX12_text_187 rfl (lv_at hl 1 rfl) ?_
        refine va_get (ci := 10) (v := (.int 0)) (C := RX12) (T := TX12) (N := 44) hx hb hq i_X12 hown hK hP 0 (gb_at b rfl) rfl 9 (by decide) (hq _ w_1133) (fun _ h9 => h9) rfl dX12_text_188 ?_
        refine lv_if_eq (tgt := 203) hx hb dX12_text_191 (by decide) (fun _ => ?_) (fun hc => absurd (by decide) hc)
        refine lv_aload_n hx hb dX12_text_203 rfl (lv_at hl 1 rfl) ?_
        refine va_get (ci := 10) (v := (.ref (b + 1))) (C := RX12) (T := TX12) (N := 44) hx hb hq i_X12 hown hK hP 0 (gb_at b rfl) rfl 0 (by decide) (hq _ w_1124) (fun _ h9 => h9) rfl dX12_text_204 ?_
        refine lv_iconst (v := 5) hx hb dX12_text_207 (by decide) ?_
        refine gb_iald (v := 0) hx hb hK hP 1 0 (gb_at b rfl) rfl (gb_in rfl) rfl dX12_text_208 ?_
        refine lv_if_eq (tgt := 214) hx hb dX12_text_209 (by decide) (fun _ => ?_) (fun hc => absurd (by decide) hc)
        refine lv_iload_n hx hb dX12_text_214 rfl (lv_at hl 3 rfl) ?_
        refine lv_iconst (v := (-1)) hx hb dX12_text_215 (by decide) ?_
        refine lv_icmp_ne (tgt := 228) hx hb dX12_text_216 (by decide) (fun c_216 => absurd c_43 c_216) (fun c_216 => ?_)
        refine lv_aload_n hx hb dX12_text_219 rfl (lv_at hl 1 rfl) ?_
        refine va_get (ci := 10) (v := (.ref (b + 1))) (C := RX12) (T := TX12) (N := 44) hx hb hq i_X12 hown hK hP 0 (gb_at b rfl) rfl 0 (by decide) (hq _ w_1124) (fun _ h9 => h9) rfl dX12_text_220 ?_
        refine lv_iload_n hx hb dX12_text_223 rfl (lv_at hl 2 rfl) ?_
        refine gb_iald (v := 0) hx hb hK hP 1 0 (gb_at b rfl) rfl (gb_in rfl) rfl dX12_text_224 ?_
        refine lv_goto (tgt := 229) hx hb dX12_text_225 (by decide) ?_
        refine lv_istore_n (lv' := [(3, .int 0), (0, .ref (b + 0)), (1, .int 3), (2, .int p2)]) hx hb dX12_text_229 rfl hl (by decide) rfl (fun ls hl => ?_)
        refine lv_iload_n hx hb dX12_text_230 rfl (lv_at hl 3 rfl) ?_
        refine lv_iconst (v := (-1)) hx hb dX12_text_231 (by decide) ?_
        refine lv_icmp_ne (tgt := 245) hx hb dX12_text_232 (by decide) (fun c_232 => absurd c_43 c_232) (fun c_232 => ?_)
        refine lv_aload_n hx hb dX12_text_235 rfl (lv_at hl 1 rfl) ?_
        refine va_get (ci := 10) (v := (.ref (b + 1))) (C := RX12) (T := TX12) (N := 44) hx hb hq i_X12 hown hK hP 0 (gb_at b rfl) rfl 0 (by decide) (hq _ w_1124) (fun _ h9 => h9) rfl dX12_text_236 ?_
        refine lv_iload_n hx hb dX12_text_239 rfl (lv_at hl 2 rfl) ?_
        refine lv_dup2_11 hx hb dX12_text_240 rfl rfl ?_
        refine gb_iald (v := 0) hx hb hK hP 1 0 (gb_at b rfl) rfl (gb_in rfl) rfl dX12_text_241 ?_
        refine lv_iconst (v := 1) hx hb dX12_text_242 (by decide) ?_
        refine lv_iadd hx hb dX12_text_243 ?_
        refine W.eq (g2 := F0 m 244 ls [.int 1, .int 3, .ref (b + 1)]) (congrArg (fun v => F0 m 244 ls (Value.int v :: [.int 3, .ref (b + 1)])) (show (0 : Int32) + 1 = 1 by decide)) ?_
        refine gb_iast (x := 1) hx hb hK hP (fun k h => ⟨Nat.le_add_right b k, Nat.add_lt_add_left h b⟩) hS rfl 1 0 rfl rfl (gb_in rfl) dX12_text_244 (fun H locs hP hz_ hS => ?_)
        have hP : va_P D vwCl (gb_wl b [.inr (10, [.ref (b + 1), .ref (b + 2), .int 0, .int 0, .int 0, .int 0, .int 0, .int 0, .int 0, .int 0, .ref (b + 3), .int 0, .int 0, .ref (b + 4), .ref (b + 5), .ref (b + 6), .ref (b + 7), .ref (b + 8), .ref (b + 9), .ref (b + 10), .ref (b + 11), .ref (b + 12), .int 0, .int 0, .int 0, .int 0, .ref (b + 13), .ref (b + 14), .int 0, .int 0, .ref (b + 15), .ref (b + 16), .ref (b + 17), .long 0, .int 0, .int 0, .int 0, .ref (b + 18), .int 0, .ref (b + 19), .ref (b + 20), .int 0, .int 0, .ref (b + 21)]), .inl (cT 0, 3968, .inl (upd (upd (upd (upd (upd (fun _ => 0) 6 (-1)) 4 0) 5 0) 6 (-1)) 3 1)), .inl (cT 2, 3, .inl (fun _ => 0)), .inl (cT 0, 97, .inl R), .inl (cT 0, 8, .inl (fun _ => 0)), .inl (cT 0, 8, .inl (fun _ => 0)), .inl (cT 0, 8, .inl (fun _ => 0)), .inl (cT 0, 8, .inl (fun _ => 0)), .inl (cT 2, 8, .inl (fun _ => 0)), .inl (cT 0, 40, .inl (fun _ => 0)), .inl (cT 0, 5, .inl (fun _ => 0)), .inl (cT 0, 5, .inl (fun _ => 0)), .inl (cT 0, 5, .inl (fun _ => 0)), .inl (cT 0, 40, .inl (fun _ => 0)), .inl (cT 0, 5, .inl (fun _ => 0)), .inl (cT 0, 5, .inl (fun _ => 0)), .inl (cT 0, 8, .inl (fun _ => 0)), .inl (cT 2, 8, .inl (fun _ => 0)), .inl (cT 0, 8, .inl (fun _ => 0)), .inl (cT 0, 5, .inl (fun _ => 0)), .inl (cT 0, 8, .inl (fun _ => 0)), .inl (cT 2, 256, .inl (fun _ => 0))]) H := hP
        refine lv_iconst (v := 0) hx hb dX12_text_245 (by decide) ?_
        refine lv_istore (lv' := [(4, .int 0), (3, .int 0), (0, .ref (b + 0)), (1, .int 3), (2, .int p2)]) hx hb dX12_text_246 hl (by decide) rfl (fun ls hl => ?_)
        refine gb_loop (I := fun i H locs ls => ∃ F : Nat → Int32, va_P D vwCl (gb_wl b [.inr (10, [.ref (b + 1), .ref (b + 2), .int 0, .int 0, .int 0, .int 0, .int 0, .int 0, .int 0, .int 0, .ref (b + 3), .int 0, .int 0, .ref (b + 4), .ref (b + 5), .ref (b + 6), .ref (b + 7), .ref (b + 8), .ref (b + 9), .ref (b + 10), .ref (b + 11), .ref (b + 12), .int 0, .int 0, .int 0, .int 0, .ref (b + 13), .ref (b + 14), .int 0, .int 0, .ref (b + 15), .ref (b + 16), .ref (b + 17), .long 0, .int 0, .int 0, .int 0, .ref (b + 18), .int 0, .ref (b + 19), .ref (b + 20), .int 0, .int 0, .ref (b + 21)]), .inl (cT 0, 3968, .inl F), .inl (cT 2, 3, .inl (fun _ => 0)), .inl (cT 0, 97, .inl R), .inl (cT 0, 8, .inl (fun _ => 0)), .inl (cT 0, 8, .inl (fun _ => 0)), .inl (cT 0, 8, .inl (fun _ => 0)), .inl (cT 0, 8, .inl (fun _ => 0)), .inl (cT 2, 8, .inl (fun _ => 0)), .inl (cT 0, 40, .inl (fun _ => 0)), .inl (cT 0, 5, .inl (fun _ => 0)), .inl (cT 0, 5, .inl (fun _ => 0)), .inl (cT 0, 5, .inl (fun _ => 0)), .inl (cT 0, 40, .inl (fun _ => 0)), .inl (cT 0, 5, .inl (fun _ => 0)), .inl (cT 0, 5, .inl (fun _ => 0)), .inl (cT 0, 8, .inl (fun _ => 0)), .inl (cT 2, 8, .inl (fun _ => 0)), .inl (cT 0, 8, .inl (fun _ => 0)), .inl (cT 0, 5, .inl (fun _ => 0)), .inl (cT 0, 8, .inl (fun _ => 0)), .inl (cT 2, 256, .inl (fun _ => 0))]) H ∧ va_S (gb_fr b 22) s.heap H locs ∧ lv_has ls 5 [(4, .int (nI i)), (3, .int 0), (0, .ref (b + 0)), (1, .int 3), (2, .int p2)]) 11 ?_ ?_ 0 _ _ _ (by decide) ⟨_, hP, hS, hl⟩
        · intro i H locs ls hi hI ih
          obtain ⟨F, hP, hS, hl⟩ := hI
          refine lv_iload hx hb dX12_text_248 (lv_at hl 0 rfl) ?_
          refine lv_iload_n hx hb dX12_text_250 rfl (lv_at hl 3 rfl) ?_
          refine gb_calli (va_runS (As := [.int 3]) (rest := [.int (nI i)]) ⟨hx, hb, hml, hown, hq⟩ (p_X12_sizeOf_32 l D cT tt b1 b hb1 [.inr (10, [.ref (b + 1), .ref (b + 2), .int 0, .int 0, .int 0, .int 0, .int 0, .int 0, .int 0, .int 0, .ref (b + 3), .int 0, .int 0, .ref (b + 4), .ref (b + 5), .ref (b + 6), .ref (b + 7), .ref (b + 8), .ref (b + 9), .ref (b + 10), .ref (b + 11), .ref (b + 12), .int 0, .int 0, .int 0, .int 0, .ref (b + 13), .ref (b + 14), .int 0, .int 0, .ref (b + 15), .ref (b + 16), .ref (b + 17), .long 0, .int 0, .int 0, .int 0, .ref (b + 18), .int 0, .ref (b + 19), .ref (b + 20), .int 0, .int 0, .ref (b + 21)]), .inl (cT 0, 3968, .inl F), .inl (cT 2, 3, .inl (fun _ => 0)), .inl (cT 0, 97, .inl R), .inl (cT 0, 8, .inl (fun _ => 0)), .inl (cT 0, 8, .inl (fun _ => 0)), .inl (cT 0, 8, .inl (fun _ => 0)), .inl (cT 0, 8, .inl (fun _ => 0)), .inl (cT 2, 8, .inl (fun _ => 0)), .inl (cT 0, 40, .inl (fun _ => 0)), .inl (cT 0, 5, .inl (fun _ => 0)), .inl (cT 0, 5, .inl (fun _ => 0)), .inl (cT 0, 5, .inl (fun _ => 0)), .inl (cT 0, 40, .inl (fun _ => 0)), .inl (cT 0, 5, .inl (fun _ => 0)), .inl (cT 0, 5, .inl (fun _ => 0)), .inl (cT 0, 8, .inl (fun _ => 0)), .inl (cT 2, 8, .inl (fun _ => 0)), .inl (cT 0, 8, .inl (fun _ => 0)), .inl (cT 0, 5, .inl (fun _ => 0)), .inl (cT 0, 8, .inl (fun _ => 0)), .inl (cT 2, 256, .inl (fun _ => 0))]) (va_cwS 1 hq (gb_gS w_1358 w_1359 w_14 w_1360) rfl rfl rfl (by decide +kernel) ⟨Nat.le_of_ble_eq_true rfl, Nat.le_of_ble_eq_true rfl⟩) (gb_preS hSt hS (fun q h => Nat.le_trans hb1 h.1) hP) rfl rfl hl.1 rfl (lv_room (Nat.le_of_ble_eq_true rfl)) dX12_text_251 ⟨Nat.le_of_ble_eq_true rfl, Nat.le_of_ble_eq_true rfl⟩) hS (fun _ h => h) (fun _ h => h) (fun r H locs hY hk hS => ?_)
          obtain ⟨hr9, hP⟩ := hY
          subst hr9
          refine lv_icmp_ge (tgt := 283) hx hb dX12_text_254 (by decide) (fun c_254 => absurd c_254 (nI_ge hi (by decide))) (fun c_254 => ?_)
          refine lv_aload_n hx hb dX12_text_257 rfl (lv_at hl 2 rfl) ?_
          refine va_get (ci := 10) (v := (.ref (b + 1))) (C := RX12) (T := TX12) (N := 44) hx hb hq i_X12 hown hK hP 0 (gb_at b rfl) rfl 0 (by decide) (hq _ w_1124) (fun _ h9 => h9) rfl dX12_text_258 ?_
          refine lv_iload_n hx hb dX12_text_261 rfl (lv_at hl 3 rfl) ?_
          refine lv_iload_n hx hb dX12_text_262 rfl (lv_at hl 1 rfl) ?_
          refine gb_calli (va_runS (As := [.int 3, .int 0]) (rest := [.ref (b + 1)]) ⟨hx, hb, hml, hown, hq⟩ (p_X12_placeOf_33 l D cT tt b1 b hb1 [.inr (10, [.ref (b + 1), .ref (b + 2), .int 0, .int 0, .int 0, .int 0, .int 0, .int 0, .int 0, .int 0, .ref (b + 3), .int 0, .int 0, .ref (b + 4), .ref (b + 5), .ref (b + 6), .ref (b + 7), .ref (b + 8), .ref (b + 9), .ref (b + 10), .ref (b + 11), .ref (b + 12), .int 0, .int 0, .int 0, .int 0, .ref (b + 13), .ref (b + 14), .int 0, .int 0, .ref (b + 15), .ref (b + 16), .ref (b + 17), .long 0, .int 0, .int 0, .int 0, .ref (b + 18), .int 0, .ref (b + 19), .ref (b + 20), .int 0, .int 0, .ref (b + 21)]), .inl (cT 0, 3968, .inl F), .inl (cT 2, 3, .inl (fun _ => 0)), .inl (cT 0, 97, .inl R), .inl (cT 0, 8, .inl (fun _ => 0)), .inl (cT 0, 8, .inl (fun _ => 0)), .inl (cT 0, 8, .inl (fun _ => 0)), .inl (cT 0, 8, .inl (fun _ => 0)), .inl (cT 2, 8, .inl (fun _ => 0)), .inl (cT 0, 40, .inl (fun _ => 0)), .inl (cT 0, 5, .inl (fun _ => 0)), .inl (cT 0, 5, .inl (fun _ => 0)), .inl (cT 0, 5, .inl (fun _ => 0)), .inl (cT 0, 40, .inl (fun _ => 0)), .inl (cT 0, 5, .inl (fun _ => 0)), .inl (cT 0, 5, .inl (fun _ => 0)), .inl (cT 0, 8, .inl (fun _ => 0)), .inl (cT 2, 8, .inl (fun _ => 0)), .inl (cT 0, 8, .inl (fun _ => 0)), .inl (cT 0, 5, .inl (fun _ => 0)), .inl (cT 0, 8, .inl (fun _ => 0)), .inl (cT 2, 256, .inl (fun _ => 0))]) (va_cwS 2 hq (gb_gS w_1361 w_1362 w_14 w_1363) rfl rfl rfl (by decide +kernel) ⟨Nat.le_of_ble_eq_true rfl, Nat.le_of_ble_eq_true rfl⟩) (gb_preS hSt hS (fun q h => Nat.le_trans hb1 h.1) hP) rfl rfl hl.1 rfl (lv_room (Nat.le_of_ble_eq_true rfl)) dX12_text_263 ⟨Nat.le_of_ble_eq_true rfl, Nat.le_of_ble_eq_true rfl⟩) hS (fun _ h => h) (fun _ h => h) (fun r H locs hY hk hS => ?_)
          obtain ⟨hr9, hP⟩ := hY
          subst hr9
          refine lv_iload hx hb dX12_text_266 (lv_at hl 0 rfl) ?_
          refine lv_iadd hx hb dX12_text_268 ?_
          refine W.eq (g2 := F0 m 269 ls [.int (nI (970 + i)), .ref (b + 1)]) (congrArg (fun v => F0 m 269 ls (Value.int v :: [.ref (b + 1)])) (nI_add 970 i)) ?_
          refine lv_aload_n hx hb dX12_text_269 rfl (lv_at hl 2 rfl) ?_
          refine va_get (ci := 10) (v := (.ref (b + 3))) (C := RX12) (T := TX12) (N := 44) hx hb hq i_X12 hown hK hP 0 (gb_at b rfl) rfl 10 (by decide) (hq _ w_1134) (fun _ h9 => h9) rfl dX12_text_270 ?_
          refine lv_iload hx hb dX12_text_273 (lv_at hl 0 rfl) ?_
          refine gb_iald (v := (R ((nI i)).toNatClampNeg)) hx hb hK hP 3 0 (gb_at b rfl) rfl (vp_in_nI (by omega) (by decide)) rfl dX12_text_275 ?_
          refine lv_topi (fun x_4 ex_4 => ?_)
          refine gb_iast (x := x_4) hx hb hK hP (fun k h => ⟨Nat.le_add_right b k, Nat.add_lt_add_left h b⟩) hS rfl 1 0 rfl rfl (vp_in_nI (by omega) (by decide)) dX12_text_276 (fun H locs hP hz_ hS => ?_)
          have hP : va_P D vwCl (gb_wl b [.inr (10, [.ref (b + 1), .ref (b + 2), .int 0, .int 0, .int 0, .int 0, .int 0, .int 0, .int 0, .int 0, .ref (b + 3), .int 0, .int 0, .ref (b + 4), .ref (b + 5), .ref (b + 6), .ref (b + 7), .ref (b + 8), .ref (b + 9), .ref (b + 10), .ref (b + 11), .ref (b + 12), .int 0, .int 0, .int 0, .int 0, .ref (b + 13), .ref (b + 14), .int 0, .int 0, .ref (b + 15), .ref (b + 16), .ref (b + 17), .long 0, .int 0, .int 0, .int 0, .ref (b + 18), .int 0, .ref (b + 19), .ref (b + 20), .int 0, .int 0, .ref (b + 21)]), .inl (cT 0, 3968, .inl (upd F ((nI (970 + i))).toNatClampNeg x_4)), .inl (cT 2, 3, .inl (fun _ => 0)), .inl (cT 0, 97, .inl R), .inl (cT 0, 8, .inl (fun _ => 0)), .inl (cT 0, 8, .inl (fun _ => 0)), .inl (cT 0, 8, .inl (fun _ => 0)), .inl (cT 0, 8, .inl (fun _ => 0)), .inl (cT 2, 8, .inl (fun _ => 0)), .inl (cT 0, 40, .inl (fun _ => 0)), .inl (cT 0, 5, .inl (fun _ => 0)), .inl (cT 0, 5, .inl (fun _ => 0)), .inl (cT 0, 5, .inl (fun _ => 0)), .inl (cT 0, 40, .inl (fun _ => 0)), .inl (cT 0, 5, .inl (fun _ => 0)), .inl (cT 0, 5, .inl (fun _ => 0)), .inl (cT 0, 8, .inl (fun _ => 0)), .inl (cT 2, 8, .inl (fun _ => 0)), .inl (cT 0, 8, .inl (fun _ => 0)), .inl (cT 0, 5, .inl (fun _ => 0)), .inl (cT 0, 8, .inl (fun _ => 0)), .inl (cT 2, 256, .inl (fun _ => 0))]) H := hP
          refine lv_iinc (v := (nI (i + 1))) (lv' := [(4, .int (nI (i + 1))), (3, .int 0), (0, .ref (b + 0)), (1, .int 3), (2, .int p2)]) hx hb dX12_text_277 hl (k := 0) rfl (nI_succ i).symm (by decide) rfl (fun ls hl => ?_)
          refine lv_goto (tgt := 248) hx hb dX12_text_280 (by decide) ?_
          exact ih _ _ _ ⟨_, hP, hS, lv_sub hl [0, 1, 2, 3, 4] rfl⟩
        · intro H locs ls hI
          obtain ⟨F, hP, hS, hl⟩ := hI
          refine lv_iload hx hb dX12_text_248 (lv_at hl 0 rfl) ?_
          refine lv_iload_n hx hb dX12_text_250 rfl (lv_at hl 3 rfl) ?_
          refine gb_calli (va_runS (As := [.int 3]) (rest := [.int (nI 11)]) ⟨hx, hb, hml, hown, hq⟩ (p_X12_sizeOf_32 l D cT tt b1 b hb1 [.inr (10, [.ref (b + 1), .ref (b + 2), .int 0, .int 0, .int 0, .int 0, .int 0, .int 0, .int 0, .int 0, .ref (b + 3), .int 0, .int 0, .ref (b + 4), .ref (b + 5), .ref (b + 6), .ref (b + 7), .ref (b + 8), .ref (b + 9), .ref (b + 10), .ref (b + 11), .ref (b + 12), .int 0, .int 0, .int 0, .int 0, .ref (b + 13), .ref (b + 14), .int 0, .int 0, .ref (b + 15), .ref (b + 16), .ref (b + 17), .long 0, .int 0, .int 0, .int 0, .ref (b + 18), .int 0, .ref (b + 19), .ref (b + 20), .int 0, .int 0, .ref (b + 21)]), .inl (cT 0, 3968, .inl F), .inl (cT 2, 3, .inl (fun _ => 0)), .inl (cT 0, 97, .inl R), .inl (cT 0, 8, .inl (fun _ => 0)), .inl (cT 0, 8, .inl (fun _ => 0)), .inl (cT 0, 8, .inl (fun _ => 0)), .inl (cT 0, 8, .inl (fun _ => 0)), .inl (cT 2, 8, .inl (fun _ => 0)), .inl (cT 0, 40, .inl (fun _ => 0)), .inl (cT 0, 5, .inl (fun _ => 0)), .inl (cT 0, 5, .inl (fun _ => 0)), .inl (cT 0, 5, .inl (fun _ => 0)), .inl (cT 0, 40, .inl (fun _ => 0)), .inl (cT 0, 5, .inl (fun _ => 0)), .inl (cT 0, 5, .inl (fun _ => 0)), .inl (cT 0, 8, .inl (fun _ => 0)), .inl (cT 2, 8, .inl (fun _ => 0)), .inl (cT 0, 8, .inl (fun _ => 0)), .inl (cT 0, 5, .inl (fun _ => 0)), .inl (cT 0, 8, .inl (fun _ => 0)), .inl (cT 2, 256, .inl (fun _ => 0))]) (va_cwS 1 hq (gb_gS w_1358 w_1359 w_14 w_1360) rfl rfl rfl (by decide +kernel) ⟨Nat.le_of_ble_eq_true rfl, Nat.le_of_ble_eq_true rfl⟩) (gb_preS hSt hS (fun q h => Nat.le_trans hb1 h.1) hP) rfl rfl hl.1 rfl (lv_room (Nat.le_of_ble_eq_true rfl)) dX12_text_251 ⟨Nat.le_of_ble_eq_true rfl, Nat.le_of_ble_eq_true rfl⟩) hS (fun _ h => h) (fun _ h => h) (fun r H locs hY hk hS => ?_)
          obtain ⟨hr9, hP⟩ := hY
          subst hr9
          refine lv_icmp_ge (tgt := 283) hx hb dX12_text_254 (by decide) (fun _ => ?_) (fun hc => absurd (by decide) hc)
          refine lv_iload_n hx hb dX12_text_283 rfl (lv_at hl 1 rfl) ?_
          exact W.iret (v := 0) hx hb hr (fun t ht hW => gb_ri ht (by rw [if_neg h_35_a, if_pos (gb_34p h_35_b), if_pos c_43]) hS) hS.2.2 dX12_text_284
