theorem dX12_isIn_0 : decode cX12_isIn 0 = .ok (.iload_n 0, 1) := by decide +kernel
theorem dX12_isIn_1 : decode cX12_isIn 1 = .ok (.iload_n 1, 1) := by decide +kernel
theorem dX12_isIn_2 : decode cX12_isIn 2 = .ok (.if_icmp .lt 12, 3) := by decide +kernel
theorem dX12_isIn_14 : decode cX12_isIn 14 = .ok (.iconst 0, 1) := by decide +kernel
theorem dX12_isIn_15 : decode cX12_isIn 15 = .ok (.ireturn, 1) := by decide +kernel
theorem dX12_isIn_5 : decode cX12_isIn 5 = .ok (.iload_n 0, 1) := by decide +kernel
theorem dX12_isIn_6 : decode cX12_isIn 6 = .ok (.iload_n 2, 1) := by decide +kernel
theorem dX12_isIn_7 : decode cX12_isIn 7 = .ok (.if_icmp .gt 7, 3) := by decide +kernel
theorem dX12_isIn_10 : decode cX12_isIn 10 = .ok (.iconst 1, 1) := by decide +kernel
theorem dX12_isIn_11 : decode cX12_isIn 11 = .ok (.goto 4, 3) := by decide +kernel
def ms_isIn (n : Nat) (f : gb_F) (w : Int64) (p1 : Int32) (p2 : Int32) (p3 : Int32) : gb_MR Int32 := (if p1 < p2 then some (f, w, 0) else (if p3 < p1 then some (f, w, 0) else some (f, w, 1)))
set_option maxHeartbeats 8000000 in
set_option maxRecDepth 100000 in
theorem mc_isIn (l : Launch) (D : va_G) (cT : Nat → ClassId) (tt : Nat → Nat) (b1 b : Nat) (hb1 : b1 ≤ b) (n : Nat) (f : gb_F) (w : Int64) (p1 : Int32) (p2 : Int32) (p3 : Int32) (fE : gb_F) (wE : Int64) (rE : Int32) (h : ms_isIn n f w p1 p2 p3 = some (fE, wE, rE)) : Met l yX12_isIn (.code yX12_isIn cX12_isIn 3 (some FieldType.boolean) :: gb_wA) ({ frames := 0, cells := 0, slots := 0, locals := 0 }) (gb_Pc D cT tt b1 [.int p1, .int p2, .int p3] (fun h => va_P D vwCl (gb_wl b (gb_MW cT b f w)) h)) (gb_Qi (fun r h => r = rE ∧ va_P D vwCl (gb_wl b (gb_MW cT b fE wE)) h) (gb_fr b 22)) 0 0 (gb_fr b 22) := by
  refine Met.ofW (cc := cX12_isIn) (maxL := 3) (ret := (some FieldType.boolean)) (by decide) rfl ?_
  intro p e s m args below meth c s₁ B hml hv
  obtain ⟨rfl, hSt, hP⟩ := hv
  have hx := B.exec
  have hb := B.bytes
  have hr := B.returns
  have hts := atoms_spec (ws := .code yX12_isIn cX12_isIn 3 (some FieldType.boolean) :: gb_wA) B.pre
  have hq : ∀ w ∈ gb_wA, w.before _ s = true := fun w h => hts w (List.mem_cons_of_mem _ h)
  have hown : s.vm.findClass RX12 = some m.cls := findClass_of_methodNamed B.named
  have hlocks := B.notSynchronized
  clear B hts
  have hK := hSt.1
  have hS : va_S (gb_fr b 22) s.heap s.heap [] := va_S.rf
  have hl := lv_entry ([.int p1, .int p2, .int p3]) (n := 3) (Nat.le_of_ble_eq_true rfl)
  rw [lg_entry_eq]
  generalize (lg_sl ([.int p1, .int p2, .int p3]) ++ List.replicate (3 - (lg_sl ([.int p1, .int p2, .int p3])).length) Slot.unset).toArray = ls at hl ⊢
  replace hl : lv_has ls 3 [(0, .int p1), (1, .int p2), (2, .int p3)] := hl
  unfold ms_isIn at h
  refine lv_iload_n hx hb dX12_isIn_0 rfl (lv_at hl 0 rfl) ?_
  refine lv_iload_n hx hb dX12_isIn_1 rfl (lv_at hl 1 rfl) ?_
  refine lv_icmp_lt (tgt := 14) hx hb dX12_isIn_2 (by decide) (fun c_1 => ?_) (fun c_1 => ?_)
  · rw [if_pos c_1] at h
    refine lv_iconst (v := 0) hx hb dX12_isIn_14 (by decide) ?_
    obtain ⟨e1, e2, e3⟩ := gb_eq3 h
    exact W.zret (v := 0) hx hb hr (by decide) (fun t ht hW => gb_ri ht ⟨e3, by rw [← e1, ← e2]; exact hP⟩ hS) hS.2.2 dX12_isIn_15
  · rw [if_neg c_1] at h
    refine lv_iload_n hx hb dX12_isIn_5 rfl (lv_at hl 0 rfl) ?_
    refine lv_iload_n hx hb dX12_isIn_6 rfl (lv_at hl 2 rfl) ?_
    refine lv_icmp_gt (tgt := 14) hx hb dX12_isIn_7 (by decide) (fun c_2 => ?_) (fun c_2 => ?_)
    · rw [if_pos c_2] at h
      refine lv_iconst (v := 0) hx hb dX12_isIn_14 (by decide) ?_
      obtain ⟨e1, e2, e3⟩ := gb_eq3 h
      exact W.zret (v := 0) hx hb hr (by decide) (fun t ht hW => gb_ri ht ⟨e3, by rw [← e1, ← e2]; exact hP⟩ hS) hS.2.2 dX12_isIn_15
    · rw [if_neg c_2] at h
      refine lv_iconst (v := 1) hx hb dX12_isIn_10 (by decide) ?_
      refine lv_goto (tgt := 15) hx hb dX12_isIn_11 (by decide) ?_
      obtain ⟨e1, e2, e3⟩ := gb_eq3 h
      exact W.zret (v := 1) hx hb hr (by decide) (fun t ht hW => gb_ri ht ⟨e3, by rw [← e1, ← e2]; exact hP⟩ hS) hS.2.2 dX12_isIn_15
theorem dX12_end_0 : decode cX12_end 0 = .ok (.iload_n 1, 1) := by decide +kernel
theorem dX12_end_1 : decode cX12_end 1 = .ok (.ifCond .lt 13, 3) := by decide +kernel
theorem dX12_end_14 : decode cX12_end 14 = .ok (.iconst (-1), 1) := by decide +kernel
theorem dX12_end_15 : decode cX12_end 15 = .ok (.ireturn, 1) := by decide +kernel
theorem dX12_end_4 : decode cX12_end 4 = .ok (.iload_n 1, 1) := by decide +kernel
theorem dX12_end_5 : decode cX12_end 5 = .ok (.aload_n 0, 1) := by decide +kernel
theorem dX12_end_6 : decode cX12_end 6 = .ok (.getfield 7, 3) := by decide +kernel
theorem dX12_end_9 : decode cX12_end 9 = .ok (.iconst 4, 1) := by decide +kernel
theorem dX12_end_10 : decode cX12_end 10 = .ok (.iaload, 1) := by decide +kernel
theorem dX12_end_11 : decode cX12_end 11 = .ok (.if_icmp .le 5, 3) := by decide +kernel
theorem dX12_end_16 : decode cX12_end 16 = .ok (.aload_n 0, 1) := by decide +kernel
theorem dX12_end_17 : decode cX12_end 17 = .ok (.getfield 7, 3) := by decide +kernel
theorem dX12_end_20 : decode cX12_end 20 = .ok (.iconst 4, 1) := by decide +kernel
theorem dX12_end_21 : decode cX12_end 21 = .ok (.iload_n 1, 1) := by decide +kernel
theorem dX12_end_22 : decode cX12_end 22 = .ok (.iastore, 1) := by decide +kernel
theorem dX12_end_23 : decode cX12_end 23 = .ok (.iload_n 1, 1) := by decide +kernel
theorem dX12_end_24 : decode cX12_end 24 = .ok (.ireturn, 1) := by decide +kernel
def ms_end (n : Nat) (f : gb_F) (w : Int64) (p1 : Int32) : gb_MR Int32 := (if p1 < 0 then some (f, w, (-1)) else gb_lt (f 1 (Int32.toNatClampNeg 4)) (fun x_2 => (if p1 ≤ x_2 then gb_lt (gb_u f 1 (upd (f 1) (Int32.toNatClampNeg 4) p1)) (fun f_4 => some (f_4, w, p1)) else some (f, w, (-1)))))
set_option maxHeartbeats 8000000 in
set_option maxRecDepth 100000 in
theorem mc_end (l : Launch) (D : va_G) (cT : Nat → ClassId) (tt : Nat → Nat) (b1 b : Nat) (hb1 : b1 ≤ b) (n : Nat) (f : gb_F) (w : Int64) (p1 : Int32) (fE : gb_F) (wE : Int64) (rE : Int32) (h : ms_end n f w p1 = some (fE, wE, rE)) : Met l yX12_end (.code yX12_end cX12_end 2 (some FieldType.int) :: gb_wA) ({ frames := 0, cells := 0, slots := 0, locals := 0 }) (gb_Pc D cT tt b1 [.ref (b + 0), .int p1] (fun h => va_P D vwCl (gb_wl b (gb_MW cT b f w)) h)) (gb_Qi (fun r h => r = rE ∧ va_P D vwCl (gb_wl b (gb_MW cT b fE wE)) h) (gb_fr b 22)) 0 0 (gb_fr b 22) := by
  refine Met.ofW (cc := cX12_end) (maxL := 2) (ret := (some FieldType.int)) (by decide) rfl ?_
  intro p e s m args below meth c s₁ B hml hv
  obtain ⟨rfl, hSt, hP⟩ := hv
  have hx := B.exec
  have hb := B.bytes
  have hr := B.returns
  have hts := atoms_spec (ws := .code yX12_end cX12_end 2 (some FieldType.int) :: gb_wA) B.pre
  have hq : ∀ w ∈ gb_wA, w.before _ s = true := fun w h => hts w (List.mem_cons_of_mem _ h)
  have hown : s.vm.findClass RX12 = some m.cls := findClass_of_methodNamed B.named
  have hlocks := B.notSynchronized
  clear B hts
  have hK := hSt.1
  have hS : va_S (gb_fr b 22) s.heap s.heap [] := va_S.rf
  have hl := lv_entry ([.ref (b + 0), .int p1]) (n := 2) (Nat.le_of_ble_eq_true rfl)
  rw [lg_entry_eq]
  generalize (lg_sl ([.ref (b + 0), .int p1]) ++ List.replicate (2 - (lg_sl ([.ref (b + 0), .int p1])).length) Slot.unset).toArray = ls at hl ⊢
  replace hl : lv_has ls 2 [(0, .ref (b + 0)), (1, .int p1)] := hl
  unfold ms_end at h
  refine lv_iload_n hx hb dX12_end_0 rfl (lv_at hl 1 rfl) ?_
  refine lv_if_lt (tgt := 14) hx hb dX12_end_1 (by decide) (fun c_1 => ?_) (fun c_1 => ?_)
  · rw [if_pos c_1] at h
    refine lv_iconst (v := (-1)) hx hb dX12_end_14 (by decide) ?_
    obtain ⟨e1, e2, e3⟩ := gb_eq3 h
    exact W.iret (v := (-1)) hx hb hr (fun t ht hW => gb_ri ht ⟨e3, by rw [← e1, ← e2]; exact hP⟩ hS) hS.2.2 dX12_end_15
  · rw [if_neg c_1] at h
    refine lv_iload_n hx hb dX12_end_4 rfl (lv_at hl 1 rfl) ?_
    refine lv_aload_n hx hb dX12_end_5 rfl (lv_at hl 0 rfl) ?_
    refine va_get (ci := 10) (v := (.ref (b + 1))) (C := RX12) (T := TX12) (N := 44) hx hb hq i_X12 hown hK hP 0 (gb_at b rfl) rfl 0 (by decide) (hq _ w_1124) (fun _ h9 => h9) rfl dX12_end_6 ?_
    refine lv_iconst (v := 4) hx hb dX12_end_9 (by decide) ?_
    refine va_iald hx hb hK hP 1 0 (gb_at b rfl) rfl (gb_in rfl) dX12_end_10 ?_
    refine lv_topi (fun x_2 ex_2 => ?_)
    replace h := gb_lt_s ex_2 h
    refine lv_icmp_le (tgt := 16) hx hb dX12_end_11 (by decide) (fun c_3 => ?_) (fun c_3 => ?_)
    · rw [if_pos c_3] at h
      refine lv_aload_n hx hb dX12_end_16 rfl (lv_at hl 0 rfl) ?_
      refine va_get (ci := 10) (v := (.ref (b + 1))) (C := RX12) (T := TX12) (N := 44) hx hb hq i_X12 hown hK hP 0 (gb_at b rfl) rfl 0 (by decide) (hq _ w_1124) (fun _ h9 => h9) rfl dX12_end_17 ?_
      refine lv_iconst (v := 4) hx hb dX12_end_20 (by decide) ?_
      refine lv_iload_n hx hb dX12_end_21 rfl (lv_at hl 1 rfl) ?_
      refine gb_iast (x := p1) hx hb hK hP (fun k h => ⟨Nat.le_add_right b k, Nat.add_lt_add_left h b⟩) hS rfl 1 0 rfl rfl (gb_in rfl) dX12_end_22 (fun H locs hP hz_ hS => ?_)
      obtain ⟨f_4, ef_4⟩ : ∃ q, q = (gb_u f 1 (upd (f 1) (Int32.toNatClampNeg 4) p1)) := ⟨_, rfl⟩
      replace hP : va_P D vwCl (gb_wl b (gb_MW cT b f_4 w)) H := by rw [ef_4]; exact hP
      replace h := gb_lt_s ef_4 h
      refine lv_iload_n hx hb dX12_end_23 rfl (lv_at hl 1 rfl) ?_
      obtain ⟨e1, e2, e3⟩ := gb_eq3 h
      exact W.iret (v := p1) hx hb hr (fun t ht hW => gb_ri ht ⟨e3, by rw [← e1, ← e2]; exact hP⟩ hS) hS.2.2 dX12_end_24
    · rw [if_neg c_3] at h
      refine lv_iconst (v := (-1)) hx hb dX12_end_14 (by decide) ?_
      obtain ⟨e1, e2, e3⟩ := gb_eq3 h
      exact W.iret (v := (-1)) hx hb hr (fun t ht hW => gb_ri ht ⟨e3, by rw [← e1, ← e2]; exact hP⟩ hS) hS.2.2 dX12_end_15
theorem dX12_isOf_0 : decode cX12_isOf 0 = .ok (.iload_n 2, 1) := by decide +kernel
theorem dX12_isOf_1 : decode cX12_isOf 1 = .ok (.iconst 0, 1) := by decide +kernel
theorem dX12_isOf_2 : decode cX12_isOf 2 = .ok (.aload_n 0, 1) := by decide +kernel
theorem dX12_isOf_3 : decode cX12_isOf 3 = .ok (.getfield 7, 3) := by decide +kernel
theorem dX12_isOf_6 : decode cX12_isOf 6 = .ok (.iload_n 1, 1) := by decide +kernel
theorem dX12_isOf_7 : decode cX12_isOf 7 = .ok (.iaload, 1) := by decide +kernel
theorem dX12_isOf_8 : decode cX12_isOf 8 = .ok (.iconst 1, 1) := by decide +kernel
theorem dX12_isOf_9 : decode cX12_isOf 9 = .ok (.isub, 1) := by decide +kernel
theorem dX12_isOf_10 : decode cX12_isOf 10 = .ok (.invokestatic 129, 3) := by decide +kernel
theorem w_1271 : (Cond.code ({ cls := "GooseBorderModel", name := "isIn", desc := "(III)Z" } : MethodName) prog_14_method_2_code (3 : Nat) (Option.some FieldType.boolean)) ∈ gb_wA := gb_t6 71 rfl rfl
theorem w_1269 : (Cond.methodLink "GooseBorderModel" (129 : Nat) ({ cls := "GooseBorderModel", name := "isIn", desc := "(III)Z" } : MethodName)) ∈ gb_wA := gb_t6 69 rfl rfl
theorem w_1270 : (Cond.static ({ cls := "GooseBorderModel", name := "isIn", desc := "(III)Z" } : MethodName)) ∈ gb_wA := gb_t6 70 rfl rfl
theorem w_14 : (Cond.initialized "GooseBorderModel") ∈ gb_wA := gb_t1 14 rfl rfl
theorem dX12_isOf_13 : decode cX12_isOf 13 = .ok (.ireturn, 1) := by decide +kernel
def ms_isOf (n : Nat) (f : gb_F) (w : Int64) (p1 : Int32) (p2 : Int32) : gb_MR Int32 := gb_ck p1 3968 (gb_lt (f 1 (Int32.toNatClampNeg p1)) (fun x_2 => gb_bd (ms_isIn n f w p2 0 (x_2 - 1)) (fun f_3 w_4 r_5 => gb_cb r_5 (some (f_3, w_4, r_5)))))
set_option maxHeartbeats 8000000 in
set_option maxRecDepth 100000 in
theorem mc_isOf (l : Launch) (D : va_G) (cT : Nat → ClassId) (tt : Nat → Nat) (b1 b : Nat) (hb1 : b1 ≤ b) (n : Nat) (f : gb_F) (w : Int64) (p1 : Int32) (p2 : Int32) (fE : gb_F) (wE : Int64) (rE : Int32) (h : ms_isOf n f w p1 p2 = some (fE, wE, rE)) : Met l yX12_isOf (.code yX12_isOf cX12_isOf 3 (some FieldType.boolean) :: gb_wA) ({ frames := 1, cells := 0, slots := 0, locals := 22 }) (gb_Pc D cT tt b1 [.ref (b + 0), .int p1, .int p2] (fun h => va_P D vwCl (gb_wl b (gb_MW cT b f w)) h)) (gb_Qi (fun r h => r = rE ∧ va_P D vwCl (gb_wl b (gb_MW cT b fE wE)) h) (gb_fr b 22)) 0 0 (gb_fr b 22) := by
  refine Met.ofW (cc := cX12_isOf) (maxL := 3) (ret := (some FieldType.boolean)) (by decide) rfl ?_
  intro p e s m args below meth c s₁ B hml hv
  obtain ⟨rfl, hSt, hP⟩ := hv
  have hx := B.exec
  have hb := B.bytes
  have hr := B.returns
  have hts := atoms_spec (ws := .code yX12_isOf cX12_isOf 3 (some FieldType.boolean) :: gb_wA) B.pre
  have hq : ∀ w ∈ gb_wA, w.before _ s = true := fun w h => hts w (List.mem_cons_of_mem _ h)
  have hown : s.vm.findClass RX12 = some m.cls := findClass_of_methodNamed B.named
  have hlocks := B.notSynchronized
  clear B hts
  have hK := hSt.1
  have hS : va_S (gb_fr b 22) s.heap s.heap [] := va_S.rf
  have hl := lv_entry ([.ref (b + 0), .int p1, .int p2]) (n := 3) (Nat.le_of_ble_eq_true rfl)
  rw [lg_entry_eq]
  generalize (lg_sl ([.ref (b + 0), .int p1, .int p2]) ++ List.replicate (3 - (lg_sl ([.ref (b + 0), .int p1, .int p2])).length) Slot.unset).toArray = ls at hl ⊢
  replace hl : lv_has ls 3 [(0, .ref (b + 0)), (1, .int p1), (2, .int p2)] := hl
  unfold ms_isOf at h
  refine lv_iload_n hx hb dX12_isOf_0 rfl (lv_at hl 2 rfl) ?_
  refine lv_iconst (v := 0) hx hb dX12_isOf_1 (by decide) ?_
  refine lv_aload_n hx hb dX12_isOf_2 rfl (lv_at hl 0 rfl) ?_
  refine va_get (ci := 10) (v := (.ref (b + 1))) (C := RX12) (T := TX12) (N := 44) hx hb hq i_X12 hown hK hP 0 (gb_at b rfl) rfl 0 (by decide) (hq _ w_1124) (fun _ h9 => h9) rfl dX12_isOf_3 ?_
  refine lv_iload_n hx hb dX12_isOf_6 rfl (lv_at hl 1 rfl) ?_
  obtain ⟨z_1, h⟩ := gb_ck_s h
  refine va_iald hx hb hK hP 1 0 (gb_at b rfl) rfl z_1 dX12_isOf_7 ?_
  refine lv_topi (fun x_2 ex_2 => ?_)
  replace h := gb_lt_s ex_2 h
  refine lv_iconst (v := 1) hx hb dX12_isOf_8 (by decide) ?_
  refine lv_isub hx hb dX12_isOf_9 ?_
  obtain ⟨f_3, w_4, r_5, z_6, h⟩ := gb_bd_s h
  refine gb_calli (va_runS (As := [.int p2, .int 0, .int (x_2 - 1)]) (rest := []) ⟨hx, hb, hml, hown, hq⟩ (mc_isIn l D cT tt b1 b hb1 n f w p2 0 (x_2 - 1) f_3 w_4 r_5 z_6) (va_cwS 3 hq (gb_gS w_1269 w_1270 w_14 w_1271) rfl rfl rfl (by decide +kernel) ⟨Nat.le_of_ble_eq_true rfl, Nat.le_of_ble_eq_true rfl⟩) (gb_preS hSt hS (fun q h => Nat.le_trans hb1 h.1) hP) rfl rfl hl.1 rfl (lv_room (Nat.le_of_ble_eq_true rfl)) dX12_isOf_10 ⟨Nat.le_of_ble_eq_true rfl, Nat.le_of_ble_eq_true rfl⟩) hS (fun _ h => h) (fun _ h => h) (fun q_7 H locs hY hk hS => ?_)
  obtain ⟨hq_7, hP⟩ := hY
  replace hq_7 := hq_7.symm
  subst hq_7
  obtain ⟨z_8, h⟩ := gb_cb_s h
  obtain ⟨e1, e2, e3⟩ := gb_eq3 h
  exact W.zret (v := r_5) hx hb hr z_8.1 (fun t ht hW => gb_ri ht ⟨e3, by rw [← e1, ← e2]; exact hP⟩ hS) hS.2.2 dX12_isOf_13
theorem dX12_of_0 : decode cX12_of 0 = .ok (.aload_n 0, 1) := by decide +kernel
theorem dX12_of_1 : decode cX12_of 1 = .ok (.getfield 7, 3) := by decide +kernel
theorem dX12_of_4 : decode cX12_of 4 = .ok (.aload_n 0, 1) := by decide +kernel
theorem dX12_of_5 : decode cX12_of 5 = .ok (.getfield 193, 3) := by decide +kernel
theorem w_1135 : (Cond.fieldLink "GooseBorderModel" (193 : Nat) "GooseBorderModel" "b0" "I") ∈ gb_wA := gb_t5 175 rfl rfl
theorem dX12_of_8 : decode cX12_of 8 = .ok (.iload_n 1, 1) := by decide +kernel
theorem dX12_of_9 : decode cX12_of 9 = .ok (.iadd, 1) := by decide +kernel
theorem dX12_of_10 : decode cX12_of 10 = .ok (.iaload, 1) := by decide +kernel
theorem dX12_of_11 : decode cX12_of 11 = .ok (.ireturn, 1) := by decide +kernel
def ms_of (n : Nat) (f : gb_F) (w : Int64) (p1 : Int32) : gb_MR Int32 := gb_ck ((f 0 11) + p1) 3968 (gb_lt (f 1 (Int32.toNatClampNeg ((f 0 11) + p1))) (fun x_2 => some (f, w, x_2)))
set_option maxHeartbeats 8000000 in
set_option maxRecDepth 100000 in
theorem mc_of (l : Launch) (D : va_G) (cT : Nat → ClassId) (tt : Nat → Nat) (b1 b : Nat) (hb1 : b1 ≤ b) (n : Nat) (f : gb_F) (w : Int64) (p1 : Int32) (fE : gb_F) (wE : Int64) (rE : Int32) (h : ms_of n f w p1 = some (fE, wE, rE)) : Met l yX12_of (.code yX12_of cX12_of 2 (some FieldType.int) :: gb_wA) ({ frames := 0, cells := 0, slots := 0, locals := 0 }) (gb_Pc D cT tt b1 [.ref (b + 0), .int p1] (fun h => va_P D vwCl (gb_wl b (gb_MW cT b f w)) h)) (gb_Qi (fun r h => r = rE ∧ va_P D vwCl (gb_wl b (gb_MW cT b fE wE)) h) (gb_fr b 22)) 0 0 (gb_fr b 22) := by
  refine Met.ofW (cc := cX12_of) (maxL := 2) (ret := (some FieldType.int)) (by decide) rfl ?_
  intro p e s m args below meth c s₁ B hml hv
  obtain ⟨rfl, hSt, hP⟩ := hv
  have hx := B.exec
  have hb := B.bytes
  have hr := B.returns
  have hts := atoms_spec (ws := .code yX12_of cX12_of 2 (some FieldType.int) :: gb_wA) B.pre
  have hq : ∀ w ∈ gb_wA, w.before _ s = true := fun w h => hts w (List.mem_cons_of_mem _ h)
  have hown : s.vm.findClass RX12 = some m.cls := findClass_of_methodNamed B.named
  have hlocks := B.notSynchronized
  clear B hts
  have hK := hSt.1
  have hS : va_S (gb_fr b 22) s.heap s.heap [] := va_S.rf
  have hl := lv_entry ([.ref (b + 0), .int p1]) (n := 2) (Nat.le_of_ble_eq_true rfl)
  rw [lg_entry_eq]
  generalize (lg_sl ([.ref (b + 0), .int p1]) ++ List.replicate (2 - (lg_sl ([.ref (b + 0), .int p1])).length) Slot.unset).toArray = ls at hl ⊢
  replace hl : lv_has ls 2 [(0, .ref (b + 0)), (1, .int p1)] := hl
  unfold ms_of at h
  refine lv_aload_n hx hb dX12_of_0 rfl (lv_at hl 0 rfl) ?_
  refine va_get (ci := 10) (v := (.ref (b + 1))) (C := RX12) (T := TX12) (N := 44) hx hb hq i_X12 hown hK hP 0 (gb_at b rfl) rfl 0 (by decide) (hq _ w_1124) (fun _ h9 => h9) rfl dX12_of_1 ?_
  refine lv_aload_n hx hb dX12_of_4 rfl (lv_at hl 0 rfl) ?_
  refine va_get (ci := 10) (v := (.int (f 0 11))) (C := RX12) (T := TX12) (N := 44) hx hb hq i_X12 hown hK hP 0 (gb_at b rfl) rfl 11 (by decide) (hq _ w_1135) (fun _ h9 => h9) rfl dX12_of_5 ?_
  refine lv_iload_n hx hb dX12_of_8 rfl (lv_at hl 1 rfl) ?_
  refine lv_iadd hx hb dX12_of_9 ?_
  obtain ⟨z_1, h⟩ := gb_ck_s h
  refine va_iald hx hb hK hP 1 0 (gb_at b rfl) rfl z_1 dX12_of_10 ?_
  refine lv_topi (fun x_2 ex_2 => ?_)
  replace h := gb_lt_s ex_2 h
  obtain ⟨e1, e2, e3⟩ := gb_eq3 h
  exact W.iret (v := x_2) hx hb hr (fun t ht hW => gb_ri ht ⟨e3, by rw [← e1, ← e2]; exact hP⟩ hS) hS.2.2 dX12_of_11
theorem dX12_paths_0 : decode cX12_paths 0 = .ok (.aload_n 0, 1) := by decide +kernel
theorem dX12_paths_1 : decode cX12_paths 1 = .ok (.iconst 0, 1) := by decide +kernel
theorem dX12_paths_2 : decode cX12_paths 2 = .ok (.invokevirtual 196, 3) := by decide +kernel
theorem w_1379 : (Cond.code ({ cls := "GooseBorderModel", name := "of", desc := "(I)I" } : MethodName) prog_14_method_32_code (2 : Nat) (Option.some FieldType.int)) ∈ gb_wA := gb_t6 179 rfl rfl
theorem w_1376 : (Cond.methodLink "GooseBorderModel" (196 : Nat) ({ cls := "GooseBorderModel", name := "of", desc := "(I)I" } : MethodName)) ∈ gb_wA := gb_t6 176 rfl rfl
theorem w_1378 : (Cond.instanceMethod ({ cls := "GooseBorderModel", name := "of", desc := "(I)I" } : MethodName)) ∈ gb_wA := gb_t6 178 rfl rfl
theorem s_4_2 : Cond.selects "GooseBorderModel" (⟨"GooseBorderModel", "of", "(I)I"⟩ : MethodName) (⟨"GooseBorderModel", "of", "(I)I"⟩ : MethodName) ∈ gb_wA := gb_s4 2 rfl rfl
theorem dX12_paths_5 : decode cX12_paths 5 = .ok (.ireturn, 1) := by decide +kernel
def ms_paths (n : Nat) (f : gb_F) (w : Int64) : gb_MR Int32 := gb_bd (ms_of n f w 0) (fun f_1 w_2 r_3 => some (f_1, w_2, r_3))
set_option maxHeartbeats 8000000 in
set_option maxRecDepth 100000 in
theorem mc_paths (l : Launch) (D : va_G) (cT : Nat → ClassId) (tt : Nat → Nat) (b1 b : Nat) (hb1 : b1 ≤ b) (n : Nat) (f : gb_F) (w : Int64) (fE : gb_F) (wE : Int64) (rE : Int32) (h : ms_paths n f w = some (fE, wE, rE)) : Met l yX12_paths (.code yX12_paths cX12_paths 1 (some FieldType.int) :: gb_wA) ({ frames := 1, cells := 0, slots := 0, locals := 21 }) (gb_Pc D cT tt b1 [.ref (b + 0)] (fun h => va_P D vwCl (gb_wl b (gb_MW cT b f w)) h)) (gb_Qi (fun r h => r = rE ∧ va_P D vwCl (gb_wl b (gb_MW cT b fE wE)) h) (gb_fr b 22)) 0 0 (gb_fr b 22) := by
  refine Met.ofW (cc := cX12_paths) (maxL := 1) (ret := (some FieldType.int)) (by decide) rfl ?_
  intro p e s m args below meth c s₁ B hml hv
  obtain ⟨rfl, hSt, hP⟩ := hv
  have hx := B.exec
  have hb := B.bytes
  have hr := B.returns
  have hts := atoms_spec (ws := .code yX12_paths cX12_paths 1 (some FieldType.int) :: gb_wA) B.pre
  have hq : ∀ w ∈ gb_wA, w.before _ s = true := fun w h => hts w (List.mem_cons_of_mem _ h)
  have hown : s.vm.findClass RX12 = some m.cls := findClass_of_methodNamed B.named
  have hlocks := B.notSynchronized
  clear B hts
  have hK := hSt.1
  have hS : va_S (gb_fr b 22) s.heap s.heap [] := va_S.rf
  have hl := lv_entry ([.ref (b + 0)]) (n := 1) (Nat.le_of_ble_eq_true rfl)
  rw [lg_entry_eq]
  generalize (lg_sl ([.ref (b + 0)]) ++ List.replicate (1 - (lg_sl ([.ref (b + 0)])).length) Slot.unset).toArray = ls at hl ⊢
  replace hl : lv_has ls 1 [(0, .ref (b + 0))] := hl
  unfold ms_paths at h
  refine lv_aload_n hx hb dX12_paths_0 rfl (lv_at hl 0 rfl) ?_
  refine lv_iconst (v := 0) hx hb dX12_paths_1 (by decide) ?_
  obtain ⟨f_1, w_2, r_3, z_4, h⟩ := gb_bd_s h
  refine gb_calli (va_runV (C := RX12) (As := [.int 0]) (rest := []) ⟨hx, hb, hml, hown, hq⟩ (mc_of l D cT tt b1 b hb1 n f w 0 f_1 w_2 r_3 z_4) (cwV 1 hq (gb_gV w_1376 w_1378 s_4_2 w_14 w_1379) rfl rfl rfl (by decide +kernel) ⟨Nat.le_of_ble_eq_true rfl, Nat.le_of_ble_eq_true rfl⟩) (gb_preV (r := (RX12, TX12, 44)) (ci := 10) (q0 := 0) hSt hP rfl (gb_at b rfl) hS (fun q h => Nat.le_trans hb1 h.1) hP) rfl rfl hl.1 rfl (lv_room (Nat.le_of_ble_eq_true rfl)) dX12_paths_2 ⟨Nat.le_of_ble_eq_true rfl, Nat.le_of_ble_eq_true rfl⟩) hS (fun _ h => h) (fun _ h => h) (fun q_5 H locs hY hk hS => ?_)
  obtain ⟨hq_5, hP⟩ := hY
  replace hq_5 := hq_5.symm
  subst hq_5
  obtain ⟨e1, e2, e3⟩ := gb_eq3 h
  exact W.iret (v := r_3) hx hb hr (fun t ht hW => gb_ri ht ⟨e3, by rw [← e1, ← e2]; exact hP⟩ hS) hS.2.2 dX12_paths_5
theorem dX12_isPath_0 : decode cX12_isPath 0 = .ok (.iload_n 1, 1) := by decide +kernel
theorem dX12_isPath_1 : decode cX12_isPath 1 = .ok (.iconst 0, 1) := by decide +kernel
theorem dX12_isPath_2 : decode cX12_isPath 2 = .ok (.aload_n 0, 1) := by decide +kernel
theorem dX12_isPath_3 : decode cX12_isPath 3 = .ok (.invokevirtual 199, 3) := by decide +kernel
theorem w_1387 : (Cond.code ({ cls := "GooseBorderModel", name := "paths", desc := "()I" } : MethodName) prog_14_method_33_code (1 : Nat) (Option.some FieldType.int)) ∈ gb_wA := gb_t6 187 rfl rfl
theorem w_1384 : (Cond.methodLink "GooseBorderModel" (199 : Nat) ({ cls := "GooseBorderModel", name := "paths", desc := "()I" } : MethodName)) ∈ gb_wA := gb_t6 184 rfl rfl
theorem w_1386 : (Cond.instanceMethod ({ cls := "GooseBorderModel", name := "paths", desc := "()I" } : MethodName)) ∈ gb_wA := gb_t6 186 rfl rfl
theorem s_4_4 : Cond.selects "GooseBorderModel" (⟨"GooseBorderModel", "paths", "()I"⟩ : MethodName) (⟨"GooseBorderModel", "paths", "()I"⟩ : MethodName) ∈ gb_wA := gb_s4 4 rfl rfl
theorem dX12_isPath_6 : decode cX12_isPath 6 = .ok (.iconst 1, 1) := by decide +kernel
theorem dX12_isPath_7 : decode cX12_isPath 7 = .ok (.isub, 1) := by decide +kernel
theorem dX12_isPath_8 : decode cX12_isPath 8 = .ok (.invokestatic 129, 3) := by decide +kernel
theorem dX12_isPath_11 : decode cX12_isPath 11 = .ok (.ireturn, 1) := by decide +kernel
def ms_isPath (n : Nat) (f : gb_F) (w : Int64) (p1 : Int32) : gb_MR Int32 := gb_bd (ms_paths n f w) (fun f_1 w_2 r_3 => gb_bd (ms_isIn n f_1 w_2 p1 0 (r_3 - 1)) (fun f_6 w_7 r_8 => gb_cb r_8 (some (f_6, w_7, r_8))))
set_option maxHeartbeats 8000000 in
set_option maxRecDepth 100000 in
theorem mc_isPath (l : Launch) (D : va_G) (cT : Nat → ClassId) (tt : Nat → Nat) (b1 b : Nat) (hb1 : b1 ≤ b) (n : Nat) (f : gb_F) (w : Int64) (p1 : Int32) (fE : gb_F) (wE : Int64) (rE : Int32) (h : ms_isPath n f w p1 = some (fE, wE, rE)) : Met l yX12_isPath (.code yX12_isPath cX12_isPath 2 (some FieldType.boolean) :: gb_wA) ({ frames := 2, cells := 0, slots := 0, locals := 41 }) (gb_Pc D cT tt b1 [.ref (b + 0), .int p1] (fun h => va_P D vwCl (gb_wl b (gb_MW cT b f w)) h)) (gb_Qi (fun r h => r = rE ∧ va_P D vwCl (gb_wl b (gb_MW cT b fE wE)) h) (gb_fr b 22)) 0 0 (gb_fr b 22) := by
  refine Met.ofW (cc := cX12_isPath) (maxL := 2) (ret := (some FieldType.boolean)) (by decide) rfl ?_
  intro p e s m args below meth c s₁ B hml hv
  obtain ⟨rfl, hSt, hP⟩ := hv
  have hx := B.exec
  have hb := B.bytes
  have hr := B.returns
  have hts := atoms_spec (ws := .code yX12_isPath cX12_isPath 2 (some FieldType.boolean) :: gb_wA) B.pre
  have hq : ∀ w ∈ gb_wA, w.before _ s = true := fun w h => hts w (List.mem_cons_of_mem _ h)
  have hown : s.vm.findClass RX12 = some m.cls := findClass_of_methodNamed B.named
  have hlocks := B.notSynchronized
  clear B hts
  have hK := hSt.1
  have hS : va_S (gb_fr b 22) s.heap s.heap [] := va_S.rf
  have hl := lv_entry ([.ref (b + 0), .int p1]) (n := 2) (Nat.le_of_ble_eq_true rfl)
  rw [lg_entry_eq]
  generalize (lg_sl ([.ref (b + 0), .int p1]) ++ List.replicate (2 - (lg_sl ([.ref (b + 0), .int p1])).length) Slot.unset).toArray = ls at hl ⊢
  replace hl : lv_has ls 2 [(0, .ref (b + 0)), (1, .int p1)] := hl
  unfold ms_isPath at h
  refine lv_iload_n hx hb dX12_isPath_0 rfl (lv_at hl 1 rfl) ?_
  refine lv_iconst (v := 0) hx hb dX12_isPath_1 (by decide) ?_
  refine lv_aload_n hx hb dX12_isPath_2 rfl (lv_at hl 0 rfl) ?_
  obtain ⟨f_1, w_2, r_3, z_4, h⟩ := gb_bd_s h
  refine gb_calli (va_runV (C := RX12) (As := []) (rest := [.int 0, .int p1]) ⟨hx, hb, hml, hown, hq⟩ (mc_paths l D cT tt b1 b hb1 n f w f_1 w_2 r_3 z_4) (cwV 0 hq (gb_gV w_1384 w_1386 s_4_4 w_14 w_1387) rfl rfl rfl (by decide +kernel) ⟨Nat.le_of_ble_eq_true rfl, Nat.le_of_ble_eq_true rfl⟩) (gb_preV (r := (RX12, TX12, 44)) (ci := 10) (q0 := 0) hSt hP rfl (gb_at b rfl) hS (fun q h => Nat.le_trans hb1 h.1) hP) rfl rfl hl.1 rfl (lv_room (Nat.le_of_ble_eq_true rfl)) dX12_isPath_3 ⟨Nat.le_of_ble_eq_true rfl, Nat.le_of_ble_eq_true rfl⟩) hS (fun _ h => h) (fun _ h => h) (fun q_5 H locs hY hk hS => ?_)
  obtain ⟨hq_5, hP⟩ := hY
  replace hq_5 := hq_5.symm
  subst hq_5
  refine lv_iconst (v := 1) hx hb dX12_isPath_6 (by decide) ?_
  refine lv_isub hx hb dX12_isPath_7 ?_
  obtain ⟨f_6, w_7, r_8, z_9, h⟩ := gb_bd_s h
  refine gb_calli (va_runS (As := [.int p1, .int 0, .int (r_3 - 1)]) (rest := []) ⟨hx, hb, hml, hown, hq⟩ (mc_isIn l D cT tt b1 b hb1 n f_1 w_2 p1 0 (r_3 - 1) f_6 w_7 r_8 z_9) (va_cwS 3 hq (gb_gS w_1269 w_1270 w_14 w_1271) rfl rfl rfl (by decide +kernel) ⟨Nat.le_of_ble_eq_true rfl, Nat.le_of_ble_eq_true rfl⟩) (gb_preS hSt hS (fun q h => Nat.le_trans hb1 h.1) hP) rfl rfl hl.1 rfl (lv_room (Nat.le_of_ble_eq_true rfl)) dX12_isPath_8 ⟨Nat.le_of_ble_eq_true rfl, Nat.le_of_ble_eq_true rfl⟩) hS (fun _ h => h) (fun _ h => h) (fun q_10 H locs hY hk hS => ?_)
  obtain ⟨hq_10, hP⟩ := hY
  replace hq_10 := hq_10.symm
  subst hq_10
  obtain ⟨z_11, h⟩ := gb_cb_s h
  obtain ⟨e1, e2, e3⟩ := gb_eq3 h
  exact W.zret (v := r_8) hx hb hr z_11.1 (fun t ht hW => gb_ri ht ⟨e3, by rw [← e1, ← e2]; exact hP⟩ hS) hS.2.2 dX12_isPath_11
theorem dX12_bits_0 : decode cX12_bits 0 = .ok (.iconst 0, 1) := by decide +kernel
theorem dX12_bits_1 : decode cX12_bits 1 = .ok (.istore_n 1, 1) := by decide +kernel
theorem dX12_bits_2 : decode cX12_bits 2 = .ok (.iconst 0, 1) := by decide +kernel
theorem dX12_bits_3 : decode cX12_bits 3 = .ok (.istore_n 2, 1) := by decide +kernel
theorem dX12_bits_4 : decode cX12_bits 4 = .ok (.iload_n 2, 1) := by decide +kernel
theorem dX12_bits_5 : decode cX12_bits 5 = .ok (.bipush 31, 2) := by decide +kernel
theorem dX12_bits_7 : decode cX12_bits 7 = .ok (.if_icmp .ge 17, 3) := by decide +kernel
theorem dX12_bits_24 : decode cX12_bits 24 = .ok (.iload_n 1, 1) := by decide +kernel
theorem dX12_bits_25 : decode cX12_bits 25 = .ok (.ireturn, 1) := by decide +kernel
theorem dX12_bits_10 : decode cX12_bits 10 = .ok (.iload_n 1, 1) := by decide +kernel
theorem dX12_bits_11 : decode cX12_bits 11 = .ok (.iload_n 0, 1) := by decide +kernel
theorem dX12_bits_12 : decode cX12_bits 12 = .ok (.iload_n 2, 1) := by decide +kernel
theorem dX12_bits_13 : decode cX12_bits 13 = .ok (.ishr, 1) := by decide +kernel
theorem dX12_bits_14 : decode cX12_bits 14 = .ok (.iconst 1, 1) := by decide +kernel
theorem dX12_bits_15 : decode cX12_bits 15 = .ok (.iand, 1) := by decide +kernel
theorem dX12_bits_16 : decode cX12_bits 16 = .ok (.iadd, 1) := by decide +kernel
theorem dX12_bits_17 : decode cX12_bits 17 = .ok (.istore_n 1, 1) := by decide +kernel
theorem dX12_bits_18 : decode cX12_bits 18 = .ok (.iinc 2 1, 3) := by decide +kernel
theorem dX12_bits_21 : decode cX12_bits 21 = .ok (.goto (-17), 3) := by decide +kernel
def ms_bits_4 (n : Nat) : Nat → gb_F → Int64 → Int32 → Int32 → Int32 → gb_MR Int32
  | 0, _, _, _, _, _ => none
  | mm + 1, f, w, v0, v1, v2 => (if (31 : Int32) ≤ v2 then some (f, w, v1) else gb_lt (v1 + ((v0 >>> (v2 &&& 31)) &&& 1)) (fun x_2 => gb_lt (v2 + 1) (fun x_3 => ms_bits_4 n mm f w v0 x_2 x_3)))
def ms_bits (n : Nat) (f : gb_F) (w : Int64) (p1 : Int32) : gb_MR Int32 := ms_bits_4 n n f w p1 0 0
set_option maxHeartbeats 8000000 in
set_option maxRecDepth 100000 in
theorem mc_bits (l : Launch) (D : va_G) (cT : Nat → ClassId) (tt : Nat → Nat) (b1 b : Nat) (hb1 : b1 ≤ b) (n : Nat) (f : gb_F) (w : Int64) (p1 : Int32) (fE : gb_F) (wE : Int64) (rE : Int32) (h : ms_bits n f w p1 = some (fE, wE, rE)) : Met l yX12_bits (.code yX12_bits cX12_bits 3 (some FieldType.int) :: gb_wA) ({ frames := 0, cells := 0, slots := 0, locals := 0 }) (gb_Pc D cT tt b1 [.int p1] (fun h => va_P D vwCl (gb_wl b (gb_MW cT b f w)) h)) (gb_Qi (fun r h => r = rE ∧ va_P D vwCl (gb_wl b (gb_MW cT b fE wE)) h) (gb_fr b 22)) 0 0 (gb_fr b 22) := by
  refine Met.ofW (cc := cX12_bits) (maxL := 3) (ret := (some FieldType.int)) (by decide) rfl ?_
  intro p e s m args below meth c s₁ B hml hv
  obtain ⟨rfl, hSt, hP⟩ := hv
  have hx := B.exec
  have hb := B.bytes
  have hr := B.returns
  have hts := atoms_spec (ws := .code yX12_bits cX12_bits 3 (some FieldType.int) :: gb_wA) B.pre
  have hq : ∀ w ∈ gb_wA, w.before _ s = true := fun w h => hts w (List.mem_cons_of_mem _ h)
  have hown : s.vm.findClass RX12 = some m.cls := findClass_of_methodNamed B.named
  have hlocks := B.notSynchronized
  clear B hts
  have hK := hSt.1
  have hS : va_S (gb_fr b 22) s.heap s.heap [] := va_S.rf
  have hl := lv_entry ([.int p1]) (n := 3) (Nat.le_of_ble_eq_true rfl)
  rw [lg_entry_eq]
  generalize (lg_sl ([.int p1]) ++ List.replicate (3 - (lg_sl ([.int p1])).length) Slot.unset).toArray = ls at hl ⊢
  replace hl : lv_has ls 3 [(0, .int p1)] := hl
  have L4 : ∀ (mm : Nat) (f : gb_F) (w : Int64) (v0 : Int32) (v1 : Int32) (v2 : Int32) (H : Heap) (locs : List Loc) (ls : Array Slot), ms_bits_4 n mm f w v0 v1 v2 = some (fE, wE, rE) → va_P D vwCl (gb_wl b (gb_MW cT b f w)) H → va_S (gb_fr b 22) s.heap H locs → lv_has ls 3 [(0, .int v0), (1, .int v1), (2, .int v2)] → W p l e (headSpec (.code yX12_bits cX12_bits 3 (some FieldType.int) :: gb_wA) ({ frames := 0, cells := 0, slots := 0, locals := 0 })).room s m ([.int p1]).toArray below meth c H locs 0 0 (MQ below (gb_Qi (fun r h => r = rE ∧ va_P D vwCl (gb_wl b (gb_MW cT b fE wE)) h) (gb_fr b 22)) ([.int p1]).toArray s 0 0 (gb_fr b 22)) (F0 m 4 ls []) := by
    clear h hP hS hl ls f w
    intro mm
    induction mm with
    | zero =>
      intro f w v0 v1 v2 H locs ls h
      cases h
    | succ mm ih =>
      intro f w v0 v1 v2 H locs ls h hP hS hl
      rw [ms_bits_4] at h
      refine lv_iload_n hx hb dX12_bits_4 rfl (lv_at hl 2 rfl) ?_
      refine lv_bipush (v := 31) hx hb dX12_bits_5 (by decide) ?_
      refine lv_icmp_ge (tgt := 24) hx hb dX12_bits_7 (by decide) (fun c_1 => ?_) (fun c_1 => ?_)
      · rw [if_pos c_1] at h
        refine lv_iload_n hx hb dX12_bits_24 rfl (lv_at hl 1 rfl) ?_
        obtain ⟨e1, e2, e3⟩ := gb_eq3 h
        exact W.iret (v := v1) hx hb hr (fun t ht hW => gb_ri ht ⟨e3, by rw [← e1, ← e2]; exact hP⟩ hS) hS.2.2 dX12_bits_25
      · rw [if_neg c_1] at h
        refine lv_iload_n hx hb dX12_bits_10 rfl (lv_at hl 1 rfl) ?_
        refine lv_iload_n hx hb dX12_bits_11 rfl (lv_at hl 0 rfl) ?_
        refine lv_iload_n hx hb dX12_bits_12 rfl (lv_at hl 2 rfl) ?_
        refine lv_ishr hx hb dX12_bits_13 ?_
        refine lv_iconst (v := 1) hx hb dX12_bits_14 (by decide) ?_
        refine lv_iand hx hb dX12_bits_15 ?_
        refine lv_iadd hx hb dX12_bits_16 ?_
        refine lv_topi (fun x_2 ex_2 => ?_)
        replace h := gb_lt_s ex_2 h
        refine lv_istore_n (lv' := [(1, .int x_2), (0, .int v0), (2, .int v2)]) hx hb dX12_bits_17 rfl hl (by decide) rfl (fun ls hl => ?_)
        obtain ⟨x_3, ex_3⟩ : ∃ q, q = (v2 + 1) := ⟨_, rfl⟩
        replace h := gb_lt_s ex_3 h
        refine lv_iinc (v := x_3) (lv' := [(2, .int x_3), (1, .int x_2), (0, .int v0)]) hx hb dX12_bits_18 hl (k := 2) rfl (by rw [ex_3]; rfl) (by decide) rfl (fun ls hl => ?_)
        refine lv_goto (tgt := 4) hx hb dX12_bits_21 (by decide) ?_
        exact ih _ _ _ _ _ _ _ _ h hP hS (lv_sub hl [2, 1, 0] rfl)
  unfold ms_bits at h
  refine lv_iconst (v := 0) hx hb dX12_bits_0 (by decide) ?_
  refine lv_istore_n (lv' := [(1, .int 0), (0, .int p1)]) hx hb dX12_bits_1 rfl hl (by decide) rfl (fun ls hl => ?_)
  refine lv_iconst (v := 0) hx hb dX12_bits_2 (by decide) ?_
  refine lv_istore_n (lv' := [(2, .int 0), (1, .int 0), (0, .int p1)]) hx hb dX12_bits_3 rfl hl (by decide) rfl (fun ls hl => ?_)
  exact L4 n _ _ _ _ _ _ _ _ h hP hS (lv_sub hl [2, 1, 0] rfl)
